/-! THE CONSTRUCTORS, executed (written by wip/whole/g98.py) -/
def mkS_0 : MkL := [mkN 7 0]
def mkS_1 : MkL := mkN 26 8 :: mkS_0
def mkS_2 : MkL := mkR 448 0 1 :: mkS_1
def mkS_3 : MkL := mkN 24 8 :: mkS_2
def mkS_4 : MkL := mkR 449 0 2 :: mkS_3
def mkS_5 : MkL := mkN 6 0 :: mkS_4
def mkS_6 : MkL := mkN 21 16 :: mkS_5
def mkS_7 : MkL := mkR 384 3 4 :: mkS_6
def mkS_8 : MkL := mkC 1 0 3 :: mkS_7
def mkS_9 : MkL := mkN 0 0 :: mkS_8
def mkS_10 : MkL := mkI 4 5 1 :: mkS_9
def mkS_11 : MkL := mkC 2 0 5 :: mkS_10
def mkS_12 : MkL := mkN 6 0 :: mkS_11
def mkS_13 : MkL := mkN 21 16 :: mkS_12
def mkS_14 : MkL := mkR 384 6 7 :: mkS_13
def mkS_15 : MkL := mkC 1 1 6 :: mkS_14
def mkS_16 : MkL := mkN 0 0 :: mkS_15
def mkS_17 : MkL := mkI 4 8 1 :: mkS_16
def mkS_18 : MkL := mkC 2 1 8 :: mkS_17
def mkS_19 : MkL := mkN 6 0 :: mkS_18
def mkS_20 : MkL := mkN 21 16 :: mkS_19
def mkS_21 : MkL := mkR 384 9 10 :: mkS_20
def mkS_22 : MkL := mkC 1 2 9 :: mkS_21
def mkS_23 : MkL := mkN 0 0 :: mkS_22
def mkS_24 : MkL := mkI 4 11 1 :: mkS_23
def mkS_25 : MkL := mkC 2 2 11 :: mkS_24
def mkS_26 : MkL := mkN 6 0 :: mkS_25
def mkS_27 : MkL := mkN 21 16 :: mkS_26
def mkS_28 : MkL := mkR 384 12 13 :: mkS_27
def mkS_29 : MkL := mkC 1 3 12 :: mkS_28
def mkS_30 : MkL := mkN 0 0 :: mkS_29
def mkS_31 : MkL := mkI 4 14 1 :: mkS_30
def mkS_32 : MkL := mkC 2 3 14 :: mkS_31
def mkS_33 : MkL := mkN 6 0 :: mkS_32
def mkS_34 : MkL := mkN 21 16 :: mkS_33
def mkS_35 : MkL := mkR 384 15 16 :: mkS_34
def mkS_36 : MkL := mkC 1 4 15 :: mkS_35
def mkS_37 : MkL := mkN 0 0 :: mkS_36
def mkS_38 : MkL := mkI 4 17 1 :: mkS_37
def mkS_39 : MkL := mkC 2 4 17 :: mkS_38
def mkS_40 : MkL := mkN 6 0 :: mkS_39
def mkS_41 : MkL := mkN 21 16 :: mkS_40
def mkS_42 : MkL := mkR 384 18 19 :: mkS_41
def mkS_43 : MkL := mkC 1 5 18 :: mkS_42
def mkS_44 : MkL := mkN 0 0 :: mkS_43
def mkS_45 : MkL := mkI 4 20 1 :: mkS_44
def mkS_46 : MkL := mkC 2 5 20 :: mkS_45
def mkS_47 : MkL := mkN 6 0 :: mkS_46
def mkS_48 : MkL := mkN 21 16 :: mkS_47
def mkS_49 : MkL := mkR 384 21 22 :: mkS_48
def mkS_50 : MkL := mkC 1 6 21 :: mkS_49
def mkS_51 : MkL := mkN 0 0 :: mkS_50
def mkS_52 : MkL := mkI 4 23 1 :: mkS_51
def mkS_53 : MkL := mkC 2 6 23 :: mkS_52
def mkS_54 : MkL := mkN 6 0 :: mkS_53
def mkS_55 : MkL := mkN 21 16 :: mkS_54
def mkS_56 : MkL := mkR 384 24 25 :: mkS_55
def mkS_57 : MkL := mkC 1 7 24 :: mkS_56
def mkS_58 : MkL := mkN 0 0 :: mkS_57
def mkS_59 : MkL := mkI 4 26 1 :: mkS_58
def mkS_60 : MkL := mkC 2 7 26 :: mkS_59
set_option maxRecDepth 100000 in
set_option maxHeartbeats 4000000 in
theorem mkS__t1 {S : Nat} {h : Hp} (hz : hZ h = S) : fX6_init (mkH' S h mkS_6) (S + 3) (S + 4) = some (mkH' S h mkS_7) := by
  unfold fX6_init
  refine gdg (mk_k1 (i := 3) hz (by decide +kernel)) ?_
  refine ltzg (v' := (mkH' S h mkS_7)) rfl ?_
  rfl

set_option maxRecDepth 100000 in
set_option maxHeartbeats 4000000 in
theorem mkS__t2 {S : Nat} {h : Hp} (hz : hZ h = S) : fX0_init (mkH' S h mkS_9) (S + 5) = some (mkH' S h mkS_10) := by
  unfold fX0_init
  refine gdg (mk_k1 (i := 5) hz (by decide +kernel)) ?_
  refine ltzg (v' := (mkH' S h mkS_10)) rfl ?_
  rfl

set_option maxRecDepth 100000 in
set_option maxHeartbeats 4000000 in
theorem mkS__t3 {S : Nat} {h : Hp} (hz : hZ h = S) : fX6_init (mkH' S h mkS_13) (S + 6) (S + 7) = some (mkH' S h mkS_14) := by
  unfold fX6_init
  refine gdg (mk_k1 (i := 6) hz (by decide +kernel)) ?_
  refine ltzg (v' := (mkH' S h mkS_14)) rfl ?_
  rfl

set_option maxRecDepth 100000 in
set_option maxHeartbeats 4000000 in
theorem mkS__t4 {S : Nat} {h : Hp} (hz : hZ h = S) : fX0_init (mkH' S h mkS_16) (S + 8) = some (mkH' S h mkS_17) := by
  unfold fX0_init
  refine gdg (mk_k1 (i := 8) hz (by decide +kernel)) ?_
  refine ltzg (v' := (mkH' S h mkS_17)) rfl ?_
  rfl

set_option maxRecDepth 100000 in
set_option maxHeartbeats 4000000 in
theorem mkS__t5 {S : Nat} {h : Hp} (hz : hZ h = S) : fX6_init (mkH' S h mkS_20) (S + 9) (S + 10) = some (mkH' S h mkS_21) := by
  unfold fX6_init
  refine gdg (mk_k1 (i := 9) hz (by decide +kernel)) ?_
  refine ltzg (v' := (mkH' S h mkS_21)) rfl ?_
  rfl

set_option maxRecDepth 100000 in
set_option maxHeartbeats 4000000 in
theorem mkS__t6 {S : Nat} {h : Hp} (hz : hZ h = S) : fX0_init (mkH' S h mkS_23) (S + 11) = some (mkH' S h mkS_24) := by
  unfold fX0_init
  refine gdg (mk_k1 (i := 11) hz (by decide +kernel)) ?_
  refine ltzg (v' := (mkH' S h mkS_24)) rfl ?_
  rfl

set_option maxRecDepth 100000 in
set_option maxHeartbeats 4000000 in
theorem mkS__t7 {S : Nat} {h : Hp} (hz : hZ h = S) : fX6_init (mkH' S h mkS_27) (S + 12) (S + 13) = some (mkH' S h mkS_28) := by
  unfold fX6_init
  refine gdg (mk_k1 (i := 12) hz (by decide +kernel)) ?_
  refine ltzg (v' := (mkH' S h mkS_28)) rfl ?_
  rfl

set_option maxRecDepth 100000 in
set_option maxHeartbeats 4000000 in
theorem mkS__t8 {S : Nat} {h : Hp} (hz : hZ h = S) : fX0_init (mkH' S h mkS_30) (S + 14) = some (mkH' S h mkS_31) := by
  unfold fX0_init
  refine gdg (mk_k1 (i := 14) hz (by decide +kernel)) ?_
  refine ltzg (v' := (mkH' S h mkS_31)) rfl ?_
  rfl

set_option maxRecDepth 100000 in
set_option maxHeartbeats 4000000 in
theorem mkS__t9 {S : Nat} {h : Hp} (hz : hZ h = S) : fX6_init (mkH' S h mkS_34) (S + 15) (S + 16) = some (mkH' S h mkS_35) := by
  unfold fX6_init
  refine gdg (mk_k1 (i := 15) hz (by decide +kernel)) ?_
  refine ltzg (v' := (mkH' S h mkS_35)) rfl ?_
  rfl

set_option maxRecDepth 100000 in
set_option maxHeartbeats 4000000 in
theorem mkS__t10 {S : Nat} {h : Hp} (hz : hZ h = S) : fX0_init (mkH' S h mkS_37) (S + 17) = some (mkH' S h mkS_38) := by
  unfold fX0_init
  refine gdg (mk_k1 (i := 17) hz (by decide +kernel)) ?_
  refine ltzg (v' := (mkH' S h mkS_38)) rfl ?_
  rfl

set_option maxRecDepth 100000 in
set_option maxHeartbeats 4000000 in
theorem mkS__t11 {S : Nat} {h : Hp} (hz : hZ h = S) : fX6_init (mkH' S h mkS_41) (S + 18) (S + 19) = some (mkH' S h mkS_42) := by
  unfold fX6_init
  refine gdg (mk_k1 (i := 18) hz (by decide +kernel)) ?_
  refine ltzg (v' := (mkH' S h mkS_42)) rfl ?_
  rfl

set_option maxRecDepth 100000 in
set_option maxHeartbeats 4000000 in
theorem mkS__t12 {S : Nat} {h : Hp} (hz : hZ h = S) : fX0_init (mkH' S h mkS_44) (S + 20) = some (mkH' S h mkS_45) := by
  unfold fX0_init
  refine gdg (mk_k1 (i := 20) hz (by decide +kernel)) ?_
  refine ltzg (v' := (mkH' S h mkS_45)) rfl ?_
  rfl

set_option maxRecDepth 100000 in
set_option maxHeartbeats 4000000 in
theorem mkS__t13 {S : Nat} {h : Hp} (hz : hZ h = S) : fX6_init (mkH' S h mkS_48) (S + 21) (S + 22) = some (mkH' S h mkS_49) := by
  unfold fX6_init
  refine gdg (mk_k1 (i := 21) hz (by decide +kernel)) ?_
  refine ltzg (v' := (mkH' S h mkS_49)) rfl ?_
  rfl

set_option maxRecDepth 100000 in
set_option maxHeartbeats 4000000 in
theorem mkS__t14 {S : Nat} {h : Hp} (hz : hZ h = S) : fX0_init (mkH' S h mkS_51) (S + 23) = some (mkH' S h mkS_52) := by
  unfold fX0_init
  refine gdg (mk_k1 (i := 23) hz (by decide +kernel)) ?_
  refine ltzg (v' := (mkH' S h mkS_52)) rfl ?_
  rfl

set_option maxRecDepth 100000 in
set_option maxHeartbeats 4000000 in
theorem mkS__t15 {S : Nat} {h : Hp} (hz : hZ h = S) : fX6_init (mkH' S h mkS_55) (S + 24) (S + 25) = some (mkH' S h mkS_56) := by
  unfold fX6_init
  refine gdg (mk_k1 (i := 24) hz (by decide +kernel)) ?_
  refine ltzg (v' := (mkH' S h mkS_56)) rfl ?_
  rfl

set_option maxRecDepth 100000 in
set_option maxHeartbeats 4000000 in
theorem mkS__t16 {S : Nat} {h : Hp} (hz : hZ h = S) : fX0_init (mkH' S h mkS_58) (S + 26) = some (mkH' S h mkS_59) := by
  unfold fX0_init
  refine gdg (mk_k1 (i := 26) hz (by decide +kernel)) ?_
  refine ltzg (v' := (mkH' S h mkS_59)) rfl ?_
  rfl

set_option maxRecDepth 100000 in
set_option maxHeartbeats 4000000 in
theorem mkS__t0 {S : Nat} {h : Hp} (hz : hZ h = S) : fX7_init (mkH' S h mkS_0) (S + 0) = some (mkH' S h mkS_60) := by
  unfold fX7_init
  refine ltzg (v' := S + 1) (mk_zz hz (by decide +kernel)) ?_
  refine ltzg (v' := (mkH' S h mkS_1)) rfl ?_
  refine gdg (mk_k1 (i := 0) hz (by decide +kernel)) ?_
  refine ltzg (v' := (mkH' S h mkS_2)) rfl ?_
  refine ltzg (v' := S + 2) (mk_zz hz (by decide +kernel)) ?_
  refine ltzg (v' := (mkH' S h mkS_3)) rfl ?_
  refine gdg (mk_k1 (i := 0) hz (by decide +kernel)) ?_
  refine ltzg (v' := (mkH' S h mkS_4)) rfl ?_
  rw [show FU = 999980 + 20 from rfl]
  rw [fX7_init_b24.eq_2]
  refine iteT (by decide) ?_
  refine gdg (mk_k1 (i := 0) hz (by decide +kernel)) ?_
  refine nng (mk_rr (i := 0) (j := 1) hz (by decide +kernel)) ?_
  refine gdg (by decide) ?_
  refine ltzg (v' := S + 3) (mk_zz hz (by decide +kernel)) ?_
  refine ltzg (v' := (mkH' S h mkS_5)) rfl ?_
  refine gdg (by decide) ?_
  refine ltzg (v' := S + 4) (mk_zz hz (by decide +kernel)) ?_
  refine ltzg (v' := (mkH' S h mkS_6)) rfl ?_
  refine gdg (by decide) ?_
  refine bdg (mkS__t1 hz) ?_
  refine gdg (mk_k1 (i := 1) hz (by decide +kernel)) ?_
  refine gdg (by rw [mk_kk (i := 1) (k := (26, 8)) hz (by decide +kernel)]; exact ⟨by decide, by decide⟩) ?_
  refine gdg (mk_k1 (i := 3) hz (by decide +kernel)) ?_
  refine ltzg (v' := (mkH' S h mkS_8)) rfl ?_
  refine gdg (mk_k1 (i := 0) hz (by decide +kernel)) ?_
  refine nng (mk_rr (i := 0) (j := 2) hz (by decide +kernel)) ?_
  refine gdg (by decide) ?_
  refine ltzg (v' := S + 5) (mk_zz hz (by decide +kernel)) ?_
  refine ltzg (v' := (mkH' S h mkS_9)) rfl ?_
  refine gdg (by decide) ?_
  refine bdg (mkS__t2 hz) ?_
  refine gdg (mk_k1 (i := 2) hz (by decide +kernel)) ?_
  refine gdg (by rw [mk_kk (i := 2) (k := (24, 8)) hz (by decide +kernel)]; exact ⟨by decide, by decide⟩) ?_
  refine gdg (mk_k1 (i := 5) hz (by decide +kernel)) ?_
  refine ltzg (v' := (mkH' S h mkS_11)) rfl ?_
  refine ltzg (v' := 1) (by decide +kernel) ?_
  rw [fX7_init_b24.eq_2]
  refine iteT (by decide) ?_
  refine gdg (mk_k1 (i := 0) hz (by decide +kernel)) ?_
  refine nng (mk_rr (i := 0) (j := 1) hz (by decide +kernel)) ?_
  refine gdg (by decide) ?_
  refine ltzg (v' := S + 6) (mk_zz hz (by decide +kernel)) ?_
  refine ltzg (v' := (mkH' S h mkS_12)) rfl ?_
  refine gdg (by decide) ?_
  refine ltzg (v' := S + 7) (mk_zz hz (by decide +kernel)) ?_
  refine ltzg (v' := (mkH' S h mkS_13)) rfl ?_
  refine gdg (by decide) ?_
  refine bdg (mkS__t3 hz) ?_
  refine gdg (mk_k1 (i := 1) hz (by decide +kernel)) ?_
  refine gdg (by rw [mk_kk (i := 1) (k := (26, 8)) hz (by decide +kernel)]; exact ⟨by decide, by decide⟩) ?_
  refine gdg (mk_k1 (i := 6) hz (by decide +kernel)) ?_
  refine ltzg (v' := (mkH' S h mkS_15)) rfl ?_
  refine gdg (mk_k1 (i := 0) hz (by decide +kernel)) ?_
  refine nng (mk_rr (i := 0) (j := 2) hz (by decide +kernel)) ?_
  refine gdg (by decide) ?_
  refine ltzg (v' := S + 8) (mk_zz hz (by decide +kernel)) ?_
  refine ltzg (v' := (mkH' S h mkS_16)) rfl ?_
  refine gdg (by decide) ?_
  refine bdg (mkS__t4 hz) ?_
  refine gdg (mk_k1 (i := 2) hz (by decide +kernel)) ?_
  refine gdg (by rw [mk_kk (i := 2) (k := (24, 8)) hz (by decide +kernel)]; exact ⟨by decide, by decide⟩) ?_
  refine gdg (mk_k1 (i := 8) hz (by decide +kernel)) ?_
  refine ltzg (v' := (mkH' S h mkS_18)) rfl ?_
  refine ltzg (v' := 2) (by decide +kernel) ?_
  rw [fX7_init_b24.eq_2]
  refine iteT (by decide) ?_
  refine gdg (mk_k1 (i := 0) hz (by decide +kernel)) ?_
  refine nng (mk_rr (i := 0) (j := 1) hz (by decide +kernel)) ?_
  refine gdg (by decide) ?_
  refine ltzg (v' := S + 9) (mk_zz hz (by decide +kernel)) ?_
  refine ltzg (v' := (mkH' S h mkS_19)) rfl ?_
  refine gdg (by decide) ?_
  refine ltzg (v' := S + 10) (mk_zz hz (by decide +kernel)) ?_
  refine ltzg (v' := (mkH' S h mkS_20)) rfl ?_
  refine gdg (by decide) ?_
  refine bdg (mkS__t5 hz) ?_
  refine gdg (mk_k1 (i := 1) hz (by decide +kernel)) ?_
  refine gdg (by rw [mk_kk (i := 1) (k := (26, 8)) hz (by decide +kernel)]; exact ⟨by decide, by decide⟩) ?_
  refine gdg (mk_k1 (i := 9) hz (by decide +kernel)) ?_
  refine ltzg (v' := (mkH' S h mkS_22)) rfl ?_
  refine gdg (mk_k1 (i := 0) hz (by decide +kernel)) ?_
  refine nng (mk_rr (i := 0) (j := 2) hz (by decide +kernel)) ?_
  refine gdg (by decide) ?_
  refine ltzg (v' := S + 11) (mk_zz hz (by decide +kernel)) ?_
  refine ltzg (v' := (mkH' S h mkS_23)) rfl ?_
  refine gdg (by decide) ?_
  refine bdg (mkS__t6 hz) ?_
  refine gdg (mk_k1 (i := 2) hz (by decide +kernel)) ?_
  refine gdg (by rw [mk_kk (i := 2) (k := (24, 8)) hz (by decide +kernel)]; exact ⟨by decide, by decide⟩) ?_
  refine gdg (mk_k1 (i := 11) hz (by decide +kernel)) ?_
  refine ltzg (v' := (mkH' S h mkS_25)) rfl ?_
  refine ltzg (v' := 3) (by decide +kernel) ?_
  rw [fX7_init_b24.eq_2]
  refine iteT (by decide) ?_
  refine gdg (mk_k1 (i := 0) hz (by decide +kernel)) ?_
  refine nng (mk_rr (i := 0) (j := 1) hz (by decide +kernel)) ?_
  refine gdg (by decide) ?_
  refine ltzg (v' := S + 12) (mk_zz hz (by decide +kernel)) ?_
  refine ltzg (v' := (mkH' S h mkS_26)) rfl ?_
  refine gdg (by decide) ?_
  refine ltzg (v' := S + 13) (mk_zz hz (by decide +kernel)) ?_
  refine ltzg (v' := (mkH' S h mkS_27)) rfl ?_
  refine gdg (by decide) ?_
  refine bdg (mkS__t7 hz) ?_
  refine gdg (mk_k1 (i := 1) hz (by decide +kernel)) ?_
  refine gdg (by rw [mk_kk (i := 1) (k := (26, 8)) hz (by decide +kernel)]; exact ⟨by decide, by decide⟩) ?_
  refine gdg (mk_k1 (i := 12) hz (by decide +kernel)) ?_
  refine ltzg (v' := (mkH' S h mkS_29)) rfl ?_
  refine gdg (mk_k1 (i := 0) hz (by decide +kernel)) ?_
  refine nng (mk_rr (i := 0) (j := 2) hz (by decide +kernel)) ?_
  refine gdg (by decide) ?_
  refine ltzg (v' := S + 14) (mk_zz hz (by decide +kernel)) ?_
  refine ltzg (v' := (mkH' S h mkS_30)) rfl ?_
  refine gdg (by decide) ?_
  refine bdg (mkS__t8 hz) ?_
  refine gdg (mk_k1 (i := 2) hz (by decide +kernel)) ?_
  refine gdg (by rw [mk_kk (i := 2) (k := (24, 8)) hz (by decide +kernel)]; exact ⟨by decide, by decide⟩) ?_
  refine gdg (mk_k1 (i := 14) hz (by decide +kernel)) ?_
  refine ltzg (v' := (mkH' S h mkS_32)) rfl ?_
  refine ltzg (v' := 4) (by decide +kernel) ?_
  rw [fX7_init_b24.eq_2]
  refine iteT (by decide) ?_
  refine gdg (mk_k1 (i := 0) hz (by decide +kernel)) ?_
  refine nng (mk_rr (i := 0) (j := 1) hz (by decide +kernel)) ?_
  refine gdg (by decide) ?_
  refine ltzg (v' := S + 15) (mk_zz hz (by decide +kernel)) ?_
  refine ltzg (v' := (mkH' S h mkS_33)) rfl ?_
  refine gdg (by decide) ?_
  refine ltzg (v' := S + 16) (mk_zz hz (by decide +kernel)) ?_
  refine ltzg (v' := (mkH' S h mkS_34)) rfl ?_
  refine gdg (by decide) ?_
  refine bdg (mkS__t9 hz) ?_
  refine gdg (mk_k1 (i := 1) hz (by decide +kernel)) ?_
  refine gdg (by rw [mk_kk (i := 1) (k := (26, 8)) hz (by decide +kernel)]; exact ⟨by decide, by decide⟩) ?_
  refine gdg (mk_k1 (i := 15) hz (by decide +kernel)) ?_
  refine ltzg (v' := (mkH' S h mkS_36)) rfl ?_
  refine gdg (mk_k1 (i := 0) hz (by decide +kernel)) ?_
  refine nng (mk_rr (i := 0) (j := 2) hz (by decide +kernel)) ?_
  refine gdg (by decide) ?_
  refine ltzg (v' := S + 17) (mk_zz hz (by decide +kernel)) ?_
  refine ltzg (v' := (mkH' S h mkS_37)) rfl ?_
  refine gdg (by decide) ?_
  refine bdg (mkS__t10 hz) ?_
  refine gdg (mk_k1 (i := 2) hz (by decide +kernel)) ?_
  refine gdg (by rw [mk_kk (i := 2) (k := (24, 8)) hz (by decide +kernel)]; exact ⟨by decide, by decide⟩) ?_
  refine gdg (mk_k1 (i := 17) hz (by decide +kernel)) ?_
  refine ltzg (v' := (mkH' S h mkS_39)) rfl ?_
  refine ltzg (v' := 5) (by decide +kernel) ?_
  rw [fX7_init_b24.eq_2]
  refine iteT (by decide) ?_
  refine gdg (mk_k1 (i := 0) hz (by decide +kernel)) ?_
  refine nng (mk_rr (i := 0) (j := 1) hz (by decide +kernel)) ?_
  refine gdg (by decide) ?_
  refine ltzg (v' := S + 18) (mk_zz hz (by decide +kernel)) ?_
  refine ltzg (v' := (mkH' S h mkS_40)) rfl ?_
  refine gdg (by decide) ?_
  refine ltzg (v' := S + 19) (mk_zz hz (by decide +kernel)) ?_
  refine ltzg (v' := (mkH' S h mkS_41)) rfl ?_
  refine gdg (by decide) ?_
  refine bdg (mkS__t11 hz) ?_
  refine gdg (mk_k1 (i := 1) hz (by decide +kernel)) ?_
  refine gdg (by rw [mk_kk (i := 1) (k := (26, 8)) hz (by decide +kernel)]; exact ⟨by decide, by decide⟩) ?_
  refine gdg (mk_k1 (i := 18) hz (by decide +kernel)) ?_
  refine ltzg (v' := (mkH' S h mkS_43)) rfl ?_
  refine gdg (mk_k1 (i := 0) hz (by decide +kernel)) ?_
  refine nng (mk_rr (i := 0) (j := 2) hz (by decide +kernel)) ?_
  refine gdg (by decide) ?_
  refine ltzg (v' := S + 20) (mk_zz hz (by decide +kernel)) ?_
  refine ltzg (v' := (mkH' S h mkS_44)) rfl ?_
  refine gdg (by decide) ?_
  refine bdg (mkS__t12 hz) ?_
  refine gdg (mk_k1 (i := 2) hz (by decide +kernel)) ?_
  refine gdg (by rw [mk_kk (i := 2) (k := (24, 8)) hz (by decide +kernel)]; exact ⟨by decide, by decide⟩) ?_
  refine gdg (mk_k1 (i := 20) hz (by decide +kernel)) ?_
  refine ltzg (v' := (mkH' S h mkS_46)) rfl ?_
  refine ltzg (v' := 6) (by decide +kernel) ?_
  rw [fX7_init_b24.eq_2]
  refine iteT (by decide) ?_
  refine gdg (mk_k1 (i := 0) hz (by decide +kernel)) ?_
  refine nng (mk_rr (i := 0) (j := 1) hz (by decide +kernel)) ?_
  refine gdg (by decide) ?_
  refine ltzg (v' := S + 21) (mk_zz hz (by decide +kernel)) ?_
  refine ltzg (v' := (mkH' S h mkS_47)) rfl ?_
  refine gdg (by decide) ?_
  refine ltzg (v' := S + 22) (mk_zz hz (by decide +kernel)) ?_
  refine ltzg (v' := (mkH' S h mkS_48)) rfl ?_
  refine gdg (by decide) ?_
  refine bdg (mkS__t13 hz) ?_
  refine gdg (mk_k1 (i := 1) hz (by decide +kernel)) ?_
  refine gdg (by rw [mk_kk (i := 1) (k := (26, 8)) hz (by decide +kernel)]; exact ⟨by decide, by decide⟩) ?_
  refine gdg (mk_k1 (i := 21) hz (by decide +kernel)) ?_
  refine ltzg (v' := (mkH' S h mkS_50)) rfl ?_
  refine gdg (mk_k1 (i := 0) hz (by decide +kernel)) ?_
  refine nng (mk_rr (i := 0) (j := 2) hz (by decide +kernel)) ?_
  refine gdg (by decide) ?_
  refine ltzg (v' := S + 23) (mk_zz hz (by decide +kernel)) ?_
  refine ltzg (v' := (mkH' S h mkS_51)) rfl ?_
  refine gdg (by decide) ?_
  refine bdg (mkS__t14 hz) ?_
  refine gdg (mk_k1 (i := 2) hz (by decide +kernel)) ?_
  refine gdg (by rw [mk_kk (i := 2) (k := (24, 8)) hz (by decide +kernel)]; exact ⟨by decide, by decide⟩) ?_
  refine gdg (mk_k1 (i := 23) hz (by decide +kernel)) ?_
  refine ltzg (v' := (mkH' S h mkS_53)) rfl ?_
  refine ltzg (v' := 7) (by decide +kernel) ?_
  rw [fX7_init_b24.eq_2]
  refine iteT (by decide) ?_
  refine gdg (mk_k1 (i := 0) hz (by decide +kernel)) ?_
  refine nng (mk_rr (i := 0) (j := 1) hz (by decide +kernel)) ?_
  refine gdg (by decide) ?_
  refine ltzg (v' := S + 24) (mk_zz hz (by decide +kernel)) ?_
  refine ltzg (v' := (mkH' S h mkS_54)) rfl ?_
  refine gdg (by decide) ?_
  refine ltzg (v' := S + 25) (mk_zz hz (by decide +kernel)) ?_
  refine ltzg (v' := (mkH' S h mkS_55)) rfl ?_
  refine gdg (by decide) ?_
  refine bdg (mkS__t15 hz) ?_
  refine gdg (mk_k1 (i := 1) hz (by decide +kernel)) ?_
  refine gdg (by rw [mk_kk (i := 1) (k := (26, 8)) hz (by decide +kernel)]; exact ⟨by decide, by decide⟩) ?_
  refine gdg (mk_k1 (i := 24) hz (by decide +kernel)) ?_
  refine ltzg (v' := (mkH' S h mkS_57)) rfl ?_
  refine gdg (mk_k1 (i := 0) hz (by decide +kernel)) ?_
  refine nng (mk_rr (i := 0) (j := 2) hz (by decide +kernel)) ?_
  refine gdg (by decide) ?_
  refine ltzg (v' := S + 26) (mk_zz hz (by decide +kernel)) ?_
  refine ltzg (v' := (mkH' S h mkS_58)) rfl ?_
  refine gdg (by decide) ?_
  refine bdg (mkS__t16 hz) ?_
  refine gdg (mk_k1 (i := 2) hz (by decide +kernel)) ?_
  refine gdg (by rw [mk_kk (i := 2) (k := (24, 8)) hz (by decide +kernel)]; exact ⟨by decide, by decide⟩) ?_
  refine gdg (mk_k1 (i := 26) hz (by decide +kernel)) ?_
  refine ltzg (v' := (mkH' S h mkS_60)) rfl ?_
  refine ltzg (v' := 8) (by decide +kernel) ?_
  rw [fX7_init_b24.eq_2]
  refine iteF (by decide) ?_
  refine gdg (by decide) ?_
  rfl
def mkL_0 : MkL := [mkN 1 0]
def mkL_1 : MkL := mkN 21 12 :: mkL_0
def mkL_2 : MkL := mkR 64 0 1 :: mkL_1
def mkL_3 : MkL := mkN 21 12 :: mkL_2
def mkL_4 : MkL := mkR 65 0 2 :: mkL_3
def mkL_5 : MkL := mkN 21 12 :: mkL_4
def mkL_6 : MkL := mkR 66 0 3 :: mkL_5
set_option maxRecDepth 100000 in
set_option maxHeartbeats 4000000 in
theorem mkL__t0 {R : Nat} {h : Hp} (hz : hZ h = R) : fX1_init (mkH' R h mkL_0) (R + 0) = some (mkH' R h mkL_6) := by
  unfold fX1_init
  refine ltzg (v' := R + 1) (mk_zz hz (by decide +kernel)) ?_
  refine ltzg (v' := (mkH' R h mkL_1)) rfl ?_
  refine gdg (mk_k1 (i := 0) hz (by decide +kernel)) ?_
  refine ltzg (v' := (mkH' R h mkL_2)) rfl ?_
  refine ltzg (v' := R + 2) (mk_zz hz (by decide +kernel)) ?_
  refine ltzg (v' := (mkH' R h mkL_3)) rfl ?_
  refine gdg (mk_k1 (i := 0) hz (by decide +kernel)) ?_
  refine ltzg (v' := (mkH' R h mkL_4)) rfl ?_
  refine ltzg (v' := R + 3) (mk_zz hz (by decide +kernel)) ?_
  refine ltzg (v' := (mkH' R h mkL_5)) rfl ?_
  refine gdg (mk_k1 (i := 0) hz (by decide +kernel)) ?_
  refine ltzg (v' := (mkH' R h mkL_6)) rfl ?_
  rfl
