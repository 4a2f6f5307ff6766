def fX12_goneOf (c0 : Nat → Int) (a1 : Int) (a2 : Int) (a3 : Int) : Option Int :=
    gd (inA (w32 (148 + a1)) 1850) <|
    if (c0 (w32 (148 + a1)).toNat) = 0 then (
      some 0)
    else
    gd (inA (w32 (148 + a1)) 1850) <|
    gd (¬ (c0 (w32 (148 + a1)).toNat) = 0) <|
    some (min a2 (idv a3 (c0 (w32 (148 + a1)).toNat)))

set_option maxHeartbeats 4000000 in
set_option maxRecDepth 100000 in
theorem gX12_goneOf {a1 : Int} {a2 : Int} {a3 : Int} {c0 : Nat → Int} (rc : ∀ i, rg (c0 i)) {r : Int} (r_a1 : rg a1) (r_a2 : rg a2) (r_a3 : rg a3) (hf : fX12_goneOf c0 a1 a2 a3 = some r) : rg r := by
  rw [fX12_goneOf.eq_1] at hf
  obtain ⟨g1, hf⟩ := gd_some hf
  by_cases z2 : (c0 (w32 (148 + a1)).toNat) = 0
  · have hf := it_t z2 hf
    cases hf
    exact (rg_lit rfl)
  · have hf := it_f z2 hf
    obtain ⟨g3, hf⟩ := gd_some hf
    obtain ⟨g4, hf⟩ := gd_some hf
    cases hf
    exact (rg_min r_a2 (ti_rg _))

set_option maxHeartbeats 4000000 in
set_option maxRecDepth 100000 in
theorem kX12_goneOf {D : va_G} {cy : Nat → ClassId} {B : Nat} {l : Launch} {h : Hp} {t0 : Nat} {a1 : Int} {a2 : Int} {a3 : Int} {ac : Nat} (gm : MI1 h t0 ac) (r_a1 : rg a1) (r_a2 : rg a2) (r_a3 : rg a3) {r : Int} (hf : fX12_goneOf (gA h ac) a1 a2 a3 = some r) : CT D cy B l yX12_goneOf cX12_goneOf 4 (some FieldType.int) 2 80 0 0 [.ref t0, vI a1, vI a2, vI a3] h (some (vI r)) h := by
  refine ct_intro (own := RX12) (by decide) rfl (Nat.le_of_ble_eq_true rfl) fun p e s m args below meth c X hr hlk hnm => ?_
  refine aw_lv (lv' := [(0, .ref t0), (1, vI a1), (2, vI a2), (3, vI a3)]) rfl ?_
  rw [fX12_goneOf.eq_1] at hf
  refine aw_aload_n (pc := 0) X dX12_goneOf_0 0 rfl ?_
  refine aw_getR (pc := 1) (q9 := ac) X 12 20 788 iw_12 rfl (by decide) (by decide) gm.1 rfl kw_1507 rfl rfl gm.2.1 dX12_goneOf_1 ?_
  refine aw_sipush (pc := 4) X dX12_goneOf_4 rfl ?_
  refine aw_iload_n (pc := 7) X dX12_goneOf_7 1 rfl ?_
  refine aw_iadd (pc := 8) X dX12_goneOf_8 ?_
  obtain ⟨g1, hf⟩ := gd_some hf
  refine aw_iald (pc := 9) X (mi_k gm) (w32_rg _) (mi_b gm g1) dX12_goneOf_9 ?_
  refine aw_if_ne (pc := 10) (tgt := 17) X gA_rg dX12_goneOf_10 (by decide) (fun z2 => ?_) (fun z2 => ?_)
  · have hf := it_f z2 hf
    refine aw_iload_n (pc := 17) X dX12_goneOf_17 2 rfl ?_
    refine aw_iload_n (pc := 18) X dX12_goneOf_18 3 rfl ?_
    refine aw_aload_n (pc := 19) X dX12_goneOf_19 0 rfl ?_
    refine aw_getR (pc := 20) (q9 := ac) X 12 20 788 iw_12 rfl (by decide) (by decide) gm.1 rfl kw_1507 rfl rfl gm.2.1 dX12_goneOf_20 ?_
    refine aw_sipush (pc := 23) X dX12_goneOf_23 rfl ?_
    refine aw_iload_n (pc := 26) X dX12_goneOf_26 1 rfl ?_
    refine aw_iadd (pc := 27) X dX12_goneOf_27 ?_
    obtain ⟨g3, hf⟩ := gd_some hf
    refine aw_iald (pc := 28) X (mi_k gm) (w32_rg _) (mi_b gm g3) dX12_goneOf_28 ?_
    obtain ⟨g4, hf⟩ := gd_some hf
    refine aw_idiv (pc := 29) X gA_rg g4 dX12_goneOf_29 ?_
    refine aw_mmin (pc := 30) X r_a2 (ti_rg _) kw_1858 kw_569 kw_152 kw_570 (Nat.le_of_ble_eq_true rfl) (Nat.le_of_ble_eq_true rfl) (Nat.le_of_ble_eq_true rfl) (Nat.le_of_ble_eq_true rfl) dX12_goneOf_30 ?_
    cases hf
    exact aw_iret (pc := 33) X hr hlk rfl rfl dX12_goneOf_33
  · have hf := it_t z2 hf
    refine aw_iconst (pc := 13) X dX12_goneOf_13 ?_
    refine aw_goto (pc := 14) (tgt := 33) X dX12_goneOf_14 (by decide) ?_
    cases hf
    exact aw_iret (pc := 33) X hr hlk rfl rfl dX12_goneOf_33

def fX12_heardOn (c0 : Nat → Int) (a1 : Int) (a2 : Int) : Option Int :=
    gd (inA (w32 (188 + a1)) 1850) <|
    if (c0 (w32 (188 + a1)).toNat) = 0 then (
      some 0)
    else
    gd (inA (w32 (196 + a1)) 1850) <|
    if a2 < (c0 (w32 (196 + a1)).toNat) then (
      some 0)
    else
    gd (inA (w32 (188 + a1)) 1850) <|
    gd (inA (w32 (188 + a1)) 1850) <|
    gd (inA (w32 (196 + a1)) 1850) <|
    bd (fX12_goneOf c0 a1 (c0 (w32 (188 + a1)).toNat) (w32 (a2 - (c0 (w32 (196 + a1)).toNat)))) fun r8 =>
    some (w32 ((c0 (w32 (188 + a1)).toNat) - r8))

set_option maxHeartbeats 4000000 in
set_option maxRecDepth 100000 in
theorem gX12_heardOn {a1 : Int} {a2 : Int} {c0 : Nat → Int} (rc : ∀ i, rg (c0 i)) {r : Int} (r_a1 : rg a1) (r_a2 : rg a2) (hf : fX12_heardOn c0 a1 a2 = some r) : rg r := by
  rw [fX12_heardOn.eq_1] at hf
  obtain ⟨g1, hf⟩ := gd_some hf
  by_cases z2 : (c0 (w32 (188 + a1)).toNat) = 0
  · have hf := it_t z2 hf
    cases hf
    exact (rg_lit rfl)
  · have hf := it_f z2 hf
    obtain ⟨g3, hf⟩ := gd_some hf
    by_cases z4 : a2 < (c0 (w32 (196 + a1)).toNat)
    · have hf := it_t z4 hf
      cases hf
      exact (rg_lit rfl)
    · have hf := it_f z4 hf
      obtain ⟨g5, hf⟩ := gd_some hf
      obtain ⟨g6, hf⟩ := gd_some hf
      obtain ⟨g7, hf⟩ := gd_some hf
      obtain ⟨r8, g9, hf⟩ := bd_some hf
      have r_r8 := gX12_goneOf rc r_a1 (rc _) (w32_rg _) g9
      cases hf
      exact (w32_rg _)

set_option maxHeartbeats 4000000 in
set_option maxRecDepth 100000 in
theorem kX12_heardOn {D : va_G} {cy : Nat → ClassId} {B : Nat} {l : Launch} {h : Hp} {t0 : Nat} {a1 : Int} {a2 : Int} {ac : Nat} (gm : MI1 h t0 ac) (r_a1 : rg a1) (r_a2 : rg a2) {r : Int} (hf : fX12_heardOn (gA h ac) a1 a2 = some r) : CT D cy B l yX12_heardOn cX12_heardOn 3 (some FieldType.int) 4 123 0 0 [.ref t0, vI a1, vI a2] h (some (vI r)) h := by
  refine ct_intro (own := RX12) (by decide) rfl (Nat.le_of_ble_eq_true rfl) fun p e s m args below meth c X hr hlk hnm => ?_
  refine aw_lv (lv' := [(0, .ref t0), (1, vI a1), (2, vI a2)]) rfl ?_
  rw [fX12_heardOn.eq_1] at hf
  refine aw_aload_n (pc := 0) X dX12_heardOn_0 0 rfl ?_
  refine aw_getR (pc := 1) (q9 := ac) X 12 20 788 iw_12 rfl (by decide) (by decide) gm.1 rfl kw_1507 rfl rfl gm.2.1 dX12_heardOn_1 ?_
  refine aw_sipush (pc := 4) X dX12_heardOn_4 rfl ?_
  refine aw_iload_n (pc := 7) X dX12_heardOn_7 1 rfl ?_
  refine aw_iadd (pc := 8) X dX12_heardOn_8 ?_
  obtain ⟨g1, hf⟩ := gd_some hf
  refine aw_iald (pc := 9) X (mi_k gm) (w32_rg _) (mi_b gm g1) dX12_heardOn_9 ?_
  refine aw_if_eq (pc := 10) (tgt := 27) X gA_rg dX12_heardOn_10 (by decide) (fun z2 => ?_) (fun z2 => ?_)
  · have hf := it_t z2 hf
    refine aw_iconst (pc := 27) X dX12_heardOn_27 ?_
    cases hf
    exact aw_iret (pc := 28) X hr hlk rfl rfl dX12_heardOn_28
  · have hf := it_f z2 hf
    refine aw_iload_n (pc := 13) X dX12_heardOn_13 2 rfl ?_
    refine aw_aload_n (pc := 14) X dX12_heardOn_14 0 rfl ?_
    refine aw_getR (pc := 15) (q9 := ac) X 12 20 788 iw_12 rfl (by decide) (by decide) gm.1 rfl kw_1507 rfl rfl gm.2.1 dX12_heardOn_15 ?_
    refine aw_sipush (pc := 18) X dX12_heardOn_18 rfl ?_
    refine aw_iload_n (pc := 21) X dX12_heardOn_21 1 rfl ?_
    refine aw_iadd (pc := 22) X dX12_heardOn_22 ?_
    obtain ⟨g3, hf⟩ := gd_some hf
    refine aw_iald (pc := 23) X (mi_k gm) (w32_rg _) (mi_b gm g3) dX12_heardOn_23 ?_
    refine aw_icmp_ge (pc := 24) (tgt := 29) X r_a2 gA_rg dX12_heardOn_24 (by decide) (fun z4 => ?_) (fun z4 => ?_)
    · have hf := it_f z4 hf
      refine aw_aload_n (pc := 29) X dX12_heardOn_29 0 rfl ?_
      refine aw_getR (pc := 30) (q9 := ac) X 12 20 788 iw_12 rfl (by decide) (by decide) gm.1 rfl kw_1507 rfl rfl gm.2.1 dX12_heardOn_30 ?_
      refine aw_sipush (pc := 33) X dX12_heardOn_33 rfl ?_
      refine aw_iload_n (pc := 36) X dX12_heardOn_36 1 rfl ?_
      refine aw_iadd (pc := 37) X dX12_heardOn_37 ?_
      obtain ⟨g5, hf⟩ := gd_some hf
      refine aw_iald (pc := 38) X (mi_k gm) (w32_rg _) (mi_b gm g5) dX12_heardOn_38 ?_
      refine aw_aload_n (pc := 39) X dX12_heardOn_39 0 rfl ?_
      refine aw_iload_n (pc := 40) X dX12_heardOn_40 1 rfl ?_
      refine aw_aload_n (pc := 41) X dX12_heardOn_41 0 rfl ?_
      refine aw_getR (pc := 42) (q9 := ac) X 12 20 788 iw_12 rfl (by decide) (by decide) gm.1 rfl kw_1507 rfl rfl gm.2.1 dX12_heardOn_42 ?_
      refine aw_sipush (pc := 45) X dX12_heardOn_45 rfl ?_
      refine aw_iload_n (pc := 48) X dX12_heardOn_48 1 rfl ?_
      refine aw_iadd (pc := 49) X dX12_heardOn_49 ?_
      obtain ⟨g6, hf⟩ := gd_some hf
      refine aw_iald (pc := 50) X (mi_k gm) (w32_rg _) (mi_b gm g6) dX12_heardOn_50 ?_
      refine aw_iload_n (pc := 51) X dX12_heardOn_51 2 rfl ?_
      refine aw_aload_n (pc := 52) X dX12_heardOn_52 0 rfl ?_
      refine aw_getR (pc := 53) (q9 := ac) X 12 20 788 iw_12 rfl (by decide) (by decide) gm.1 rfl kw_1507 rfl rfl gm.2.1 dX12_heardOn_53 ?_
      refine aw_sipush (pc := 56) X dX12_heardOn_56 rfl ?_
      refine aw_iload_n (pc := 59) X dX12_heardOn_59 1 rfl ?_
      refine aw_iadd (pc := 60) X dX12_heardOn_60 ?_
      obtain ⟨g7, hf⟩ := gd_some hf
      refine aw_iald (pc := 61) X (mi_k gm) (w32_rg _) (mi_b gm g7) dX12_heardOn_61 ?_
      refine aw_isub (pc := 62) X dX12_heardOn_62 ?_
      obtain ⟨r8, g9, hf⟩ := bd_some hf
      refine aw_invV (pc := 63) X (kX12_goneOf gm r_a1 gA_rg (w32_rg _) g9) mw_yX12_goneOf kw_1928 kw_1930 kw_106 gm.1 rfl (by decide) rfl ⟨Nat.le_of_ble_eq_true rfl, Nat.le_of_ble_eq_true rfl⟩ rfl (Nat.le_of_ble_eq_true rfl) ⟨Nat.le_of_ble_eq_true rfl, Nat.le_of_ble_eq_true rfl⟩ dX12_heardOn_63 ?_
      refine aw_ret1 (k' := 0) (n' := 0) rfl rfl ?_
      have r_r8 := gX12_goneOf (fun _ => gA_rg) r_a1 gA_rg (w32_rg _) g9
      refine aw_isub (pc := 66) X dX12_heardOn_66 ?_
      cases hf
      exact aw_iret (pc := 67) X hr hlk rfl rfl dX12_heardOn_67
    · have hf := it_t z4 hf
      refine aw_iconst (pc := 27) X dX12_heardOn_27 ?_
      cases hf
      exact aw_iret (pc := 28) X hr hlk rfl rfl dX12_heardOn_28

def fX12_heardNow (c0 : Nat → Int) (a1 : Int) : Option Int :=
    gd (inA 0 1850) <|
    bd (fX12_heardOn c0 a1 (c0 ((0 : Int).toNat))) fun r2 =>
    some r2

set_option maxHeartbeats 4000000 in
set_option maxRecDepth 100000 in
theorem gX12_heardNow {a1 : Int} {c0 : Nat → Int} (rc : ∀ i, rg (c0 i)) {r : Int} (r_a1 : rg a1) (hf : fX12_heardNow c0 a1 = some r) : rg r := by
  rw [fX12_heardNow.eq_1] at hf
  obtain ⟨g1, hf⟩ := gd_some hf
  obtain ⟨r2, g3, hf⟩ := bd_some hf
  have r_r2 := gX12_heardOn rc r_a1 (rc _) g3
  cases hf
  exact r_r2

set_option maxHeartbeats 4000000 in
set_option maxRecDepth 100000 in
theorem kX12_heardNow {D : va_G} {cy : Nat → ClassId} {B : Nat} {l : Launch} {h : Hp} {t0 : Nat} {a1 : Int} {ac : Nat} (gm : MI1 h t0 ac) (r_a1 : rg a1) {r : Int} (hf : fX12_heardNow (gA h ac) a1 = some r) : CT D cy B l yX12_heardNow cX12_heardNow 2 (some FieldType.int) 6 165 0 0 [.ref t0, vI a1] h (some (vI r)) h := by
  refine ct_intro (own := RX12) (by decide) rfl (Nat.le_of_ble_eq_true rfl) fun p e s m args below meth c X hr hlk hnm => ?_
  refine aw_lv (lv' := [(0, .ref t0), (1, vI a1)]) rfl ?_
  rw [fX12_heardNow.eq_1] at hf
  refine aw_aload_n (pc := 0) X dX12_heardNow_0 0 rfl ?_
  refine aw_iload_n (pc := 1) X dX12_heardNow_1 1 rfl ?_
  refine aw_aload_n (pc := 2) X dX12_heardNow_2 0 rfl ?_
  refine aw_getR (pc := 3) (q9 := ac) X 12 20 788 iw_12 rfl (by decide) (by decide) gm.1 rfl kw_1507 rfl rfl gm.2.1 dX12_heardNow_3 ?_
  refine aw_iconst (pc := 6) X dX12_heardNow_6 ?_
  obtain ⟨g1, hf⟩ := gd_some hf
  refine aw_iald (pc := 7) X (mi_k gm) (rg_lit rfl) (mi_b gm g1) dX12_heardNow_7 ?_
  obtain ⟨r2, g3, hf⟩ := bd_some hf
  refine aw_invV (pc := 8) X (kX12_heardOn gm r_a1 gA_rg g3) mw_yX12_heardOn kw_1924 kw_1926 kw_105 gm.1 rfl (by decide) rfl ⟨Nat.le_of_ble_eq_true rfl, Nat.le_of_ble_eq_true rfl⟩ rfl (Nat.le_of_ble_eq_true rfl) ⟨Nat.le_of_ble_eq_true rfl, Nat.le_of_ble_eq_true rfl⟩ dX12_heardNow_8 ?_
  refine aw_ret1 (k' := 0) (n' := 0) rfl rfl ?_
  have r_r2 := gX12_heardOn (fun _ => gA_rg) r_a1 gA_rg g3
  cases hf
  exact aw_iret (pc := 11) X hr hlk rfl rfl dX12_heardNow_11

def fX12_headGone (c0 : Nat → Int) (a1 : Int) (a2 : Int) : Option Int :=
    gd (inA (w32 (156 + a1)) 1850) <|
    if (c0 (w32 (156 + a1)).toNat) = 0 then (
      some a2)
    else
    gd (inA (w32 (156 + a1)) 1850) <|
    if (c0 (w32 (156 + a1)).toNat) = 1 then (
      some 0)
    else
    some (idv (w32 (a2 + 1)) 2)

set_option maxHeartbeats 4000000 in
set_option maxRecDepth 100000 in
theorem gX12_headGone {a1 : Int} {a2 : Int} {c0 : Nat → Int} (rc : ∀ i, rg (c0 i)) {r : Int} (r_a1 : rg a1) (r_a2 : rg a2) (hf : fX12_headGone c0 a1 a2 = some r) : rg r := by
  rw [fX12_headGone.eq_1] at hf
  obtain ⟨g1, hf⟩ := gd_some hf
  by_cases z2 : (c0 (w32 (156 + a1)).toNat) = 0
  · have hf := it_t z2 hf
    cases hf
    exact r_a2
  · have hf := it_f z2 hf
    obtain ⟨g3, hf⟩ := gd_some hf
    by_cases z4 : (c0 (w32 (156 + a1)).toNat) = 1
    · have hf := it_t z4 hf
      cases hf
      exact (rg_lit rfl)
    · have hf := it_f z4 hf
      cases hf
      exact (ti_rg _)

set_option maxHeartbeats 4000000 in
set_option maxRecDepth 100000 in
theorem kX12_headGone {D : va_G} {cy : Nat → ClassId} {B : Nat} {l : Launch} {h : Hp} {t0 : Nat} {a1 : Int} {a2 : Int} {ac : Nat} (gm : MI1 h t0 ac) (r_a1 : rg a1) (r_a2 : rg a2) {r : Int} (hf : fX12_headGone (gA h ac) a1 a2 = some r) : CT D cy B l yX12_headGone cX12_headGone 3 (some FieldType.int) 2 80 0 0 [.ref t0, vI a1, vI a2] h (some (vI r)) h := by
  refine ct_intro (own := RX12) (by decide) rfl (Nat.le_of_ble_eq_true rfl) fun p e s m args below meth c X hr hlk hnm => ?_
  refine aw_lv (lv' := [(0, .ref t0), (1, vI a1), (2, vI a2)]) rfl ?_
  rw [fX12_headGone.eq_1] at hf
  refine aw_aload_n (pc := 0) X dX12_headGone_0 0 rfl ?_
  refine aw_getR (pc := 1) (q9 := ac) X 12 20 788 iw_12 rfl (by decide) (by decide) gm.1 rfl kw_1507 rfl rfl gm.2.1 dX12_headGone_1 ?_
  refine aw_sipush (pc := 4) X dX12_headGone_4 rfl ?_
  refine aw_iload_n (pc := 7) X dX12_headGone_7 1 rfl ?_
  refine aw_iadd (pc := 8) X dX12_headGone_8 ?_
  obtain ⟨g1, hf⟩ := gd_some hf
  refine aw_iald (pc := 9) X (mi_k gm) (w32_rg _) (mi_b gm g1) dX12_headGone_9 ?_
  refine aw_if_ne (pc := 10) (tgt := 17) X gA_rg dX12_headGone_10 (by decide) (fun z2 => ?_) (fun z2 => ?_)
  · have hf := it_f z2 hf
    refine aw_aload_n (pc := 17) X dX12_headGone_17 0 rfl ?_
    refine aw_getR (pc := 18) (q9 := ac) X 12 20 788 iw_12 rfl (by decide) (by decide) gm.1 rfl kw_1507 rfl rfl gm.2.1 dX12_headGone_18 ?_
    refine aw_sipush (pc := 21) X dX12_headGone_21 rfl ?_
    refine aw_iload_n (pc := 24) X dX12_headGone_24 1 rfl ?_
    refine aw_iadd (pc := 25) X dX12_headGone_25 ?_
    obtain ⟨g3, hf⟩ := gd_some hf
    refine aw_iald (pc := 26) X (mi_k gm) (w32_rg _) (mi_b gm g3) dX12_headGone_26 ?_
    refine aw_iconst (pc := 27) X dX12_headGone_27 ?_
    refine aw_icmp_ne (pc := 28) (tgt := 35) X gA_rg (rg_lit rfl) dX12_headGone_28 (by decide) (fun z4 => ?_) (fun z4 => ?_)
    · have hf := it_f z4 hf
      refine aw_iload_n (pc := 35) X dX12_headGone_35 2 rfl ?_
      refine aw_iconst (pc := 36) X dX12_headGone_36 ?_
      refine aw_iadd (pc := 37) X dX12_headGone_37 ?_
      refine aw_iconst (pc := 38) X dX12_headGone_38 ?_
      refine aw_idiv (pc := 39) X (rg_lit rfl) (by decide) dX12_headGone_39 ?_
      cases hf
      exact aw_iret (pc := 40) X hr hlk rfl rfl dX12_headGone_40
    · have hf := it_t z4 hf
      refine aw_iconst (pc := 31) X dX12_headGone_31 ?_
      refine aw_goto (pc := 32) (tgt := 40) X dX12_headGone_32 (by decide) ?_
      cases hf
      exact aw_iret (pc := 40) X hr hlk rfl rfl dX12_headGone_40
  · have hf := it_t z2 hf
    refine aw_iload_n (pc := 13) X dX12_headGone_13 2 rfl ?_
    refine aw_goto (pc := 14) (tgt := 40) X dX12_headGone_14 (by decide) ?_
    cases hf
    exact aw_iret (pc := 40) X hr hlk rfl rfl dX12_headGone_40

def fX12_heardLetter (c0 : Nat → Int) (a1 : Int) (a2 : Int) : Option Int :=
    gd (inA (w32 (188 + a1)) 1850) <|
    bd (fX12_heardNow c0 a1) fun r2 =>
    bd (fX12_headGone c0 a1 (w32 ((c0 (w32 (188 + a1)).toNat) - r2))) fun r4 =>
    gd (inA (w32 ((w32 ((w32 (212 + (w32 (12 * a1)))) + r4)) + a2)) 1850) <|
    some (c0 (w32 ((w32 ((w32 (212 + (w32 (12 * a1)))) + r4)) + a2)).toNat)

set_option maxHeartbeats 4000000 in
set_option maxRecDepth 100000 in
theorem gX12_heardLetter {a1 : Int} {a2 : Int} {c0 : Nat → Int} (rc : ∀ i, rg (c0 i)) {r : Int} (r_a1 : rg a1) (r_a2 : rg a2) (hf : fX12_heardLetter c0 a1 a2 = some r) : rg r := by
  rw [fX12_heardLetter.eq_1] at hf
  obtain ⟨g1, hf⟩ := gd_some hf
  obtain ⟨r2, g3, hf⟩ := bd_some hf
  have r_r2 := gX12_heardNow rc r_a1 g3
  obtain ⟨r4, g5, hf⟩ := bd_some hf
  have r_r4 := gX12_headGone rc r_a1 (w32_rg _) g5
  obtain ⟨g6, hf⟩ := gd_some hf
  cases hf
  exact (rc _)

set_option maxHeartbeats 4000000 in
set_option maxRecDepth 100000 in
theorem kX12_heardLetter {D : va_G} {cy : Nat → ClassId} {B : Nat} {l : Launch} {h : Hp} {t0 : Nat} {a1 : Int} {a2 : Int} {ac : Nat} (gm : MI1 h t0 ac) (r_a1 : rg a1) (r_a2 : rg a2) {r : Int} (hf : fX12_heardLetter (gA h ac) a1 a2 = some r) : CT D cy B l yX12_heardLetter cX12_heardLetter 3 (some FieldType.int) 8 206 0 0 [.ref t0, vI a1, vI a2] h (some (vI r)) h := by
  refine ct_intro (own := RX12) (by decide) rfl (Nat.le_of_ble_eq_true rfl) fun p e s m args below meth c X hr hlk hnm => ?_
  refine aw_lv (lv' := [(0, .ref t0), (1, vI a1), (2, vI a2)]) rfl ?_
  rw [fX12_heardLetter.eq_1] at hf
  refine aw_aload_n (pc := 0) X dX12_heardLetter_0 0 rfl ?_
  refine aw_getR (pc := 1) (q9 := ac) X 12 20 788 iw_12 rfl (by decide) (by decide) gm.1 rfl kw_1507 rfl rfl gm.2.1 dX12_heardLetter_1 ?_
  refine aw_sipush (pc := 4) X dX12_heardLetter_4 rfl ?_
  refine aw_bipush (pc := 7) X dX12_heardLetter_7 rfl ?_
  refine aw_iload_n (pc := 9) X dX12_heardLetter_9 1 rfl ?_
  refine aw_imul (pc := 10) X dX12_heardLetter_10 ?_
  refine aw_iadd (pc := 11) X dX12_heardLetter_11 ?_
  refine aw_aload_n (pc := 12) X dX12_heardLetter_12 0 rfl ?_
  refine aw_iload_n (pc := 13) X dX12_heardLetter_13 1 rfl ?_
  refine aw_aload_n (pc := 14) X dX12_heardLetter_14 0 rfl ?_
  refine aw_getR (pc := 15) (q9 := ac) X 12 20 788 iw_12 rfl (by decide) (by decide) gm.1 rfl kw_1507 rfl rfl gm.2.1 dX12_heardLetter_15 ?_
  refine aw_sipush (pc := 18) X dX12_heardLetter_18 rfl ?_
  refine aw_iload_n (pc := 21) X dX12_heardLetter_21 1 rfl ?_
  refine aw_iadd (pc := 22) X dX12_heardLetter_22 ?_
  obtain ⟨g1, hf⟩ := gd_some hf
  refine aw_iald (pc := 23) X (mi_k gm) (w32_rg _) (mi_b gm g1) dX12_heardLetter_23 ?_
  refine aw_aload_n (pc := 24) X dX12_heardLetter_24 0 rfl ?_
  refine aw_iload_n (pc := 25) X dX12_heardLetter_25 1 rfl ?_
  obtain ⟨r2, g3, hf⟩ := bd_some hf
  refine aw_invV (pc := 26) X (kX12_heardNow gm r_a1 g3) mw_yX12_heardNow kw_1920 kw_1922 kw_104 gm.1 rfl (by decide) rfl ⟨Nat.le_of_ble_eq_true rfl, Nat.le_of_ble_eq_true rfl⟩ rfl (Nat.le_of_ble_eq_true rfl) ⟨Nat.le_of_ble_eq_true rfl, Nat.le_of_ble_eq_true rfl⟩ dX12_heardLetter_26 ?_
  refine aw_ret1 (k' := 0) (n' := 0) rfl rfl ?_
  have r_r2 := gX12_heardNow (fun _ => gA_rg) r_a1 g3
  refine aw_isub (pc := 29) X dX12_heardLetter_29 ?_
  obtain ⟨r4, g5, hf⟩ := bd_some hf
  refine aw_invV (pc := 30) X (kX12_headGone gm r_a1 (w32_rg _) g5) mw_yX12_headGone kw_1940 kw_1942 kw_108 gm.1 rfl (by decide) rfl ⟨Nat.le_of_ble_eq_true rfl, Nat.le_of_ble_eq_true rfl⟩ rfl (Nat.le_of_ble_eq_true rfl) ⟨Nat.le_of_ble_eq_true rfl, Nat.le_of_ble_eq_true rfl⟩ dX12_heardLetter_30 ?_
  refine aw_ret1 (k' := 0) (n' := 0) rfl rfl ?_
  have r_r4 := gX12_headGone (fun _ => gA_rg) r_a1 (w32_rg _) g5
  refine aw_iadd (pc := 33) X dX12_heardLetter_33 ?_
  refine aw_iload_n (pc := 34) X dX12_heardLetter_34 2 rfl ?_
  refine aw_iadd (pc := 35) X dX12_heardLetter_35 ?_
  obtain ⟨g6, hf⟩ := gd_some hf
  refine aw_iald (pc := 36) X (mi_k gm) (w32_rg _) (mi_b gm g6) dX12_heardLetter_36 ?_
  cases hf
  exact aw_iret (pc := 37) X hr hlk rfl rfl dX12_heardLetter_37

def fX12_lapsOf_b75 (c0 : Nat → Int) (a1 : Int) (a2 : Int) (k16 : Int → Option Int) (v3 : Int) (v4 : Int) : Option Int :=
    if v4 = 0 then (
      lt (α := Int) (w32 (v3 + (-1))) fun x2 =>
      k16 x2)
    else
    some v3

def fX12_lapsOf_b26 (c0 : Nat → Int) (a1 : Int) (a2 : Int) (k16 : Int → Option Int) : Nat → Int → Int → Int → Option Int
  | 0, _, _, _ => none
  | fu + 1, v3, v4, v5 =>
    if v5 < v3 then (
      if v4 = 0 then (
        fX12_lapsOf_b75 c0 a1 a2 k16 v3 v4)
      else
      bd (fX12_heardNow c0 a1) fun r3 =>
      bd (fX12_heardLetter c0 a1 (w32 ((w32 (r3 - v3)) + v5))) fun r5 =>
      bd (fX12_heardLetter c0 a2 v5) fun r7 =>
      lt (α := Int) (if r5 = r7 then 1 else 0) fun x10 =>
      lt (α := Int) (w32 (v5 + 1)) fun x11 =>
      fX12_lapsOf_b26 c0 a1 a2 k16 fu v3 x10 x11)
    else
    fX12_lapsOf_b75 c0 a1 a2 k16 v3 v4

def fX12_lapsOf_b16 (c0 : Nat → Int) (a1 : Int) (a2 : Int) : Nat → Int → Option Int
  | 0, _ => none
  | fu + 1, v3 =>
    if 0 < v3 then (
      fX12_lapsOf_b26 c0 a1 a2 (fX12_lapsOf_b16 c0 a1 a2 fu) FU v3 1 0)
    else
    some 0

def fX12_lapsOf (c0 : Nat → Int) (a1 : Int) (a2 : Int) : Option Int :=
    bd (fX12_heardNow c0 a1) fun r1 =>
    bd (fX12_heardNow c0 a2) fun r3 =>
    lt (α := Int) (w32 ((min r1 r3) - 1)) fun x5 =>
    fX12_lapsOf_b16 c0 a1 a2 FU x5

set_option maxHeartbeats 4000000 in
set_option maxRecDepth 100000 in
theorem gX12_lapsOf_b75 {a1 : Int} {a2 : Int} {r : Int} {k16 : Int → Option Int} {c0 : Nat → Int} (rc : ∀ i, rg (c0 i)) (r_a1 : rg a1) (r_a2 : rg a2) (H16 : ∀ (v3 : Int), rg v3 → k16 v3 = some r → rg r) : ∀ (v3 : Int) (v4 : Int), rg v3 → rg v4 → fX12_lapsOf_b75 c0 a1 a2 k16 v3 v4 = some r → rg r := by
  intro v3 v4 r_v3 r_v4 hf
  rw [fX12_lapsOf_b75.eq_1] at hf
  by_cases z1 : v4 = 0
  · have hf := it_t z1 hf
    obtain ⟨x2, ex2, hf⟩ := lt_some hf
    have r_x2 : rg x2 := by rw [ex2]; exact w32_rg _
    exact H16 _ r_x2 hf
  · have hf := it_f z1 hf
    cases hf
    exact r_v3

set_option maxHeartbeats 4000000 in
set_option maxRecDepth 100000 in
theorem gX12_lapsOf_b26 {a1 : Int} {a2 : Int} {r : Int} {k16 : Int → Option Int} {c0 : Nat → Int} (rc : ∀ i, rg (c0 i)) (r_a1 : rg a1) (r_a2 : rg a2) (H16 : ∀ (v3 : Int), rg v3 → k16 v3 = some r → rg r) : ∀ (fu : Nat) (v3 : Int) (v4 : Int) (v5 : Int), rg v3 → rg v4 → rg v5 → fX12_lapsOf_b26 c0 a1 a2 k16 fu v3 v4 v5 = some r → rg r := by
  intro fu
  induction fu with
  | zero => intro v3 v4 v5 r_v3 r_v4 r_v5 hf; rw [fX12_lapsOf_b26.eq_1] at hf; cases hf
  | succ fu ih =>
    intro v3 v4 v5 r_v3 r_v4 r_v5 hf
    rw [fX12_lapsOf_b26.eq_2] at hf
    by_cases z1 : v5 < v3
    · have hf := it_t z1 hf
      by_cases z2 : v4 = 0
      · have hf := it_t z2 hf
        exact gX12_lapsOf_b75 rc r_a1 r_a2 H16 _ _ r_v3 r_v4 hf
      · have hf := it_f z2 hf
        obtain ⟨r3, g4, hf⟩ := bd_some hf
        have r_r3 := gX12_heardNow rc r_a1 g4
        obtain ⟨r5, g6, hf⟩ := bd_some hf
        have r_r5 := gX12_heardLetter rc r_a1 (w32_rg _) g6
        obtain ⟨r7, g8, hf⟩ := bd_some hf
        have r_r7 := gX12_heardLetter rc r_a2 r_v5 g8
        obtain ⟨x10, ex10, hf⟩ := lt_some hf
        have r_x10 : rg x10 := by rw [ex10]; exact (by split <;> exact rg_lit rfl)
        have z_x10 : x10 = 0 ∨ x10 = 1 := by rw [ex10]; exact b2i_01
        obtain ⟨x11, ex11, hf⟩ := lt_some hf
        have r_x11 : rg x11 := by rw [ex11]; exact w32_rg _
        exact ih _ _ _ r_v3 r_x10 r_x11 hf
    · have hf := it_f z1 hf
      exact gX12_lapsOf_b75 rc r_a1 r_a2 H16 _ _ r_v3 r_v4 hf

set_option maxHeartbeats 4000000 in
set_option maxRecDepth 100000 in
theorem gX12_lapsOf_b16 {a1 : Int} {a2 : Int} {r : Int} {c0 : Nat → Int} (rc : ∀ i, rg (c0 i)) (r_a1 : rg a1) (r_a2 : rg a2) : ∀ (fu : Nat) (v3 : Int), rg v3 → fX12_lapsOf_b16 c0 a1 a2 fu v3 = some r → rg r := by
  intro fu
  induction fu with
  | zero => intro v3 r_v3 hf; rw [fX12_lapsOf_b16.eq_1] at hf; cases hf
  | succ fu ih =>
    intro v3 r_v3 hf
    rw [fX12_lapsOf_b16.eq_2] at hf
    by_cases z1 : 0 < v3
    · have hf := it_t z1 hf
      exact gX12_lapsOf_b26 rc r_a1 r_a2 ih _ _ _ _ r_v3 (rg_lit rfl) (rg_lit rfl) hf
    · have hf := it_f z1 hf
      cases hf
      exact (rg_lit rfl)

set_option maxHeartbeats 4000000 in
set_option maxRecDepth 100000 in
theorem gX12_lapsOf {a1 : Int} {a2 : Int} {c0 : Nat → Int} (rc : ∀ i, rg (c0 i)) {r : Int} (r_a1 : rg a1) (r_a2 : rg a2) (hf : fX12_lapsOf c0 a1 a2 = some r) : rg r := by
  rw [fX12_lapsOf.eq_1] at hf
  obtain ⟨r1, g2, hf⟩ := bd_some hf
  have r_r1 := gX12_heardNow rc r_a1 g2
  obtain ⟨r3, g4, hf⟩ := bd_some hf
  have r_r3 := gX12_heardNow rc r_a2 g4
  obtain ⟨x5, ex5, hf⟩ := lt_some hf
  have r_x5 : rg x5 := by rw [ex5]; exact (w32_rg _)
  exact gX12_lapsOf_b16 rc r_a1 r_a2 _ _ r_x5 hf

set_option maxHeartbeats 4000000 in
set_option maxRecDepth 100000 in
theorem wX12_lapsOf_b75 {D : va_G} {cy : Nat → ClassId} {B : Nat} {p : Program} {l : Launch} {e : Env} {s : State} {m : MethodId} {args : Array Value} {below : List Frame} {meth : Method} {c : Code} {h : Hp} {ac : Nat} {t0 : Nat} {a1 : Int} {a2 : Int} {r : Int} {k16 : Int → Option Int} (X : CXd D cy B p s m args c cX12_lapsOf RX12 6) (hr : meth.sig.returnType = (some FieldType.int)) (hlk : meth.locks = false) (gm : MI1 h t0 ac) (r_a1 : rg a1) (r_a2 : rg a2) (H16 : ∀ (v3 : Int), rg v3 → k16 v3 = some r → AWd D cy B p l e { frames := 10, cells := 0, slots := 0, locals := 248 } s m args below meth c 6 (MQr D cy B below (some (vI r)) h args s 0 0) h 0 0 16 [(0, .ref t0), (1, vI a1), (2, vI a2), (3, vI v3)] []) : ∀ (v3 : Int) (v4 : Int), rg v3 → rg v4 → fX12_lapsOf_b75 (gA h ac) a1 a2 k16 v3 v4 = some r → AWd D cy B p l e { frames := 10, cells := 0, slots := 0, locals := 248 } s m args below meth c 6 (MQr D cy B below (some (vI r)) h args s 0 0) h 0 0 75 [(0, .ref t0), (1, vI a1), (2, vI a2), (3, vI v3), (4, vI v4)] [] := by
  intro v3 v4 r_v3 r_v4 hf
  rw [fX12_lapsOf_b75.eq_1] at hf
  refine aw_iload (pc := 75) X dX12_lapsOf_75 4 rfl ?_
  refine aw_if_eq (pc := 77) (tgt := 82) X r_v4 dX12_lapsOf_77 (by decide) (fun z1 => ?_) (fun z1 => ?_)
  · have hf := it_t z1 hf
    obtain ⟨x2, ex2, hf⟩ := lt_some hf
    have r_x2 : rg x2 := by rw [ex2]; exact w32_rg _
    refine aw_iinc (pc := 82) (lv' := [(3, vI x2), (0, .ref t0), (1, vI a1), (2, vI a2), (4, vI v4)]) X dX12_lapsOf_82 3 rfl (by decide) (by rw [ex2]; rfl) ?_
    refine aw_goto (pc := 85) (tgt := 16) X dX12_lapsOf_85 (by decide) ?_
    refine aw_sub [1, 2, 3, 0] rfl ?_
    exact H16 _ r_x2 hf
  · have hf := it_f z1 hf
    refine aw_iload_n (pc := 80) X dX12_lapsOf_80 3 rfl ?_
    cases hf
    exact aw_iret (pc := 81) X hr hlk rfl rfl dX12_lapsOf_81

set_option maxHeartbeats 4000000 in
set_option maxRecDepth 100000 in
theorem wX12_lapsOf_b26 {D : va_G} {cy : Nat → ClassId} {B : Nat} {p : Program} {l : Launch} {e : Env} {s : State} {m : MethodId} {args : Array Value} {below : List Frame} {meth : Method} {c : Code} {h : Hp} {ac : Nat} {t0 : Nat} {a1 : Int} {a2 : Int} {r : Int} {k16 : Int → Option Int} (X : CXd D cy B p s m args c cX12_lapsOf RX12 6) (hr : meth.sig.returnType = (some FieldType.int)) (hlk : meth.locks = false) (gm : MI1 h t0 ac) (r_a1 : rg a1) (r_a2 : rg a2) (H16 : ∀ (v3 : Int), rg v3 → k16 v3 = some r → AWd D cy B p l e { frames := 10, cells := 0, slots := 0, locals := 248 } s m args below meth c 6 (MQr D cy B below (some (vI r)) h args s 0 0) h 0 0 16 [(0, .ref t0), (1, vI a1), (2, vI a2), (3, vI v3)] []) : ∀ (fu : Nat) (v3 : Int) (v4 : Int) (v5 : Int), rg v3 → rg v4 → rg v5 → fX12_lapsOf_b26 (gA h ac) a1 a2 k16 fu v3 v4 v5 = some r → AWd D cy B p l e { frames := 10, cells := 0, slots := 0, locals := 248 } s m args below meth c 6 (MQr D cy B below (some (vI r)) h args s 0 0) h 0 0 26 [(0, .ref t0), (1, vI a1), (2, vI a2), (3, vI v3), (4, vI v4), (5, vI v5)] [] := by
  intro fu
  induction fu with
  | zero => intro v3 v4 v5 r_v3 r_v4 r_v5 hf; rw [fX12_lapsOf_b26.eq_1] at hf; cases hf
  | succ fu ih =>
    intro v3 v4 v5 r_v3 r_v4 r_v5 hf
    rw [fX12_lapsOf_b26.eq_2] at hf
    refine aw_iload (pc := 26) X dX12_lapsOf_26 5 rfl ?_
    refine aw_iload_n (pc := 28) X dX12_lapsOf_28 3 rfl ?_
    refine aw_icmp_ge (pc := 29) (tgt := 75) X r_v5 r_v3 dX12_lapsOf_29 (by decide) (fun z1 => ?_) (fun z1 => ?_)
    · have hf := it_f z1 hf
      refine aw_sub [0, 1, 2, 3, 4] rfl ?_
      exact wX12_lapsOf_b75 X hr hlk gm r_a1 r_a2 H16 _ _ r_v3 r_v4 hf
    · have hf := it_t z1 hf
      refine aw_iload (pc := 32) X dX12_lapsOf_32 4 rfl ?_
      refine aw_if_eq (pc := 34) (tgt := 75) X r_v4 dX12_lapsOf_34 (by decide) (fun z2 => ?_) (fun z2 => ?_)
      · have hf := it_t z2 hf
        refine aw_sub [0, 1, 2, 3, 4] rfl ?_
        exact wX12_lapsOf_b75 X hr hlk gm r_a1 r_a2 H16 _ _ r_v3 r_v4 hf
      · have hf := it_f z2 hf
        refine aw_aload_n (pc := 37) X dX12_lapsOf_37 0 rfl ?_
        refine aw_iload_n (pc := 38) X dX12_lapsOf_38 1 rfl ?_
        refine aw_aload_n (pc := 39) X dX12_lapsOf_39 0 rfl ?_
        refine aw_iload_n (pc := 40) X dX12_lapsOf_40 1 rfl ?_
        obtain ⟨r3, g4, hf⟩ := bd_some hf
        refine aw_invV (pc := 41) X (kX12_heardNow gm r_a1 g4) mw_yX12_heardNow kw_1920 kw_1922 kw_104 gm.1 rfl (by decide) rfl ⟨Nat.le_of_ble_eq_true rfl, Nat.le_of_ble_eq_true rfl⟩ rfl (Nat.le_of_ble_eq_true rfl) ⟨Nat.le_of_ble_eq_true rfl, Nat.le_of_ble_eq_true rfl⟩ dX12_lapsOf_41 ?_
        refine aw_ret1 (k' := 0) (n' := 0) rfl rfl ?_
        have r_r3 := gX12_heardNow (fun _ => gA_rg) r_a1 g4
        refine aw_iload_n (pc := 44) X dX12_lapsOf_44 3 rfl ?_
        refine aw_isub (pc := 45) X dX12_lapsOf_45 ?_
        refine aw_iload (pc := 46) X dX12_lapsOf_46 5 rfl ?_
        refine aw_iadd (pc := 48) X dX12_lapsOf_48 ?_
        obtain ⟨r5, g6, hf⟩ := bd_some hf
        refine aw_invV (pc := 49) X (kX12_heardLetter gm r_a1 (w32_rg _) g6) mw_yX12_heardLetter kw_1936 kw_1938 kw_107 gm.1 rfl (by decide) rfl ⟨Nat.le_of_ble_eq_true rfl, Nat.le_of_ble_eq_true rfl⟩ rfl (Nat.le_of_ble_eq_true rfl) ⟨Nat.le_of_ble_eq_true rfl, Nat.le_of_ble_eq_true rfl⟩ dX12_lapsOf_49 ?_
        refine aw_ret1 (k' := 0) (n' := 0) rfl rfl ?_
        have r_r5 := gX12_heardLetter (fun _ => gA_rg) r_a1 (w32_rg _) g6
        refine aw_aload_n (pc := 52) X dX12_lapsOf_52 0 rfl ?_
        refine aw_iload_n (pc := 53) X dX12_lapsOf_53 2 rfl ?_
        refine aw_iload (pc := 54) X dX12_lapsOf_54 5 rfl ?_
        obtain ⟨r7, g8, hf⟩ := bd_some hf
        refine aw_invV (pc := 56) X (kX12_heardLetter gm r_a2 r_v5 g8) mw_yX12_heardLetter kw_1936 kw_1938 kw_107 gm.1 rfl (by decide) rfl ⟨Nat.le_of_ble_eq_true rfl, Nat.le_of_ble_eq_true rfl⟩ rfl (Nat.le_of_ble_eq_true rfl) ⟨Nat.le_of_ble_eq_true rfl, Nat.le_of_ble_eq_true rfl⟩ dX12_lapsOf_56 ?_
        refine aw_ret1 (k' := 0) (n' := 0) rfl rfl ?_
        have r_r7 := gX12_heardLetter (fun _ => gA_rg) r_a2 r_v5 g8
        have K12 : AWd D cy B p l e { frames := 10, cells := 0, slots := 0, locals := 248 } s m args below meth c 6 (MQr D cy B below (some (vI r)) h args s 0 0) h 0 0 67 [(0, .ref t0), (1, vI a1), (2, vI a2), (3, vI v3), (4, vI v4), (5, vI v5)] (vI (if r5 = r7 then 1 else 0) :: []) := by
          obtain ⟨x10, ex10, hf⟩ := lt_some hf
          refine aw_topI ex10 ?_
          have r_x10 : rg x10 := by rw [ex10]; exact (by split <;> exact rg_lit rfl)
          have z_x10 : x10 = 0 ∨ x10 = 1 := by rw [ex10]; exact b2i_01
          refine aw_istore (pc := 67) (lv' := [(4, vI x10), (0, .ref t0), (1, vI a1), (2, vI a2), (3, vI v3), (5, vI v5)]) X dX12_lapsOf_67 (by decide) rfl ?_
          obtain ⟨x11, ex11, hf⟩ := lt_some hf
          have r_x11 : rg x11 := by rw [ex11]; exact w32_rg _
          refine aw_iinc (pc := 69) (lv' := [(5, vI x11), (4, vI x10), (0, .ref t0), (1, vI a1), (2, vI a2), (3, vI v3)]) X dX12_lapsOf_69 5 rfl (by decide) (by rw [ex11]; rfl) ?_
          refine aw_goto (pc := 72) (tgt := 26) X dX12_lapsOf_72 (by decide) ?_
          refine aw_sub [2, 3, 4, 5, 1, 0] rfl ?_
          exact ih _ _ _ r_v3 r_x10 r_x11 hf
        refine aw_icmp_ne (pc := 59) (tgt := 66) X r_r5 r_r7 dX12_lapsOf_59 (by decide) (fun z9 => ?_) (fun z9 => ?_)
        · refine aw_iconst (pc := 66) X dX12_lapsOf_66 ?_
          exact aw_iteF z9 K12
        · refine aw_iconst (pc := 62) X dX12_lapsOf_62 ?_
          refine aw_goto (pc := 63) (tgt := 67) X dX12_lapsOf_63 (by decide) ?_
          exact aw_iteT z9 K12

set_option maxHeartbeats 4000000 in
set_option maxRecDepth 100000 in
theorem wX12_lapsOf_b16 {D : va_G} {cy : Nat → ClassId} {B : Nat} {p : Program} {l : Launch} {e : Env} {s : State} {m : MethodId} {args : Array Value} {below : List Frame} {meth : Method} {c : Code} {h : Hp} {ac : Nat} {t0 : Nat} {a1 : Int} {a2 : Int} {r : Int} (X : CXd D cy B p s m args c cX12_lapsOf RX12 6) (hr : meth.sig.returnType = (some FieldType.int)) (hlk : meth.locks = false) (gm : MI1 h t0 ac) (r_a1 : rg a1) (r_a2 : rg a2) : ∀ (fu : Nat) (v3 : Int), rg v3 → fX12_lapsOf_b16 (gA h ac) a1 a2 fu v3 = some r → AWd D cy B p l e { frames := 10, cells := 0, slots := 0, locals := 248 } s m args below meth c 6 (MQr D cy B below (some (vI r)) h args s 0 0) h 0 0 16 [(0, .ref t0), (1, vI a1), (2, vI a2), (3, vI v3)] [] := by
  intro fu
  induction fu with
  | zero => intro v3 r_v3 hf; rw [fX12_lapsOf_b16.eq_1] at hf; cases hf
  | succ fu ih =>
    intro v3 r_v3 hf
    rw [fX12_lapsOf_b16.eq_2] at hf
    refine aw_iload_n (pc := 16) X dX12_lapsOf_16 3 rfl ?_
    refine aw_if_le (pc := 17) (tgt := 88) X r_v3 dX12_lapsOf_17 (by decide) (fun z1 => ?_) (fun z1 => ?_)
    · have hf := it_f z1 hf
      refine aw_iconst (pc := 88) X dX12_lapsOf_88 ?_
      cases hf
      exact aw_iret (pc := 89) X hr hlk rfl rfl dX12_lapsOf_89
    · have hf := it_t z1 hf
      refine aw_iconst (pc := 20) X dX12_lapsOf_20 ?_
      refine aw_istore (pc := 21) (lv' := [(4, vI 1), (0, .ref t0), (1, vI a1), (2, vI a2), (3, vI v3)]) X dX12_lapsOf_21 (by decide) rfl ?_
      refine aw_iconst (pc := 23) X dX12_lapsOf_23 ?_
      refine aw_istore (pc := 24) (lv' := [(5, vI 0), (4, vI 1), (0, .ref t0), (1, vI a1), (2, vI a2), (3, vI v3)]) X dX12_lapsOf_24 (by decide) rfl ?_
      refine aw_sub [2, 3, 4, 5, 1, 0] rfl ?_
      exact wX12_lapsOf_b26 X hr hlk gm r_a1 r_a2 ih _ _ _ _ r_v3 (rg_lit rfl) (rg_lit rfl) hf

set_option maxHeartbeats 4000000 in
set_option maxRecDepth 100000 in
theorem kX12_lapsOf {D : va_G} {cy : Nat → ClassId} {B : Nat} {l : Launch} {h : Hp} {t0 : Nat} {a1 : Int} {a2 : Int} {ac : Nat} (gm : MI1 h t0 ac) (r_a1 : rg a1) (r_a2 : rg a2) {r : Int} (hf : fX12_lapsOf (gA h ac) a1 a2 = some r) : CT D cy B l yX12_lapsOf cX12_lapsOf 6 (some FieldType.int) 10 248 0 0 [.ref t0, vI a1, vI a2] h (some (vI r)) h := by
  refine ct_intro (own := RX12) (by decide) rfl (Nat.le_of_ble_eq_true rfl) fun p e s m args below meth c X hr hlk hnm => ?_
  refine aw_lv (lv' := [(0, .ref t0), (1, vI a1), (2, vI a2)]) rfl ?_
  rw [fX12_lapsOf.eq_1] at hf
  refine aw_aload_n (pc := 0) X dX12_lapsOf_0 0 rfl ?_
  refine aw_iload_n (pc := 1) X dX12_lapsOf_1 1 rfl ?_
  obtain ⟨r1, g2, hf⟩ := bd_some hf
  refine aw_invV (pc := 2) X (kX12_heardNow gm r_a1 g2) mw_yX12_heardNow kw_1920 kw_1922 kw_104 gm.1 rfl (by decide) rfl ⟨Nat.le_of_ble_eq_true rfl, Nat.le_of_ble_eq_true rfl⟩ rfl (Nat.le_of_ble_eq_true rfl) ⟨Nat.le_of_ble_eq_true rfl, Nat.le_of_ble_eq_true rfl⟩ dX12_lapsOf_2 ?_
  refine aw_ret1 (k' := 0) (n' := 0) rfl rfl ?_
  have r_r1 := gX12_heardNow (fun _ => gA_rg) r_a1 g2
  refine aw_aload_n (pc := 5) X dX12_lapsOf_5 0 rfl ?_
  refine aw_iload_n (pc := 6) X dX12_lapsOf_6 2 rfl ?_
  obtain ⟨r3, g4, hf⟩ := bd_some hf
  refine aw_invV (pc := 7) X (kX12_heardNow gm r_a2 g4) mw_yX12_heardNow kw_1920 kw_1922 kw_104 gm.1 rfl (by decide) rfl ⟨Nat.le_of_ble_eq_true rfl, Nat.le_of_ble_eq_true rfl⟩ rfl (Nat.le_of_ble_eq_true rfl) ⟨Nat.le_of_ble_eq_true rfl, Nat.le_of_ble_eq_true rfl⟩ dX12_lapsOf_7 ?_
  refine aw_ret1 (k' := 0) (n' := 0) rfl rfl ?_
  have r_r3 := gX12_heardNow (fun _ => gA_rg) r_a2 g4
  refine aw_mmin (pc := 10) X r_r1 r_r3 kw_1858 kw_569 kw_152 kw_570 (Nat.le_of_ble_eq_true rfl) (Nat.le_of_ble_eq_true rfl) (Nat.le_of_ble_eq_true rfl) (Nat.le_of_ble_eq_true rfl) dX12_lapsOf_10 ?_
  refine aw_iconst (pc := 13) X dX12_lapsOf_13 ?_
  refine aw_isub (pc := 14) X dX12_lapsOf_14 ?_
  obtain ⟨x5, ex5, hf⟩ := lt_some hf
  refine aw_topI ex5 ?_
  have r_x5 : rg x5 := by rw [ex5]; exact (w32_rg _)
  refine aw_istore_n (pc := 15) (lv' := [(3, vI x5), (0, .ref t0), (1, vI a1), (2, vI a2)]) X dX12_lapsOf_15 (by decide) rfl ?_
  refine aw_sub [1, 2, 3, 0] rfl ?_
  exact wX12_lapsOf_b16 X hr hlk gm r_a1 r_a2 _ _ r_x5 hf

def fX12_standsIn_b71 (c0 : Nat → Int) (a1 : Int) (a2 : Int) (k9 : Int → Int → Option Int) (v3 : Int) (v4 : Int) (v5 : Int) : Option Int :=
    if v5 = 0 then (
      lt (α := Int) (w32 (v4 + 1)) fun x2 =>
      k9 v3 x2)
    else
    some 1

def fX12_standsIn_b27 (c0 : Nat → Int) (a1 : Int) (a2 : Int) (k9 : Int → Int → Option Int) : Nat → Int → Int → Int → Int → Option Int
  | 0, _, _, _, _ => none
  | fu + 1, v3, v4, v5, v6 =>
    if v6 < v3 then (
      if v5 = 0 then (
        fX12_standsIn_b71 c0 a1 a2 k9 v3 v4 v5)
      else
      bd (fX12_heardLetter c0 a1 v6) fun r3 =>
      bd (fX12_heardLetter c0 a2 (w32 (v4 + v6))) fun r5 =>
      lt (α := Int) (if r3 = r5 then 1 else 0) fun x8 =>
      lt (α := Int) (w32 (v6 + 1)) fun x9 =>
      fX12_standsIn_b27 c0 a1 a2 k9 fu v3 v4 x8 x9)
    else
    fX12_standsIn_b71 c0 a1 a2 k9 v3 v4 v5

def fX12_standsIn_b9 (c0 : Nat → Int) (a1 : Int) (a2 : Int) : Nat → Int → Int → Option Int
  | 0, _, _ => none
  | fu + 1, v3, v4 =>
    bd (fX12_heardNow c0 a2) fun r1 =>
    if (w32 (v4 + v3)) ≤ r1 then (
      fX12_standsIn_b27 c0 a1 a2 (fX12_standsIn_b9 c0 a1 a2 fu) FU v3 v4 1 0)
    else
    some 0

def fX12_standsIn (c0 : Nat → Int) (a1 : Int) (a2 : Int) : Option Int :=
    bd (fX12_heardNow c0 a1) fun r1 =>
    fX12_standsIn_b9 c0 a1 a2 FU r1 0

set_option maxHeartbeats 4000000 in
set_option maxRecDepth 100000 in
theorem gX12_standsIn_b71 {a1 : Int} {a2 : Int} {r : Int} {k9 : Int → Int → Option Int} {c0 : Nat → Int} (rc : ∀ i, rg (c0 i)) (r_a1 : rg a1) (r_a2 : rg a2) (H9 : ∀ (v3 : Int) (v4 : Int), rg v3 → rg v4 → k9 v3 v4 = some r → r = 0 ∨ r = 1) : ∀ (v3 : Int) (v4 : Int) (v5 : Int), rg v3 → rg v4 → rg v5 → fX12_standsIn_b71 c0 a1 a2 k9 v3 v4 v5 = some r → r = 0 ∨ r = 1 := by
  intro v3 v4 v5 r_v3 r_v4 r_v5 hf
  rw [fX12_standsIn_b71.eq_1] at hf
  by_cases z1 : v5 = 0
  · have hf := it_t z1 hf
    obtain ⟨x2, ex2, hf⟩ := lt_some hf
    have r_x2 : rg x2 := by rw [ex2]; exact w32_rg _
    exact H9 _ _ r_v3 r_x2 hf
  · have hf := it_f z1 hf
    cases hf
    exact (Or.inr rfl)

set_option maxHeartbeats 4000000 in
set_option maxRecDepth 100000 in
theorem gX12_standsIn_b27 {a1 : Int} {a2 : Int} {r : Int} {k9 : Int → Int → Option Int} {c0 : Nat → Int} (rc : ∀ i, rg (c0 i)) (r_a1 : rg a1) (r_a2 : rg a2) (H9 : ∀ (v3 : Int) (v4 : Int), rg v3 → rg v4 → k9 v3 v4 = some r → r = 0 ∨ r = 1) : ∀ (fu : Nat) (v3 : Int) (v4 : Int) (v5 : Int) (v6 : Int), rg v3 → rg v4 → rg v5 → rg v6 → fX12_standsIn_b27 c0 a1 a2 k9 fu v3 v4 v5 v6 = some r → r = 0 ∨ r = 1 := by
  intro fu
  induction fu with
  | zero => intro v3 v4 v5 v6 r_v3 r_v4 r_v5 r_v6 hf; rw [fX12_standsIn_b27.eq_1] at hf; cases hf
  | succ fu ih =>
    intro v3 v4 v5 v6 r_v3 r_v4 r_v5 r_v6 hf
    rw [fX12_standsIn_b27.eq_2] at hf
    by_cases z1 : v6 < v3
    · have hf := it_t z1 hf
      by_cases z2 : v5 = 0
      · have hf := it_t z2 hf
        exact gX12_standsIn_b71 rc r_a1 r_a2 H9 _ _ _ r_v3 r_v4 r_v5 hf
      · have hf := it_f z2 hf
        obtain ⟨r3, g4, hf⟩ := bd_some hf
        have r_r3 := gX12_heardLetter rc r_a1 r_v6 g4
        obtain ⟨r5, g6, hf⟩ := bd_some hf
        have r_r5 := gX12_heardLetter rc r_a2 (w32_rg _) g6
        obtain ⟨x8, ex8, hf⟩ := lt_some hf
        have r_x8 : rg x8 := by rw [ex8]; exact (by split <;> exact rg_lit rfl)
        have z_x8 : x8 = 0 ∨ x8 = 1 := by rw [ex8]; exact b2i_01
        obtain ⟨x9, ex9, hf⟩ := lt_some hf
        have r_x9 : rg x9 := by rw [ex9]; exact w32_rg _
        exact ih _ _ _ _ r_v3 r_v4 r_x8 r_x9 hf
    · have hf := it_f z1 hf
      exact gX12_standsIn_b71 rc r_a1 r_a2 H9 _ _ _ r_v3 r_v4 r_v5 hf

set_option maxHeartbeats 4000000 in
set_option maxRecDepth 100000 in
theorem gX12_standsIn_b9 {a1 : Int} {a2 : Int} {r : Int} {c0 : Nat → Int} (rc : ∀ i, rg (c0 i)) (r_a1 : rg a1) (r_a2 : rg a2) : ∀ (fu : Nat) (v3 : Int) (v4 : Int), rg v3 → rg v4 → fX12_standsIn_b9 c0 a1 a2 fu v3 v4 = some r → r = 0 ∨ r = 1 := by
  intro fu
  induction fu with
  | zero => intro v3 v4 r_v3 r_v4 hf; rw [fX12_standsIn_b9.eq_1] at hf; cases hf
  | succ fu ih =>
    intro v3 v4 r_v3 r_v4 hf
    rw [fX12_standsIn_b9.eq_2] at hf
    obtain ⟨r1, g2, hf⟩ := bd_some hf
    have r_r1 := gX12_heardNow rc r_a2 g2
    by_cases z3 : (w32 (v4 + v3)) ≤ r1
    · have hf := it_t z3 hf
      exact gX12_standsIn_b27 rc r_a1 r_a2 ih _ _ _ _ _ r_v3 r_v4 (rg_lit rfl) (rg_lit rfl) hf
    · have hf := it_f z3 hf
      cases hf
      exact (Or.inl rfl)

set_option maxHeartbeats 4000000 in
set_option maxRecDepth 100000 in
theorem gX12_standsIn {a1 : Int} {a2 : Int} {c0 : Nat → Int} (rc : ∀ i, rg (c0 i)) {r : Int} (r_a1 : rg a1) (r_a2 : rg a2) (hf : fX12_standsIn c0 a1 a2 = some r) : r = 0 ∨ r = 1 := by
  rw [fX12_standsIn.eq_1] at hf
  obtain ⟨r1, g2, hf⟩ := bd_some hf
  have r_r1 := gX12_heardNow rc r_a1 g2
  exact gX12_standsIn_b9 rc r_a1 r_a2 _ _ _ r_r1 (rg_lit rfl) hf

set_option maxHeartbeats 4000000 in
set_option maxRecDepth 100000 in
theorem wX12_standsIn_b71 {D : va_G} {cy : Nat → ClassId} {B : Nat} {p : Program} {l : Launch} {e : Env} {s : State} {m : MethodId} {args : Array Value} {below : List Frame} {meth : Method} {c : Code} {h : Hp} {ac : Nat} {t0 : Nat} {a1 : Int} {a2 : Int} {r : Int} {k9 : Int → Int → Option Int} (X : CXd D cy B p s m args c cX12_standsIn RX12 7) (hr : meth.sig.returnType = (some FieldType.boolean)) (hlk : meth.locks = false) (gm : MI1 h t0 ac) (r_a1 : rg a1) (r_a2 : rg a2) (H9 : ∀ (v3 : Int) (v4 : Int), rg v3 → rg v4 → k9 v3 v4 = some r → AWd D cy B p l e { frames := 10, cells := 0, slots := 0, locals := 248 } s m args below meth c 7 (MQr D cy B below (some (vI r)) h args s 0 0) h 0 0 9 [(0, .ref t0), (1, vI a1), (2, vI a2), (3, vI v3), (4, vI v4)] []) : ∀ (v3 : Int) (v4 : Int) (v5 : Int), rg v3 → rg v4 → rg v5 → fX12_standsIn_b71 (gA h ac) a1 a2 k9 v3 v4 v5 = some r → AWd D cy B p l e { frames := 10, cells := 0, slots := 0, locals := 248 } s m args below meth c 7 (MQr D cy B below (some (vI r)) h args s 0 0) h 0 0 71 [(0, .ref t0), (1, vI a1), (2, vI a2), (3, vI v3), (4, vI v4), (5, vI v5)] [] := by
  intro v3 v4 v5 r_v3 r_v4 r_v5 hf
  rw [fX12_standsIn_b71.eq_1] at hf
  refine aw_iload (pc := 71) X dX12_standsIn_71 5 rfl ?_
  refine aw_if_eq (pc := 73) (tgt := 78) X r_v5 dX12_standsIn_73 (by decide) (fun z1 => ?_) (fun z1 => ?_)
  · have hf := it_t z1 hf
    obtain ⟨x2, ex2, hf⟩ := lt_some hf
    have r_x2 : rg x2 := by rw [ex2]; exact w32_rg _
    refine aw_iinc (pc := 78) (lv' := [(4, vI x2), (0, .ref t0), (1, vI a1), (2, vI a2), (3, vI v3), (5, vI v5)]) X dX12_standsIn_78 4 rfl (by decide) (by rw [ex2]; rfl) ?_
    refine aw_goto (pc := 81) (tgt := 9) X dX12_standsIn_81 (by decide) ?_
    refine aw_sub [1, 2, 3, 4, 0] rfl ?_
    exact H9 _ _ r_v3 r_x2 hf
  · have hf := it_f z1 hf
    refine aw_iconst (pc := 76) X dX12_standsIn_76 ?_
    cases hf
    exact aw_zret (pc := 77) X (nar_z (Or.inr rfl)) hr hlk rfl rfl dX12_standsIn_77

set_option maxHeartbeats 4000000 in
set_option maxRecDepth 100000 in
theorem wX12_standsIn_b27 {D : va_G} {cy : Nat → ClassId} {B : Nat} {p : Program} {l : Launch} {e : Env} {s : State} {m : MethodId} {args : Array Value} {below : List Frame} {meth : Method} {c : Code} {h : Hp} {ac : Nat} {t0 : Nat} {a1 : Int} {a2 : Int} {r : Int} {k9 : Int → Int → Option Int} (X : CXd D cy B p s m args c cX12_standsIn RX12 7) (hr : meth.sig.returnType = (some FieldType.boolean)) (hlk : meth.locks = false) (gm : MI1 h t0 ac) (r_a1 : rg a1) (r_a2 : rg a2) (H9 : ∀ (v3 : Int) (v4 : Int), rg v3 → rg v4 → k9 v3 v4 = some r → AWd D cy B p l e { frames := 10, cells := 0, slots := 0, locals := 248 } s m args below meth c 7 (MQr D cy B below (some (vI r)) h args s 0 0) h 0 0 9 [(0, .ref t0), (1, vI a1), (2, vI a2), (3, vI v3), (4, vI v4)] []) : ∀ (fu : Nat) (v3 : Int) (v4 : Int) (v5 : Int) (v6 : Int), rg v3 → rg v4 → rg v5 → rg v6 → fX12_standsIn_b27 (gA h ac) a1 a2 k9 fu v3 v4 v5 v6 = some r → AWd D cy B p l e { frames := 10, cells := 0, slots := 0, locals := 248 } s m args below meth c 7 (MQr D cy B below (some (vI r)) h args s 0 0) h 0 0 27 [(0, .ref t0), (1, vI a1), (2, vI a2), (3, vI v3), (4, vI v4), (5, vI v5), (6, vI v6)] [] := by
  intro fu
  induction fu with
  | zero => intro v3 v4 v5 v6 r_v3 r_v4 r_v5 r_v6 hf; rw [fX12_standsIn_b27.eq_1] at hf; cases hf
  | succ fu ih =>
    intro v3 v4 v5 v6 r_v3 r_v4 r_v5 r_v6 hf
    rw [fX12_standsIn_b27.eq_2] at hf
    refine aw_iload (pc := 27) X dX12_standsIn_27 6 rfl ?_
    refine aw_iload_n (pc := 29) X dX12_standsIn_29 3 rfl ?_
    refine aw_icmp_ge (pc := 30) (tgt := 71) X r_v6 r_v3 dX12_standsIn_30 (by decide) (fun z1 => ?_) (fun z1 => ?_)
    · have hf := it_f z1 hf
      refine aw_sub [0, 1, 2, 3, 4, 5] rfl ?_
      exact wX12_standsIn_b71 X hr hlk gm r_a1 r_a2 H9 _ _ _ r_v3 r_v4 r_v5 hf
    · have hf := it_t z1 hf
      refine aw_iload (pc := 33) X dX12_standsIn_33 5 rfl ?_
      refine aw_if_eq (pc := 35) (tgt := 71) X r_v5 dX12_standsIn_35 (by decide) (fun z2 => ?_) (fun z2 => ?_)
      · have hf := it_t z2 hf
        refine aw_sub [0, 1, 2, 3, 4, 5] rfl ?_
        exact wX12_standsIn_b71 X hr hlk gm r_a1 r_a2 H9 _ _ _ r_v3 r_v4 r_v5 hf
      · have hf := it_f z2 hf
        refine aw_aload_n (pc := 38) X dX12_standsIn_38 0 rfl ?_
        refine aw_iload_n (pc := 39) X dX12_standsIn_39 1 rfl ?_
        refine aw_iload (pc := 40) X dX12_standsIn_40 6 rfl ?_
        obtain ⟨r3, g4, hf⟩ := bd_some hf
        refine aw_invV (pc := 42) X (kX12_heardLetter gm r_a1 r_v6 g4) mw_yX12_heardLetter kw_1936 kw_1938 kw_107 gm.1 rfl (by decide) rfl ⟨Nat.le_of_ble_eq_true rfl, Nat.le_of_ble_eq_true rfl⟩ rfl (Nat.le_of_ble_eq_true rfl) ⟨Nat.le_of_ble_eq_true rfl, Nat.le_of_ble_eq_true rfl⟩ dX12_standsIn_42 ?_
        refine aw_ret1 (k' := 0) (n' := 0) rfl rfl ?_
        have r_r3 := gX12_heardLetter (fun _ => gA_rg) r_a1 r_v6 g4
        refine aw_aload_n (pc := 45) X dX12_standsIn_45 0 rfl ?_
        refine aw_iload_n (pc := 46) X dX12_standsIn_46 2 rfl ?_
        refine aw_iload (pc := 47) X dX12_standsIn_47 4 rfl ?_
        refine aw_iload (pc := 49) X dX12_standsIn_49 6 rfl ?_
        refine aw_iadd (pc := 51) X dX12_standsIn_51 ?_
        obtain ⟨r5, g6, hf⟩ := bd_some hf
        refine aw_invV (pc := 52) X (kX12_heardLetter gm r_a2 (w32_rg _) g6) mw_yX12_heardLetter kw_1936 kw_1938 kw_107 gm.1 rfl (by decide) rfl ⟨Nat.le_of_ble_eq_true rfl, Nat.le_of_ble_eq_true rfl⟩ rfl (Nat.le_of_ble_eq_true rfl) ⟨Nat.le_of_ble_eq_true rfl, Nat.le_of_ble_eq_true rfl⟩ dX12_standsIn_52 ?_
        refine aw_ret1 (k' := 0) (n' := 0) rfl rfl ?_
        have r_r5 := gX12_heardLetter (fun _ => gA_rg) r_a2 (w32_rg _) g6
        have K10 : AWd D cy B p l e { frames := 10, cells := 0, slots := 0, locals := 248 } s m args below meth c 7 (MQr D cy B below (some (vI r)) h args s 0 0) h 0 0 63 [(0, .ref t0), (1, vI a1), (2, vI a2), (3, vI v3), (4, vI v4), (5, vI v5), (6, vI v6)] (vI (if r3 = r5 then 1 else 0) :: []) := by
          obtain ⟨x8, ex8, hf⟩ := lt_some hf
          refine aw_topI ex8 ?_
          have r_x8 : rg x8 := by rw [ex8]; exact (by split <;> exact rg_lit rfl)
          have z_x8 : x8 = 0 ∨ x8 = 1 := by rw [ex8]; exact b2i_01
          refine aw_istore (pc := 63) (lv' := [(5, vI x8), (0, .ref t0), (1, vI a1), (2, vI a2), (3, vI v3), (4, vI v4), (6, vI v6)]) X dX12_standsIn_63 (by decide) rfl ?_
          obtain ⟨x9, ex9, hf⟩ := lt_some hf
          have r_x9 : rg x9 := by rw [ex9]; exact w32_rg _
          refine aw_iinc (pc := 65) (lv' := [(6, vI x9), (5, vI x8), (0, .ref t0), (1, vI a1), (2, vI a2), (3, vI v3), (4, vI v4)]) X dX12_standsIn_65 6 rfl (by decide) (by rw [ex9]; rfl) ?_
          refine aw_goto (pc := 68) (tgt := 27) X dX12_standsIn_68 (by decide) ?_
          refine aw_sub [2, 3, 4, 5, 6, 1, 0] rfl ?_
          exact ih _ _ _ _ r_v3 r_v4 r_x8 r_x9 hf
        refine aw_icmp_ne (pc := 55) (tgt := 62) X r_r3 r_r5 dX12_standsIn_55 (by decide) (fun z7 => ?_) (fun z7 => ?_)
        · refine aw_iconst (pc := 62) X dX12_standsIn_62 ?_
          exact aw_iteF z7 K10
        · refine aw_iconst (pc := 58) X dX12_standsIn_58 ?_
          refine aw_goto (pc := 59) (tgt := 63) X dX12_standsIn_59 (by decide) ?_
          exact aw_iteT z7 K10

set_option maxHeartbeats 4000000 in
set_option maxRecDepth 100000 in
theorem wX12_standsIn_b9 {D : va_G} {cy : Nat → ClassId} {B : Nat} {p : Program} {l : Launch} {e : Env} {s : State} {m : MethodId} {args : Array Value} {below : List Frame} {meth : Method} {c : Code} {h : Hp} {ac : Nat} {t0 : Nat} {a1 : Int} {a2 : Int} {r : Int} (X : CXd D cy B p s m args c cX12_standsIn RX12 7) (hr : meth.sig.returnType = (some FieldType.boolean)) (hlk : meth.locks = false) (gm : MI1 h t0 ac) (r_a1 : rg a1) (r_a2 : rg a2) : ∀ (fu : Nat) (v3 : Int) (v4 : Int), rg v3 → rg v4 → fX12_standsIn_b9 (gA h ac) a1 a2 fu v3 v4 = some r → AWd D cy B p l e { frames := 10, cells := 0, slots := 0, locals := 248 } s m args below meth c 7 (MQr D cy B below (some (vI r)) h args s 0 0) h 0 0 9 [(0, .ref t0), (1, vI a1), (2, vI a2), (3, vI v3), (4, vI v4)] [] := by
  intro fu
  induction fu with
  | zero => intro v3 v4 r_v3 r_v4 hf; rw [fX12_standsIn_b9.eq_1] at hf; cases hf
  | succ fu ih =>
    intro v3 v4 r_v3 r_v4 hf
    rw [fX12_standsIn_b9.eq_2] at hf
    refine aw_iload (pc := 9) X dX12_standsIn_9 4 rfl ?_
    refine aw_iload_n (pc := 11) X dX12_standsIn_11 3 rfl ?_
    refine aw_iadd (pc := 12) X dX12_standsIn_12 ?_
    refine aw_aload_n (pc := 13) X dX12_standsIn_13 0 rfl ?_
    refine aw_iload_n (pc := 14) X dX12_standsIn_14 2 rfl ?_
    obtain ⟨r1, g2, hf⟩ := bd_some hf
    refine aw_invV (pc := 15) X (kX12_heardNow gm r_a2 g2) mw_yX12_heardNow kw_1920 kw_1922 kw_104 gm.1 rfl (by decide) rfl ⟨Nat.le_of_ble_eq_true rfl, Nat.le_of_ble_eq_true rfl⟩ rfl (Nat.le_of_ble_eq_true rfl) ⟨Nat.le_of_ble_eq_true rfl, Nat.le_of_ble_eq_true rfl⟩ dX12_standsIn_15 ?_
    refine aw_ret1 (k' := 0) (n' := 0) rfl rfl ?_
    have r_r1 := gX12_heardNow (fun _ => gA_rg) r_a2 g2
    refine aw_icmp_gt (pc := 18) (tgt := 84) X (w32_rg _) r_r1 dX12_standsIn_18 (by decide) (fun z3 => ?_) (fun z3 => ?_)
    · have hf := it_f z3 hf
      refine aw_iconst (pc := 84) X dX12_standsIn_84 ?_
      cases hf
      exact aw_zret (pc := 85) X (nar_z (Or.inl rfl)) hr hlk rfl rfl dX12_standsIn_85
    · have hf := it_t z3 hf
      refine aw_iconst (pc := 21) X dX12_standsIn_21 ?_
      refine aw_istore (pc := 22) (lv' := [(5, vI 1), (0, .ref t0), (1, vI a1), (2, vI a2), (3, vI v3), (4, vI v4)]) X dX12_standsIn_22 (by decide) rfl ?_
      refine aw_iconst (pc := 24) X dX12_standsIn_24 ?_
      refine aw_istore (pc := 25) (lv' := [(6, vI 0), (5, vI 1), (0, .ref t0), (1, vI a1), (2, vI a2), (3, vI v3), (4, vI v4)]) X dX12_standsIn_25 (by decide) rfl ?_
      refine aw_sub [2, 3, 4, 5, 6, 1, 0] rfl ?_
      exact wX12_standsIn_b27 X hr hlk gm r_a1 r_a2 ih _ _ _ _ _ r_v3 r_v4 (rg_lit rfl) (rg_lit rfl) hf

set_option maxHeartbeats 4000000 in
set_option maxRecDepth 100000 in
theorem kX12_standsIn {D : va_G} {cy : Nat → ClassId} {B : Nat} {l : Launch} {h : Hp} {t0 : Nat} {a1 : Int} {a2 : Int} {ac : Nat} (gm : MI1 h t0 ac) (r_a1 : rg a1) (r_a2 : rg a2) {r : Int} (hf : fX12_standsIn (gA h ac) a1 a2 = some r) : CT D cy B l yX12_standsIn cX12_standsIn 7 (some FieldType.boolean) 10 248 0 0 [.ref t0, vI a1, vI a2] h (some (vI r)) h := by
  refine ct_intro (own := RX12) (by decide) rfl (Nat.le_of_ble_eq_true rfl) fun p e s m args below meth c X hr hlk hnm => ?_
  refine aw_lv (lv' := [(0, .ref t0), (1, vI a1), (2, vI a2)]) rfl ?_
  rw [fX12_standsIn.eq_1] at hf
  refine aw_aload_n (pc := 0) X dX12_standsIn_0 0 rfl ?_
  refine aw_iload_n (pc := 1) X dX12_standsIn_1 1 rfl ?_
  obtain ⟨r1, g2, hf⟩ := bd_some hf
  refine aw_invV (pc := 2) X (kX12_heardNow gm r_a1 g2) mw_yX12_heardNow kw_1920 kw_1922 kw_104 gm.1 rfl (by decide) rfl ⟨Nat.le_of_ble_eq_true rfl, Nat.le_of_ble_eq_true rfl⟩ rfl (Nat.le_of_ble_eq_true rfl) ⟨Nat.le_of_ble_eq_true rfl, Nat.le_of_ble_eq_true rfl⟩ dX12_standsIn_2 ?_
  refine aw_ret1 (k' := 0) (n' := 0) rfl rfl ?_
  have r_r1 := gX12_heardNow (fun _ => gA_rg) r_a1 g2
  refine aw_istore_n (pc := 5) (lv' := [(3, vI r1), (0, .ref t0), (1, vI a1), (2, vI a2)]) X dX12_standsIn_5 (by decide) rfl ?_
  refine aw_iconst (pc := 6) X dX12_standsIn_6 ?_
  refine aw_istore (pc := 7) (lv' := [(4, vI 0), (3, vI r1), (0, .ref t0), (1, vI a1), (2, vI a2)]) X dX12_standsIn_7 (by decide) rfl ?_
  refine aw_sub [2, 3, 4, 1, 0] rfl ?_
  exact wX12_standsIn_b9 X hr hlk gm r_a1 r_a2 _ _ _ r_r1 (rg_lit rfl) hf

