abbrev inA2 (i n : Int) : Prop := 0 ≤ i ∧ i < n
theorem dJ0_length_8abf5_0 : decode cJ0_length_8abf5 0 = .ok (.aload_n 0, 1) := by decide +kernel
theorem dJ0_length_8abf5_1 : decode cJ0_length_8abf5 1 = .ok (.getfield 9, 3) := by decide +kernel
theorem dJ0_length_8abf5_4 : decode cJ0_length_8abf5 4 = .ok (.arraylength, 1) := by decide +kernel
theorem dJ0_length_8abf5_5 : decode cJ0_length_8abf5 5 = .ok (.aload_n 0, 1) := by decide +kernel
theorem dJ0_length_8abf5_6 : decode cJ0_length_8abf5 6 = .ok (.invokevirtual 335, 3) := by decide +kernel
theorem dJ0_length_8abf5_9 : decode cJ0_length_8abf5 9 = .ok (.ishr, 1) := by decide +kernel
theorem dJ0_length_8abf5_10 : decode cJ0_length_8abf5 10 = .ok (.ireturn, 1) := by decide +kernel
theorem dJ0_charAt_5068e_0 : decode cJ0_charAt_5068e 0 = .ok (.aload_n 0, 1) := by decide +kernel
theorem dJ0_charAt_5068e_1 : decode cJ0_charAt_5068e 1 = .ok (.invokevirtual 492, 3) := by decide +kernel
theorem dJ0_charAt_5068e_4 : decode cJ0_charAt_5068e 4 = .ok (.ifCond .eq 12, 3) := by decide +kernel
theorem dJ0_charAt_5068e_7 : decode cJ0_charAt_5068e 7 = .ok (.aload_n 0, 1) := by decide +kernel
theorem dJ0_charAt_5068e_8 : decode cJ0_charAt_5068e 8 = .ok (.getfield 9, 3) := by decide +kernel
theorem dJ0_charAt_5068e_11 : decode cJ0_charAt_5068e 11 = .ok (.iload_n 1, 1) := by decide +kernel
theorem dJ0_charAt_5068e_12 : decode cJ0_charAt_5068e 12 = .ok (.invokestatic 495, 3) := by decide +kernel
theorem dJ0_charAt_5068e_15 : decode cJ0_charAt_5068e 15 = .ok (.ireturn, 1) := by decide +kernel
theorem dJ0_charAt_5068e_16 : decode cJ0_charAt_5068e 16 = .ok (.aload_n 0, 1) := by decide +kernel
theorem dJ0_charAt_5068e_17 : decode cJ0_charAt_5068e 17 = .ok (.getfield 9, 3) := by decide +kernel
theorem dJ0_charAt_5068e_20 : decode cJ0_charAt_5068e 20 = .ok (.iload_n 1, 1) := by decide +kernel
theorem dJ0_charAt_5068e_21 : decode cJ0_charAt_5068e 21 = .ok (.invokestatic 498, 3) := by decide +kernel
theorem dJ0_charAt_5068e_24 : decode cJ0_charAt_5068e 24 = .ok (.ireturn, 1) := by decide +kernel
theorem dJ0_coder_7d493_0 : decode cJ0_coder_7d493 0 = .ok (.getstatic 38, 3) := by decide +kernel
theorem dJ0_coder_7d493_3 : decode cJ0_coder_7d493 3 = .ok (.ifCond .eq 10, 3) := by decide +kernel
theorem dJ0_coder_7d493_6 : decode cJ0_coder_7d493 6 = .ok (.aload_n 0, 1) := by decide +kernel
theorem dJ0_coder_7d493_7 : decode cJ0_coder_7d493 7 = .ok (.getfield 15, 3) := by decide +kernel
theorem dJ0_coder_7d493_10 : decode cJ0_coder_7d493 10 = .ok (.goto 4, 3) := by decide +kernel
theorem dJ0_coder_7d493_13 : decode cJ0_coder_7d493 13 = .ok (.iconst 1, 1) := by decide +kernel
theorem dJ0_coder_7d493_14 : decode cJ0_coder_7d493 14 = .ok (.ireturn, 1) := by decide +kernel
theorem dJ0_isLatin1_aae02_0 : decode cJ0_isLatin1_aae02 0 = .ok (.getstatic 38, 3) := by decide +kernel
theorem dJ0_isLatin1_aae02_3 : decode cJ0_isLatin1_aae02 3 = .ok (.ifCond .eq 14, 3) := by decide +kernel
theorem dJ0_isLatin1_aae02_6 : decode cJ0_isLatin1_aae02 6 = .ok (.aload_n 0, 1) := by decide +kernel
theorem dJ0_isLatin1_aae02_7 : decode cJ0_isLatin1_aae02 7 = .ok (.getfield 15, 3) := by decide +kernel
theorem dJ0_isLatin1_aae02_10 : decode cJ0_isLatin1_aae02 10 = .ok (.ifCond .ne 7, 3) := by decide +kernel
theorem dJ0_isLatin1_aae02_13 : decode cJ0_isLatin1_aae02 13 = .ok (.iconst 1, 1) := by decide +kernel
theorem dJ0_isLatin1_aae02_14 : decode cJ0_isLatin1_aae02 14 = .ok (.goto 4, 3) := by decide +kernel
theorem dJ0_isLatin1_aae02_17 : decode cJ0_isLatin1_aae02 17 = .ok (.iconst 0, 1) := by decide +kernel
theorem dJ0_isLatin1_aae02_18 : decode cJ0_isLatin1_aae02 18 = .ok (.ireturn, 1) := by decide +kernel
theorem dJ0_checkIndex_df160_0 : decode cJ0_checkIndex_df160 0 = .ok (.iload_n 0, 1) := by decide +kernel
theorem dJ0_checkIndex_df160_1 : decode cJ0_checkIndex_df160 1 = .ok (.iload_n 1, 1) := by decide +kernel
theorem dJ0_checkIndex_df160_2 : decode cJ0_checkIndex_df160 2 = .ok (.getstatic 1053, 3) := by decide +kernel
theorem dJ0_checkIndex_df160_5 : decode cJ0_checkIndex_df160 5 = .ok (.invokestatic 1059, 3) := by decide +kernel
theorem dJ0_checkIndex_df160_8 : decode cJ0_checkIndex_df160 8 = .ok (.pop, 1) := by decide +kernel
theorem dJ0_checkIndex_df160_9 : decode cJ0_checkIndex_df160 9 = .ok (.return_, 1) := by decide +kernel
theorem dJ1_charAt_3b067_0 : decode cJ1_charAt_3b067 0 = .ok (.iload_n 1, 1) := by decide +kernel
theorem dJ1_charAt_3b067_1 : decode cJ1_charAt_3b067 1 = .ok (.aload_n 0, 1) := by decide +kernel
theorem dJ1_charAt_3b067_2 : decode cJ1_charAt_3b067 2 = .ok (.arraylength, 1) := by decide +kernel
theorem dJ1_charAt_3b067_3 : decode cJ1_charAt_3b067 3 = .ok (.invokestatic 9, 3) := by decide +kernel
theorem dJ1_charAt_3b067_6 : decode cJ1_charAt_3b067 6 = .ok (.aload_n 0, 1) := by decide +kernel
theorem dJ1_charAt_3b067_7 : decode cJ1_charAt_3b067 7 = .ok (.iload_n 1, 1) := by decide +kernel
theorem dJ1_charAt_3b067_8 : decode cJ1_charAt_3b067 8 = .ok (.baload, 1) := by decide +kernel
theorem dJ1_charAt_3b067_9 : decode cJ1_charAt_3b067 9 = .ok (.sipush 255, 3) := by decide +kernel
theorem dJ1_charAt_3b067_12 : decode cJ1_charAt_3b067 12 = .ok (.iand, 1) := by decide +kernel
theorem dJ1_charAt_3b067_13 : decode cJ1_charAt_3b067 13 = .ok (.i2c, 1) := by decide +kernel
theorem dJ1_charAt_3b067_14 : decode cJ1_charAt_3b067 14 = .ok (.ireturn, 1) := by decide +kernel
theorem dJ3_checkIndex_8e157_0 : decode cJ3_checkIndex_8e157 0 = .ok (.iload_n 0, 1) := by decide +kernel
theorem dJ3_checkIndex_8e157_1 : decode cJ3_checkIndex_8e157 1 = .ok (.ifCond .lt 8, 3) := by decide +kernel
theorem dJ3_checkIndex_8e157_4 : decode cJ3_checkIndex_8e157 4 = .ok (.iload_n 0, 1) := by decide +kernel
theorem dJ3_checkIndex_8e157_5 : decode cJ3_checkIndex_8e157 5 = .ok (.iload_n 1, 1) := by decide +kernel
theorem dJ3_checkIndex_8e157_6 : decode cJ3_checkIndex_8e157 6 = .ok (.if_icmp .lt 10, 3) := by decide +kernel
theorem dJ3_checkIndex_8e157_9 : decode cJ3_checkIndex_8e157 9 = .ok (.aload_n 2, 1) := by decide +kernel
theorem dJ3_checkIndex_8e157_10 : decode cJ3_checkIndex_8e157 10 = .ok (.iload_n 0, 1) := by decide +kernel
theorem dJ3_checkIndex_8e157_11 : decode cJ3_checkIndex_8e157 11 = .ok (.iload_n 1, 1) := by decide +kernel
theorem dJ3_checkIndex_8e157_12 : decode cJ3_checkIndex_8e157 12 = .ok (.invokestatic 95, 3) := by decide +kernel
theorem dJ3_checkIndex_8e157_15 : decode cJ3_checkIndex_8e157 15 = .ok (.athrow, 1) := by decide +kernel
theorem dJ3_checkIndex_8e157_16 : decode cJ3_checkIndex_8e157 16 = .ok (.iload_n 0, 1) := by decide +kernel
theorem dJ3_checkIndex_8e157_17 : decode cJ3_checkIndex_8e157 17 = .ok (.ireturn, 1) := by decide +kernel
abbrev sTx : Type := Nat × String × Nat × String × List Nat
abbrev sA1 (cy : Nat → ClassId) (q : sTx) : Value := .ref (cy (100 + q.1))
abbrev sV1 (cy : Nat → ClassId) (q : sTx) : Value := .ref (cy (200 + q.1))
theorem s_all : (strT.all fun q => decide (q.2.2.2.2.length < 100) && q.2.2.2.2.all fun b => decide (b < 128)) = true := by decide +kernel
theorem s_len {q : sTx} (hq : q ∈ strT) : q.2.2.2.2.length < 100 := by
  have h1 := List.all_eq_true.mp s_all q hq
  exact of_decide_eq_true (Bool.and_eq_true_iff.mp h1).1
theorem s_byt {q : sTx} (hq : q ∈ strT) (j : Nat) : q.2.2.2.2.getD j 0 < 128 := by
  have h1 := (Bool.and_eq_true_iff.mp (List.all_eq_true.mp s_all q hq)).2
  rw [List.getD_eq_getElem?_getD]
  cases hj : q.2.2.2.2[j]? with
  | none => simp
  | some b => exact of_decide_eq_true (List.all_eq_true.mp h1 b (List.mem_of_getElem? hj))
theorem s_rgl {q : sTx} (hq : q ∈ strT) : rg (q.2.2.2.2.length : Int) := by have := s_len hq; unfold rg; omega
theorem s_rgb {q : sTx} (hq : q ∈ strT) (j : Nat) : rg ((q.2.2.2.2.getD j 0 : Nat) : Int) := by have := s_byt hq j; unfold rg; omega
theorem s_chr : ∀ b : Nat, b < 128 → (((Int32.ofNat b &&& 255).toUInt32 % 65536).toInt32) = Int32.ofNat b := by decide +kernel
section STRS
variable {D : va_G} {cy : Nat → ClassId} {B : Nat} {p : Program} {l : Launch} {e : Env} {R : Room} {s : State} {m : MethodId} {args : Array Value} {below : List Frame} {meth : Method} {c : Code} {nL : Nat} {Q : State → Prop} {h : Hp} {k n pc : Nat} {lv : List (Nat × Value)} {st : List Value} {cc : ByteArray} {own : String}

theorem aw_sget (X : CXd D cy B p s m args c cc own nL) {q : sTx} {i : Nat} {nm ds : String} {v : Value} (hq : q ∈ strT) (hE : KS cy B s s.heap → va_OF "java/lang/String" nm ds v (cy (100 + q.1)) (fun a => B ≤ a) s s.heap) (hw : Cond.fieldLink own i "java/lang/String" nm ds ∈ uT) (hd : decode cc pc = .ok (.getfield i, 3)) (kk : AWd D cy B p l e R s m args below meth c nL Q h k n (pc + 3) lv ((v :: st))) : AWd D cy B p l e R s m args below meth c nL Q h k n pc lv ((sA1 cy q :: st)) := fun H locs ls r1 r2 r3 =>
  vk_getf X.1 X.2.1 (hE X.2.2.2.2.2.2.2) r2 X.2.2.2.1 (X.2.2.2.2.1 _ hw) (fun _ h9 => h9) hd (kk H locs ls r1 r2 r3)
theorem aw_scs (X : CXd D cy B p s m args c cc own nL) {i : Nat} (hw : Cond.fieldLink own i "java/lang/String" "COMPACT_STRINGS" "Z" ∈ uT) (hd : decode cc pc = .ok (.getstatic i, 3)) (kk : AWd D cy B p l e R s m args below meth c nL Q h k n (pc + 3) lv ((vI 1 :: st))) : AWd D cy B p l e R s m args below meth c nL Q h k n pc lv st := fun H locs ls r1 r2 r3 =>
  va_gets X.1 X.2.1 X.2.2.2.2.2.2.2.2.1 r2 X.2.2.2.1 (X.2.2.2.2.1 _ hw) (fun _ h9 => h9) hd (kk H locs ls r1 r2 r3)
theorem aw_sfm (X : CXd D cy B p s m args c cc own nL) {i : Nat} (hw : Cond.fieldLink own i "jdk/internal/util/Preconditions" "SIOOBE_FORMATTER" "Ljava/util/function/BiFunction;" ∈ uT) (hd : decode cc pc = .ok (.getstatic i, 3)) (kk : ∀ v : Option Nat, AWd D cy B p l e R s m args below meth c nL Q h k n (pc + 3) lv ((va_rf v :: st))) : AWd D cy B p l e R s m args below meth c nL Q h k n pc lv st := fun H locs ls r1 r2 r3 => by
  obtain ⟨v, hv⟩ := X.2.2.2.2.2.2.2.2.2
  exact va_gets X.1 X.2.1 hv r2 X.2.2.2.1 (X.2.2.2.2.1 _ hw) (fun _ h9 => h9) hd (kk v H locs ls r1 r2 r3)
theorem aw_slen (X : CXd D cy B p s m args c cc own nL) {q : sTx} (hq : q ∈ strT) (hd : decode cc pc = .ok (.arraylength, 1)) (kk : AWd D cy B p l e R s m args below meth c nL Q h k n (pc + 1) lv ((vI (q.2.2.2.2.length : Int) :: st))) : AWd D cy B p l e R s m args below meth c nL Q h k n pc lv ((sV1 cy q :: st)) := fun H locs ls r1 r2 r3 =>
  va_tlen X.1 X.2.1 (X.2.2.2.2.2.2.2.1 q hq).2.2.2.2 r2 (by rw [← Int32.ofInt_eq_ofNat]) hd (kk H locs ls r1 r2 r3)
theorem aw_sbald (X : CXd D cy B p s m args c cc own nL) {q : sTx} {i : Int} (hq : q ∈ strT) (hi : rg i) (g : inA i q.2.2.2.2.length) (hd : decode cc pc = .ok (.baload, 1)) (kk : AWd D cy B p l e R s m args below meth c nL Q h k n (pc + 1) lv ((vI ((q.2.2.2.2.getD i.toNat 0 : Nat) : Int) :: st))) : AWd D cy B p l e R s m args below meth c nL Q h k n pc lv ((vI i :: sV1 cy q :: st)) := fun H locs ls r1 r2 r3 =>
  va_tb X.1 X.2.1 (X.2.2.2.2.2.2.2.1 q hq).2.2.2.2 r2 (idx_in hi g) (by rw [idx_nat hi]; show Value.int (Int32.ofNat _) = _; rw [← Int32.ofInt_eq_ofNat]) hd (kk H locs ls r1 r2 r3)
theorem aw_i2c (X : CXd D cy B p s m args c cc own nL) {x v : Int} (hv : ((Int32.ofInt x).toUInt32 % 65536).toInt32 = Int32.ofInt v) (hd : decode cc pc = .ok (.i2c, 1)) (kk : AWd D cy B p l e R s m args below meth c nL Q h k n (pc + 1) lv ((vI v :: st))) : AWd D cy B p l e R s m args below meth c nL Q h k n pc lv ((vI x :: st)) := fun H locs ls r1 r2 r3 =>
  lv_i2c X.1 X.2.1 hd hv (kk H locs ls r1 r2 r3)
theorem aw_pop (X : CXd D cy B p s m args c cc own nL) {v : Value} (hv : v.category = 1) (hd : decode cc pc = .ok (.pop, 1)) (kk : AWd D cy B p l e R s m args below meth c nL Q h k n (pc + 1) lv st) : AWd D cy B p l e R s m args below meth c nL Q h k n pc lv ((v :: st)) := fun H locs ls r1 r2 r3 =>
  lv_pop X.1 X.2.1 hd hv (kk H locs ls r1 r2 r3)
theorem aw_aloadV (X : CXd D cy B p s m args c cc own nL) {i : Fin 4} {v : Value} (hv : v = .null ∨ ∃ a, v = .ref a) (hd : decode cc pc = .ok (.aload_n i, 1)) (q : Nat) (hq : lv[q]? = some ((i : Nat), v)) (kk : AWd D cy B p l e R s m args below meth c nL Q h k n (pc + 1) lv ((v :: st))) : AWd D cy B p l e R s m args below meth c nL Q h k n pc lv st := fun H locs ls r1 r2 r3 => by
  rcases hv with rfl | ⟨a, rfl⟩
  · exact lv_aload_nN X.1 X.2.1 hd rfl (lv_at r3 q hq) (kk H locs ls r1 r2 r3)
  · exact lv_aload_n X.1 X.2.1 hd rfl (lv_at r3 q hq) (kk H locs ls r1 r2 r3)
theorem aw_nret (X : CXd D cy B p s m args c cc own nL) {v : Int} {h' : Hp} {r : Option Value} {ty : FieldType} (hn : narrow ty (vI v) = vI v) (hr : meth.sig.returnType = some ty) (hlk : meth.locks = false) (eh : h' = h) (er : r = some (vI v)) (hd : decode cc pc = .ok (.ireturn, 1)) : AWd D cy B p l e R s m args below meth c nL (MQr D cy B below r h' args s k n) h k n pc lv [vI v] := fun H locs ls r1 r2 r3 => by
  subst eh
  subst er
  exact W.zret X.1 X.2.1 hr hn (fun t ht hW => ⟨rfl, by rw [ht]; exact r1, r2.F ht⟩) r2.2.2 hd hlk
theorem aw_invO (X : CXd D cy B p s m args c cc own nL) {y : MethodName} {bytes : ByteArray} {maxL np mc ms F L index : Nat} {ret : Option FieldType} {As rest : List Value} {r : Option Value} {h' : Hp} {q : sTx} (hq : q ∈ strT) (hM : CT D cy B l y bytes maxL ret F L mc ms (sA1 cy q :: As) h r h') (hm : mw y bytes maxL ret np) (hl : Cond.methodLink own index y ∈ uT) (hi : Cond.instanceMethod y ∈ uT) (hs : Cond.selects "java/lang/String" y y ∈ uT) (hn : As.length = np) (hR : F + 1 ≤ R.frames ∧ 8 + (maxL + 11) + L ≤ R.locals) (hst : As.reverse ++ sA1 cy q :: rest = st) (hcat : (rest.map fun v => v.category).sum ≤ 8) (hroom : k + mc ≤ R.cells ∧ n + ms ≤ R.slots) (hd : decode cc pc = .ok (.invokevirtual index, 3)) (kk : AWd D cy B p l e R s m args below meth c nL Q h' (k + mc) (n + ms) (pc + 3) lv ((r.toList ++ rest))) : AWd D cy B p l e R s m args below meth c nL Q h k n pc lv st :=
  aw_run (fun H locs ls r1 r2 r3 => va_runV (As := As) (rest := rest) (cf_of X) hM ⟨cb_of X hm hl hR, X.2.2.2.2.1 _ hi, X.2.2.2.2.1 _ hs⟩ ⟨pc_blind, va_Orecv (X.2.2.2.2.2.2.2.1 q hq).2.1 r2, fun U hU hW => ⟨rfl, by rw [hU]; exact r1, KG.warm hW X.2.2.2.2.2.1, by rw [hU]; exact KS.go hW r2.2.1 X.2.2.2.2.2.2.2⟩⟩ rfl hn r3.1 hst.symm (lv_room hcat) hd hroom) kk
theorem aw_ldcS (X : CXd D cy B p s m args c cc own nL) {q : sTx} {i : Nat} (hq : q ∈ strT) (ho : q.2.1 = own) (hi : q.2.2.1 = i) (hd : decode cc pc = .ok (.ldc i, 2)) (kk : AWd D cy B p l e R s m args below meth c nL Q h k n (pc + 2) lv ((sA1 cy q :: st))) : AWd D cy B p l e R s m args below meth c nL Q h k n pc lv st := fun H locs ls r1 r2 r3 => by
  subst ho
  subst hi
  exact va_ldcS X.1 X.2.1 X.2.2.2.1 (X.2.2.2.2.2.2.2.1 q hq).1 hd (kk H locs ls r1 r2 r3)
end STRS

set_option maxHeartbeats 4000000 in
set_option maxRecDepth 100000 in
theorem kJ_pk {D : va_G} {cy : Nat → ClassId} {B : Nat} {l : Launch} {h : Hp} {i n9 : Int} {w : Value} (hi : rg i) (hn : rg n9) (hw : w = .null ∨ ∃ a, w = .ref a) (g : inA2 i n9) : CT D cy B l yJ3_checkIndex_8e157 cJ3_checkIndex_8e157 3 (some FieldType.int) 1 60 0 0 [vI i, vI n9, w] h (some (vI i)) h := by
  refine ct_intro (own := RJ3) (by decide) rfl (by rcases hw with rfl | ⟨a, rfl⟩ <;> exact Nat.le_of_ble_eq_true rfl) fun p e s m args below meth c X hr hlk hnm => ?_
  refine aw_lv (lv' := [(0, vI i), (1, vI n9), (2, w)]) (by rcases hw with rfl | ⟨a, rfl⟩ <;> rfl) ?_
  refine aw_iload_n (pc := 0) X dJ3_checkIndex_8e157_0 0 rfl ?_
  refine aw_if_lt (pc := 1) (tgt := 9) X hi dJ3_checkIndex_8e157_1 (by decide) (fun z => ?_) (fun z => ?_)
  · exact absurd g.1 (by omega)
  · refine aw_iload_n (pc := 4) X dJ3_checkIndex_8e157_4 0 rfl ?_
    refine aw_iload_n (pc := 5) X dJ3_checkIndex_8e157_5 1 rfl ?_
    refine aw_icmp_lt (pc := 6) (tgt := 16) X hi hn dJ3_checkIndex_8e157_6 (by decide) (fun z => ?_) (fun z => ?_)
    · refine aw_iload_n (pc := 16) X dJ3_checkIndex_8e157_16 0 rfl ?_
      exact aw_iret (pc := 17) X hr hlk rfl rfl dJ3_checkIndex_8e157_17
    · exact absurd g.2 z

set_option maxHeartbeats 4000000 in
set_option maxRecDepth 100000 in
theorem kJ_ck {D : va_G} {cy : Nat → ClassId} {B : Nat} {l : Launch} {h : Hp} {i n9 : Int} (hi : rg i) (hn : rg n9) (g : inA2 i n9) : CT D cy B l yJ0_checkIndex_df160 cJ0_checkIndex_df160 2 (none : Option FieldType) 2 100 0 0 [vI i, vI n9] h none h := by
  refine ct_intro (own := RJ0) (by decide) rfl (Nat.le_of_ble_eq_true rfl) fun p e s m args below meth c X hr hlk hnm => ?_
  refine aw_lv (lv' := [(0, vI i), (1, vI n9)]) rfl ?_
  refine aw_iload_n (pc := 0) X dJ0_checkIndex_df160_0 0 rfl ?_
  refine aw_iload_n (pc := 1) X dJ0_checkIndex_df160_1 1 rfl ?_
  refine aw_sfm (pc := 2) X kw_703 dJ0_checkIndex_df160_2 (fun v => ?_)
  have hv : va_rf v = .null ∨ ∃ a, va_rf v = .ref a := va_rf_or v
  generalize va_rf v = w at hv ⊢
  refine aw_invS (pc := 5) (As := [vI i, vI n9, w]) (rest := []) X (kJ_pk hi hn hv g) mw_yJ3_checkIndex_8e157 kw_705 kw_706 rfl ⟨(Nat.le_of_ble_eq_true rfl), (Nat.le_of_ble_eq_true rfl)⟩ rfl (Nat.le_of_ble_eq_true rfl) ⟨(Nat.le_of_ble_eq_true rfl), (Nat.le_of_ble_eq_true rfl)⟩ dJ0_checkIndex_df160_5 ?_
  refine aw_ret1 (k' := 0) (n' := 0) rfl rfl ?_
  refine aw_pop (pc := 8) X rfl dJ0_checkIndex_df160_8 ?_
  exact aw_vret (pc := 9) X hr hlk rfl rfl dJ0_checkIndex_df160_9

set_option maxHeartbeats 4000000 in
set_option maxRecDepth 100000 in
theorem kJ_lc {D : va_G} {cy : Nat → ClassId} {B : Nat} {l : Launch} {h : Hp} {q : sTx} (hq : q ∈ strT) {i : Int} (hi : rg i) (g : inA i q.2.2.2.2.length) : CT D cy B l yJ1_charAt_3b067 cJ1_charAt_3b067 2 (some FieldType.char) 3 140 0 0 [sV1 cy q, vI i] h (some (vI ((q.2.2.2.2.getD i.toNat 0 : Nat) : Int))) h := by
  refine ct_intro (own := RJ1) (by decide) rfl (Nat.le_of_ble_eq_true rfl) fun p e s m args below meth c X hr hlk hnm => ?_
  refine aw_lv (lv' := [(0, sV1 cy q), (1, vI i)]) rfl ?_
  refine aw_iload_n (pc := 0) X dJ1_charAt_3b067_0 1 rfl ?_
  refine aw_aload_n (pc := 1) X dJ1_charAt_3b067_1 0 rfl ?_
  refine aw_slen (pc := 2) X hq dJ1_charAt_3b067_2 ?_
  refine aw_invS (pc := 3) (As := [vI i, vI (q.2.2.2.2.length : Int)]) (rest := []) X (kJ_ck hi (s_rgl hq) g) mw_yJ0_checkIndex_df160 kw_700 kw_701 rfl ⟨(Nat.le_of_ble_eq_true rfl), (Nat.le_of_ble_eq_true rfl)⟩ rfl (Nat.le_of_ble_eq_true rfl) ⟨(Nat.le_of_ble_eq_true rfl), (Nat.le_of_ble_eq_true rfl)⟩ dJ1_charAt_3b067_3 ?_
  refine aw_ret0 (k' := 0) (n' := 0) rfl rfl ?_
  refine aw_aload_n (pc := 6) X dJ1_charAt_3b067_6 0 rfl ?_
  refine aw_iload_n (pc := 7) X dJ1_charAt_3b067_7 1 rfl ?_
  refine aw_sbald (pc := 8) X hq hi g dJ1_charAt_3b067_8 ?_
  refine aw_sipush (pc := 9) X dJ1_charAt_3b067_9 rfl ?_
  refine aw_iand (pc := 12) X dJ1_charAt_3b067_12 ?_
  have hb := s_byt hq i.toNat
  generalize q.2.2.2.2.getD i.toNat 0 = b at hb ⊢
  have e9 : ((Int32.ofInt (bnd (b : Int) 255)).toUInt32 % 65536).toInt32 = Int32.ofInt (b : Int) := by
    unfold bnd
    rw [Int32.ofInt_toInt, Int32.ofInt_eq_ofNat]
    exact s_chr b hb
  refine aw_i2c (pc := 13) X e9 dJ1_charAt_3b067_13 ?_
  have e8 : narrow .char (vI (b : Int)) = vI (b : Int) := by
    show Value.int _ = Value.int _
    congr 1
    rw [Int32.ofInt_eq_ofNat]
    clear e9; revert hb; revert b; decide +kernel
  exact aw_nret (pc := 14) X e8 hr hlk rfl rfl dJ1_charAt_3b067_14

set_option maxHeartbeats 4000000 in
set_option maxRecDepth 100000 in
theorem kJ_co {D : va_G} {cy : Nat → ClassId} {B : Nat} {l : Launch} {h : Hp} {q : sTx} (hq : q ∈ strT) : CT D cy B l yJ0_coder_7d493 cJ0_coder_7d493 1 (some FieldType.byte) 1 60 0 0 [sA1 cy q] h (some (vI 0)) h := by
  refine ct_intro (own := RJ0) (by decide) rfl (Nat.le_of_ble_eq_true rfl) fun p e s m args below meth c X hr hlk hnm => ?_
  refine aw_lv (lv' := [(0, sA1 cy q)]) rfl ?_
  refine aw_scs (pc := 0) X kw_683 dJ0_coder_7d493_0 ?_
  refine aw_if_eq (pc := 3) (tgt := 13) X (rg_lit rfl) dJ0_coder_7d493_3 (by decide) (fun z => ?_) (fun z => ?_)
  · exact absurd z (by decide)
  · refine aw_aload_n (pc := 6) X dJ0_coder_7d493_6 0 rfl ?_
    refine aw_sget (pc := 7) (v := vI 0) X hq (fun z => (z.1 q hq).2.2.1) kw_2255 dJ0_coder_7d493_7 ?_
    refine aw_goto (pc := 10) (tgt := 14) X dJ0_coder_7d493_10 (by decide) ?_
    exact aw_nret (pc := 14) X rfl hr hlk rfl rfl dJ0_coder_7d493_14

set_option maxHeartbeats 4000000 in
set_option maxRecDepth 100000 in
theorem kJ_sl {D : va_G} {cy : Nat → ClassId} {B : Nat} {l : Launch} {h : Hp} {q : sTx} (hq : q ∈ strT) : CT D cy B l yJ0_length_8abf5 cJ0_length_8abf5 1 (some FieldType.int) 2 100 0 0 [sA1 cy q] h (some (vI (q.2.2.2.2.length : Int))) h := by
  refine ct_intro (own := RJ0) (by decide) rfl (Nat.le_of_ble_eq_true rfl) fun p e s m args below meth c X hr hlk hnm => ?_
  refine aw_lv (lv' := [(0, sA1 cy q)]) rfl ?_
  refine aw_aload_n (pc := 0) X dJ0_length_8abf5_0 0 rfl ?_
  refine aw_sget (pc := 1) (v := sV1 cy q) X hq (fun z => (z.1 q hq).2.2.2.1) kw_2254 dJ0_length_8abf5_1 ?_
  refine aw_slen (pc := 4) X hq dJ0_length_8abf5_4 ?_
  refine aw_aload_n (pc := 5) X dJ0_length_8abf5_5 0 rfl ?_
  refine aw_invO (pc := 6) (As := []) (rest := [vI (q.2.2.2.2.length : Int)]) X hq (kJ_co hq) mw_yJ0_coder_7d493 kw_679 kw_680 kw_681 rfl ⟨(Nat.le_of_ble_eq_true rfl), (Nat.le_of_ble_eq_true rfl)⟩ rfl (Nat.le_of_ble_eq_true rfl) ⟨(Nat.le_of_ble_eq_true rfl), (Nat.le_of_ble_eq_true rfl)⟩ dJ0_length_8abf5_6 ?_
  refine aw_ret1 (k' := 0) (n' := 0) rfl rfl ?_
  refine aw_ishr (pc := 9) X dJ0_length_8abf5_9 ?_
  have e9 : shr (q.2.2.2.2.length : Int) 0 = (q.2.2.2.2.length : Int) := by
    have h1 : (Int32.ofInt (q.2.2.2.2.length : Int) >>> (Int32.ofInt 0 &&& 31)) = Int32.ofInt (q.2.2.2.2.length : Int) := by
      rw [show (Int32.ofInt 0 &&& 31 : Int32) = 0 from by decide]
      simp
    unfold shr
    rw [h1]
    exact ti_of (s_rgl hq)
  rw [e9]
  exact aw_iret (pc := 10) X hr hlk rfl rfl dJ0_length_8abf5_10

set_option maxHeartbeats 4000000 in
set_option maxRecDepth 100000 in
theorem kJ_il {D : va_G} {cy : Nat → ClassId} {B : Nat} {l : Launch} {h : Hp} {q : sTx} (hq : q ∈ strT) : CT D cy B l yJ0_isLatin1_aae02 cJ0_isLatin1_aae02 1 (some FieldType.boolean) 1 60 0 0 [sA1 cy q] h (some (vI 1)) h := by
  refine ct_intro (own := RJ0) (by decide) rfl (Nat.le_of_ble_eq_true rfl) fun p e s m args below meth c X hr hlk hnm => ?_
  refine aw_lv (lv' := [(0, sA1 cy q)]) rfl ?_
  refine aw_scs (pc := 0) X kw_683 dJ0_isLatin1_aae02_0 ?_
  refine aw_if_eq (pc := 3) (tgt := 17) X (rg_lit rfl) dJ0_isLatin1_aae02_3 (by decide) (fun z => ?_) (fun z => ?_)
  · exact absurd z (by decide)
  · refine aw_aload_n (pc := 6) X dJ0_isLatin1_aae02_6 0 rfl ?_
    refine aw_sget (pc := 7) (v := vI 0) X hq (fun z => (z.1 q hq).2.2.1) kw_2255 dJ0_isLatin1_aae02_7 ?_
    refine aw_if_ne (pc := 10) (tgt := 17) X (rg_lit rfl) dJ0_isLatin1_aae02_10 (by decide) (fun z => ?_) (fun z => ?_)
    · exact absurd rfl z
    · refine aw_iconst (pc := 13) X dJ0_isLatin1_aae02_13 ?_
      refine aw_goto (pc := 14) (tgt := 18) X dJ0_isLatin1_aae02_14 (by decide) ?_
      exact aw_nret (pc := 18) X rfl hr hlk rfl rfl dJ0_isLatin1_aae02_18

set_option maxHeartbeats 4000000 in
set_option maxRecDepth 100000 in
theorem kJ_sc {D : va_G} {cy : Nat → ClassId} {B : Nat} {l : Launch} {h : Hp} {q : sTx} (hq : q ∈ strT) {i : Int} (hi : rg i) (g : inA i q.2.2.2.2.length) : CT D cy B l yJ0_charAt_5068e cJ0_charAt_5068e 2 (some FieldType.char) 4 180 0 0 [sA1 cy q, vI i] h (some (vI ((q.2.2.2.2.getD i.toNat 0 : Nat) : Int))) h := by
  refine ct_intro (own := RJ0) (by decide) rfl (Nat.le_of_ble_eq_true rfl) fun p e s m args below meth c X hr hlk hnm => ?_
  refine aw_lv (lv' := [(0, sA1 cy q), (1, vI i)]) rfl ?_
  refine aw_aload_n (pc := 0) X dJ0_charAt_5068e_0 0 rfl ?_
  refine aw_invO (pc := 1) (As := []) (rest := []) X hq (kJ_il hq) mw_yJ0_isLatin1_aae02 kw_693 kw_694 kw_695 rfl ⟨(Nat.le_of_ble_eq_true rfl), (Nat.le_of_ble_eq_true rfl)⟩ rfl (Nat.le_of_ble_eq_true rfl) ⟨(Nat.le_of_ble_eq_true rfl), (Nat.le_of_ble_eq_true rfl)⟩ dJ0_charAt_5068e_1 ?_
  refine aw_ret1 (k' := 0) (n' := 0) rfl rfl ?_
  refine aw_if_eq (pc := 4) (tgt := 16) X (rg_lit rfl) dJ0_charAt_5068e_4 (by decide) (fun z => ?_) (fun z => ?_)
  · exact absurd z (by decide)
  · refine aw_aload_n (pc := 7) X dJ0_charAt_5068e_7 0 rfl ?_
    refine aw_sget (pc := 8) (v := sV1 cy q) X hq (fun z => (z.1 q hq).2.2.2.1) kw_2254 dJ0_charAt_5068e_8 ?_
    refine aw_iload_n (pc := 11) X dJ0_charAt_5068e_11 1 rfl ?_
    refine aw_invS (pc := 12) (As := [sV1 cy q, vI i]) (rest := []) X (kJ_lc hq hi g) mw_yJ1_charAt_3b067 kw_697 kw_698 rfl ⟨(Nat.le_of_ble_eq_true rfl), (Nat.le_of_ble_eq_true rfl)⟩ rfl (Nat.le_of_ble_eq_true rfl) ⟨(Nat.le_of_ble_eq_true rfl), (Nat.le_of_ble_eq_true rfl)⟩ dJ0_charAt_5068e_12 ?_
    refine aw_ret1 (k' := 0) (n' := 0) rfl rfl ?_
    have hb := s_byt hq i.toNat
    generalize q.2.2.2.2.getD i.toNat 0 = b at hb ⊢
    have e8 : narrow .char (vI (b : Int)) = vI (b : Int) := by
      show Value.int _ = Value.int _
      congr 1
      rw [Int32.ofInt_eq_ofNat]
      revert hb; revert b; decide +kernel
    exact aw_nret (pc := 15) X e8 hr hlk rfl rfl dJ0_charAt_5068e_15

def st_0 : sTx := (0, "EchoJars$ShopReader", 48, "sound", [115, 111, 117, 110, 100])
theorem sm_0 : st_0 ∈ strT := List.mem_of_getElem? (i := 0) rfl
def st_1 : sTx := (1, "EchoJars$Tape", 72, "sound", [115, 111, 117, 110, 100])
theorem sm_1 : st_1 ∈ strT := List.mem_of_getElem? (i := 1) rfl
def st_2 : sTx := (2, "EchoJars$Tape", 78, "jar", [106, 97, 114])
theorem sm_2 : st_2 ∈ strT := List.mem_of_getElem? (i := 2) rfl
def st_3 : sTx := (3, "EchoJars$Tape", 80, "size", [115, 105, 122, 101])
theorem sm_3 : st_3 ∈ strT := List.mem_of_getElem? (i := 3) rfl
def st_4 : sTx := (4, "EchoJars$Tape", 81, "leaks", [108, 101, 97, 107, 115])
theorem sm_4 : st_4 ∈ strT := List.mem_of_getElem? (i := 4) rfl
def st_5 : sTx := (5, "EchoJars$Tape", 83, "head", [104, 101, 97, 100])
theorem sm_5 : st_5 ∈ strT := List.mem_of_getElem? (i := 5) rfl
def st_6 : sTx := (6, "EchoJars$Tape", 85, "tail", [116, 97, 105, 108])
theorem sm_6 : st_6 ∈ strT := List.mem_of_getElem? (i := 6) rfl
def st_7 : sTx := (7, "EchoJars$Tape", 87, "costs", [99, 111, 115, 116, 115])
theorem sm_7 : st_7 ∈ strT := List.mem_of_getElem? (i := 7) rfl
def st_8 : sTx := (8, "EchoJars$Tape", 89, "worth", [119, 111, 114, 116, 104])
theorem sm_8 : st_8 ∈ strT := List.mem_of_getElem? (i := 8) rfl
def st_9 : sTx := (9, "EchoJars$Tape", 91, "breaks", [98, 114, 101, 97, 107, 115])
theorem sm_9 : st_9 ∈ strT := List.mem_of_getElem? (i := 9) rfl
def st_10 : sTx := (10, "EchoJars$Tape", 93, "fill", [102, 105, 108, 108])
theorem sm_10 : st_10 ∈ strT := List.mem_of_getElem? (i := 10) rfl
def st_11 : sTx := (11, "EchoJars$Tape", 95, "of", [111, 102])
theorem sm_11 : st_11 ∈ strT := List.mem_of_getElem? (i := 11) rfl
def st_12 : sTx := (12, "EchoJars$Tape", 97, "from", [102, 114, 111, 109])
theorem sm_12 : st_12 ∈ strT := List.mem_of_getElem? (i := 12) rfl
def st_13 : sTx := (13, "EchoJars$Tape", 99, "on", [111, 110])
theorem sm_13 : st_13 ∈ strT := List.mem_of_getElem? (i := 13) rfl
def st_14 : sTx := (14, "EchoJars$Tape", 101, "mix", [109, 105, 120])
theorem sm_14 : st_14 ∈ strT := List.mem_of_getElem? (i := 14) rfl
def st_15 : sTx := (15, "EchoJars$Tape", 103, "with", [119, 105, 116, 104])
theorem sm_15 : st_15 ∈ strT := List.mem_of_getElem? (i := 15) rfl
def st_16 : sTx := (16, "EchoJars$Tape", 105, "gives", [103, 105, 118, 101, 115])
theorem sm_16 : st_16 ∈ strT := List.mem_of_getElem? (i := 16) rfl
def st_17 : sTx := (17, "EchoJars$Tape", 107, "any", [97, 110, 121])
theorem sm_17 : st_17 ∈ strT := List.mem_of_getElem? (i := 17) rfl
def st_18 : sTx := (18, "EchoJars$Tape", 109, "same", [115, 97, 109, 101])
theorem sm_18 : st_18 ∈ strT := List.mem_of_getElem? (i := 18) rfl
def st_19 : sTx := (19, "EchoJars$Tape", 111, "rest", [114, 101, 115, 116])
theorem sm_19 : st_19 ∈ strT := List.mem_of_getElem? (i := 19) rfl
def st_20 : sTx := (20, "EchoJars$Tape", 113, "first", [102, 105, 114, 115, 116])
theorem sm_20 : st_20 ∈ strT := List.mem_of_getElem? (i := 20) rfl
def st_21 : sTx := (21, "EchoJars$Tape", 115, "second", [115, 101, 99, 111, 110, 100])
theorem sm_21 : st_21 ∈ strT := List.mem_of_getElem? (i := 21) rfl
def st_22 : sTx := (22, "EchoJars$ShopReader", 57, "jar", [106, 97, 114])
theorem sm_22 : st_22 ∈ strT := List.mem_of_getElem? (i := 22) rfl
def st_23 : sTx := (23, "EchoJars$ShopReader", 99, "size", [115, 105, 122, 101])
theorem sm_23 : st_23 ∈ strT := List.mem_of_getElem? (i := 23) rfl
def st_24 : sTx := (24, "EchoJars$ShopReader", 113, "leaks", [108, 101, 97, 107, 115])
theorem sm_24 : st_24 ∈ strT := List.mem_of_getElem? (i := 24) rfl
def st_25 : sTx := (25, "EchoJars$ShopReader", 139, "head", [104, 101, 97, 100])
theorem sm_25 : st_25 ∈ strT := List.mem_of_getElem? (i := 25) rfl
def st_26 : sTx := (26, "EchoJars$ShopReader", 141, "tail", [116, 97, 105, 108])
theorem sm_26 : st_26 ∈ strT := List.mem_of_getElem? (i := 26) rfl
def st_27 : sTx := (27, "EchoJars$ShopReader", 124, "costs", [99, 111, 115, 116, 115])
theorem sm_27 : st_27 ∈ strT := List.mem_of_getElem? (i := 27) rfl
def st_28 : sTx := (28, "EchoJars$ShopReader", 131, "worth", [119, 111, 114, 116, 104])
theorem sm_28 : st_28 ∈ strT := List.mem_of_getElem? (i := 28) rfl
def st_29 : sTx := (29, "EchoJars$ShopReader", 135, "breaks", [98, 114, 101, 97, 107, 115])
theorem sm_29 : st_29 ∈ strT := List.mem_of_getElem? (i := 29) rfl
def st_30 : sTx := (30, "EchoJars$ShopReader", 62, "fill", [102, 105, 108, 108])
theorem sm_30 : st_30 ∈ strT := List.mem_of_getElem? (i := 30) rfl
def st_31 : sTx := (31, "EchoJars$ShopReader", 147, "of", [111, 102])
theorem sm_31 : st_31 ∈ strT := List.mem_of_getElem? (i := 31) rfl
def st_32 : sTx := (32, "EchoJars$ShopReader", 149, "from", [102, 114, 111, 109])
theorem sm_32 : st_32 ∈ strT := List.mem_of_getElem? (i := 32) rfl
def st_33 : sTx := (33, "EchoJars$ShopReader", 154, "on", [111, 110])
theorem sm_33 : st_33 ∈ strT := List.mem_of_getElem? (i := 33) rfl
def st_34 : sTx := (34, "EchoJars$LawReader", 39, "mix", [109, 105, 120])
theorem sm_34 : st_34 ∈ strT := List.mem_of_getElem? (i := 34) rfl
def st_35 : sTx := (35, "EchoJars$LawReader", 70, "any", [97, 110, 121])
theorem sm_35 : st_35 ∈ strT := List.mem_of_getElem? (i := 35) rfl
def st_36 : sTx := (36, "EchoJars$LawReader", 82, "rest", [114, 101, 115, 116])
theorem sm_36 : st_36 ∈ strT := List.mem_of_getElem? (i := 36) rfl
def st_37 : sTx := (37, "EchoJars$LawReader", 56, "with", [119, 105, 116, 104])
theorem sm_37 : st_37 ∈ strT := List.mem_of_getElem? (i := 37) rfl
def st_38 : sTx := (38, "EchoJars$LawReader", 58, "gives", [103, 105, 118, 101, 115])
theorem sm_38 : st_38 ∈ strT := List.mem_of_getElem? (i := 38) rfl
def st_39 : sTx := (39, "EchoJars$LawReader", 78, "first", [102, 105, 114, 115, 116])
theorem sm_39 : st_39 ∈ strT := List.mem_of_getElem? (i := 39) rfl
def st_40 : sTx := (40, "EchoJars$LawReader", 80, "second", [115, 101, 99, 111, 110, 100])
theorem sm_40 : st_40 ∈ strT := List.mem_of_getElem? (i := 40) rfl
