section LAWLOOP
variable {D : va_G} {cy : Nat → ClassId} {B : Nat} {p : Program} {l : Launch} {e : Env} {s : State} {m : MethodId} {b L X0 i : Nat} {xs : Nat → Int32} {below : List Frame} {meth : Method} {c : Code} {Q : State → Prop} {h : Hp} {k n : Nat}
theorem lw_nx {a q r : Int} (h : q ≤ a) (z : ¬ a = q) (e : r = q + 1) : r ≤ a := by omega
set_option maxHeartbeats 4000000 in
set_option maxRecDepth 20000 in
theorem lw_turn (X : CXd D cy B p s m #[.ref b] c cL_law RL 4) (S : LSc s B b L xs) (hi : i + 6 ≤ L) (hkn : k + 31 ≤ 600000 ∧ n + 292 ≤ 7302250) (I : Inv h X0) (K : ∀ (h' : Hp) (k' n' : Nat), Inv h' X0 → k' ≤ k + 31 → n' ≤ n + 292 → AWd D cy B p l e room_1 s m #[.ref b] below meth c 4 Q h' k' n' 2132 (LVs b X0 i) []) : AWd D cy B p l e room_1 s m #[.ref b] below meth c 4 Q h k n 27 (LVs b X0 i) [] := by
  refine aw_aload_n (pc := 27) X dL_law_27 1 rfl ?_
  refine aw_iload_n (pc := 28) X dL_law_28 0 rfl ?_
  refine aw_sld (pc := 29) X S (by omega) dL_law_29 ?_
  refine aw_bipush (pc := 30) X dL_law_30 rfl ?_
  refine aw_iand (pc := 32) X dL_law_32 ?_
  obtain ⟨op, eo⟩ : ∃ o, o = bnd (xs i).toInt 63 := ⟨_, rfl⟩
  refine aw_topI eo ?_
  have ro : rg op := by rw [eo]; exact ti_rg _
  by_cases w : op < 0
  · refine aw_tblOut (pc := 33) (tgt := 2132) X ro (Or.inl w) (by decide) dL_law_33 ?_
    exact K _ _ _ I (by omega) (by omega)
  have l0 : 0 ≤ op := by omega
  by_cases z0 : op = 0
  · exact aw_tblIn (pc := 33) (tgt := 276) X 0 ro z0 (by decide) (by decide) rfl (by decide) dL_law_33 (lwc_status X S hi hkn I K)
  have l1 : 1 ≤ op := lw_nx l0 z0 rfl
  clear l0 z0
  by_cases z1 : op = 1
  · exact aw_tblIn (pc := 33) (tgt := 289) X 1 ro z1 (by decide) (by decide) rfl (by decide) dL_law_33 (lwc_top X S hi hkn I K)
  have l2 : 2 ≤ op := lw_nx l1 z1 rfl
  clear l1 z1
  by_cases z2 : op = 2
  · exact aw_tblIn (pc := 33) (tgt := 303) X 2 ro z2 (by decide) (by decide) rfl (by decide) dL_law_33 (lwc_bottom X S hi hkn I K)
  have l3 : 3 ≤ op := lw_nx l2 z2 rfl
  clear l2 z2
  by_cases z3 : op = 3
  · exact aw_tblIn (pc := 33) (tgt := 317) X 3 ro z3 (by decide) (by decide) rfl (by decide) dL_law_33 (lwc_tray X S hi hkn I K)
  have l4 : 4 ≤ op := lw_nx l3 z3 rfl
  clear l3 z3
  by_cases z4 : op = 4
  · exact aw_tblIn (pc := 33) (tgt := 360) X 4 ro z4 (by decide) (by decide) rfl (by decide) dL_law_33 (lwc_write X S hi hkn I K)
  have l5 : 5 ≤ op := lw_nx l4 z4 rfl
  clear l4 z4
  by_cases z5 : op = 5
  · exact aw_tblIn (pc := 33) (tgt := 433) X 5 ro z5 (by decide) (by decide) rfl (by decide) dL_law_33 (lwc_read X S hi hkn I K)
  have l6 : 6 ≤ op := lw_nx l5 z5 rfl
  clear l5 z5
  by_cases z6 : op = 6
  · exact aw_tblIn (pc := 33) (tgt := 467) X 6 ro z6 (by decide) (by decide) rfl (by decide) dL_law_33 (lwc_pour X S hi hkn I K)
  have l7 : 7 ≤ op := lw_nx l6 z6 rfl
  clear l6 z6
  by_cases z7 : op = 7
  · exact aw_tblIn (pc := 33) (tgt := 530) X 7 ro z7 (by decide) (by decide) rfl (by decide) dL_law_33 (lwc_feed X S hi hkn I K)
  have l8 : 8 ≤ op := lw_nx l7 z7 rfl
  clear l7 z7
  by_cases z8 : op = 8
  · exact aw_tblIn (pc := 33) (tgt := 593) X 8 ro z8 (by decide) (by decide) rfl (by decide) dL_law_33 (lwc_shop X S hi hkn I K)
  have l9 : 9 ≤ op := lw_nx l8 z8 rfl
  clear l8 z8
  by_cases z9 : op = 9
  · exact aw_tblIn (pc := 33) (tgt := 616) X 9 ro z9 (by decide) (by decide) rfl (by decide) dL_law_33 (lwc_law X S hi hkn I K)
  have l10 : 10 ≤ op := lw_nx l9 z9 rfl
  clear l9 z9
  by_cases z10 : op = 10
  · exact aw_tblIn (pc := 33) (tgt := 639) X 10 ro z10 (by decide) (by decide) rfl (by decide) dL_law_33 (lwc_fault X S hi hkn I K)
  have l11 : 11 ≤ op := lw_nx l10 z10 rfl
  clear l10 z10
  by_cases z11 : op = 11
  · exact aw_tblIn (pc := 33) (tgt := 662) X 11 ro z11 (by decide) (by decide) rfl (by decide) dL_law_33 (lwc_many X S hi hkn I K)
  have l12 : 12 ≤ op := lw_nx l11 z11 rfl
  clear l11 z11
  by_cases z12 : op = 12
  · exact aw_tblIn (pc := 33) (tgt := 685) X 12 ro z12 (by decide) (by decide) rfl (by decide) dL_law_33 (lwc_letter X S hi hkn I K)
  have l13 : 13 ≤ op := lw_nx l12 z12 rfl
  clear l12 z12
  by_cases z13 : op = 13
  · exact aw_tblIn (pc := 33) (tgt := 718) X 13 ro z13 (by decide) (by decide) rfl (by decide) dL_law_33 (lwc_jar X S hi hkn I K)
  have l14 : 14 ≤ op := lw_nx l13 z13 rfl
  clear l13 z13
  by_cases z14 : op = 14
  · exact aw_tblIn (pc := 33) (tgt := 751) X 14 ro z14 (by decide) (by decide) rfl (by decide) dL_law_33 (lwc_day X S hi hkn I K)
  have l15 : 15 ≤ op := lw_nx l14 z14 rfl
  clear l14 z14
  by_cases z15 : op = 15
  · exact aw_tblIn (pc := 33) (tgt := 774) X 15 ro z15 (by decide) (by decide) rfl (by decide) dL_law_33 (lwc_heard X S hi hkn I K)
  have l16 : 16 ≤ op := lw_nx l15 z15 rfl
  clear l15 z15
  by_cases z16 : op = 16
  · exact aw_tblIn (pc := 33) (tgt := 797) X 16 ro z16 (by decide) (by decide) rfl (by decide) dL_law_33 (lwc_heardAt X S hi hkn I K)
  have l17 : 17 ≤ op := lw_nx l16 z16 rfl
  clear l16 z16
  by_cases z17 : op = 17
  · exact aw_tblIn (pc := 33) (tgt := 830) X 17 ro z17 (by decide) (by decide) rfl (by decide) dL_law_33 (lwc_pourOut X S hi hkn I K)
  have l18 : 18 ≤ op := lw_nx l17 z17 rfl
  clear l17 z17
  by_cases z18 : op = 18
  · exact aw_tblIn (pc := 33) (tgt := 863) X 18 ro z18 (by decide) (by decide) rfl (by decide) dL_law_33 (lwc_lost X S hi hkn I K)
  have l19 : 19 ≤ op := lw_nx l18 z18 rfl
  clear l18 z18
  by_cases z19 : op = 19
  · exact aw_tblIn (pc := 33) (tgt := 886) X 19 ro z19 (by decide) (by decide) rfl (by decide) dL_law_33 (lwc_silent X S hi hkn I K)
  have l20 : 20 ≤ op := lw_nx l19 z19 rfl
  clear l19 z19
  by_cases z20 : op = 20
  · exact aw_tblIn (pc := 33) (tgt := 909) X 20 ro z20 (by decide) (by decide) rfl (by decide) dL_law_33 (lwc_loudest X S hi hkn I K)
  have l21 : 21 ≤ op := lw_nx l20 z20 rfl
  clear l20 z20
  by_cases z21 : op = 21
  · exact aw_tblIn (pc := 33) (tgt := 942) X 21 ro z21 (by decide) (by decide) rfl (by decide) dL_law_33 (lwc_atOnce X S hi hkn I K)
  have l22 : 22 ≤ op := lw_nx l21 z21 rfl
  clear l21 z21
  by_cases z22 : op = 22
  · exact aw_tblIn (pc := 33) (tgt := 985) X 22 ro z22 (by decide) (by decide) rfl (by decide) dL_law_33 (lwc_couples X S hi hkn I K)
  have l23 : 23 ≤ op := lw_nx l22 z22 rfl
  clear l22 z22
  by_cases z23 : op = 23
  · exact aw_tblIn (pc := 33) (tgt := 1019) X 23 ro z23 (by decide) (by decide) rfl (by decide) dL_law_33 (lwc_mixes X S hi hkn I K)
  have l24 : 24 ≤ op := lw_nx l23 z23 rfl
  clear l23 z23
  by_cases z24 : op = 24
  · exact aw_tblIn (pc := 33) (tgt := 1052) X 24 ro z24 (by decide) (by decide) rfl (by decide) dL_law_33 (lwc_others X S hi hkn I K)
  have l25 : 25 ≤ op := lw_nx l24 z24 rfl
  clear l24 z24
  by_cases z25 : op = 25
  · exact aw_tblIn (pc := 33) (tgt := 1085) X 25 ro z25 (by decide) (by decide) rfl (by decide) dL_law_33 (lwc_echoed X S hi hkn I K)
  have l26 : 26 ≤ op := lw_nx l25 z25 rfl
  clear l25 z25
  by_cases z26 : op = 26
  · exact aw_tblIn (pc := 33) (tgt := 1128) X 26 ro z26 (by decide) (by decide) rfl (by decide) dL_law_33 (lwc_clearest X S hi hkn I K)
  have l27 : 27 ≤ op := lw_nx l26 z26 rfl
  clear l26 z26
  by_cases z27 : op = 27
  · exact aw_tblIn (pc := 33) (tgt := 1171) X 27 ro z27 (by decide) (by decide) rfl (by decide) dL_law_33 (lwc_beside X S hi hkn I K)
  have l28 : 28 ≤ op := lw_nx l27 z27 rfl
  clear l27 z27
  by_cases z28 : op = 28
  · exact aw_tblIn (pc := 33) (tgt := 1225) X 28 ro z28 (by decide) (by decide) rfl (by decide) dL_law_33 (lwc_fits X S hi hkn I K)
  have l29 : 29 ≤ op := lw_nx l28 z28 rfl
  clear l28 z28
  by_cases z29 : op = 29
  · exact aw_tblIn (pc := 33) (tgt := 1248) X 29 ro z29 (by decide) (by decide) rfl (by decide) dL_law_33 (lwc_places X S hi hkn I K)
  have l30 : 30 ≤ op := lw_nx l29 z29 rfl
  clear l29 z29
  by_cases z30 : op = 30
  · exact aw_tblIn (pc := 33) (tgt := 1281) X 30 ro z30 (by decide) (by decide) rfl (by decide) dL_law_33 (lwc_speaks X S hi hkn I K)
  have l31 : 31 ≤ op := lw_nx l30 z30 rfl
  clear l30 z30
  by_cases z31 : op = 31
  · exact aw_tblIn (pc := 33) (tgt := 1304) X 31 ro z31 (by decide) (by decide) rfl (by decide) dL_law_33 (lwc_kinds X S hi hkn I K)
  have l32 : 32 ≤ op := lw_nx l31 z31 rfl
  clear l31 z31
  by_cases z32 : op = 32
  · exact aw_tblIn (pc := 33) (tgt := 1327) X 32 ro z32 (by decide) (by decide) rfl (by decide) dL_law_33 (lwc_laps X S hi hkn I K)
  have l33 : 33 ≤ op := lw_nx l32 z32 rfl
  clear l32 z32
  by_cases z33 : op = 33
  · exact aw_tblIn (pc := 33) (tgt := 1360) X 33 ro z33 (by decide) (by decide) rfl (by decide) dL_law_33 (lwc_merged X S hi hkn I K)
  have l34 : 34 ≤ op := lw_nx l33 z33 rfl
  clear l33 z33
  by_cases z34 : op = 34
  · exact aw_tblIn (pc := 33) (tgt := 1383) X 34 ro z34 (by decide) (by decide) rfl (by decide) dL_law_33 (lwc_mergedAt X S hi hkn I K)
  have l35 : 35 ≤ op := lw_nx l34 z34 rfl
  clear l34 z34
  by_cases z35 : op = 35
  · exact aw_tblIn (pc := 33) (tgt := 1406) X 35 ro z35 (by decide) (by decide) rfl (by decide) dL_law_33 (lwc_since X S hi hkn I K)
  have l36 : 36 ≤ op := lw_nx l35 z35 rfl
  clear l35 z35
  by_cases z36 : op = 36
  · exact aw_tblIn (pc := 33) (tgt := 1449) X 36 ro z36 (by decide) (by decide) rfl (by decide) dL_law_33 (lwc_far X S hi hkn I K)
  have l37 : 37 ≤ op := lw_nx l36 z36 rfl
  clear l36 z36
  by_cases z37 : op = 37
  · exact aw_tblIn (pc := 33) (tgt := 1482) X 37 ro z37 (by decide) (by decide) rfl (by decide) dL_law_33 (lwc_common X S hi hkn I K)
  have l38 : 38 ≤ op := lw_nx l37 z37 rfl
  clear l37 z37
  by_cases z38 : op = 38
  · exact aw_tblIn (pc := 33) (tgt := 1515) X 38 ro z38 (by decide) (by decide) rfl (by decide) dL_law_33 (lwc_chain X S hi hkn I K)
  have l39 : 39 ≤ op := lw_nx l38 z38 rfl
  clear l38 z38
  by_cases z39 : op = 39
  · exact aw_tblIn (pc := 33) (tgt := 1538) X 39 ro z39 (by decide) (by decide) rfl (by decide) dL_law_33 (lwc_chainAt X S hi hkn I K)
  have l40 : 40 ≤ op := lw_nx l39 z39 rfl
  clear l39 z39
  by_cases z40 : op = 40
  · exact aw_tblIn (pc := 33) (tgt := 1561) X 40 ro z40 (by decide) (by decide) rfl (by decide) dL_law_33 (lwc_witness X S hi hkn I K)
  have l41 : 41 ≤ op := lw_nx l40 z40 rfl
  clear l40 z40
  by_cases z41 : op = 41
  · exact aw_tblIn (pc := 33) (tgt := 1584) X 41 ro z41 (by decide) (by decide) rfl (by decide) dL_law_33 (lwc_fillFrom X S hi hkn I K)
  have l42 : 42 ≤ op := lw_nx l41 z41 rfl
  clear l41 z41
  by_cases z42 : op = 42
  · exact aw_tblIn (pc := 33) (tgt := 1627) X 42 ro z42 (by decide) (by decide) rfl (by decide) dL_law_33 (lwc_keeps X S hi hkn I K)
  have l43 : 43 ≤ op := lw_nx l42 z42 rfl
  clear l42 z42
  by_cases z43 : op = 43
  · exact aw_tblIn (pc := 33) (tgt := 1660) X 43 ro z43 (by decide) (by decide) rfl (by decide) dL_law_33 (lwc_fewest X S hi hkn I K)
  have l44 : 44 ≤ op := lw_nx l43 z43 rfl
  clear l43 z43
  by_cases z44 : op = 44
  · exact aw_tblIn (pc := 33) (tgt := 1693) X 44 ro z44 (by decide) (by decide) rfl (by decide) dL_law_33 (lwc_cheapest X S hi hkn I K)
  have l45 : 45 ≤ op := lw_nx l44 z44 rfl
  clear l44 z44
  by_cases z45 : op = 45
  · exact aw_tblIn (pc := 33) (tgt := 1736) X 45 ro z45 (by decide) (by decide) rfl (by decide) dL_law_33 (lwc_shelf X S hi hkn I K)
  have l46 : 46 ≤ op := lw_nx l45 z45 rfl
  clear l45 z45
  by_cases z46 : op = 46
  · exact aw_tblIn (pc := 33) (tgt := 1749) X 46 ro z46 (by decide) (by decide) rfl (by decide) dL_law_33 (lwc_shelfAt X S hi hkn I K)
  have l47 : 47 ≤ op := lw_nx l46 z46 rfl
  clear l46 z46
  by_cases z47 : op = 47
  · exact aw_tblIn (pc := 33) (tgt := 1772) X 47 ro z47 (by decide) (by decide) rfl (by decide) dL_law_33 (lwc_pieced X S hi hkn I K)
  have l48 : 48 ≤ op := lw_nx l47 z47 rfl
  clear l47 z47
  by_cases z48 : op = 48
  · exact aw_tblIn (pc := 33) (tgt := 1805) X 48 ro z48 (by decide) (by decide) rfl (by decide) dL_law_33 (lwc_road X S hi hkn I K)
  have l49 : 49 ≤ op := lw_nx l48 z48 rfl
  clear l48 z48
  by_cases z49 : op = 49
  · exact aw_tblIn (pc := 33) (tgt := 1838) X 49 ro z49 (by decide) (by decide) rfl (by decide) dL_law_33 (lwc_brokeOn X S hi hkn I K)
  have l50 : 50 ≤ op := lw_nx l49 z49 rfl
  clear l49 z49
  by_cases z50 : op = 50
  · exact aw_tblIn (pc := 33) (tgt := 1861) X 50 ro z50 (by decide) (by decide) rfl (by decide) dL_law_33 (lwc_odds X S hi hkn I K)
  have l51 : 51 ≤ op := lw_nx l50 z50 rfl
  clear l50 z50
  by_cases z51 : op = 51
  · exact aw_tblIn (pc := 33) (tgt := 1914) X 51 ro z51 (by decide) (by decide) rfl (by decide) dL_law_33 (lwc_safe X S hi hkn I K)
  have l52 : 52 ≤ op := lw_nx l51 z51 rfl
  clear l51 z51
  by_cases z52 : op = 52
  · exact aw_tblIn (pc := 33) (tgt := 1957) X 52 ro z52 (by decide) (by decide) rfl (by decide) dL_law_33 (lwc_third X S hi hkn I K)
  have l53 : 53 ≤ op := lw_nx l52 z52 rfl
  clear l52 z52
  by_cases z53 : op = 53
  · exact aw_tblIn (pc := 33) (tgt := 2010) X 53 ro z53 (by decide) (by decide) rfl (by decide) dL_law_33 (lwc_second X S hi hkn I K)
  have l54 : 54 ≤ op := lw_nx l53 z53 rfl
  clear l53 z53
  by_cases z54 : op = 54
  · exact aw_tblIn (pc := 33) (tgt := 2063) X 54 ro z54 (by decide) (by decide) rfl (by decide) dL_law_33 (lwc_anyTwo X S hi hkn I K)
  have l55 : 55 ≤ op := lw_nx l54 z54 rfl
  clear l54 z54
  by_cases z55 : op = 55
  · exact aw_tblIn (pc := 33) (tgt := 2106) X 55 ro z55 (by decide) (by decide) rfl (by decide) dL_law_33 (lwc_mark X S hi hkn I K)
  have l56 : 56 ≤ op := lw_nx l55 z55 rfl
  clear l55 z55
  by_cases z56 : op = 56
  · exact aw_tblIn (pc := 33) (tgt := 2119) X 56 ro z56 (by decide) (by decide) rfl (by decide) dL_law_33 (lwc_back X S hi hkn I K)
  have l57 : 57 ≤ op := lw_nx l56 z56 rfl
  clear l56 z56
  refine aw_tblOut (pc := 33) (tgt := 2132) X ro (Or.inr (by omega)) (by decide) dL_law_33 ?_
  exact K _ _ _ I (by omega) (by omega)
theorem lw_head (X : CXd D cy B p s m #[.ref b] c cL_law RL 4) (S : LSc s B b L xs) (hi : i ≤ 3072) (kt : L < i + 6 → AWd D cy B p l e room_1 s m #[.ref b] below meth c 4 Q h k n 2138 (LVs b X0 i) []) (kf : i + 6 ≤ L → AWd D cy B p l e room_1 s m #[.ref b] below meth c 4 Q h k n 27 (LVs b X0 i) []) : AWd D cy B p l e room_1 s m #[.ref b] below meth c 4 Q h k n 18 (LVs b X0 i) [] := by
  have hl := S.2.2.2
  refine aw_iload_n (pc := 18) X dL_law_18 0 rfl ?_
  refine aw_aload_n (pc := 19) X dL_law_19 1 rfl ?_
  refine aw_sclen (pc := 20) X S dL_law_20 ?_
  refine aw_bipush (pc := 21) X dL_law_21 rfl ?_
  refine aw_isub (pc := 23) X dL_law_23 ?_
  have e6 : w32 ((L : Int) - 6) = (L : Int) - 6 := w32_id (by omega) (by omega)
  rw [e6]
  exact aw_icmp_gt (pc := 24) (tgt := 2138) X (rg_nat (by omega)) (by unfold rg; omega) dL_law_24 (by decide) (fun z => kt (by omega)) (fun z => kf (by omega))
set_option maxRecDepth 20000 in
theorem lw_loop (X : CXd D cy B p s m #[.ref b] c cL_law RL 4) (S : LSc s B b L xs) (hend : ∀ (h : Hp) (k n : Nat) (lv : List (Nat × Value)), k ≤ 600000 → n ≤ 7302250 → AWd D cy B p l e room_1 s m #[.ref b] below meth c 4 Q h k n 2138 lv []) : ∀ (f i : Nat) (h : Hp) (k n : Nat), L < i + 6 + 6 * f → i ≤ 3072 → k + 31 * f ≤ 600000 → n + 292 * f ≤ 7302250 → Inv h X0 → AWd D cy B p l e room_1 s m #[.ref b] below meth c 4 Q h k n 18 (LVs b X0 i) [] := by
  intro f
  induction f with
  | zero =>
    intro i h k n hf hi hk hn I
    exact lw_head X S hi (fun _ => hend _ _ _ _ (by omega) (by omega)) (fun z => absurd z (by omega))
  | succ f ih =>
    intro i h k n hf hi hk hn I
    have hl := S.2.2.2
    refine lw_head X S hi (fun _ => hend _ _ _ _ (by omega) (by omega)) (fun z => ?_)
    have r1 : k + 31 ≤ 600000 := by omega
    have r2 : n + 292 ≤ 7302250 := by omega
    refine lw_turn X S z ⟨r1, r2⟩ I (fun h' k' n' I' q1 q2 => ?_)
    have e6 : w32 ((i : Int) + 6) = ((i + 6 : Nat) : Int) := by rw [w32_id (by omega) (by omega)]; omega
    refine aw_iinc (pc := 2132) (lv' := LVs b X0 (i + 6)) X dL_law_2132 0 rfl (by decide) (by rw [e6]; rfl) ?_
    refine aw_goto (pc := 2135) (tgt := 18) X dL_law_2135 (by decide) ?_
    exact ih (i + 6) h' k' n' (by omega) (by omega) (by omega) (by omega) I'
end LAWLOOP
