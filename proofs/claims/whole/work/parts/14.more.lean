def fX11_pour (h : Hp) (t0 : Nat) (a1 : Int) (a2 : Int) (a3 : Int) (a4 : Int) (a5 : Int) : Option (Int × Hp) :=
    bd (fX11_isTray a1) fun r1 =>
    if r1 = 0 then (
      gd ((hK h t0).1 = 11) <|
      bd2 (fX11_deny h t0 1) fun r5 h7 =>
      some (r5, h7))
    else
    bd (fX11_isTray a3) fun r8 =>
    if r8 = 0 then (
      gd ((hK h t0).1 = 11) <|
      bd2 (fX11_deny h t0 1) fun r62 h64 =>
      some (r62, h64))
    else
    gd ((hK h t0).1 = 11) <|
    nn (gR h 704 t0) fun q12 =>
    gd ((hK h q12).1 = 27) <|
    gd (inA a1 (hK h q12).2) <|
    nn (gC h q12 a1.toNat) fun q15 =>
    gd (inA a3 (hK h q12).2) <|
    nn (gC h q12 a3.toNat) fun q17 =>
    gd ((hK h q15).1 = 10) <|
    bd (fX10_isMissing h q15) fun r19 =>
    if r19 = 0 then (
      gd ((hK h q17).1 = 10) <|
      bd (fX10_isMissing h q17) fun r26 =>
      if r26 = 0 then (
        if (gI h 641 q15) = (gI h 641 q17) then (
          if a5 < 0 then (
            bd2 (fX11_deny h t0 6) fun r52 h54 =>
            some (r52, h54))
          else
          bd (fX10_hasRun h q15 a2 a5) fun r31 =>
          if r31 = 0 then (
            bd2 (fX11_deny h t0 4) fun r34 h36 =>
            some (r34, h36))
          else
          bd (fX10_hasRun h q17 a4 a5) fun r37 =>
          if r37 = 0 then (
            bd2 (fX11_deny h t0 4) fun r49 h51 =>
            some (r49, h51))
          else
          nn (gR h 640 q15) fun q40 =>
          nn (gR h 640 q17) fun q41 =>
          gd ((hK h q40).1 = 22) <|
          gd ((hK h q41).1 = 22) <|
          gd (0 ≤ a2 ∧ 0 ≤ a4 ∧ 0 ≤ a5 ∧ a2 + a5 ≤ ((hK h q40).2 : Int) ∧ a4 + a5 ≤ ((hK h q41).2 : Int)) <|
          lt (α := Hp) (cpB h q40 a2 q41 a4 a5) fun h45 =>
          bd2 (fX11_allow h45 t0) fun r46 h48 =>
          some (r46, h48))
        else
        bd2 (fX11_deny h t0 11) fun r55 h57 =>
        some (r55, h57))
      else
      bd2 (fX11_deny h t0 3) fun r58 h60 =>
      some (r58, h60))
    else
    bd2 (fX11_deny h t0 3) fun r22 h24 =>
    some (r22, h24)

set_option maxHeartbeats 4000000 in
set_option maxRecDepth 100000 in
theorem gX11_pour {h : Hp} {t0 : Nat} {a1 : Int} {a2 : Int} {a3 : Int} {a4 : Int} {a5 : Int} {r : Int} {h' : Hp} (r_a1 : rg a1) (r_a2 : rg a2) (r_a3 : rg a3) (r_a4 : rg a4) (r_a5 : rg a5) (hf : fX11_pour h t0 a1 a2 a3 a4 a5 = some (r, h')) : r = 0 ∨ r = 1 := by
  rw [fX11_pour.eq_1] at hf
  obtain ⟨r1, g2, hf⟩ := bd_some hf
  have z_r1 := gX11_isTray r_a1 g2
  have r_r1 := rg_01 z_r1
  by_cases z3 : r1 = 0
  · have hf := it_t z3 hf
    obtain ⟨g4, hf⟩ := gd_some hf
    obtain ⟨r5, h7, g6, hf⟩ := bd2_some hf
    have z_r5 := gX11_deny (rg_lit rfl) g6
    have r_r5 := rg_01 z_r5
    cases hf
    exact z_r5
  · have hf := it_f z3 hf
    obtain ⟨r8, g9, hf⟩ := bd_some hf
    have z_r8 := gX11_isTray r_a3 g9
    have r_r8 := rg_01 z_r8
    by_cases z10 : r8 = 0
    · have hf := it_t z10 hf
      obtain ⟨g61, hf⟩ := gd_some hf
      obtain ⟨r62, h64, g63, hf⟩ := bd2_some hf
      have z_r62 := gX11_deny (rg_lit rfl) g63
      have r_r62 := rg_01 z_r62
      cases hf
      exact z_r62
    · have hf := it_f z10 hf
      obtain ⟨g11, hf⟩ := gd_some hf
      obtain ⟨q12, gq12, hf⟩ := nn_some hf
      obtain ⟨g13, hf⟩ := gd_some hf
      obtain ⟨g14, hf⟩ := gd_some hf
      obtain ⟨q15, gq15, hf⟩ := nn_some hf
      obtain ⟨g16, hf⟩ := gd_some hf
      obtain ⟨q17, gq17, hf⟩ := nn_some hf
      obtain ⟨g18, hf⟩ := gd_some hf
      obtain ⟨r19, g20, hf⟩ := bd_some hf
      have z_r19 := gX10_isMissing g20
      have r_r19 := rg_01 z_r19
      by_cases z21 : r19 = 0
      · have hf := it_t z21 hf
        obtain ⟨g25, hf⟩ := gd_some hf
        obtain ⟨r26, g27, hf⟩ := bd_some hf
        have z_r26 := gX10_isMissing g27
        have r_r26 := rg_01 z_r26
        by_cases z28 : r26 = 0
        · have hf := it_t z28 hf
          by_cases z29 : (gI h 641 q15) = (gI h 641 q17)
          · have hf := it_t z29 hf
            by_cases z30 : a5 < 0
            · have hf := it_t z30 hf
              obtain ⟨r52, h54, g53, hf⟩ := bd2_some hf
              have z_r52 := gX11_deny (rg_lit rfl) g53
              have r_r52 := rg_01 z_r52
              cases hf
              exact z_r52
            · have hf := it_f z30 hf
              obtain ⟨r31, g32, hf⟩ := bd_some hf
              have z_r31 := gX10_hasRun r_a2 r_a5 g32
              have r_r31 := rg_01 z_r31
              by_cases z33 : r31 = 0
              · have hf := it_t z33 hf
                obtain ⟨r34, h36, g35, hf⟩ := bd2_some hf
                have z_r34 := gX11_deny (rg_lit rfl) g35
                have r_r34 := rg_01 z_r34
                cases hf
                exact z_r34
              · have hf := it_f z33 hf
                obtain ⟨r37, g38, hf⟩ := bd_some hf
                have z_r37 := gX10_hasRun r_a4 r_a5 g38
                have r_r37 := rg_01 z_r37
                by_cases z39 : r37 = 0
                · have hf := it_t z39 hf
                  obtain ⟨r49, h51, g50, hf⟩ := bd2_some hf
                  have z_r49 := gX11_deny (rg_lit rfl) g50
                  have r_r49 := rg_01 z_r49
                  cases hf
                  exact z_r49
                · have hf := it_f z39 hf
                  obtain ⟨q40, gq40, hf⟩ := nn_some hf
                  obtain ⟨q41, gq41, hf⟩ := nn_some hf
                  obtain ⟨g42, hf⟩ := gd_some hf
                  obtain ⟨g43, hf⟩ := gd_some hf
                  obtain ⟨g44, hf⟩ := gd_some hf
                  obtain ⟨h45, eh45, hf⟩ := lt_some hf
                  obtain ⟨r46, h48, g47, hf⟩ := bd2_some hf
                  have z_r46 := gX11_allow g47
                  have r_r46 := rg_01 z_r46
                  cases hf
                  exact z_r46
          · have hf := it_f z29 hf
            obtain ⟨r55, h57, g56, hf⟩ := bd2_some hf
            have z_r55 := gX11_deny (rg_lit rfl) g56
            have r_r55 := rg_01 z_r55
            cases hf
            exact z_r55
        · have hf := it_f z28 hf
          obtain ⟨r58, h60, g59, hf⟩ := bd2_some hf
          have z_r58 := gX11_deny (rg_lit rfl) g59
          have r_r58 := rg_01 z_r58
          cases hf
          exact z_r58
      · have hf := it_f z21 hf
        obtain ⟨r22, h24, g23, hf⟩ := bd2_some hf
        have z_r22 := gX11_deny (rg_lit rfl) g23
        have r_r22 := rg_01 z_r22
        cases hf
        exact z_r22

set_option maxHeartbeats 4000000 in
set_option maxRecDepth 100000 in
theorem kX11_pour {D : va_G} {cy : Nat → ClassId} {B : Nat} {l : Launch} {h : Hp} {t0 : Nat} {a1 : Int} {a2 : Int} {a3 : Int} {a4 : Int} {a5 : Int} (r_a1 : rg a1) (r_a2 : rg a2) (r_a3 : rg a3) (r_a4 : rg a4) (r_a5 : rg a5) {r : Int} {h' : Hp} (hf : fX11_pour h t0 a1 a2 a3 a4 a5 = some (r, h')) : CT D cy B l yX11_pour cX11_pour 8 (some FieldType.boolean) 6 165 0 0 [.ref t0, vI a1, vI a2, vI a3, vI a4, vI a5] h (some (vI r)) h' := by
  refine ct_intro (own := RX11) (by decide) rfl (Nat.le_of_ble_eq_true rfl) fun p e s m args below meth c X hr hlk hnm => ?_
  refine aw_lv (lv' := [(0, .ref t0), (1, vI a1), (2, vI a2), (3, vI a3), (4, vI a4), (5, vI a5)]) rfl ?_
  rw [fX11_pour.eq_1] at hf
  refine aw_iload_n (pc := 0) X dX11_pour_0 1 rfl ?_
  obtain ⟨r1, g2, hf⟩ := bd_some hf
  refine aw_invS (pc := 1) X (kX11_isTray r_a1 g2) mw_yX11_isTray kw_553 kw_554 rfl ⟨Nat.le_of_ble_eq_true rfl, Nat.le_of_ble_eq_true rfl⟩ rfl (Nat.le_of_ble_eq_true rfl) ⟨Nat.le_of_ble_eq_true rfl, Nat.le_of_ble_eq_true rfl⟩ dX11_pour_1 ?_
  refine aw_ret1 (k' := 0) (n' := 0) rfl rfl ?_
  have z_r1 := gX11_isTray r_a1 g2
  have r_r1 := rg_01 z_r1
  refine aw_if_eq (pc := 4) (tgt := 14) X r_r1 dX11_pour_4 (by decide) (fun z3 => ?_) (fun z3 => ?_)
  · have hf := it_t z3 hf
    refine aw_aload_n (pc := 14) X dX11_pour_14 0 rfl ?_
    refine aw_iconst (pc := 15) X dX11_pour_15 ?_
    obtain ⟨g4, hf⟩ := gd_some hf
    obtain ⟨r5, h7, g6, hf⟩ := bd2_some hf
    refine aw_invV (pc := 16) X (kX11_deny (rg_lit rfl) g6) mw_yX11_deny kw_560 kw_562 kw_0 g4 rfl (by decide) rfl ⟨Nat.le_of_ble_eq_true rfl, Nat.le_of_ble_eq_true rfl⟩ rfl (Nat.le_of_ble_eq_true rfl) ⟨Nat.le_of_ble_eq_true rfl, Nat.le_of_ble_eq_true rfl⟩ dX11_pour_16 ?_
    refine aw_ret1 (k' := 0) (n' := 0) rfl rfl ?_
    have z_r5 := gX11_deny (rg_lit rfl) g6
    have r_r5 := rg_01 z_r5
    cases hf
    exact aw_zret (pc := 19) X (nar_z z_r5) hr hlk rfl rfl dX11_pour_19
  · have hf := it_f z3 hf
    refine aw_iload_n (pc := 7) X dX11_pour_7 3 rfl ?_
    obtain ⟨r8, g9, hf⟩ := bd_some hf
    refine aw_invS (pc := 8) X (kX11_isTray r_a3 g9) mw_yX11_isTray kw_553 kw_554 rfl ⟨Nat.le_of_ble_eq_true rfl, Nat.le_of_ble_eq_true rfl⟩ rfl (Nat.le_of_ble_eq_true rfl) ⟨Nat.le_of_ble_eq_true rfl, Nat.le_of_ble_eq_true rfl⟩ dX11_pour_8 ?_
    refine aw_ret1 (k' := 0) (n' := 0) rfl rfl ?_
    have z_r8 := gX11_isTray r_a3 g9
    have r_r8 := rg_01 z_r8
    refine aw_if_ne (pc := 11) (tgt := 20) X r_r8 dX11_pour_11 (by decide) (fun z10 => ?_) (fun z10 => ?_)
    · have hf := it_f z10 hf
      refine aw_aload_n (pc := 20) X dX11_pour_20 0 rfl ?_
      obtain ⟨g11, hf⟩ := gd_some hf
      obtain ⟨q12, gq12, hf⟩ := nn_some hf
      refine aw_getR (pc := 21) X 11 0 704 iw_11 rfl (by decide) (by decide) g11 rfl kw_476 rfl rfl gq12 dX11_pour_21 ?_
      refine aw_iload_n (pc := 24) X dX11_pour_24 1 rfl ?_
      obtain ⟨g13, hf⟩ := gd_some hf
      obtain ⟨g14, hf⟩ := gd_some hf
      obtain ⟨q15, gq15, hf⟩ := nn_some hf
      refine aw_aald (pc := 25) X g13 (by decide) (by decide) rfl r_a1 g14 gq15 dX11_pour_25 ?_
      refine aw_astore (pc := 26) (lv' := [(6, .ref q15), (0, .ref t0), (1, vI a1), (2, vI a2), (3, vI a3), (4, vI a4), (5, vI a5)]) X dX11_pour_26 (by decide) rfl ?_
      refine aw_aload_n (pc := 28) X dX11_pour_28 1 rfl ?_
      refine aw_getR (pc := 29) X 11 0 704 iw_11 rfl (by decide) (by decide) g11 rfl kw_476 rfl rfl gq12 dX11_pour_29 ?_
      refine aw_iload_n (pc := 32) X dX11_pour_32 4 rfl ?_
      obtain ⟨g16, hf⟩ := gd_some hf
      obtain ⟨q17, gq17, hf⟩ := nn_some hf
      refine aw_aald (pc := 33) X g13 (by decide) (by decide) rfl r_a3 g16 gq17 dX11_pour_33 ?_
      refine aw_astore (pc := 34) (lv' := [(7, .ref q17), (6, .ref q15), (0, .ref t0), (1, vI a1), (2, vI a2), (3, vI a3), (4, vI a4), (5, vI a5)]) X dX11_pour_34 (by decide) rfl ?_
      refine aw_aload (pc := 36) X dX11_pour_36 1 rfl ?_
      obtain ⟨g18, hf⟩ := gd_some hf
      obtain ⟨r19, g20, hf⟩ := bd_some hf
      refine aw_invV (pc := 38) X (kX10_isMissing g20) mw_yX10_isMissing kw_583 kw_584 kw_585 g18 rfl (by decide) rfl ⟨Nat.le_of_ble_eq_true rfl, Nat.le_of_ble_eq_true rfl⟩ rfl (Nat.le_of_ble_eq_true rfl) ⟨Nat.le_of_ble_eq_true rfl, Nat.le_of_ble_eq_true rfl⟩ dX11_pour_38 ?_
      refine aw_ret1 (k' := 0) (n' := 0) rfl rfl ?_
      have z_r19 := gX10_isMissing g20
      have r_r19 := rg_01 z_r19
      refine aw_if_ne (pc := 41) (tgt := 52) X r_r19 dX11_pour_41 (by decide) (fun z21 => ?_) (fun z21 => ?_)
      · have hf := it_f z21 hf
        refine aw_aload_n (pc := 52) X dX11_pour_52 2 rfl ?_
        refine aw_iconst (pc := 53) X dX11_pour_53 ?_
        obtain ⟨r22, h24, g23, hf⟩ := bd2_some hf
        refine aw_invV (pc := 54) X (kX11_deny (rg_lit rfl) g23) mw_yX11_deny kw_560 kw_562 kw_0 g11 rfl (by decide) rfl ⟨Nat.le_of_ble_eq_true rfl, Nat.le_of_ble_eq_true rfl⟩ rfl (Nat.le_of_ble_eq_true rfl) ⟨Nat.le_of_ble_eq_true rfl, Nat.le_of_ble_eq_true rfl⟩ dX11_pour_54 ?_
        refine aw_ret1 (k' := 0) (n' := 0) rfl rfl ?_
        have z_r22 := gX11_deny (rg_lit rfl) g23
        have r_r22 := rg_01 z_r22
        cases hf
        exact aw_zret (pc := 57) X (nar_z z_r22) hr hlk rfl rfl dX11_pour_57
      · have hf := it_t z21 hf
        refine aw_aload (pc := 44) X dX11_pour_44 0 rfl ?_
        obtain ⟨g25, hf⟩ := gd_some hf
        obtain ⟨r26, g27, hf⟩ := bd_some hf
        refine aw_invV (pc := 46) X (kX10_isMissing g27) mw_yX10_isMissing kw_583 kw_584 kw_585 g25 rfl (by decide) rfl ⟨Nat.le_of_ble_eq_true rfl, Nat.le_of_ble_eq_true rfl⟩ rfl (Nat.le_of_ble_eq_true rfl) ⟨Nat.le_of_ble_eq_true rfl, Nat.le_of_ble_eq_true rfl⟩ dX11_pour_46 ?_
        refine aw_ret1 (k' := 0) (n' := 0) rfl rfl ?_
        have z_r26 := gX10_isMissing g27
        have r_r26 := rg_01 z_r26
        refine aw_if_eq (pc := 49) (tgt := 58) X r_r26 dX11_pour_49 (by decide) (fun z28 => ?_) (fun z28 => ?_)
        · have hf := it_t z28 hf
          refine aw_aload (pc := 58) X dX11_pour_58 1 rfl ?_
          refine aw_getI (pc := 60) X 10 1 641 iw_10 rfl (by decide) (by decide) g18 rfl kw_177 rfl rfl dX11_pour_60 ?_
          refine aw_aload (pc := 63) X dX11_pour_63 0 rfl ?_
          refine aw_getI (pc := 65) X 10 1 641 iw_10 rfl (by decide) (by decide) g25 rfl kw_177 rfl rfl dX11_pour_65 ?_
          refine aw_icmp_eq (pc := 68) (tgt := 78) X gI_rg gI_rg dX11_pour_68 (by decide) (fun z29 => ?_) (fun z29 => ?_)
          · have hf := it_t z29 hf
            refine aw_iload (pc := 78) X dX11_pour_78 7 rfl ?_
            refine aw_if_ge (pc := 80) (tgt := 90) X r_a5 dX11_pour_80 (by decide) (fun z30 => ?_) (fun z30 => ?_)
            · have hf := it_f z30 hf
              refine aw_aload (pc := 90) X dX11_pour_90 1 rfl ?_
              refine aw_iload_n (pc := 92) X dX11_pour_92 4 rfl ?_
              refine aw_iload (pc := 93) X dX11_pour_93 7 rfl ?_
              obtain ⟨r31, g32, hf⟩ := bd_some hf
              refine aw_invV (pc := 95) X (kX10_hasRun r_a2 r_a5 g32) mw_yX10_hasRun kw_587 kw_588 kw_589 g18 rfl (by decide) rfl ⟨Nat.le_of_ble_eq_true rfl, Nat.le_of_ble_eq_true rfl⟩ rfl (Nat.le_of_ble_eq_true rfl) ⟨Nat.le_of_ble_eq_true rfl, Nat.le_of_ble_eq_true rfl⟩ dX11_pour_95 ?_
              refine aw_ret1 (k' := 0) (n' := 0) rfl rfl ?_
              have z_r31 := gX10_hasRun r_a2 r_a5 g32
              have r_r31 := rg_01 z_r31
              refine aw_if_eq (pc := 98) (tgt := 113) X r_r31 dX11_pour_98 (by decide) (fun z33 => ?_) (fun z33 => ?_)
              · have hf := it_t z33 hf
                refine aw_aload_n (pc := 113) X dX11_pour_113 2 rfl ?_
                refine aw_iconst (pc := 114) X dX11_pour_114 ?_
                obtain ⟨r34, h36, g35, hf⟩ := bd2_some hf
                refine aw_invV (pc := 115) X (kX11_deny (rg_lit rfl) g35) mw_yX11_deny kw_560 kw_562 kw_0 g11 rfl (by decide) rfl ⟨Nat.le_of_ble_eq_true rfl, Nat.le_of_ble_eq_true rfl⟩ rfl (Nat.le_of_ble_eq_true rfl) ⟨Nat.le_of_ble_eq_true rfl, Nat.le_of_ble_eq_true rfl⟩ dX11_pour_115 ?_
                refine aw_ret1 (k' := 0) (n' := 0) rfl rfl ?_
                have z_r34 := gX11_deny (rg_lit rfl) g35
                have r_r34 := rg_01 z_r34
                cases hf
                exact aw_zret (pc := 118) X (nar_z z_r34) hr hlk rfl rfl dX11_pour_118
              · have hf := it_f z33 hf
                refine aw_aload (pc := 101) X dX11_pour_101 0 rfl ?_
                refine aw_iload (pc := 103) X dX11_pour_103 6 rfl ?_
                refine aw_iload (pc := 105) X dX11_pour_105 7 rfl ?_
                obtain ⟨r37, g38, hf⟩ := bd_some hf
                refine aw_invV (pc := 107) X (kX10_hasRun r_a4 r_a5 g38) mw_yX10_hasRun kw_587 kw_588 kw_589 g25 rfl (by decide) rfl ⟨Nat.le_of_ble_eq_true rfl, Nat.le_of_ble_eq_true rfl⟩ rfl (Nat.le_of_ble_eq_true rfl) ⟨Nat.le_of_ble_eq_true rfl, Nat.le_of_ble_eq_true rfl⟩ dX11_pour_107 ?_
                refine aw_ret1 (k' := 0) (n' := 0) rfl rfl ?_
                have z_r37 := gX10_hasRun r_a4 r_a5 g38
                have r_r37 := rg_01 z_r37
                refine aw_if_ne (pc := 110) (tgt := 119) X r_r37 dX11_pour_110 (by decide) (fun z39 => ?_) (fun z39 => ?_)
                · have hf := it_f z39 hf
                  refine aw_aload (pc := 119) X dX11_pour_119 1 rfl ?_
                  obtain ⟨q40, gq40, hf⟩ := nn_some hf
                  refine aw_getR (pc := 121) X 10 0 640 iw_10 rfl (by decide) (by decide) g18 rfl kw_175 rfl rfl gq40 dX11_pour_121 ?_
                  refine aw_iload_n (pc := 124) X dX11_pour_124 4 rfl ?_
                  refine aw_aload (pc := 125) X dX11_pour_125 0 rfl ?_
                  obtain ⟨q41, gq41, hf⟩ := nn_some hf
                  refine aw_getR (pc := 127) X 10 0 640 iw_10 rfl (by decide) (by decide) g25 rfl kw_175 rfl rfl gq41 dX11_pour_127 ?_
                  refine aw_iload (pc := 130) X dX11_pour_130 6 rfl ?_
                  refine aw_iload (pc := 132) X dX11_pour_132 7 rfl ?_
                  obtain ⟨g42, hf⟩ := gd_some hf
                  obtain ⟨g43, hf⟩ := gd_some hf
                  obtain ⟨g44, hf⟩ := gd_some hf
                  obtain ⟨h45, eh45, hf⟩ := lt_some hf
                  have kkh45 := kp_cp eh45
                  refine aw_copyl (pc := 134) X g42 g43 r_a2 r_a4 r_a5 g44 kw_617 kw_619 kw_618 kw_153 (Nat.le_of_ble_eq_true rfl) (Nat.le_of_ble_eq_true rfl) eh45 dX11_pour_134 ?_
                  refine aw_aload_n (pc := 137) X dX11_pour_137 2 rfl ?_
                  obtain ⟨r46, h48, g47, hf⟩ := bd2_some hf
                  refine aw_invV (pc := 138) X (kX11_allow g47) mw_yX11_allow kw_571 kw_573 kw_1 (kc kkh45 g11) rfl (by decide) rfl ⟨Nat.le_of_ble_eq_true rfl, Nat.le_of_ble_eq_true rfl⟩ rfl (Nat.le_of_ble_eq_true rfl) ⟨Nat.le_of_ble_eq_true rfl, Nat.le_of_ble_eq_true rfl⟩ dX11_pour_138 ?_
                  refine aw_ret1 (k' := 0) (n' := 0) rfl rfl ?_
                  have z_r46 := gX11_allow g47
                  have r_r46 := rg_01 z_r46
                  cases hf
                  exact aw_zret (pc := 141) X (nar_z z_r46) hr hlk rfl rfl dX11_pour_141
                · have hf := it_t z39 hf
                  refine aw_aload_n (pc := 113) X dX11_pour_113 2 rfl ?_
                  refine aw_iconst (pc := 114) X dX11_pour_114 ?_
                  obtain ⟨r49, h51, g50, hf⟩ := bd2_some hf
                  refine aw_invV (pc := 115) X (kX11_deny (rg_lit rfl) g50) mw_yX11_deny kw_560 kw_562 kw_0 g11 rfl (by decide) rfl ⟨Nat.le_of_ble_eq_true rfl, Nat.le_of_ble_eq_true rfl⟩ rfl (Nat.le_of_ble_eq_true rfl) ⟨Nat.le_of_ble_eq_true rfl, Nat.le_of_ble_eq_true rfl⟩ dX11_pour_115 ?_
                  refine aw_ret1 (k' := 0) (n' := 0) rfl rfl ?_
                  have z_r49 := gX11_deny (rg_lit rfl) g50
                  have r_r49 := rg_01 z_r49
                  cases hf
                  exact aw_zret (pc := 118) X (nar_z z_r49) hr hlk rfl rfl dX11_pour_118
            · have hf := it_t z30 hf
              refine aw_aload_n (pc := 83) X dX11_pour_83 2 rfl ?_
              refine aw_bipush (pc := 84) X dX11_pour_84 rfl ?_
              obtain ⟨r52, h54, g53, hf⟩ := bd2_some hf
              refine aw_invV (pc := 86) X (kX11_deny (rg_lit rfl) g53) mw_yX11_deny kw_560 kw_562 kw_0 g11 rfl (by decide) rfl ⟨Nat.le_of_ble_eq_true rfl, Nat.le_of_ble_eq_true rfl⟩ rfl (Nat.le_of_ble_eq_true rfl) ⟨Nat.le_of_ble_eq_true rfl, Nat.le_of_ble_eq_true rfl⟩ dX11_pour_86 ?_
              refine aw_ret1 (k' := 0) (n' := 0) rfl rfl ?_
              have z_r52 := gX11_deny (rg_lit rfl) g53
              have r_r52 := rg_01 z_r52
              cases hf
              exact aw_zret (pc := 89) X (nar_z z_r52) hr hlk rfl rfl dX11_pour_89
          · have hf := it_f z29 hf
            refine aw_aload_n (pc := 71) X dX11_pour_71 2 rfl ?_
            refine aw_bipush (pc := 72) X dX11_pour_72 rfl ?_
            obtain ⟨r55, h57, g56, hf⟩ := bd2_some hf
            refine aw_invV (pc := 74) X (kX11_deny (rg_lit rfl) g56) mw_yX11_deny kw_560 kw_562 kw_0 g11 rfl (by decide) rfl ⟨Nat.le_of_ble_eq_true rfl, Nat.le_of_ble_eq_true rfl⟩ rfl (Nat.le_of_ble_eq_true rfl) ⟨Nat.le_of_ble_eq_true rfl, Nat.le_of_ble_eq_true rfl⟩ dX11_pour_74 ?_
            refine aw_ret1 (k' := 0) (n' := 0) rfl rfl ?_
            have z_r55 := gX11_deny (rg_lit rfl) g56
            have r_r55 := rg_01 z_r55
            cases hf
            exact aw_zret (pc := 77) X (nar_z z_r55) hr hlk rfl rfl dX11_pour_77
        · have hf := it_f z28 hf
          refine aw_aload_n (pc := 52) X dX11_pour_52 2 rfl ?_
          refine aw_iconst (pc := 53) X dX11_pour_53 ?_
          obtain ⟨r58, h60, g59, hf⟩ := bd2_some hf
          refine aw_invV (pc := 54) X (kX11_deny (rg_lit rfl) g59) mw_yX11_deny kw_560 kw_562 kw_0 g11 rfl (by decide) rfl ⟨Nat.le_of_ble_eq_true rfl, Nat.le_of_ble_eq_true rfl⟩ rfl (Nat.le_of_ble_eq_true rfl) ⟨Nat.le_of_ble_eq_true rfl, Nat.le_of_ble_eq_true rfl⟩ dX11_pour_54 ?_
          refine aw_ret1 (k' := 0) (n' := 0) rfl rfl ?_
          have z_r58 := gX11_deny (rg_lit rfl) g59
          have r_r58 := rg_01 z_r58
          cases hf
          exact aw_zret (pc := 57) X (nar_z z_r58) hr hlk rfl rfl dX11_pour_57
    · have hf := it_t z10 hf
      refine aw_aload_n (pc := 14) X dX11_pour_14 0 rfl ?_
      refine aw_iconst (pc := 15) X dX11_pour_15 ?_
      obtain ⟨g61, hf⟩ := gd_some hf
      obtain ⟨r62, h64, g63, hf⟩ := bd2_some hf
      refine aw_invV (pc := 16) X (kX11_deny (rg_lit rfl) g63) mw_yX11_deny kw_560 kw_562 kw_0 g61 rfl (by decide) rfl ⟨Nat.le_of_ble_eq_true rfl, Nat.le_of_ble_eq_true rfl⟩ rfl (Nat.le_of_ble_eq_true rfl) ⟨Nat.le_of_ble_eq_true rfl, Nat.le_of_ble_eq_true rfl⟩ dX11_pour_16 ?_
      refine aw_ret1 (k' := 0) (n' := 0) rfl rfl ?_
      have z_r62 := gX11_deny (rg_lit rfl) g63
      have r_r62 := rg_01 z_r62
      cases hf
      exact aw_zret (pc := 19) X (nar_z z_r62) hr hlk rfl rfl dX11_pour_19

def fX12_chainFrom_b112 (t0 : Nat) (rcf : Hp → Int → Int → Int → Option Hp) (a1 : Int) (a2 : Int) (a3 : Int) (k45 : Hp → Int → Option Hp) (h : Hp) (v4 : Int) : Option Hp :=
    lt (α := Int) (w32 (v4 + 1)) fun x1 =>
    k45 h x1

def fX12_chainFrom_b90 (t0 : Nat) (rcf : Hp → Int → Int → Int → Option Hp) (a1 : Int) (a2 : Int) (a3 : Int) (k45 : Hp → Int → Option Hp) (h : Hp) (v4 : Int) : Option Hp :=
    gd ((hK h t0).1 = 12) <|
    nn (gR h 796 t0) fun q2 =>
    gd ((hK h q2).1 = 21) <|
    gd (inA a1 (hK h q2).2) <|
    lt (α := Hp) (sA h q2 a1 v4) fun h5 =>
    bd (rcf h5 (w32 (a1 + 1)) (bor a2 (shl 1 v4)) a3) fun h8 =>
    fX12_chainFrom_b112 t0 rcf a1 a2 a3 k45 h8 v4

def fX12_chainFrom_b45 (t0 : Nat) (rcf : Hp → Int → Int → Int → Option Hp) (a1 : Int) (a2 : Int) (a3 : Int) : Nat → Hp → Int → Option Hp
  | 0, _, _ => none
  | fu + 1, h, v4 =>
    gd ((hK h t0).1 = 12) <|
    nn (gR h 788 t0) fun q2 =>
    gd ((hK h q2).1 = 21) <|
    gd (inA 2 (hK h q2).2) <|
    if v4 < (gA h q2 ((2 : Int).toNat)) then (
      bd (fX12_has a2 v4) fun r6 =>
      if r6 = 0 then (
        if 0 < a1 then (
          nn (gR h 796 t0) fun q10 =>
          gd ((hK h q10).1 = 21) <|
          gd (inA (w32 (a1 - 1)) (hK h q10).2) <|
          gd (hK h q2 = (21, 1850)) <|
          bd (fX12_lapsOf (gA h q2) (gA h q10 (w32 (a1 - 1)).toNat) v4) fun r14 =>
          if r14 < a3 then (
            fX12_chainFrom_b112 t0 rcf a1 a2 a3 (fX12_chainFrom_b45 t0 rcf a1 a2 a3 fu) h v4)
          else
          fX12_chainFrom_b90 t0 rcf a1 a2 a3 (fX12_chainFrom_b45 t0 rcf a1 a2 a3 fu) h v4)
        else
        fX12_chainFrom_b90 t0 rcf a1 a2 a3 (fX12_chainFrom_b45 t0 rcf a1 a2 a3 fu) h v4)
      else
      fX12_chainFrom_b112 t0 rcf a1 a2 a3 (fX12_chainFrom_b45 t0 rcf a1 a2 a3 fu) h v4)
    else
    some h

def fX12_chainFrom_b42 (t0 : Nat) (rcf : Hp → Int → Int → Int → Option Hp) (a1 : Int) (a2 : Int) (a3 : Int) (h : Hp) : Option Hp :=
    fX12_chainFrom_b45 t0 rcf a1 a2 a3 FU h 0

def fX12_chainFrom_b16 (t0 : Nat) (rcf : Hp → Int → Int → Int → Option Hp) (a1 : Int) (a2 : Int) (a3 : Int) : Nat → Hp → Int → Option Hp
  | 0, _, _ => none
  | fu + 1, h, v4 =>
    if v4 < a1 then (
      gd ((hK h t0).1 = 12) <|
      nn (gR h 797 t0) fun q3 =>
      nn (gR h 796 t0) fun q4 =>
      gd ((hK h q4).1 = 21) <|
      gd (inA v4 (hK h q4).2) <|
      gd ((hK h q3).1 = 21) <|
      gd (inA v4 (hK h q3).2) <|
      lt (α := Hp) (sA h q3 v4 (gA h q4 v4.toNat)) fun h9 =>
      lt (α := Int) (w32 (v4 + 1)) fun x10 =>
      fX12_chainFrom_b16 t0 rcf a1 a2 a3 fu h9 x10)
    else
    fX12_chainFrom_b42 t0 rcf a1 a2 a3 h

def fX12_chainFrom_body (t0 : Nat) (rcf : Hp → Int → Int → Int → Option Hp) (h : Hp) (a1 : Int) (a2 : Int) (a3 : Int) : Option Hp :=
    gd ((hK h t0).1 = 12) <|
    if a1 ≤ (gI h 799 t0) then (
      fX12_chainFrom_b42 t0 rcf a1 a2 a3 h)
    else
    lt (α := Hp) (pI h 799 t0 a1) fun h3 =>
    fX12_chainFrom_b16 t0 rcf a1 a2 a3 FU h3 0

def fX12_chainFrom : Nat → Hp → Nat → Int → Int → Int → Option Hp
  | 0, _, _, _, _, _ => none
  | d + 1, h, t0, a1, a2, a3 => fX12_chainFrom_body t0 (fun h a1 a2 a3 => fX12_chainFrom d h t0 a1 a2 a3) h a1 a2 a3

set_option maxHeartbeats 4000000 in
set_option maxRecDepth 100000 in
theorem wX12_chainFrom_b112 {D : va_G} {cy : Nat → ClassId} {B : Nat} {p : Program} {l : Launch} {e : Env} {s : State} {m : MethodId} {args : Array Value} {below : List Frame} {meth : Method} {c : Code} {t0 : Nat} {a1 : Int} {a2 : Int} {a3 : Int} {d : Nat} {rcf : Hp → Int → Int → Int → Option Hp} {h' : Hp} {k45 : Hp → Int → Option Hp} (X : CXd D cy B p s m args c cX12_chainFrom RX12 5) (hr : meth.sig.returnType = (none : Option FieldType)) (hlk : meth.locks = false) (Hrc : ∀ (h : Hp) (z1 z2 z3 : Int) (h' : Hp), rg z1 → rg z2 → rg z3 → rcf h z1 z2 z3 = some h' → CT D cy B l yX12_chainFrom cX12_chainFrom 5 (none : Option FieldType) (12 + d) (293 + 24 * d) 0 0 [.ref t0, vI z1, vI z2, vI z3] h none h') (r_a1 : rg a1) (r_a2 : rg a2) (r_a3 : rg a3) (H45 : ∀ (h : Hp) (v4 : Int), rg v4 → k45 h v4 = some h' → AWd D cy B p l e { frames := (12 + (d + 1)), cells := 0, slots := 0, locals := (293 + 24 * (d + 1)) } s m args below meth c 5 (MQr D cy B below none h' args s 0 0) h 0 0 45 [(0, .ref t0), (1, vI a1), (2, vI a2), (3, vI a3), (4, vI v4)] []) : ∀ (h : Hp) (v4 : Int), rg v4 → fX12_chainFrom_b112 t0 rcf a1 a2 a3 k45 h v4 = some h' → AWd D cy B p l e { frames := (12 + (d + 1)), cells := 0, slots := 0, locals := (293 + 24 * (d + 1)) } s m args below meth c 5 (MQr D cy B below none h' args s 0 0) h 0 0 112 [(0, .ref t0), (1, vI a1), (2, vI a2), (3, vI a3), (4, vI v4)] [] := by
  intro h v4 r_v4 hf
  rw [fX12_chainFrom_b112.eq_1] at hf
  obtain ⟨x1, ex1, hf⟩ := lt_some hf
  have r_x1 : rg x1 := by rw [ex1]; exact w32_rg _
  refine aw_iinc (pc := 112) (lv' := [(4, vI x1), (0, .ref t0), (1, vI a1), (2, vI a2), (3, vI a3)]) X dX12_chainFrom_112 4 rfl (by decide) (by rw [ex1]; rfl) ?_
  refine aw_goto (pc := 115) (tgt := 45) X dX12_chainFrom_115 (by decide) ?_
  refine aw_sub [1, 2, 3, 4, 0] rfl ?_
  exact H45 _ _ r_x1 hf

set_option maxHeartbeats 4000000 in
set_option maxRecDepth 100000 in
theorem wX12_chainFrom_b90 {D : va_G} {cy : Nat → ClassId} {B : Nat} {p : Program} {l : Launch} {e : Env} {s : State} {m : MethodId} {args : Array Value} {below : List Frame} {meth : Method} {c : Code} {t0 : Nat} {a1 : Int} {a2 : Int} {a3 : Int} {d : Nat} {rcf : Hp → Int → Int → Int → Option Hp} {h' : Hp} {k45 : Hp → Int → Option Hp} (X : CXd D cy B p s m args c cX12_chainFrom RX12 5) (hr : meth.sig.returnType = (none : Option FieldType)) (hlk : meth.locks = false) (Hrc : ∀ (h : Hp) (z1 z2 z3 : Int) (h' : Hp), rg z1 → rg z2 → rg z3 → rcf h z1 z2 z3 = some h' → CT D cy B l yX12_chainFrom cX12_chainFrom 5 (none : Option FieldType) (12 + d) (293 + 24 * d) 0 0 [.ref t0, vI z1, vI z2, vI z3] h none h') (r_a1 : rg a1) (r_a2 : rg a2) (r_a3 : rg a3) (H45 : ∀ (h : Hp) (v4 : Int), rg v4 → k45 h v4 = some h' → AWd D cy B p l e { frames := (12 + (d + 1)), cells := 0, slots := 0, locals := (293 + 24 * (d + 1)) } s m args below meth c 5 (MQr D cy B below none h' args s 0 0) h 0 0 45 [(0, .ref t0), (1, vI a1), (2, vI a2), (3, vI a3), (4, vI v4)] []) : ∀ (h : Hp) (v4 : Int), rg v4 → fX12_chainFrom_b90 t0 rcf a1 a2 a3 k45 h v4 = some h' → AWd D cy B p l e { frames := (12 + (d + 1)), cells := 0, slots := 0, locals := (293 + 24 * (d + 1)) } s m args below meth c 5 (MQr D cy B below none h' args s 0 0) h 0 0 90 [(0, .ref t0), (1, vI a1), (2, vI a2), (3, vI a3), (4, vI v4)] [] := by
  intro h v4 r_v4 hf
  rw [fX12_chainFrom_b90.eq_1] at hf
  refine aw_aload_n (pc := 90) X dX12_chainFrom_90 0 rfl ?_
  obtain ⟨g1, hf⟩ := gd_some hf
  obtain ⟨q2, gq2, hf⟩ := nn_some hf
  refine aw_getR (pc := 91) X 12 28 796 iw_12 rfl (by decide) (by decide) g1 rfl kw_1515 rfl rfl gq2 dX12_chainFrom_91 ?_
  refine aw_iload_n (pc := 94) X dX12_chainFrom_94 1 rfl ?_
  refine aw_iload (pc := 95) X dX12_chainFrom_95 4 rfl ?_
  obtain ⟨g3, hf⟩ := gd_some hf
  obtain ⟨g4, hf⟩ := gd_some hf
  obtain ⟨h5, eh5, hf⟩ := lt_some hf
  have kkh5 := kp_A eh5
  refine aw_iast (pc := 97) X g3 r_a1 g4 eh5 dX12_chainFrom_97 ?_
  refine aw_aload_n (pc := 98) X dX12_chainFrom_98 0 rfl ?_
  refine aw_iload_n (pc := 99) X dX12_chainFrom_99 1 rfl ?_
  refine aw_iconst (pc := 100) X dX12_chainFrom_100 ?_
  refine aw_iadd (pc := 101) X dX12_chainFrom_101 ?_
  refine aw_iload_n (pc := 102) X dX12_chainFrom_102 2 rfl ?_
  refine aw_iconst (pc := 103) X dX12_chainFrom_103 ?_
  refine aw_iload (pc := 104) X dX12_chainFrom_104 4 rfl ?_
  refine aw_ishl (pc := 106) X dX12_chainFrom_106 ?_
  refine aw_ior (pc := 107) X dX12_chainFrom_107 ?_
  refine aw_iload_n (pc := 108) X dX12_chainFrom_108 3 rfl ?_
  obtain ⟨h8, g7, hf⟩ := bd_some hf
  refine aw_invV (pc := 109) X (Hrc _ _ _ _ _ (w32_rg _) (ti_rg _) r_a3 g7) mw_yX12_chainFrom kw_2096 kw_2098 kw_123 (kc kkh5 g1) rfl (by decide) rfl (by constructor <;> (dsimp only; omega)) rfl (Nat.le_of_ble_eq_true rfl) ⟨Nat.le_of_ble_eq_true rfl, Nat.le_of_ble_eq_true rfl⟩ dX12_chainFrom_109 ?_
  refine aw_ret0 (k' := 0) (n' := 0) rfl rfl ?_
  exact wX12_chainFrom_b112 X hr hlk Hrc r_a1 r_a2 r_a3 H45 _ _ r_v4 hf

set_option maxHeartbeats 4000000 in
set_option maxRecDepth 100000 in
theorem wX12_chainFrom_b45 {D : va_G} {cy : Nat → ClassId} {B : Nat} {p : Program} {l : Launch} {e : Env} {s : State} {m : MethodId} {args : Array Value} {below : List Frame} {meth : Method} {c : Code} {t0 : Nat} {a1 : Int} {a2 : Int} {a3 : Int} {d : Nat} {rcf : Hp → Int → Int → Int → Option Hp} {h' : Hp} (X : CXd D cy B p s m args c cX12_chainFrom RX12 5) (hr : meth.sig.returnType = (none : Option FieldType)) (hlk : meth.locks = false) (Hrc : ∀ (h : Hp) (z1 z2 z3 : Int) (h' : Hp), rg z1 → rg z2 → rg z3 → rcf h z1 z2 z3 = some h' → CT D cy B l yX12_chainFrom cX12_chainFrom 5 (none : Option FieldType) (12 + d) (293 + 24 * d) 0 0 [.ref t0, vI z1, vI z2, vI z3] h none h') (r_a1 : rg a1) (r_a2 : rg a2) (r_a3 : rg a3) : ∀ (fu : Nat) (h : Hp) (v4 : Int), rg v4 → fX12_chainFrom_b45 t0 rcf a1 a2 a3 fu h v4 = some h' → AWd D cy B p l e { frames := (12 + (d + 1)), cells := 0, slots := 0, locals := (293 + 24 * (d + 1)) } s m args below meth c 5 (MQr D cy B below none h' args s 0 0) h 0 0 45 [(0, .ref t0), (1, vI a1), (2, vI a2), (3, vI a3), (4, vI v4)] [] := by
  intro fu
  induction fu with
  | zero => intro h v4 r_v4 hf; rw [fX12_chainFrom_b45.eq_1] at hf; cases hf
  | succ fu ih =>
    intro h v4 r_v4 hf
    rw [fX12_chainFrom_b45.eq_2] at hf
    refine aw_iload (pc := 45) X dX12_chainFrom_45 4 rfl ?_
    refine aw_aload_n (pc := 47) X dX12_chainFrom_47 0 rfl ?_
    obtain ⟨g1, hf⟩ := gd_some hf
    obtain ⟨q2, gq2, hf⟩ := nn_some hf
    refine aw_getR (pc := 48) X 12 20 788 iw_12 rfl (by decide) (by decide) g1 rfl kw_1507 rfl rfl gq2 dX12_chainFrom_48 ?_
    refine aw_iconst (pc := 51) X dX12_chainFrom_51 ?_
    obtain ⟨g3, hf⟩ := gd_some hf
    obtain ⟨g4, hf⟩ := gd_some hf
    refine aw_iald (pc := 52) X g3 (rg_lit rfl) g4 dX12_chainFrom_52 ?_
    refine aw_icmp_ge (pc := 53) (tgt := 118) X r_v4 gA_rg dX12_chainFrom_53 (by decide) (fun z5 => ?_) (fun z5 => ?_)
    · have hf := it_f z5 hf
      cases hf
      exact aw_vret (pc := 118) X hr hlk rfl rfl dX12_chainFrom_118
    · have hf := it_t z5 hf
      refine aw_iload_n (pc := 56) X dX12_chainFrom_56 2 rfl ?_
      refine aw_iload (pc := 57) X dX12_chainFrom_57 4 rfl ?_
      obtain ⟨r6, g7, hf⟩ := bd_some hf
      refine aw_invS (pc := 59) X (kX12_has r_a2 r_v4 g7) mw_yX12_has kw_2051 kw_2052 rfl (by constructor <;> (dsimp only; omega)) rfl (Nat.le_of_ble_eq_true rfl) ⟨Nat.le_of_ble_eq_true rfl, Nat.le_of_ble_eq_true rfl⟩ dX12_chainFrom_59 ?_
      refine aw_ret1 (k' := 0) (n' := 0) rfl rfl ?_
      have z_r6 := gX12_has r_a2 r_v4 g7
      have r_r6 := rg_01 z_r6
      refine aw_if_ne (pc := 62) (tgt := 112) X r_r6 dX12_chainFrom_62 (by decide) (fun z8 => ?_) (fun z8 => ?_)
      · have hf := it_f z8 hf
        exact wX12_chainFrom_b112 X hr hlk Hrc r_a1 r_a2 r_a3 ih _ _ r_v4 hf
      · have hf := it_t z8 hf
        refine aw_iload_n (pc := 65) X dX12_chainFrom_65 1 rfl ?_
        refine aw_if_le (pc := 66) (tgt := 90) X r_a1 dX12_chainFrom_66 (by decide) (fun z9 => ?_) (fun z9 => ?_)
        · have hf := it_f z9 hf
          exact wX12_chainFrom_b90 X hr hlk Hrc r_a1 r_a2 r_a3 ih _ _ r_v4 hf
        · have hf := it_t z9 hf
          refine aw_aload_n (pc := 69) X dX12_chainFrom_69 0 rfl ?_
          refine aw_aload_n (pc := 70) X dX12_chainFrom_70 0 rfl ?_
          obtain ⟨q10, gq10, hf⟩ := nn_some hf
          refine aw_getR (pc := 71) X 12 28 796 iw_12 rfl (by decide) (by decide) g1 rfl kw_1515 rfl rfl gq10 dX12_chainFrom_71 ?_
          refine aw_iload_n (pc := 74) X dX12_chainFrom_74 1 rfl ?_
          refine aw_iconst (pc := 75) X dX12_chainFrom_75 ?_
          refine aw_isub (pc := 76) X dX12_chainFrom_76 ?_
          obtain ⟨g11, hf⟩ := gd_some hf
          obtain ⟨g12, hf⟩ := gd_some hf
          refine aw_iald (pc := 77) X g11 (w32_rg _) g12 dX12_chainFrom_77 ?_
          refine aw_iload (pc := 78) X dX12_chainFrom_78 4 rfl ?_
          obtain ⟨g13, hf⟩ := gd_some hf
          obtain ⟨r14, g15, hf⟩ := bd_some hf
          refine aw_invV (pc := 80) X (kX12_lapsOf ⟨g1, gq2, g13⟩ gA_rg r_v4 g15) mw_yX12_lapsOf kw_2074 kw_2076 kw_122 g1 rfl (by decide) rfl (by constructor <;> (dsimp only; omega)) rfl (Nat.le_of_ble_eq_true rfl) ⟨Nat.le_of_ble_eq_true rfl, Nat.le_of_ble_eq_true rfl⟩ dX12_chainFrom_80 ?_
          refine aw_ret1 (k' := 0) (n' := 0) rfl rfl ?_
          have r_r14 := gX12_lapsOf (fun _ => gA_rg) gA_rg r_v4 g15
          refine aw_iload_n (pc := 83) X dX12_chainFrom_83 3 rfl ?_
          refine aw_icmp_ge (pc := 84) (tgt := 90) X r_r14 r_a3 dX12_chainFrom_84 (by decide) (fun z16 => ?_) (fun z16 => ?_)
          · have hf := it_f z16 hf
            exact wX12_chainFrom_b90 X hr hlk Hrc r_a1 r_a2 r_a3 ih _ _ r_v4 hf
          · have hf := it_t z16 hf
            refine aw_goto (pc := 87) (tgt := 112) X dX12_chainFrom_87 (by decide) ?_
            exact wX12_chainFrom_b112 X hr hlk Hrc r_a1 r_a2 r_a3 ih _ _ r_v4 hf

set_option maxHeartbeats 4000000 in
set_option maxRecDepth 100000 in
theorem wX12_chainFrom_b42 {D : va_G} {cy : Nat → ClassId} {B : Nat} {p : Program} {l : Launch} {e : Env} {s : State} {m : MethodId} {args : Array Value} {below : List Frame} {meth : Method} {c : Code} {t0 : Nat} {a1 : Int} {a2 : Int} {a3 : Int} {d : Nat} {rcf : Hp → Int → Int → Int → Option Hp} {h' : Hp} (X : CXd D cy B p s m args c cX12_chainFrom RX12 5) (hr : meth.sig.returnType = (none : Option FieldType)) (hlk : meth.locks = false) (Hrc : ∀ (h : Hp) (z1 z2 z3 : Int) (h' : Hp), rg z1 → rg z2 → rg z3 → rcf h z1 z2 z3 = some h' → CT D cy B l yX12_chainFrom cX12_chainFrom 5 (none : Option FieldType) (12 + d) (293 + 24 * d) 0 0 [.ref t0, vI z1, vI z2, vI z3] h none h') (r_a1 : rg a1) (r_a2 : rg a2) (r_a3 : rg a3) : ∀ (h : Hp), fX12_chainFrom_b42 t0 rcf a1 a2 a3 h = some h' → AWd D cy B p l e { frames := (12 + (d + 1)), cells := 0, slots := 0, locals := (293 + 24 * (d + 1)) } s m args below meth c 5 (MQr D cy B below none h' args s 0 0) h 0 0 42 [(0, .ref t0), (1, vI a1), (2, vI a2), (3, vI a3)] [] := by
  intro h hf
  rw [fX12_chainFrom_b42.eq_1] at hf
  refine aw_iconst (pc := 42) X dX12_chainFrom_42 ?_
  refine aw_istore (pc := 43) (lv' := [(4, vI 0), (0, .ref t0), (1, vI a1), (2, vI a2), (3, vI a3)]) X dX12_chainFrom_43 (by decide) rfl ?_
  refine aw_sub [1, 2, 3, 4, 0] rfl ?_
  exact wX12_chainFrom_b45 X hr hlk Hrc r_a1 r_a2 r_a3 _ _ _ (rg_lit rfl) hf

set_option maxHeartbeats 4000000 in
set_option maxRecDepth 100000 in
theorem wX12_chainFrom_b16 {D : va_G} {cy : Nat → ClassId} {B : Nat} {p : Program} {l : Launch} {e : Env} {s : State} {m : MethodId} {args : Array Value} {below : List Frame} {meth : Method} {c : Code} {t0 : Nat} {a1 : Int} {a2 : Int} {a3 : Int} {d : Nat} {rcf : Hp → Int → Int → Int → Option Hp} {h' : Hp} (X : CXd D cy B p s m args c cX12_chainFrom RX12 5) (hr : meth.sig.returnType = (none : Option FieldType)) (hlk : meth.locks = false) (Hrc : ∀ (h : Hp) (z1 z2 z3 : Int) (h' : Hp), rg z1 → rg z2 → rg z3 → rcf h z1 z2 z3 = some h' → CT D cy B l yX12_chainFrom cX12_chainFrom 5 (none : Option FieldType) (12 + d) (293 + 24 * d) 0 0 [.ref t0, vI z1, vI z2, vI z3] h none h') (r_a1 : rg a1) (r_a2 : rg a2) (r_a3 : rg a3) : ∀ (fu : Nat) (h : Hp) (v4 : Int), rg v4 → fX12_chainFrom_b16 t0 rcf a1 a2 a3 fu h v4 = some h' → AWd D cy B p l e { frames := (12 + (d + 1)), cells := 0, slots := 0, locals := (293 + 24 * (d + 1)) } s m args below meth c 5 (MQr D cy B below none h' args s 0 0) h 0 0 16 [(0, .ref t0), (1, vI a1), (2, vI a2), (3, vI a3), (4, vI v4)] [] := by
  intro fu
  induction fu with
  | zero => intro h v4 r_v4 hf; rw [fX12_chainFrom_b16.eq_1] at hf; cases hf
  | succ fu ih =>
    intro h v4 r_v4 hf
    rw [fX12_chainFrom_b16.eq_2] at hf
    refine aw_iload (pc := 16) X dX12_chainFrom_16 4 rfl ?_
    refine aw_iload_n (pc := 18) X dX12_chainFrom_18 1 rfl ?_
    refine aw_icmp_ge (pc := 19) (tgt := 42) X r_v4 r_a1 dX12_chainFrom_19 (by decide) (fun z1 => ?_) (fun z1 => ?_)
    · have hf := it_f z1 hf
      refine aw_sub [0, 1, 2, 3] rfl ?_
      exact wX12_chainFrom_b42 X hr hlk Hrc r_a1 r_a2 r_a3 _ hf
    · have hf := it_t z1 hf
      refine aw_aload_n (pc := 22) X dX12_chainFrom_22 0 rfl ?_
      obtain ⟨g2, hf⟩ := gd_some hf
      obtain ⟨q3, gq3, hf⟩ := nn_some hf
      refine aw_getR (pc := 23) X 12 29 797 iw_12 rfl (by decide) (by decide) g2 rfl kw_1516 rfl rfl gq3 dX12_chainFrom_23 ?_
      refine aw_iload (pc := 26) X dX12_chainFrom_26 4 rfl ?_
      refine aw_aload_n (pc := 28) X dX12_chainFrom_28 0 rfl ?_
      obtain ⟨q4, gq4, hf⟩ := nn_some hf
      refine aw_getR (pc := 29) X 12 28 796 iw_12 rfl (by decide) (by decide) g2 rfl kw_1515 rfl rfl gq4 dX12_chainFrom_29 ?_
      refine aw_iload (pc := 32) X dX12_chainFrom_32 4 rfl ?_
      obtain ⟨g5, hf⟩ := gd_some hf
      obtain ⟨g6, hf⟩ := gd_some hf
      refine aw_iald (pc := 34) X g5 r_v4 g6 dX12_chainFrom_34 ?_
      obtain ⟨g7, hf⟩ := gd_some hf
      obtain ⟨g8, hf⟩ := gd_some hf
      obtain ⟨h9, eh9, hf⟩ := lt_some hf
      have kkh9 := kp_A eh9
      refine aw_iast (pc := 35) X g7 r_v4 g8 eh9 dX12_chainFrom_35 ?_
      obtain ⟨x10, ex10, hf⟩ := lt_some hf
      have r_x10 : rg x10 := by rw [ex10]; exact w32_rg _
      refine aw_iinc (pc := 36) (lv' := [(4, vI x10), (0, .ref t0), (1, vI a1), (2, vI a2), (3, vI a3)]) X dX12_chainFrom_36 4 rfl (by decide) (by rw [ex10]; rfl) ?_
      refine aw_goto (pc := 39) (tgt := 16) X dX12_chainFrom_39 (by decide) ?_
      refine aw_sub [1, 2, 3, 4, 0] rfl ?_
      exact ih _ _ r_x10 hf

set_option maxHeartbeats 4000000 in
set_option maxRecDepth 100000 in
theorem kX12_chainFrom_body {D : va_G} {cy : Nat → ClassId} {B : Nat} {l : Launch} {h : Hp} {t0 d : Nat} {rcf : Hp → Int → Int → Int → Option Hp} {a1 : Int} {a2 : Int} {a3 : Int} (Hrc : ∀ (h : Hp) (z1 z2 z3 : Int) (h' : Hp), rg z1 → rg z2 → rg z3 → rcf h z1 z2 z3 = some h' → CT D cy B l yX12_chainFrom cX12_chainFrom 5 (none : Option FieldType) (12 + d) (293 + 24 * d) 0 0 [.ref t0, vI z1, vI z2, vI z3] h none h') (r_a1 : rg a1) (r_a2 : rg a2) (r_a3 : rg a3) {h' : Hp} (hf : fX12_chainFrom_body t0 rcf h a1 a2 a3 = some h') : CT D cy B l yX12_chainFrom cX12_chainFrom 5 (none : Option FieldType) (12 + (d + 1)) (293 + 24 * (d + 1)) 0 0 [.ref t0, vI a1, vI a2, vI a3] h none h' := by
  refine ct_intro (own := RX12) (by decide) rfl (Nat.le_of_ble_eq_true rfl) fun p e s m args below meth c X hr hlk hnm => ?_
  refine aw_lv (lv' := [(0, .ref t0), (1, vI a1), (2, vI a2), (3, vI a3)]) rfl ?_
  rw [fX12_chainFrom_body.eq_1] at hf
  refine aw_iload_n (pc := 0) X dX12_chainFrom_0 1 rfl ?_
  refine aw_aload_n (pc := 1) X dX12_chainFrom_1 0 rfl ?_
  obtain ⟨g1, hf⟩ := gd_some hf
  refine aw_getI (pc := 2) X 12 31 799 iw_12 rfl (by decide) (by decide) g1 rfl kw_1518 rfl rfl dX12_chainFrom_2 ?_
  refine aw_icmp_le (pc := 5) (tgt := 42) X r_a1 gI_rg dX12_chainFrom_5 (by decide) (fun z2 => ?_) (fun z2 => ?_)
  · have hf := it_t z2 hf
    exact wX12_chainFrom_b42 X hr hlk Hrc r_a1 r_a2 r_a3 _ hf
  · have hf := it_f z2 hf
    refine aw_aload_n (pc := 8) X dX12_chainFrom_8 0 rfl ?_
    refine aw_iload_n (pc := 9) X dX12_chainFrom_9 1 rfl ?_
    obtain ⟨h3, eh3, hf⟩ := lt_some hf
    have kkh3 := kp_I eh3
    refine aw_setI (pc := 10) X 12 31 799 iw_12 tyX12 tyX12_ok nmX12 rfl (by decide) (by decide) rfl g1 kw_1518 rfl (Or.inl rfl) rfl (tyX12_ok 31 (by decide)) rfl eh3 dX12_chainFrom_10 ?_
    refine aw_iconst (pc := 13) X dX12_chainFrom_13 ?_
    refine aw_istore (pc := 14) (lv' := [(4, vI 0), (0, .ref t0), (1, vI a1), (2, vI a2), (3, vI a3)]) X dX12_chainFrom_14 (by decide) rfl ?_
    refine aw_sub [1, 2, 3, 4, 0] rfl ?_
    exact wX12_chainFrom_b16 X hr hlk Hrc r_a1 r_a2 r_a3 _ _ _ (rg_lit rfl) hf

theorem kX12_chainFrom {D : va_G} {cy : Nat → ClassId} {B : Nat} {l : Launch} {t0 : Nat} : ∀ (d : Nat) (h : Hp) (a1 a2 a3 : Int) (h' : Hp), rg a1 → rg a2 → rg a3 → fX12_chainFrom d h t0 a1 a2 a3 = some h' → CT D cy B l yX12_chainFrom cX12_chainFrom 5 (none : Option FieldType) (12 + d) (293 + 24 * d) 0 0 [.ref t0, vI a1, vI a2, vI a3] h none h' := by
  intro d
  induction d with
  | zero => intro h a1 a2 a3 h' r0 r1 r2 hf; rw [fX12_chainFrom.eq_1] at hf; cases hf
  | succ d ih => intro h a1 a2 a3 h' r0 r1 r2 hf; rw [fX12_chainFrom.eq_2] at hf; exact kX12_chainFrom_body (rcf := fun h a1 a2 a3 => fX12_chainFrom d h t0 a1 a2 a3) (fun h a1 a2 a3 h' q0 q1 q2 hf => ih h a1 a2 a3 h' q0 q1 q2 hf) r0 r1 r2 hf

def fX12_chain_b66 (t0 : Nat) (a1 : Int) : Nat → Hp → Int → Option (Int × Hp)
  | 0, _, _ => none
  | fu + 1, h, v2 =>
    gd ((hK h t0).1 = 12) <|
    if v2 < (gI h 799 t0) then (
      nn (gR h 798 t0) fun q3 =>
      nn (gR h 797 t0) fun q4 =>
      gd ((hK h q4).1 = 21) <|
      gd (inA v2 (hK h q4).2) <|
      gd ((hK h q3).1 = 21) <|
      gd (inA v2 (hK h q3).2) <|
      lt (α := Hp) (sA h q3 v2 (gA h q4 v2.toNat)) fun h9 =>
      lt (α := Int) (w32 (v2 + 1)) fun x10 =>
      fX12_chain_b66 t0 a1 fu h9 x10)
    else
    some (gI h 799 t0, h)

def fX12_chain (h : Hp) (t0 : Nat) (a1 : Int) : Option (Int × Hp) :=
    gd ((hK h t0).1 = 12) <|
    lt (α := Hp) (pI h 769 t0 0) fun h2 =>
    lt (α := Hp) (pI h2 768 t0 0) fun h3 =>
    bd (fX12_isIn a1 1 11) fun r4 =>
    if r4 = 0 then (
      bd2 (fX12_refuse h3 t0 5) fun r20 h22 =>
      some (r20, h22))
    else
    nn (gR h3 788 t0) fun q7 =>
    gd ((hK h3 q7).1 = 21) <|
    gd (inA 2 (hK h3 q7).2) <|
    if (gA h3 q7 ((2 : Int).toNat)) = 0 then (
      bd2 (fX12_refuse h3 t0 8) fun r17 h19 =>
      some (r17, h19))
    else
    lt (α := Hp) (pI h3 799 t0 0) fun h11 =>
    bd (fX12_chainFrom 12 h11 t0 0 0 a1) fun h14 =>
    gd ((hK h14 t0).1 = 12) <|
    lt (α := Hp) (pI h14 800 t0 (gI h14 799 t0)) fun h16 =>
    fX12_chain_b66 t0 a1 FU h16 0

set_option maxHeartbeats 4000000 in
set_option maxRecDepth 100000 in
theorem gX12_chain_b66 {t0 : Nat} {a1 : Int} {r : Int} {h' : Hp} (r_a1 : rg a1) : ∀ (fu : Nat) (h : Hp) (v2 : Int), rg v2 → fX12_chain_b66 t0 a1 fu h v2 = some (r, h') → rg r := by
  intro fu
  induction fu with
  | zero => intro h v2 r_v2 hf; rw [fX12_chain_b66.eq_1] at hf; cases hf
  | succ fu ih =>
    intro h v2 r_v2 hf
    rw [fX12_chain_b66.eq_2] at hf
    obtain ⟨g1, hf⟩ := gd_some hf
    by_cases z2 : v2 < (gI h 799 t0)
    · have hf := it_t z2 hf
      obtain ⟨q3, gq3, hf⟩ := nn_some hf
      obtain ⟨q4, gq4, hf⟩ := nn_some hf
      obtain ⟨g5, hf⟩ := gd_some hf
      obtain ⟨g6, hf⟩ := gd_some hf
      obtain ⟨g7, hf⟩ := gd_some hf
      obtain ⟨g8, hf⟩ := gd_some hf
      obtain ⟨h9, eh9, hf⟩ := lt_some hf
      obtain ⟨x10, ex10, hf⟩ := lt_some hf
      have r_x10 : rg x10 := by rw [ex10]; exact w32_rg _
      exact ih _ _ r_x10 hf
    · have hf := it_f z2 hf
      cases hf
      exact gI_rg

set_option maxHeartbeats 4000000 in
set_option maxRecDepth 100000 in
theorem gX12_chain {h : Hp} {t0 : Nat} {a1 : Int} {r : Int} {h' : Hp} (r_a1 : rg a1) (hf : fX12_chain h t0 a1 = some (r, h')) : rg r := by
  rw [fX12_chain.eq_1] at hf
  obtain ⟨g1, hf⟩ := gd_some hf
  obtain ⟨h2, eh2, hf⟩ := lt_some hf
  obtain ⟨h3, eh3, hf⟩ := lt_some hf
  obtain ⟨r4, g5, hf⟩ := bd_some hf
  have z_r4 := gX12_isIn (rg_rl r_a1) (rl_lit rfl) (rl_lit rfl) g5
  have r_r4 := rg_01 z_r4
  by_cases z6 : r4 = 0
  · have hf := it_t z6 hf
    obtain ⟨r20, h22, g21, hf⟩ := bd2_some hf
    have r_r20 := gX12_refuse (rg_lit rfl) g21
    cases hf
    exact r_r20
  · have hf := it_f z6 hf
    obtain ⟨q7, gq7, hf⟩ := nn_some hf
    obtain ⟨g8, hf⟩ := gd_some hf
    obtain ⟨g9, hf⟩ := gd_some hf
    by_cases z10 : (gA h3 q7 ((2 : Int).toNat)) = 0
    · have hf := it_t z10 hf
      obtain ⟨r17, h19, g18, hf⟩ := bd2_some hf
      have r_r17 := gX12_refuse (rg_lit rfl) g18
      cases hf
      exact r_r17
    · have hf := it_f z10 hf
      obtain ⟨h11, eh11, hf⟩ := lt_some hf
      obtain ⟨h14, g13, hf⟩ := bd_some hf
      obtain ⟨g15, hf⟩ := gd_some hf
      obtain ⟨h16, eh16, hf⟩ := lt_some hf
      exact gX12_chain_b66 r_a1 _ _ _ (rg_lit rfl) hf

set_option maxHeartbeats 4000000 in
set_option maxRecDepth 100000 in
theorem wX12_chain_b66 {D : va_G} {cy : Nat → ClassId} {B : Nat} {p : Program} {l : Launch} {e : Env} {s : State} {m : MethodId} {args : Array Value} {below : List Frame} {meth : Method} {c : Code} {t0 : Nat} {a1 : Int} {r : Int} {h' : Hp} (X : CXd D cy B p s m args c cX12_chain RX12 3) (hr : meth.sig.returnType = (some FieldType.int)) (hlk : meth.locks = false) (r_a1 : rg a1) : ∀ (fu : Nat) (h : Hp) (v2 : Int), rg v2 → fX12_chain_b66 t0 a1 fu h v2 = some (r, h') → AWd D cy B p l e { frames := 26, cells := 0, slots := 0, locals := 625 } s m args below meth c 3 (MQr D cy B below (some (vI r)) h' args s 0 0) h 0 0 66 [(0, .ref t0), (2, vI v2)] [] := by
  intro fu
  induction fu with
  | zero => intro h v2 r_v2 hf; rw [fX12_chain_b66.eq_1] at hf; cases hf
  | succ fu ih =>
    intro h v2 r_v2 hf
    rw [fX12_chain_b66.eq_2] at hf
    refine aw_iload_n (pc := 66) X dX12_chain_66 1 rfl ?_
    refine aw_aload_n (pc := 67) X dX12_chain_67 0 rfl ?_
    obtain ⟨g1, hf⟩ := gd_some hf
    refine aw_getI (pc := 68) X 12 31 799 iw_12 rfl (by decide) (by decide) g1 rfl kw_1518 rfl rfl dX12_chain_68 ?_
    refine aw_icmp_ge (pc := 71) (tgt := 92) X r_v2 gI_rg dX12_chain_71 (by decide) (fun z2 => ?_) (fun z2 => ?_)
    · have hf := it_f z2 hf
      refine aw_aload_n (pc := 92) X dX12_chain_92 0 rfl ?_
      refine aw_getI (pc := 93) X 12 31 799 iw_12 rfl (by decide) (by decide) g1 rfl kw_1518 rfl rfl dX12_chain_93 ?_
      cases hf
      exact aw_iret (pc := 96) X hr hlk rfl rfl dX12_chain_96
    · have hf := it_t z2 hf
      refine aw_aload_n (pc := 74) X dX12_chain_74 0 rfl ?_
      obtain ⟨q3, gq3, hf⟩ := nn_some hf
      refine aw_getR (pc := 75) X 12 30 798 iw_12 rfl (by decide) (by decide) g1 rfl kw_1517 rfl rfl gq3 dX12_chain_75 ?_
      refine aw_iload_n (pc := 78) X dX12_chain_78 1 rfl ?_
      refine aw_aload_n (pc := 79) X dX12_chain_79 0 rfl ?_
      obtain ⟨q4, gq4, hf⟩ := nn_some hf
      refine aw_getR (pc := 80) X 12 29 797 iw_12 rfl (by decide) (by decide) g1 rfl kw_1516 rfl rfl gq4 dX12_chain_80 ?_
      refine aw_iload_n (pc := 83) X dX12_chain_83 1 rfl ?_
      obtain ⟨g5, hf⟩ := gd_some hf
      obtain ⟨g6, hf⟩ := gd_some hf
      refine aw_iald (pc := 84) X g5 r_v2 g6 dX12_chain_84 ?_
      obtain ⟨g7, hf⟩ := gd_some hf
      obtain ⟨g8, hf⟩ := gd_some hf
      obtain ⟨h9, eh9, hf⟩ := lt_some hf
      have kkh9 := kp_A eh9
      refine aw_iast (pc := 85) X g7 r_v2 g8 eh9 dX12_chain_85 ?_
      obtain ⟨x10, ex10, hf⟩ := lt_some hf
      have r_x10 : rg x10 := by rw [ex10]; exact w32_rg _
      refine aw_iinc (pc := 86) (lv' := [(2, vI x10), (0, .ref t0)]) X dX12_chain_86 1 rfl (by decide) (by rw [ex10]; rfl) ?_
      refine aw_goto (pc := 89) (tgt := 66) X dX12_chain_89 (by decide) ?_
      refine aw_sub [1, 0] rfl ?_
      exact ih _ _ r_x10 hf

set_option maxHeartbeats 4000000 in
set_option maxRecDepth 100000 in
theorem kX12_chain {D : va_G} {cy : Nat → ClassId} {B : Nat} {l : Launch} {h : Hp} {t0 : Nat} {a1 : Int} (r_a1 : rg a1) {r : Int} {h' : Hp} (hf : fX12_chain h t0 a1 = some (r, h')) : CT D cy B l yX12_chain cX12_chain 3 (some FieldType.int) 26 625 0 0 [.ref t0, vI a1] h (some (vI r)) h' := by
  refine ct_intro (own := RX12) (by decide) rfl (Nat.le_of_ble_eq_true rfl) fun p e s m args below meth c X hr hlk hnm => ?_
  refine aw_lv (lv' := [(0, .ref t0), (1, vI a1)]) rfl ?_
  rw [fX12_chain.eq_1] at hf
  refine aw_aload_n (pc := 0) X dX12_chain_0 0 rfl ?_
  refine aw_iconst (pc := 1) X dX12_chain_1 ?_
  obtain ⟨g1, hf⟩ := gd_some hf
  obtain ⟨h2, eh2, hf⟩ := lt_some hf
  have kkh2 := kp_I eh2
  refine aw_setI (pc := 2) X 12 1 769 iw_12 tyX12 tyX12_ok nmX12 rfl (by decide) (by decide) rfl g1 kw_1488 rfl (Or.inl rfl) rfl (tyX12_ok 1 (by decide)) rfl eh2 dX12_chain_2 ?_
  refine aw_aload_n (pc := 5) X dX12_chain_5 0 rfl ?_
  refine aw_iconst (pc := 6) X dX12_chain_6 ?_
  obtain ⟨h3, eh3, hf⟩ := lt_some hf
  have kkh3 := (kp_I eh3).trans kkh2
  refine aw_setI (pc := 7) X 12 0 768 iw_12 tyX12 tyX12_ok nmX12 rfl (by decide) (by decide) rfl (kc kkh2 g1) kw_1487 rfl (Or.inl rfl) rfl (tyX12_ok 0 (by decide)) rfl eh3 dX12_chain_7 ?_
  refine aw_iload_n (pc := 10) X dX12_chain_10 1 rfl ?_
  refine aw_i2l (pc := 11) X r_a1 dX12_chain_11 ?_
  refine aw_lconst (pc := 12) (x := 1) X 1 dX12_chain_12 rfl ?_
  refine aw_ldc2 (pc := 13) X dX12_chain_13 kw_2095 ?_
  obtain ⟨r4, g5, hf⟩ := bd_some hf
  refine aw_invS (pc := 16) X (kX12_isIn (rg_rl r_a1) (rl_lit rfl) (rl_lit rfl) g5) mw_yX12_isIn kw_1843 kw_1844 rfl ⟨Nat.le_of_ble_eq_true rfl, Nat.le_of_ble_eq_true rfl⟩ rfl (Nat.le_of_ble_eq_true rfl) ⟨Nat.le_of_ble_eq_true rfl, Nat.le_of_ble_eq_true rfl⟩ dX12_chain_16 ?_
  refine aw_ret1 (k' := 0) (n' := 0) rfl rfl ?_
  have z_r4 := gX12_isIn (rg_rl r_a1) (rl_lit rfl) (rl_lit rfl) g5
  have r_r4 := rg_01 z_r4
  refine aw_if_ne (pc := 19) (tgt := 28) X r_r4 dX12_chain_19 (by decide) (fun z6 => ?_) (fun z6 => ?_)
  · have hf := it_f z6 hf
    refine aw_aload_n (pc := 28) X dX12_chain_28 0 rfl ?_
    obtain ⟨q7, gq7, hf⟩ := nn_some hf
    refine aw_getR (pc := 29) X 12 20 788 iw_12 rfl (by decide) (by decide) (kc kkh3 g1) rfl kw_1507 rfl rfl gq7 dX12_chain_29 ?_
    refine aw_iconst (pc := 32) X dX12_chain_32 ?_
    obtain ⟨g8, hf⟩ := gd_some hf
    obtain ⟨g9, hf⟩ := gd_some hf
    refine aw_iald (pc := 33) X g8 (rg_lit rfl) g9 dX12_chain_33 ?_
    refine aw_if_ne (pc := 34) (tgt := 44) X gA_rg dX12_chain_34 (by decide) (fun z10 => ?_) (fun z10 => ?_)
    · have hf := it_f z10 hf
      refine aw_aload_n (pc := 44) X dX12_chain_44 0 rfl ?_
      refine aw_iconst (pc := 45) X dX12_chain_45 ?_
      obtain ⟨h11, eh11, hf⟩ := lt_some hf
      have kkh11 := (kp_I eh11).trans kkh3
      refine aw_setI (pc := 46) X 12 31 799 iw_12 tyX12 tyX12_ok nmX12 rfl (by decide) (by decide) rfl (kc kkh3 g1) kw_1518 rfl (Or.inl rfl) rfl (tyX12_ok 31 (by decide)) rfl eh11 dX12_chain_46 ?_
      refine aw_aload_n (pc := 49) X dX12_chain_49 0 rfl ?_
      refine aw_iconst (pc := 50) X dX12_chain_50 ?_
      refine aw_iconst (pc := 51) X dX12_chain_51 ?_
      refine aw_iload_n (pc := 52) X dX12_chain_52 1 rfl ?_
      obtain ⟨h14, g13, hf⟩ := bd_some hf
      refine aw_invV (pc := 53) X (kX12_chainFrom 12 _ _ _ _ _ (rg_lit rfl) (rg_lit rfl) r_a1 g13) mw_yX12_chainFrom kw_2096 kw_2098 kw_123 (kc kkh11 g1) rfl (by decide) rfl ⟨Nat.le_of_ble_eq_true rfl, Nat.le_of_ble_eq_true rfl⟩ rfl (Nat.le_of_ble_eq_true rfl) ⟨Nat.le_of_ble_eq_true rfl, Nat.le_of_ble_eq_true rfl⟩ dX12_chain_53 ?_
      refine aw_ret0 (k' := 0) (n' := 0) rfl rfl ?_
      refine aw_aload_n (pc := 56) X dX12_chain_56 0 rfl ?_
      refine aw_aload_n (pc := 57) X dX12_chain_57 0 rfl ?_
      obtain ⟨g15, hf⟩ := gd_some hf
      refine aw_getI (pc := 58) X 12 31 799 iw_12 rfl (by decide) (by decide) g15 rfl kw_1518 rfl rfl dX12_chain_58 ?_
      obtain ⟨h16, eh16, hf⟩ := lt_some hf
      have kkh16 := kp_I eh16
      refine aw_setI (pc := 61) X 12 32 800 iw_12 tyX12 tyX12_ok nmX12 rfl (by decide) (by decide) rfl g15 kw_1519 rfl (Or.inl rfl) rfl (tyX12_ok 32 (by decide)) rfl eh16 dX12_chain_61 ?_
      refine aw_iconst (pc := 64) X dX12_chain_64 ?_
      refine aw_istore_n (pc := 65) (lv' := [(2, vI 0), (0, .ref t0), (1, vI a1)]) X dX12_chain_65 (by decide) rfl ?_
      refine aw_sub [1, 0] rfl ?_
      exact wX12_chain_b66 X hr hlk r_a1 _ _ _ (rg_lit rfl) hf
    · have hf := it_t z10 hf
      refine aw_aload_n (pc := 37) X dX12_chain_37 0 rfl ?_
      refine aw_bipush (pc := 38) X dX12_chain_38 rfl ?_
      obtain ⟨r17, h19, g18, hf⟩ := bd2_some hf
      refine aw_invV (pc := 40) X (kX12_refuse (rg_lit rfl) g18) mw_yX12_refuse kw_1887 kw_1889 kw_100 (kc kkh3 g1) rfl (by decide) rfl ⟨Nat.le_of_ble_eq_true rfl, Nat.le_of_ble_eq_true rfl⟩ rfl (Nat.le_of_ble_eq_true rfl) ⟨Nat.le_of_ble_eq_true rfl, Nat.le_of_ble_eq_true rfl⟩ dX12_chain_40 ?_
      refine aw_ret1 (k' := 0) (n' := 0) rfl rfl ?_
      have r_r17 := gX12_refuse (rg_lit rfl) g18
      cases hf
      exact aw_iret (pc := 43) X hr hlk rfl rfl dX12_chain_43
  · have hf := it_t z6 hf
    refine aw_aload_n (pc := 22) X dX12_chain_22 0 rfl ?_
    refine aw_iconst (pc := 23) X dX12_chain_23 ?_
    obtain ⟨r20, h22, g21, hf⟩ := bd2_some hf
    refine aw_invV (pc := 24) X (kX12_refuse (rg_lit rfl) g21) mw_yX12_refuse kw_1887 kw_1889 kw_100 (kc kkh3 g1) rfl (by decide) rfl ⟨Nat.le_of_ble_eq_true rfl, Nat.le_of_ble_eq_true rfl⟩ rfl (Nat.le_of_ble_eq_true rfl) ⟨Nat.le_of_ble_eq_true rfl, Nat.le_of_ble_eq_true rfl⟩ dX12_chain_24 ?_
    refine aw_ret1 (k' := 0) (n' := 0) rfl rfl ?_
    have r_r20 := gX12_refuse (rg_lit rfl) g21
    cases hf
    exact aw_iret (pc := 27) X hr hlk rfl rfl dX12_chain_27

def fX12_mergeFrom_b36 (t0 : Nat) (rcf : Hp → Int → Int → Int → Option Hp) (a1 : Int) (a2 : Int) (a3 : Int) : Nat → Hp → Int → Option Hp
  | 0, _, _ => none
  | fu + 1, h, v4 =>
    if v4 < a3 then (
      gd ((hK h t0).1 = 12) <|
      nn (gR h 803 t0) fun q3 =>
      nn (gR h 791 t0) fun q4 =>
      gd ((hK h q4).1 = 21) <|
      gd (inA v4 (hK h q4).2) <|
      gd ((hK h q3).1 = 21) <|
      gd (inA v4 (hK h q3).2) <|
      lt (α := Hp) (sA h q3 v4 (gA h q4 v4.toNat)) fun h9 =>
      lt (α := Int) (w32 (v4 + 1)) fun x10 =>
      fX12_mergeFrom_b36 t0 rcf a1 a2 a3 fu h9 x10)
    else
    some h

def fX12_mergeFrom_b28 (t0 : Nat) (rcf : Hp → Int → Int → Int → Option Hp) (a1 : Int) (a2 : Int) (a3 : Int) (h : Hp) : Option Hp :=
    gd ((hK h t0).1 = 12) <|
    lt (α := Hp) (pI h 805 t0 a3) fun h2 =>
    fX12_mergeFrom_b36 t0 rcf a1 a2 a3 FU h2 0

def fX12_mergeFrom_b177 (t0 : Nat) (rcf : Hp → Int → Int → Int → Option Hp) (a1 : Int) (a2 : Int) (a3 : Int) (k66 : Hp → Int → Option Hp) (h : Hp) (v4 : Int) : Option Hp :=
    lt (α := Int) (w32 (v4 + 1)) fun x1 =>
    k66 h x1

def fX12_mergeFrom_b117 (t0 : Nat) (rcf : Hp → Int → Int → Int → Option Hp) (a1 : Int) (a2 : Int) (a3 : Int) (k66 : Hp → Int → Option Hp) : Nat → Hp → Int → Int → Int → Int → Option Hp
  | 0, _, _, _, _, _ => none
  | fu + 1, h, v4, v5, v6, v7 =>
    gd ((hK h t0).1 = 12) <|
    nn (gR h 788 t0) fun q2 =>
    gd (hK h q2 = (21, 1850)) <|
    bd (fX12_heardNow (gA h q2) v5) fun r4 =>
    if v7 < r4 then (
      nn (gR h 791 t0) fun q13 =>
      gd (hK h q2 = (21, 1850)) <|
      bd (fX12_heardLetter (gA h q2) v5 v7) fun r15 =>
      gd ((hK h q13).1 = 21) <|
      gd (inA (w32 ((w32 (a3 + v7)) - v6)) (hK h q13).2) <|
      lt (α := Hp) (sA h q13 (w32 ((w32 (a3 + v7)) - v6)) r15) fun h19 =>
      lt (α := Int) (w32 (v7 + 1)) fun x20 =>
      fX12_mergeFrom_b117 t0 rcf a1 a2 a3 k66 fu h19 v4 v5 v6 x20)
    else
    gd (hK h q2 = (21, 1850)) <|
    bd (fX12_heardNow (gA h q2) v5) fun r8 =>
    bd (rcf h (bor a1 (shl 1 v4)) v5 (w32 ((w32 (a3 + r8)) - v6))) fun h12 =>
    fX12_mergeFrom_b177 t0 rcf a1 a2 a3 k66 h12 v4

def fX12_mergeFrom_b111 (t0 : Nat) (rcf : Hp → Int → Int → Int → Option Hp) (a1 : Int) (a2 : Int) (a3 : Int) (k66 : Hp → Int → Option Hp) (h : Hp) (v4 : Int) (v5 : Int) (s0 : Int) : Option Hp :=
    fX12_mergeFrom_b117 t0 rcf a1 a2 a3 k66 FU h v4 v5 s0 s0

def fX12_mergeFrom_b66 (t0 : Nat) (rcf : Hp → Int → Int → Int → Option Hp) (a1 : Int) (a2 : Int) (a3 : Int) : Nat → Hp → Int → Option Hp
  | 0, _, _ => none
  | fu + 1, h, v4 =>
    gd ((hK h t0).1 = 12) <|
    if v4 < (gI h 804 t0) then (
      bd (fX12_has a1 v4) fun r3 =>
      if r3 = 0 then (
        nn (gR h 801 t0) fun q6 =>
        gd ((hK h q6).1 = 21) <|
        gd (inA v4 (hK h q6).2) <|
        lt (α := Int) (gA h q6 v4.toNat) fun x9 =>
        if a2 < 0 then (
          fX12_mergeFrom_b111 t0 rcf a1 a2 a3 (fX12_mergeFrom_b66 t0 rcf a1 a2 a3 fu) h v4 x9 0)
        else
        nn (gR h 788 t0) fun q11 =>
        gd (hK h q11 = (21, 1850)) <|
        bd (fX12_lapsOf (gA h q11) a2 x9) fun r13 =>
        fX12_mergeFrom_b111 t0 rcf a1 a2 a3 (fX12_mergeFrom_b66 t0 rcf a1 a2 a3 fu) h v4 x9 r13)
      else
      fX12_mergeFrom_b177 t0 rcf a1 a2 a3 (fX12_mergeFrom_b66 t0 rcf a1 a2 a3 fu) h v4)
    else
    some h

def fX12_mergeFrom_body (t0 : Nat) (rcf : Hp → Int → Int → Int → Option Hp) (h : Hp) (a1 : Int) (a2 : Int) (a3 : Int) : Option Hp :=
    gd ((hK h t0).1 = 12) <|
    if a1 = (w32 ((shl 1 (gI h 804 t0)) - 1)) then (
      if (gI h 805 t0) < 0 then (
        fX12_mergeFrom_b28 t0 rcf a1 a2 a3 h)
      else
      bd (fX12_isLess h t0 a3) fun r4 =>
      if r4 = 0 then (
        some h)
      else
      fX12_mergeFrom_b28 t0 rcf a1 a2 a3 h)
    else
    fX12_mergeFrom_b66 t0 rcf a1 a2 a3 FU h 0

def fX12_mergeFrom : Nat → Hp → Nat → Int → Int → Int → Option Hp
  | 0, _, _, _, _, _ => none
  | d + 1, h, t0, a1, a2, a3 => fX12_mergeFrom_body t0 (fun h a1 a2 a3 => fX12_mergeFrom d h t0 a1 a2 a3) h a1 a2 a3

set_option maxHeartbeats 4000000 in
set_option maxRecDepth 100000 in
theorem wX12_mergeFrom_b36 {D : va_G} {cy : Nat → ClassId} {B : Nat} {p : Program} {l : Launch} {e : Env} {s : State} {m : MethodId} {args : Array Value} {below : List Frame} {meth : Method} {c : Code} {t0 : Nat} {a1 : Int} {a2 : Int} {a3 : Int} {d : Nat} {rcf : Hp → Int → Int → Int → Option Hp} {h' : Hp} (X : CXd D cy B p s m args c cX12_mergeFrom RX12 8) (hr : meth.sig.returnType = (none : Option FieldType)) (hlk : meth.locks = false) (Hrc : ∀ (h : Hp) (z1 z2 z3 : Int) (h' : Hp), rg z1 → rg z2 → rg z3 → rcf h z1 z2 z3 = some h' → CT D cy B l yX12_mergeFrom cX12_mergeFrom 8 (none : Option FieldType) (12 + d) (293 + 27 * d) 0 0 [.ref t0, vI z1, vI z2, vI z3] h none h') (r_a1 : rg a1) (r_a2 : rg a2) (r_a3 : rg a3) : ∀ (fu : Nat) (h : Hp) (v4 : Int), rg v4 → fX12_mergeFrom_b36 t0 rcf a1 a2 a3 fu h v4 = some h' → AWd D cy B p l e { frames := (12 + (d + 1)), cells := 0, slots := 0, locals := (293 + 27 * (d + 1)) } s m args below meth c 8 (MQr D cy B below none h' args s 0 0) h 0 0 36 [(0, .ref t0), (3, vI a3), (4, vI v4)] [] := by
  intro fu
  induction fu with
  | zero => intro h v4 r_v4 hf; rw [fX12_mergeFrom_b36.eq_1] at hf; cases hf
  | succ fu ih =>
    intro h v4 r_v4 hf
    rw [fX12_mergeFrom_b36.eq_2] at hf
    refine aw_iload (pc := 36) X dX12_mergeFrom_36 2 rfl ?_
    refine aw_iload_n (pc := 38) X dX12_mergeFrom_38 1 rfl ?_
    refine aw_icmp_ge (pc := 39) (tgt := 62) X r_v4 r_a3 dX12_mergeFrom_39 (by decide) (fun z1 => ?_) (fun z1 => ?_)
    · have hf := it_f z1 hf
      cases hf
      exact aw_vret (pc := 62) X hr hlk rfl rfl dX12_mergeFrom_62
    · have hf := it_t z1 hf
      refine aw_aload_n (pc := 42) X dX12_mergeFrom_42 0 rfl ?_
      obtain ⟨g2, hf⟩ := gd_some hf
      obtain ⟨q3, gq3, hf⟩ := nn_some hf
      refine aw_getR (pc := 43) X 12 35 803 iw_12 rfl (by decide) (by decide) g2 rfl kw_1522 rfl rfl gq3 dX12_mergeFrom_43 ?_
      refine aw_iload (pc := 46) X dX12_mergeFrom_46 2 rfl ?_
      refine aw_aload_n (pc := 48) X dX12_mergeFrom_48 0 rfl ?_
      obtain ⟨q4, gq4, hf⟩ := nn_some hf
      refine aw_getR (pc := 49) X 12 23 791 iw_12 rfl (by decide) (by decide) g2 rfl kw_1510 rfl rfl gq4 dX12_mergeFrom_49 ?_
      refine aw_iload (pc := 52) X dX12_mergeFrom_52 2 rfl ?_
      obtain ⟨g5, hf⟩ := gd_some hf
      obtain ⟨g6, hf⟩ := gd_some hf
      refine aw_iald (pc := 54) X g5 r_v4 g6 dX12_mergeFrom_54 ?_
      obtain ⟨g7, hf⟩ := gd_some hf
      obtain ⟨g8, hf⟩ := gd_some hf
      obtain ⟨h9, eh9, hf⟩ := lt_some hf
      have kkh9 := kp_A eh9
      refine aw_iast (pc := 55) X g7 r_v4 g8 eh9 dX12_mergeFrom_55 ?_
      obtain ⟨x10, ex10, hf⟩ := lt_some hf
      have r_x10 : rg x10 := by rw [ex10]; exact w32_rg _
      refine aw_iinc (pc := 56) (lv' := [(4, vI x10), (0, .ref t0), (3, vI a3)]) X dX12_mergeFrom_56 2 rfl (by decide) (by rw [ex10]; rfl) ?_
      refine aw_goto (pc := 59) (tgt := 36) X dX12_mergeFrom_59 (by decide) ?_
      refine aw_sub [1, 2, 0] rfl ?_
      exact ih _ _ r_x10 hf

set_option maxHeartbeats 4000000 in
set_option maxRecDepth 100000 in
theorem wX12_mergeFrom_b28 {D : va_G} {cy : Nat → ClassId} {B : Nat} {p : Program} {l : Launch} {e : Env} {s : State} {m : MethodId} {args : Array Value} {below : List Frame} {meth : Method} {c : Code} {t0 : Nat} {a1 : Int} {a2 : Int} {a3 : Int} {d : Nat} {rcf : Hp → Int → Int → Int → Option Hp} {h' : Hp} (X : CXd D cy B p s m args c cX12_mergeFrom RX12 8) (hr : meth.sig.returnType = (none : Option FieldType)) (hlk : meth.locks = false) (Hrc : ∀ (h : Hp) (z1 z2 z3 : Int) (h' : Hp), rg z1 → rg z2 → rg z3 → rcf h z1 z2 z3 = some h' → CT D cy B l yX12_mergeFrom cX12_mergeFrom 8 (none : Option FieldType) (12 + d) (293 + 27 * d) 0 0 [.ref t0, vI z1, vI z2, vI z3] h none h') (r_a1 : rg a1) (r_a2 : rg a2) (r_a3 : rg a3) : ∀ (h : Hp), fX12_mergeFrom_b28 t0 rcf a1 a2 a3 h = some h' → AWd D cy B p l e { frames := (12 + (d + 1)), cells := 0, slots := 0, locals := (293 + 27 * (d + 1)) } s m args below meth c 8 (MQr D cy B below none h' args s 0 0) h 0 0 28 [(0, .ref t0), (3, vI a3)] [] := by
  intro h hf
  rw [fX12_mergeFrom_b28.eq_1] at hf
  refine aw_aload_n (pc := 28) X dX12_mergeFrom_28 0 rfl ?_
  refine aw_iload_n (pc := 29) X dX12_mergeFrom_29 1 rfl ?_
  obtain ⟨g1, hf⟩ := gd_some hf
  obtain ⟨h2, eh2, hf⟩ := lt_some hf
  have kkh2 := kp_I eh2
  refine aw_setI (pc := 30) X 12 37 805 iw_12 tyX12 tyX12_ok nmX12 rfl (by decide) (by decide) rfl g1 kw_1524 rfl (Or.inl rfl) rfl (tyX12_ok 37 (by decide)) rfl eh2 dX12_mergeFrom_30 ?_
  refine aw_iconst (pc := 33) X dX12_mergeFrom_33 ?_
  refine aw_istore (pc := 34) (lv' := [(4, vI 0), (0, .ref t0), (3, vI a3)]) X dX12_mergeFrom_34 (by decide) rfl ?_
  refine aw_sub [1, 2, 0] rfl ?_
  exact wX12_mergeFrom_b36 X hr hlk Hrc r_a1 r_a2 r_a3 _ _ _ (rg_lit rfl) hf

set_option maxHeartbeats 4000000 in
set_option maxRecDepth 100000 in
theorem wX12_mergeFrom_b177 {D : va_G} {cy : Nat → ClassId} {B : Nat} {p : Program} {l : Launch} {e : Env} {s : State} {m : MethodId} {args : Array Value} {below : List Frame} {meth : Method} {c : Code} {t0 : Nat} {a1 : Int} {a2 : Int} {a3 : Int} {d : Nat} {rcf : Hp → Int → Int → Int → Option Hp} {h' : Hp} {k66 : Hp → Int → Option Hp} (X : CXd D cy B p s m args c cX12_mergeFrom RX12 8) (hr : meth.sig.returnType = (none : Option FieldType)) (hlk : meth.locks = false) (Hrc : ∀ (h : Hp) (z1 z2 z3 : Int) (h' : Hp), rg z1 → rg z2 → rg z3 → rcf h z1 z2 z3 = some h' → CT D cy B l yX12_mergeFrom cX12_mergeFrom 8 (none : Option FieldType) (12 + d) (293 + 27 * d) 0 0 [.ref t0, vI z1, vI z2, vI z3] h none h') (r_a1 : rg a1) (r_a2 : rg a2) (r_a3 : rg a3) (H66 : ∀ (h : Hp) (v4 : Int), rg v4 → k66 h v4 = some h' → AWd D cy B p l e { frames := (12 + (d + 1)), cells := 0, slots := 0, locals := (293 + 27 * (d + 1)) } s m args below meth c 8 (MQr D cy B below none h' args s 0 0) h 0 0 66 [(0, .ref t0), (1, vI a1), (2, vI a2), (3, vI a3), (4, vI v4)] []) : ∀ (h : Hp) (v4 : Int), rg v4 → fX12_mergeFrom_b177 t0 rcf a1 a2 a3 k66 h v4 = some h' → AWd D cy B p l e { frames := (12 + (d + 1)), cells := 0, slots := 0, locals := (293 + 27 * (d + 1)) } s m args below meth c 8 (MQr D cy B below none h' args s 0 0) h 0 0 177 [(0, .ref t0), (1, vI a1), (2, vI a2), (3, vI a3), (4, vI v4)] [] := by
  intro h v4 r_v4 hf
  rw [fX12_mergeFrom_b177.eq_1] at hf
  obtain ⟨x1, ex1, hf⟩ := lt_some hf
  have r_x1 : rg x1 := by rw [ex1]; exact w32_rg _
  refine aw_iinc (pc := 177) (lv' := [(4, vI x1), (0, .ref t0), (1, vI a1), (2, vI a2), (3, vI a3)]) X dX12_mergeFrom_177 4 rfl (by decide) (by rw [ex1]; rfl) ?_
  refine aw_goto (pc := 180) (tgt := 66) X dX12_mergeFrom_180 (by decide) ?_
  refine aw_sub [1, 2, 3, 4, 0] rfl ?_
  exact H66 _ _ r_x1 hf

set_option maxHeartbeats 4000000 in
set_option maxRecDepth 100000 in
theorem wX12_mergeFrom_b117 {D : va_G} {cy : Nat → ClassId} {B : Nat} {p : Program} {l : Launch} {e : Env} {s : State} {m : MethodId} {args : Array Value} {below : List Frame} {meth : Method} {c : Code} {t0 : Nat} {a1 : Int} {a2 : Int} {a3 : Int} {d : Nat} {rcf : Hp → Int → Int → Int → Option Hp} {h' : Hp} {k66 : Hp → Int → Option Hp} (X : CXd D cy B p s m args c cX12_mergeFrom RX12 8) (hr : meth.sig.returnType = (none : Option FieldType)) (hlk : meth.locks = false) (Hrc : ∀ (h : Hp) (z1 z2 z3 : Int) (h' : Hp), rg z1 → rg z2 → rg z3 → rcf h z1 z2 z3 = some h' → CT D cy B l yX12_mergeFrom cX12_mergeFrom 8 (none : Option FieldType) (12 + d) (293 + 27 * d) 0 0 [.ref t0, vI z1, vI z2, vI z3] h none h') (r_a1 : rg a1) (r_a2 : rg a2) (r_a3 : rg a3) (H66 : ∀ (h : Hp) (v4 : Int), rg v4 → k66 h v4 = some h' → AWd D cy B p l e { frames := (12 + (d + 1)), cells := 0, slots := 0, locals := (293 + 27 * (d + 1)) } s m args below meth c 8 (MQr D cy B below none h' args s 0 0) h 0 0 66 [(0, .ref t0), (1, vI a1), (2, vI a2), (3, vI a3), (4, vI v4)] []) : ∀ (fu : Nat) (h : Hp) (v4 : Int) (v5 : Int) (v6 : Int) (v7 : Int), rg v4 → rg v5 → rg v6 → rg v7 → fX12_mergeFrom_b117 t0 rcf a1 a2 a3 k66 fu h v4 v5 v6 v7 = some h' → AWd D cy B p l e { frames := (12 + (d + 1)), cells := 0, slots := 0, locals := (293 + 27 * (d + 1)) } s m args below meth c 8 (MQr D cy B below none h' args s 0 0) h 0 0 117 [(0, .ref t0), (1, vI a1), (2, vI a2), (3, vI a3), (4, vI v4), (5, vI v5), (6, vI v6), (7, vI v7)] [] := by
  intro fu
  induction fu with
  | zero => intro h v4 v5 v6 v7 r_v4 r_v5 r_v6 r_v7 hf; rw [fX12_mergeFrom_b117.eq_1] at hf; cases hf
  | succ fu ih =>
    intro h v4 v5 v6 v7 r_v4 r_v5 r_v6 r_v7 hf
    rw [fX12_mergeFrom_b117.eq_2] at hf
    refine aw_iload (pc := 117) X dX12_mergeFrom_117 7 rfl ?_
    refine aw_aload_n (pc := 119) X dX12_mergeFrom_119 0 rfl ?_
    refine aw_iload (pc := 120) X dX12_mergeFrom_120 5 rfl ?_
    obtain ⟨g1, hf⟩ := gd_some hf
    obtain ⟨q2, gq2, hf⟩ := nn_some hf
    obtain ⟨g3, hf⟩ := gd_some hf
    obtain ⟨r4, g5, hf⟩ := bd_some hf
    refine aw_invV (pc := 122) X (kX12_heardNow ⟨g1, gq2, g3⟩ r_v5 g5) mw_yX12_heardNow kw_1920 kw_1922 kw_104 g1 rfl (by decide) rfl (by constructor <;> (dsimp only; omega)) rfl (Nat.le_of_ble_eq_true rfl) ⟨Nat.le_of_ble_eq_true rfl, Nat.le_of_ble_eq_true rfl⟩ dX12_mergeFrom_122 ?_
    refine aw_ret1 (k' := 0) (n' := 0) rfl rfl ?_
    have r_r4 := gX12_heardNow (fun _ => gA_rg) r_v5 g5
    refine aw_icmp_ge (pc := 125) (tgt := 154) X r_v7 r_r4 dX12_mergeFrom_125 (by decide) (fun z6 => ?_) (fun z6 => ?_)
    · have hf := it_f z6 hf
      refine aw_aload_n (pc := 154) X dX12_mergeFrom_154 0 rfl ?_
      refine aw_iload_n (pc := 155) X dX12_mergeFrom_155 1 rfl ?_
      refine aw_iconst (pc := 156) X dX12_mergeFrom_156 ?_
      refine aw_iload (pc := 157) X dX12_mergeFrom_157 4 rfl ?_
      refine aw_ishl (pc := 159) X dX12_mergeFrom_159 ?_
      refine aw_ior (pc := 160) X dX12_mergeFrom_160 ?_
      refine aw_iload (pc := 161) X dX12_mergeFrom_161 5 rfl ?_
      refine aw_iload_n (pc := 163) X dX12_mergeFrom_163 3 rfl ?_
      refine aw_aload_n (pc := 164) X dX12_mergeFrom_164 0 rfl ?_
      refine aw_iload (pc := 165) X dX12_mergeFrom_165 5 rfl ?_
      obtain ⟨g7, hf⟩ := gd_some hf
      obtain ⟨r8, g9, hf⟩ := bd_some hf
      refine aw_invV (pc := 167) X (kX12_heardNow ⟨g1, gq2, g7⟩ r_v5 g9) mw_yX12_heardNow kw_1920 kw_1922 kw_104 g1 rfl (by decide) rfl (by constructor <;> (dsimp only; omega)) rfl (Nat.le_of_ble_eq_true rfl) ⟨Nat.le_of_ble_eq_true rfl, Nat.le_of_ble_eq_true rfl⟩ dX12_mergeFrom_167 ?_
      refine aw_ret1 (k' := 0) (n' := 0) rfl rfl ?_
      have r_r8 := gX12_heardNow (fun _ => gA_rg) r_v5 g9
      refine aw_iadd (pc := 170) X dX12_mergeFrom_170 ?_
      refine aw_iload (pc := 171) X dX12_mergeFrom_171 6 rfl ?_
      refine aw_isub (pc := 173) X dX12_mergeFrom_173 ?_
      obtain ⟨h12, g11, hf⟩ := bd_some hf
      refine aw_invV (pc := 174) X (Hrc _ _ _ _ _ (ti_rg _) r_v5 (w32_rg _) g11) mw_yX12_mergeFrom kw_2123 kw_2125 kw_126 g1 rfl (by decide) rfl (by constructor <;> (dsimp only; omega)) rfl (Nat.le_of_ble_eq_true rfl) ⟨Nat.le_of_ble_eq_true rfl, Nat.le_of_ble_eq_true rfl⟩ dX12_mergeFrom_174 ?_
      refine aw_ret0 (k' := 0) (n' := 0) rfl rfl ?_
      refine aw_sub [0, 1, 2, 3, 4] rfl ?_
      exact wX12_mergeFrom_b177 X hr hlk Hrc r_a1 r_a2 r_a3 H66 _ _ r_v4 hf
    · have hf := it_t z6 hf
      refine aw_aload_n (pc := 128) X dX12_mergeFrom_128 0 rfl ?_
      obtain ⟨q13, gq13, hf⟩ := nn_some hf
      refine aw_getR (pc := 129) X 12 23 791 iw_12 rfl (by decide) (by decide) g1 rfl kw_1510 rfl rfl gq13 dX12_mergeFrom_129 ?_
      refine aw_iload_n (pc := 132) X dX12_mergeFrom_132 3 rfl ?_
      refine aw_iload (pc := 133) X dX12_mergeFrom_133 7 rfl ?_
      refine aw_iadd (pc := 135) X dX12_mergeFrom_135 ?_
      refine aw_iload (pc := 136) X dX12_mergeFrom_136 6 rfl ?_
      refine aw_isub (pc := 138) X dX12_mergeFrom_138 ?_
      refine aw_aload_n (pc := 139) X dX12_mergeFrom_139 0 rfl ?_
      refine aw_iload (pc := 140) X dX12_mergeFrom_140 5 rfl ?_
      refine aw_iload (pc := 142) X dX12_mergeFrom_142 7 rfl ?_
      obtain ⟨g14, hf⟩ := gd_some hf
      obtain ⟨r15, g16, hf⟩ := bd_some hf
      refine aw_invV (pc := 144) X (kX12_heardLetter ⟨g1, gq2, g14⟩ r_v5 r_v7 g16) mw_yX12_heardLetter kw_1936 kw_1938 kw_107 g1 rfl (by decide) rfl (by constructor <;> (dsimp only; omega)) rfl (Nat.le_of_ble_eq_true rfl) ⟨Nat.le_of_ble_eq_true rfl, Nat.le_of_ble_eq_true rfl⟩ dX12_mergeFrom_144 ?_
      refine aw_ret1 (k' := 0) (n' := 0) rfl rfl ?_
      have r_r15 := gX12_heardLetter (fun _ => gA_rg) r_v5 r_v7 g16
      obtain ⟨g17, hf⟩ := gd_some hf
      obtain ⟨g18, hf⟩ := gd_some hf
      obtain ⟨h19, eh19, hf⟩ := lt_some hf
      have kkh19 := kp_A eh19
      refine aw_iast (pc := 147) X g17 (w32_rg _) g18 eh19 dX12_mergeFrom_147 ?_
      obtain ⟨x20, ex20, hf⟩ := lt_some hf
      have r_x20 : rg x20 := by rw [ex20]; exact w32_rg _
      refine aw_iinc (pc := 148) (lv' := [(7, vI x20), (0, .ref t0), (1, vI a1), (2, vI a2), (3, vI a3), (4, vI v4), (5, vI v5), (6, vI v6)]) X dX12_mergeFrom_148 7 rfl (by decide) (by rw [ex20]; rfl) ?_
      refine aw_goto (pc := 151) (tgt := 117) X dX12_mergeFrom_151 (by decide) ?_
      refine aw_sub [1, 2, 3, 4, 5, 6, 7, 0] rfl ?_
      exact ih _ _ _ _ _ r_v4 r_v5 r_v6 r_x20 hf

set_option maxHeartbeats 4000000 in
set_option maxRecDepth 100000 in
theorem wX12_mergeFrom_b111 {D : va_G} {cy : Nat → ClassId} {B : Nat} {p : Program} {l : Launch} {e : Env} {s : State} {m : MethodId} {args : Array Value} {below : List Frame} {meth : Method} {c : Code} {t0 : Nat} {a1 : Int} {a2 : Int} {a3 : Int} {d : Nat} {rcf : Hp → Int → Int → Int → Option Hp} {h' : Hp} {k66 : Hp → Int → Option Hp} (X : CXd D cy B p s m args c cX12_mergeFrom RX12 8) (hr : meth.sig.returnType = (none : Option FieldType)) (hlk : meth.locks = false) (Hrc : ∀ (h : Hp) (z1 z2 z3 : Int) (h' : Hp), rg z1 → rg z2 → rg z3 → rcf h z1 z2 z3 = some h' → CT D cy B l yX12_mergeFrom cX12_mergeFrom 8 (none : Option FieldType) (12 + d) (293 + 27 * d) 0 0 [.ref t0, vI z1, vI z2, vI z3] h none h') (r_a1 : rg a1) (r_a2 : rg a2) (r_a3 : rg a3) (H66 : ∀ (h : Hp) (v4 : Int), rg v4 → k66 h v4 = some h' → AWd D cy B p l e { frames := (12 + (d + 1)), cells := 0, slots := 0, locals := (293 + 27 * (d + 1)) } s m args below meth c 8 (MQr D cy B below none h' args s 0 0) h 0 0 66 [(0, .ref t0), (1, vI a1), (2, vI a2), (3, vI a3), (4, vI v4)] []) : ∀ (h : Hp) (v4 : Int) (v5 : Int) (s0 : Int), rg v4 → rg v5 → rg s0 → fX12_mergeFrom_b111 t0 rcf a1 a2 a3 k66 h v4 v5 s0 = some h' → AWd D cy B p l e { frames := (12 + (d + 1)), cells := 0, slots := 0, locals := (293 + 27 * (d + 1)) } s m args below meth c 8 (MQr D cy B below none h' args s 0 0) h 0 0 111 [(0, .ref t0), (1, vI a1), (2, vI a2), (3, vI a3), (4, vI v4), (5, vI v5)] [vI s0] := by
  intro h v4 v5 s0 r_v4 r_v5 r_s0 hf
  rw [fX12_mergeFrom_b111.eq_1] at hf
  refine aw_istore (pc := 111) (lv' := [(6, vI s0), (0, .ref t0), (1, vI a1), (2, vI a2), (3, vI a3), (4, vI v4), (5, vI v5)]) X dX12_mergeFrom_111 (by decide) rfl ?_
  refine aw_iload (pc := 113) X dX12_mergeFrom_113 0 rfl ?_
  refine aw_istore (pc := 115) (lv' := [(7, vI s0), (6, vI s0), (0, .ref t0), (1, vI a1), (2, vI a2), (3, vI a3), (4, vI v4), (5, vI v5)]) X dX12_mergeFrom_115 (by decide) rfl ?_
  refine aw_sub [2, 3, 4, 5, 6, 7, 1, 0] rfl ?_
  exact wX12_mergeFrom_b117 X hr hlk Hrc r_a1 r_a2 r_a3 H66 _ _ _ _ _ _ r_v4 r_v5 r_s0 r_s0 hf

set_option maxHeartbeats 4000000 in
set_option maxRecDepth 100000 in
theorem wX12_mergeFrom_b66 {D : va_G} {cy : Nat → ClassId} {B : Nat} {p : Program} {l : Launch} {e : Env} {s : State} {m : MethodId} {args : Array Value} {below : List Frame} {meth : Method} {c : Code} {t0 : Nat} {a1 : Int} {a2 : Int} {a3 : Int} {d : Nat} {rcf : Hp → Int → Int → Int → Option Hp} {h' : Hp} (X : CXd D cy B p s m args c cX12_mergeFrom RX12 8) (hr : meth.sig.returnType = (none : Option FieldType)) (hlk : meth.locks = false) (Hrc : ∀ (h : Hp) (z1 z2 z3 : Int) (h' : Hp), rg z1 → rg z2 → rg z3 → rcf h z1 z2 z3 = some h' → CT D cy B l yX12_mergeFrom cX12_mergeFrom 8 (none : Option FieldType) (12 + d) (293 + 27 * d) 0 0 [.ref t0, vI z1, vI z2, vI z3] h none h') (r_a1 : rg a1) (r_a2 : rg a2) (r_a3 : rg a3) : ∀ (fu : Nat) (h : Hp) (v4 : Int), rg v4 → fX12_mergeFrom_b66 t0 rcf a1 a2 a3 fu h v4 = some h' → AWd D cy B p l e { frames := (12 + (d + 1)), cells := 0, slots := 0, locals := (293 + 27 * (d + 1)) } s m args below meth c 8 (MQr D cy B below none h' args s 0 0) h 0 0 66 [(0, .ref t0), (1, vI a1), (2, vI a2), (3, vI a3), (4, vI v4)] [] := by
  intro fu
  induction fu with
  | zero => intro h v4 r_v4 hf; rw [fX12_mergeFrom_b66.eq_1] at hf; cases hf
  | succ fu ih =>
    intro h v4 r_v4 hf
    rw [fX12_mergeFrom_b66.eq_2] at hf
    refine aw_iload (pc := 66) X dX12_mergeFrom_66 4 rfl ?_
    refine aw_aload_n (pc := 68) X dX12_mergeFrom_68 0 rfl ?_
    obtain ⟨g1, hf⟩ := gd_some hf
    refine aw_getI (pc := 69) X 12 36 804 iw_12 rfl (by decide) (by decide) g1 rfl kw_1523 rfl rfl dX12_mergeFrom_69 ?_
    refine aw_icmp_ge (pc := 72) (tgt := 183) X r_v4 gI_rg dX12_mergeFrom_72 (by decide) (fun z2 => ?_) (fun z2 => ?_)
    · have hf := it_f z2 hf
      cases hf
      exact aw_vret (pc := 183) X hr hlk rfl rfl dX12_mergeFrom_183
    · have hf := it_t z2 hf
      refine aw_iload_n (pc := 75) X dX12_mergeFrom_75 1 rfl ?_
      refine aw_iload (pc := 76) X dX12_mergeFrom_76 4 rfl ?_
      obtain ⟨r3, g4, hf⟩ := bd_some hf
      refine aw_invS (pc := 78) X (kX12_has r_a1 r_v4 g4) mw_yX12_has kw_2051 kw_2052 rfl (by constructor <;> (dsimp only; omega)) rfl (Nat.le_of_ble_eq_true rfl) ⟨Nat.le_of_ble_eq_true rfl, Nat.le_of_ble_eq_true rfl⟩ dX12_mergeFrom_78 ?_
      refine aw_ret1 (k' := 0) (n' := 0) rfl rfl ?_
      have z_r3 := gX12_has r_a1 r_v4 g4
      have r_r3 := rg_01 z_r3
      refine aw_if_eq (pc := 81) (tgt := 87) X r_r3 dX12_mergeFrom_81 (by decide) (fun z5 => ?_) (fun z5 => ?_)
      · have hf := it_t z5 hf
        refine aw_aload_n (pc := 87) X dX12_mergeFrom_87 0 rfl ?_
        obtain ⟨q6, gq6, hf⟩ := nn_some hf
        refine aw_getR (pc := 88) X 12 33 801 iw_12 rfl (by decide) (by decide) g1 rfl kw_1520 rfl rfl gq6 dX12_mergeFrom_88 ?_
        refine aw_iload (pc := 91) X dX12_mergeFrom_91 4 rfl ?_
        obtain ⟨g7, hf⟩ := gd_some hf
        obtain ⟨g8, hf⟩ := gd_some hf
        refine aw_iald (pc := 93) X g7 r_v4 g8 dX12_mergeFrom_93 ?_
        obtain ⟨x9, ex9, hf⟩ := lt_some hf
        refine aw_topI ex9 ?_
        have r_x9 : rg x9 := by rw [ex9]; exact gA_rg
        refine aw_istore (pc := 94) (lv' := [(5, vI x9), (0, .ref t0), (1, vI a1), (2, vI a2), (3, vI a3), (4, vI v4)]) X dX12_mergeFrom_94 (by decide) rfl ?_
        refine aw_iload_n (pc := 96) X dX12_mergeFrom_96 3 rfl ?_
        refine aw_if_ge (pc := 97) (tgt := 104) X r_a2 dX12_mergeFrom_97 (by decide) (fun z10 => ?_) (fun z10 => ?_)
        · have hf := it_f z10 hf
          refine aw_aload_n (pc := 104) X dX12_mergeFrom_104 1 rfl ?_
          refine aw_iload_n (pc := 105) X dX12_mergeFrom_105 3 rfl ?_
          refine aw_iload (pc := 106) X dX12_mergeFrom_106 0 rfl ?_
          obtain ⟨q11, gq11, hf⟩ := nn_some hf
          obtain ⟨g12, hf⟩ := gd_some hf
          obtain ⟨r13, g14, hf⟩ := bd_some hf
          refine aw_invV (pc := 108) X (kX12_lapsOf ⟨g1, gq11, g12⟩ r_a2 r_x9 g14) mw_yX12_lapsOf kw_2074 kw_2076 kw_122 g1 rfl (by decide) rfl (by constructor <;> (dsimp only; omega)) rfl (Nat.le_of_ble_eq_true rfl) ⟨Nat.le_of_ble_eq_true rfl, Nat.le_of_ble_eq_true rfl⟩ dX12_mergeFrom_108 ?_
          refine aw_ret1 (k' := 0) (n' := 0) rfl rfl ?_
          have r_r13 := gX12_lapsOf (fun _ => gA_rg) r_a2 r_x9 g14
          refine aw_sub [1, 2, 3, 4, 5, 0] rfl ?_
          exact wX12_mergeFrom_b111 X hr hlk Hrc r_a1 r_a2 r_a3 ih _ _ _ _ r_v4 r_x9 r_r13 hf
        · have hf := it_t z10 hf
          refine aw_iconst (pc := 100) X dX12_mergeFrom_100 ?_
          refine aw_goto (pc := 101) (tgt := 111) X dX12_mergeFrom_101 (by decide) ?_
          refine aw_sub [1, 2, 3, 4, 5, 0] rfl ?_
          exact wX12_mergeFrom_b111 X hr hlk Hrc r_a1 r_a2 r_a3 ih _ _ _ _ r_v4 r_x9 (rg_lit rfl) hf
      · have hf := it_f z5 hf
        refine aw_goto (pc := 84) (tgt := 177) X dX12_mergeFrom_84 (by decide) ?_
        exact wX12_mergeFrom_b177 X hr hlk Hrc r_a1 r_a2 r_a3 ih _ _ r_v4 hf

set_option maxHeartbeats 4000000 in
set_option maxRecDepth 100000 in
theorem kX12_mergeFrom_body {D : va_G} {cy : Nat → ClassId} {B : Nat} {l : Launch} {h : Hp} {t0 d : Nat} {rcf : Hp → Int → Int → Int → Option Hp} {a1 : Int} {a2 : Int} {a3 : Int} (Hrc : ∀ (h : Hp) (z1 z2 z3 : Int) (h' : Hp), rg z1 → rg z2 → rg z3 → rcf h z1 z2 z3 = some h' → CT D cy B l yX12_mergeFrom cX12_mergeFrom 8 (none : Option FieldType) (12 + d) (293 + 27 * d) 0 0 [.ref t0, vI z1, vI z2, vI z3] h none h') (r_a1 : rg a1) (r_a2 : rg a2) (r_a3 : rg a3) {h' : Hp} (hf : fX12_mergeFrom_body t0 rcf h a1 a2 a3 = some h') : CT D cy B l yX12_mergeFrom cX12_mergeFrom 8 (none : Option FieldType) (12 + (d + 1)) (293 + 27 * (d + 1)) 0 0 [.ref t0, vI a1, vI a2, vI a3] h none h' := by
  refine ct_intro (own := RX12) (by decide) rfl (Nat.le_of_ble_eq_true rfl) fun p e s m args below meth c X hr hlk hnm => ?_
  refine aw_lv (lv' := [(0, .ref t0), (1, vI a1), (2, vI a2), (3, vI a3)]) rfl ?_
  rw [fX12_mergeFrom_body.eq_1] at hf
  refine aw_iload_n (pc := 0) X dX12_mergeFrom_0 1 rfl ?_
  refine aw_iconst (pc := 1) X dX12_mergeFrom_1 ?_
  refine aw_aload_n (pc := 2) X dX12_mergeFrom_2 0 rfl ?_
  obtain ⟨g1, hf⟩ := gd_some hf
  refine aw_getI (pc := 3) X 12 36 804 iw_12 rfl (by decide) (by decide) g1 rfl kw_1523 rfl rfl dX12_mergeFrom_3 ?_
  refine aw_ishl (pc := 6) X dX12_mergeFrom_6 ?_
  refine aw_iconst (pc := 7) X dX12_mergeFrom_7 ?_
  refine aw_isub (pc := 8) X dX12_mergeFrom_8 ?_
  refine aw_icmp_ne (pc := 9) (tgt := 63) X r_a1 (w32_rg _) dX12_mergeFrom_9 (by decide) (fun z2 => ?_) (fun z2 => ?_)
  · have hf := it_f z2 hf
    refine aw_iconst (pc := 63) X dX12_mergeFrom_63 ?_
    refine aw_istore (pc := 64) (lv' := [(4, vI 0), (0, .ref t0), (1, vI a1), (2, vI a2), (3, vI a3)]) X dX12_mergeFrom_64 (by decide) rfl ?_
    refine aw_sub [1, 2, 3, 4, 0] rfl ?_
    exact wX12_mergeFrom_b66 X hr hlk Hrc r_a1 r_a2 r_a3 _ _ _ (rg_lit rfl) hf
  · have hf := it_t z2 hf
    refine aw_aload_n (pc := 12) X dX12_mergeFrom_12 0 rfl ?_
    refine aw_getI (pc := 13) X 12 37 805 iw_12 rfl (by decide) (by decide) g1 rfl kw_1524 rfl rfl dX12_mergeFrom_13 ?_
    refine aw_if_lt (pc := 16) (tgt := 28) X gI_rg dX12_mergeFrom_16 (by decide) (fun z3 => ?_) (fun z3 => ?_)
    · have hf := it_t z3 hf
      refine aw_sub [0, 3] rfl ?_
      exact wX12_mergeFrom_b28 X hr hlk Hrc r_a1 r_a2 r_a3 _ hf
    · have hf := it_f z3 hf
      refine aw_aload_n (pc := 19) X dX12_mergeFrom_19 0 rfl ?_
      refine aw_iload_n (pc := 20) X dX12_mergeFrom_20 3 rfl ?_
      obtain ⟨r4, g5, hf⟩ := bd_some hf
      refine aw_invV (pc := 21) X (kX12_isLess r_a3 g5) mw_yX12_isLess kw_2127 kw_2129 kw_127 g1 rfl (by decide) rfl (by constructor <;> (dsimp only; omega)) rfl (Nat.le_of_ble_eq_true rfl) ⟨Nat.le_of_ble_eq_true rfl, Nat.le_of_ble_eq_true rfl⟩ dX12_mergeFrom_21 ?_
      refine aw_ret1 (k' := 0) (n' := 0) rfl rfl ?_
      have z_r4 := gX12_isLess r_a3 g5
      have r_r4 := rg_01 z_r4
      refine aw_if_ne (pc := 24) (tgt := 28) X r_r4 dX12_mergeFrom_24 (by decide) (fun z6 => ?_) (fun z6 => ?_)
      · have hf := it_f z6 hf
        refine aw_sub [0, 3] rfl ?_
        exact wX12_mergeFrom_b28 X hr hlk Hrc r_a1 r_a2 r_a3 _ hf
      · have hf := it_t z6 hf
        cases hf
        exact aw_vret (pc := 27) X hr hlk rfl rfl dX12_mergeFrom_27

theorem kX12_mergeFrom {D : va_G} {cy : Nat → ClassId} {B : Nat} {l : Launch} {t0 : Nat} : ∀ (d : Nat) (h : Hp) (a1 a2 a3 : Int) (h' : Hp), rg a1 → rg a2 → rg a3 → fX12_mergeFrom d h t0 a1 a2 a3 = some h' → CT D cy B l yX12_mergeFrom cX12_mergeFrom 8 (none : Option FieldType) (12 + d) (293 + 27 * d) 0 0 [.ref t0, vI a1, vI a2, vI a3] h none h' := by
  intro d
  induction d with
  | zero => intro h a1 a2 a3 h' r0 r1 r2 hf; rw [fX12_mergeFrom.eq_1] at hf; cases hf
  | succ d ih => intro h a1 a2 a3 h' r0 r1 r2 hf; rw [fX12_mergeFrom.eq_2] at hf; exact kX12_mergeFrom_body (rcf := fun h a1 a2 a3 => fX12_mergeFrom d h t0 a1 a2 a3) (fun h a1 a2 a3 h' q0 q1 q2 hf => ih h a1 a2 a3 h' q0 q1 q2 hf) r0 r1 r2 hf

def fX12_merged_b96 (t0 : Nat) (a1 : Int) (k46 : Hp → Int → Option (Int × Hp)) (h : Hp) (v2 : Int) : Option (Int × Hp) :=
    lt (α := Int) (w32 (v2 + 1)) fun x1 =>
    k46 h x1

def fX12_merged_b124 (t0 : Nat) (a1 : Int) : Nat → Hp → Int → Option (Int × Hp)
  | 0, _, _ => none
  | fu + 1, h, v2 =>
    gd ((hK h t0).1 = 12) <|
    if v2 < (gI h 805 t0) then (
      nn (gR h 802 t0) fun q3 =>
      nn (gR h 803 t0) fun q4 =>
      gd ((hK h q4).1 = 21) <|
      gd (inA v2 (hK h q4).2) <|
      gd ((hK h q3).1 = 21) <|
      gd (inA v2 (hK h q3).2) <|
      lt (α := Hp) (sA h q3 v2 (gA h q4 v2.toNat)) fun h9 =>
      lt (α := Int) (w32 (v2 + 1)) fun x10 =>
      fX12_merged_b124 t0 a1 fu h9 x10)
    else
    some (gI h 805 t0, h)

def fX12_merged_b46 (t0 : Nat) (a1 : Int) : Nat → Hp → Int → Option (Int × Hp)
  | 0, _, _ => none
  | fu + 1, h, v2 =>
    gd ((hK h t0).1 = 12) <|
    nn (gR h 788 t0) fun q2 =>
    gd ((hK h q2).1 = 21) <|
    gd (inA 2 (hK h q2).2) <|
    if v2 < (gA h q2 ((2 : Int).toNat)) then (
      bd (fX12_has a1 v2) fun r12 =>
      if r12 = 0 then (
        fX12_merged_b96 t0 a1 (fX12_merged_b46 t0 a1 fu) h v2)
      else
      gd (hK h q2 = (21, 1850)) <|
      bd (fX12_isOwn (gA h q2) v2 a1) fun r16 =>
      if r16 = 0 then (
        fX12_merged_b96 t0 a1 (fX12_merged_b46 t0 a1 fu) h v2)
      else
      nn (gR h 801 t0) fun q19 =>
      gd ((hK h q19).1 = 21) <|
      gd (inA (gI h 804 t0) (hK h q19).2) <|
      lt (α := Hp) (sA h q19 (gI h 804 t0) v2) fun h22 =>
      lt (α := Hp) (pI h22 804 t0 (w32 ((gI h22 804 t0) + 1))) fun h23 =>
      fX12_merged_b96 t0 a1 (fX12_merged_b46 t0 a1 fu) h23 v2)
    else
    lt (α := Hp) (pI h 805 t0 (-1)) fun h6 =>
    bd (fX12_mergeFrom 12 h6 t0 0 (-1) 0) fun h9 =>
    gd ((hK h9 t0).1 = 12) <|
    lt (α := Hp) (pI h9 806 t0 (gI h9 805 t0)) fun h11 =>
    fX12_merged_b124 t0 a1 FU h11 0

def fX12_merged (h : Hp) (t0 : Nat) (a1 : Int) : Option (Int × Hp) :=
    gd ((hK h t0).1 = 12) <|
    lt (α := Hp) (pI h 769 t0 0) fun h2 =>
    lt (α := Hp) (pI h2 768 t0 0) fun h3 =>
    nn (gR h3 788 t0) fun q4 =>
    gd (hK h3 q4 = (21, 1850)) <|
    bd (fX12_areJars (gA h3 q4) a1) fun r6 =>
    if r6 = 0 then (
      bd2 (fX12_refuse h3 t0 2) fun r16 h18 =>
      some (r16, h18))
    else
    bd (fX12_bits a1) fun r9 =>
    if r9 ≤ 6 then (
      lt (α := Hp) (pI h3 804 t0 0) fun h12 =>
      fX12_merged_b46 t0 a1 FU h12 0)
    else
    bd2 (fX12_refuse h3 t0 5) fun r13 h15 =>
    some (r13, h15)

set_option maxHeartbeats 4000000 in
set_option maxRecDepth 100000 in
theorem gX12_merged_b96 {t0 : Nat} {a1 : Int} {r : Int} {h' : Hp} {k46 : Hp → Int → Option (Int × Hp)} (r_a1 : rg a1) (H46 : ∀ (h : Hp) (v2 : Int), rg v2 → k46 h v2 = some (r, h') → rg r) : ∀ (h : Hp) (v2 : Int), rg v2 → fX12_merged_b96 t0 a1 k46 h v2 = some (r, h') → rg r := by
  intro h v2 r_v2 hf
  rw [fX12_merged_b96.eq_1] at hf
  obtain ⟨x1, ex1, hf⟩ := lt_some hf
  have r_x1 : rg x1 := by rw [ex1]; exact w32_rg _
  exact H46 _ _ r_x1 hf

set_option maxHeartbeats 4000000 in
set_option maxRecDepth 100000 in
theorem gX12_merged_b124 {t0 : Nat} {a1 : Int} {r : Int} {h' : Hp} (r_a1 : rg a1) : ∀ (fu : Nat) (h : Hp) (v2 : Int), rg v2 → fX12_merged_b124 t0 a1 fu h v2 = some (r, h') → rg r := by
  intro fu
  induction fu with
  | zero => intro h v2 r_v2 hf; rw [fX12_merged_b124.eq_1] at hf; cases hf
  | succ fu ih =>
    intro h v2 r_v2 hf
    rw [fX12_merged_b124.eq_2] at hf
    obtain ⟨g1, hf⟩ := gd_some hf
    by_cases z2 : v2 < (gI h 805 t0)
    · have hf := it_t z2 hf
      obtain ⟨q3, gq3, hf⟩ := nn_some hf
      obtain ⟨q4, gq4, hf⟩ := nn_some hf
      obtain ⟨g5, hf⟩ := gd_some hf
      obtain ⟨g6, hf⟩ := gd_some hf
      obtain ⟨g7, hf⟩ := gd_some hf
      obtain ⟨g8, hf⟩ := gd_some hf
      obtain ⟨h9, eh9, hf⟩ := lt_some hf
      obtain ⟨x10, ex10, hf⟩ := lt_some hf
      have r_x10 : rg x10 := by rw [ex10]; exact w32_rg _
      exact ih _ _ r_x10 hf
    · have hf := it_f z2 hf
      cases hf
      exact gI_rg

set_option maxHeartbeats 4000000 in
set_option maxRecDepth 100000 in
theorem gX12_merged_b46 {t0 : Nat} {a1 : Int} {r : Int} {h' : Hp} (r_a1 : rg a1) : ∀ (fu : Nat) (h : Hp) (v2 : Int), rg v2 → fX12_merged_b46 t0 a1 fu h v2 = some (r, h') → rg r := by
  intro fu
  induction fu with
  | zero => intro h v2 r_v2 hf; rw [fX12_merged_b46.eq_1] at hf; cases hf
  | succ fu ih =>
    intro h v2 r_v2 hf
    rw [fX12_merged_b46.eq_2] at hf
    obtain ⟨g1, hf⟩ := gd_some hf
    obtain ⟨q2, gq2, hf⟩ := nn_some hf
    obtain ⟨g3, hf⟩ := gd_some hf
    obtain ⟨g4, hf⟩ := gd_some hf
    by_cases z5 : v2 < (gA h q2 ((2 : Int).toNat))
    · have hf := it_t z5 hf
      obtain ⟨r12, g13, hf⟩ := bd_some hf
      have z_r12 := gX12_has r_a1 r_v2 g13
      have r_r12 := rg_01 z_r12
      by_cases z14 : r12 = 0
      · have hf := it_t z14 hf
        exact gX12_merged_b96 r_a1 ih _ _ r_v2 hf
      · have hf := it_f z14 hf
        obtain ⟨g15, hf⟩ := gd_some hf
        obtain ⟨r16, g17, hf⟩ := bd_some hf
        have z_r16 := gX12_isOwn (fun _ => gA_rg) r_v2 r_a1 g17
        have r_r16 := rg_01 z_r16
        by_cases z18 : r16 = 0
        · have hf := it_t z18 hf
          exact gX12_merged_b96 r_a1 ih _ _ r_v2 hf
        · have hf := it_f z18 hf
          obtain ⟨q19, gq19, hf⟩ := nn_some hf
          obtain ⟨g20, hf⟩ := gd_some hf
          obtain ⟨g21, hf⟩ := gd_some hf
          obtain ⟨h22, eh22, hf⟩ := lt_some hf
          obtain ⟨h23, eh23, hf⟩ := lt_some hf
          exact gX12_merged_b96 r_a1 ih _ _ r_v2 hf
    · have hf := it_f z5 hf
      obtain ⟨h6, eh6, hf⟩ := lt_some hf
      obtain ⟨h9, g8, hf⟩ := bd_some hf
      obtain ⟨g10, hf⟩ := gd_some hf
      obtain ⟨h11, eh11, hf⟩ := lt_some hf
      exact gX12_merged_b124 r_a1 _ _ _ (rg_lit rfl) hf

set_option maxHeartbeats 4000000 in
set_option maxRecDepth 100000 in
theorem gX12_merged {h : Hp} {t0 : Nat} {a1 : Int} {r : Int} {h' : Hp} (r_a1 : rg a1) (hf : fX12_merged h t0 a1 = some (r, h')) : rg r := by
  rw [fX12_merged.eq_1] at hf
  obtain ⟨g1, hf⟩ := gd_some hf
  obtain ⟨h2, eh2, hf⟩ := lt_some hf
  obtain ⟨h3, eh3, hf⟩ := lt_some hf
  obtain ⟨q4, gq4, hf⟩ := nn_some hf
  obtain ⟨g5, hf⟩ := gd_some hf
  obtain ⟨r6, g7, hf⟩ := bd_some hf
  have z_r6 := gX12_areJars (fun _ => gA_rg) r_a1 g7
  have r_r6 := rg_01 z_r6
  by_cases z8 : r6 = 0
  · have hf := it_t z8 hf
    obtain ⟨r16, h18, g17, hf⟩ := bd2_some hf
    have r_r16 := gX12_refuse (rg_lit rfl) g17
    cases hf
    exact r_r16
  · have hf := it_f z8 hf
    obtain ⟨r9, g10, hf⟩ := bd_some hf
    have r_r9 := gX12_bits r_a1 g10
    by_cases z11 : r9 ≤ 6
    · have hf := it_t z11 hf
      obtain ⟨h12, eh12, hf⟩ := lt_some hf
      exact gX12_merged_b46 r_a1 _ _ _ (rg_lit rfl) hf
    · have hf := it_f z11 hf
      obtain ⟨r13, h15, g14, hf⟩ := bd2_some hf
      have r_r13 := gX12_refuse (rg_lit rfl) g14
      cases hf
      exact r_r13

set_option maxHeartbeats 4000000 in
set_option maxRecDepth 100000 in
theorem wX12_merged_b96 {D : va_G} {cy : Nat → ClassId} {B : Nat} {p : Program} {l : Launch} {e : Env} {s : State} {m : MethodId} {args : Array Value} {below : List Frame} {meth : Method} {c : Code} {t0 : Nat} {a1 : Int} {r : Int} {h' : Hp} {k46 : Hp → Int → Option (Int × Hp)} (X : CXd D cy B p s m args c cX12_merged RX12 3) (hr : meth.sig.returnType = (some FieldType.int)) (hlk : meth.locks = false) (r_a1 : rg a1) (H46 : ∀ (h : Hp) (v2 : Int), rg v2 → k46 h v2 = some (r, h') → AWd D cy B p l e { frames := 26, cells := 0, slots := 0, locals := 664 } s m args below meth c 3 (MQr D cy B below (some (vI r)) h' args s 0 0) h 0 0 46 [(0, .ref t0), (1, vI a1), (2, vI v2)] []) : ∀ (h : Hp) (v2 : Int), rg v2 → fX12_merged_b96 t0 a1 k46 h v2 = some (r, h') → AWd D cy B p l e { frames := 26, cells := 0, slots := 0, locals := 664 } s m args below meth c 3 (MQr D cy B below (some (vI r)) h' args s 0 0) h 0 0 96 [(0, .ref t0), (1, vI a1), (2, vI v2)] [] := by
  intro h v2 r_v2 hf
  rw [fX12_merged_b96.eq_1] at hf
  obtain ⟨x1, ex1, hf⟩ := lt_some hf
  have r_x1 : rg x1 := by rw [ex1]; exact w32_rg _
  refine aw_iinc (pc := 96) (lv' := [(2, vI x1), (0, .ref t0), (1, vI a1)]) X dX12_merged_96 2 rfl (by decide) (by rw [ex1]; rfl) ?_
  refine aw_goto (pc := 99) (tgt := 46) X dX12_merged_99 (by decide) ?_
  refine aw_sub [1, 2, 0] rfl ?_
  exact H46 _ _ r_x1 hf

set_option maxHeartbeats 4000000 in
set_option maxRecDepth 100000 in
theorem wX12_merged_b124 {D : va_G} {cy : Nat → ClassId} {B : Nat} {p : Program} {l : Launch} {e : Env} {s : State} {m : MethodId} {args : Array Value} {below : List Frame} {meth : Method} {c : Code} {t0 : Nat} {a1 : Int} {r : Int} {h' : Hp} (X : CXd D cy B p s m args c cX12_merged RX12 3) (hr : meth.sig.returnType = (some FieldType.int)) (hlk : meth.locks = false) (r_a1 : rg a1) : ∀ (fu : Nat) (h : Hp) (v2 : Int), rg v2 → fX12_merged_b124 t0 a1 fu h v2 = some (r, h') → AWd D cy B p l e { frames := 26, cells := 0, slots := 0, locals := 664 } s m args below meth c 3 (MQr D cy B below (some (vI r)) h' args s 0 0) h 0 0 124 [(0, .ref t0), (2, vI v2)] [] := by
  intro fu
  induction fu with
  | zero => intro h v2 r_v2 hf; rw [fX12_merged_b124.eq_1] at hf; cases hf
  | succ fu ih =>
    intro h v2 r_v2 hf
    rw [fX12_merged_b124.eq_2] at hf
    refine aw_iload_n (pc := 124) X dX12_merged_124 1 rfl ?_
    refine aw_aload_n (pc := 125) X dX12_merged_125 0 rfl ?_
    obtain ⟨g1, hf⟩ := gd_some hf
    refine aw_getI (pc := 126) X 12 37 805 iw_12 rfl (by decide) (by decide) g1 rfl kw_1524 rfl rfl dX12_merged_126 ?_
    refine aw_icmp_ge (pc := 129) (tgt := 150) X r_v2 gI_rg dX12_merged_129 (by decide) (fun z2 => ?_) (fun z2 => ?_)
    · have hf := it_f z2 hf
      refine aw_aload_n (pc := 150) X dX12_merged_150 0 rfl ?_
      refine aw_getI (pc := 151) X 12 37 805 iw_12 rfl (by decide) (by decide) g1 rfl kw_1524 rfl rfl dX12_merged_151 ?_
      cases hf
      exact aw_iret (pc := 154) X hr hlk rfl rfl dX12_merged_154
    · have hf := it_t z2 hf
      refine aw_aload_n (pc := 132) X dX12_merged_132 0 rfl ?_
      obtain ⟨q3, gq3, hf⟩ := nn_some hf
      refine aw_getR (pc := 133) X 12 34 802 iw_12 rfl (by decide) (by decide) g1 rfl kw_1521 rfl rfl gq3 dX12_merged_133 ?_
      refine aw_iload_n (pc := 136) X dX12_merged_136 1 rfl ?_
      refine aw_aload_n (pc := 137) X dX12_merged_137 0 rfl ?_
      obtain ⟨q4, gq4, hf⟩ := nn_some hf
      refine aw_getR (pc := 138) X 12 35 803 iw_12 rfl (by decide) (by decide) g1 rfl kw_1522 rfl rfl gq4 dX12_merged_138 ?_
      refine aw_iload_n (pc := 141) X dX12_merged_141 1 rfl ?_
      obtain ⟨g5, hf⟩ := gd_some hf
      obtain ⟨g6, hf⟩ := gd_some hf
      refine aw_iald (pc := 142) X g5 r_v2 g6 dX12_merged_142 ?_
      obtain ⟨g7, hf⟩ := gd_some hf
      obtain ⟨g8, hf⟩ := gd_some hf
      obtain ⟨h9, eh9, hf⟩ := lt_some hf
      have kkh9 := kp_A eh9
      refine aw_iast (pc := 143) X g7 r_v2 g8 eh9 dX12_merged_143 ?_
      obtain ⟨x10, ex10, hf⟩ := lt_some hf
      have r_x10 : rg x10 := by rw [ex10]; exact w32_rg _
      refine aw_iinc (pc := 144) (lv' := [(2, vI x10), (0, .ref t0)]) X dX12_merged_144 1 rfl (by decide) (by rw [ex10]; rfl) ?_
      refine aw_goto (pc := 147) (tgt := 124) X dX12_merged_147 (by decide) ?_
      refine aw_sub [1, 0] rfl ?_
      exact ih _ _ r_x10 hf

set_option maxHeartbeats 4000000 in
set_option maxRecDepth 100000 in
theorem wX12_merged_b46 {D : va_G} {cy : Nat → ClassId} {B : Nat} {p : Program} {l : Launch} {e : Env} {s : State} {m : MethodId} {args : Array Value} {below : List Frame} {meth : Method} {c : Code} {t0 : Nat} {a1 : Int} {r : Int} {h' : Hp} (X : CXd D cy B p s m args c cX12_merged RX12 3) (hr : meth.sig.returnType = (some FieldType.int)) (hlk : meth.locks = false) (r_a1 : rg a1) : ∀ (fu : Nat) (h : Hp) (v2 : Int), rg v2 → fX12_merged_b46 t0 a1 fu h v2 = some (r, h') → AWd D cy B p l e { frames := 26, cells := 0, slots := 0, locals := 664 } s m args below meth c 3 (MQr D cy B below (some (vI r)) h' args s 0 0) h 0 0 46 [(0, .ref t0), (1, vI a1), (2, vI v2)] [] := by
  intro fu
  induction fu with
  | zero => intro h v2 r_v2 hf; rw [fX12_merged_b46.eq_1] at hf; cases hf
  | succ fu ih =>
    intro h v2 r_v2 hf
    rw [fX12_merged_b46.eq_2] at hf
    refine aw_iload_n (pc := 46) X dX12_merged_46 2 rfl ?_
    refine aw_aload_n (pc := 47) X dX12_merged_47 0 rfl ?_
    obtain ⟨g1, hf⟩ := gd_some hf
    obtain ⟨q2, gq2, hf⟩ := nn_some hf
    refine aw_getR (pc := 48) X 12 20 788 iw_12 rfl (by decide) (by decide) g1 rfl kw_1507 rfl rfl gq2 dX12_merged_48 ?_
    refine aw_iconst (pc := 51) X dX12_merged_51 ?_
    obtain ⟨g3, hf⟩ := gd_some hf
    obtain ⟨g4, hf⟩ := gd_some hf
    refine aw_iald (pc := 52) X g3 (rg_lit rfl) g4 dX12_merged_52 ?_
    refine aw_icmp_ge (pc := 53) (tgt := 102) X r_v2 gA_rg dX12_merged_53 (by decide) (fun z5 => ?_) (fun z5 => ?_)
    · have hf := it_f z5 hf
      refine aw_aload_n (pc := 102) X dX12_merged_102 0 rfl ?_
      refine aw_iconst (pc := 103) X dX12_merged_103 ?_
      obtain ⟨h6, eh6, hf⟩ := lt_some hf
      have kkh6 := kp_I eh6
      refine aw_setI (pc := 104) X 12 37 805 iw_12 tyX12 tyX12_ok nmX12 rfl (by decide) (by decide) rfl g1 kw_1524 rfl (Or.inl rfl) rfl (tyX12_ok 37 (by decide)) rfl eh6 dX12_merged_104 ?_
      refine aw_aload_n (pc := 107) X dX12_merged_107 0 rfl ?_
      refine aw_iconst (pc := 108) X dX12_merged_108 ?_
      refine aw_iconst (pc := 109) X dX12_merged_109 ?_
      refine aw_iconst (pc := 110) X dX12_merged_110 ?_
      obtain ⟨h9, g8, hf⟩ := bd_some hf
      refine aw_invV (pc := 111) X (kX12_mergeFrom 12 _ _ _ _ _ (rg_lit rfl) (rg_lit rfl) (rg_lit rfl) g8) mw_yX12_mergeFrom kw_2123 kw_2125 kw_126 (kc kkh6 g1) rfl (by decide) rfl ⟨Nat.le_of_ble_eq_true rfl, Nat.le_of_ble_eq_true rfl⟩ rfl (Nat.le_of_ble_eq_true rfl) ⟨Nat.le_of_ble_eq_true rfl, Nat.le_of_ble_eq_true rfl⟩ dX12_merged_111 ?_
      refine aw_ret0 (k' := 0) (n' := 0) rfl rfl ?_
      refine aw_aload_n (pc := 114) X dX12_merged_114 0 rfl ?_
      refine aw_aload_n (pc := 115) X dX12_merged_115 0 rfl ?_
      obtain ⟨g10, hf⟩ := gd_some hf
      refine aw_getI (pc := 116) X 12 37 805 iw_12 rfl (by decide) (by decide) g10 rfl kw_1524 rfl rfl dX12_merged_116 ?_
      obtain ⟨h11, eh11, hf⟩ := lt_some hf
      have kkh11 := kp_I eh11
      refine aw_setI (pc := 119) X 12 38 806 iw_12 tyX12 tyX12_ok nmX12 rfl (by decide) (by decide) rfl g10 kw_1525 rfl (Or.inl rfl) rfl (tyX12_ok 38 (by decide)) rfl eh11 dX12_merged_119 ?_
      refine aw_iconst (pc := 122) X dX12_merged_122 ?_
      refine aw_istore_n (pc := 123) (lv' := [(2, vI 0), (0, .ref t0), (1, vI a1)]) X dX12_merged_123 (by decide) rfl ?_
      refine aw_sub [1, 0] rfl ?_
      exact wX12_merged_b124 X hr hlk r_a1 _ _ _ (rg_lit rfl) hf
    · have hf := it_t z5 hf
      refine aw_iload_n (pc := 56) X dX12_merged_56 1 rfl ?_
      refine aw_iload_n (pc := 57) X dX12_merged_57 2 rfl ?_
      obtain ⟨r12, g13, hf⟩ := bd_some hf
      refine aw_invS (pc := 58) X (kX12_has r_a1 r_v2 g13) mw_yX12_has kw_2051 kw_2052 rfl ⟨Nat.le_of_ble_eq_true rfl, Nat.le_of_ble_eq_true rfl⟩ rfl (Nat.le_of_ble_eq_true rfl) ⟨Nat.le_of_ble_eq_true rfl, Nat.le_of_ble_eq_true rfl⟩ dX12_merged_58 ?_
      refine aw_ret1 (k' := 0) (n' := 0) rfl rfl ?_
      have z_r12 := gX12_has r_a1 r_v2 g13
      have r_r12 := rg_01 z_r12
      refine aw_if_eq (pc := 61) (tgt := 96) X r_r12 dX12_merged_61 (by decide) (fun z14 => ?_) (fun z14 => ?_)
      · have hf := it_t z14 hf
        exact wX12_merged_b96 X hr hlk r_a1 ih _ _ r_v2 hf
      · have hf := it_f z14 hf
        refine aw_aload_n (pc := 64) X dX12_merged_64 0 rfl ?_
        refine aw_iload_n (pc := 65) X dX12_merged_65 2 rfl ?_
        refine aw_iload_n (pc := 66) X dX12_merged_66 1 rfl ?_
        obtain ⟨g15, hf⟩ := gd_some hf
        obtain ⟨r16, g17, hf⟩ := bd_some hf
        refine aw_invV (pc := 67) X (kX12_isOwn ⟨g1, gq2, g15⟩ r_v2 r_a1 g17) mw_yX12_isOwn kw_2115 kw_2117 kw_124 g1 rfl (by decide) rfl ⟨Nat.le_of_ble_eq_true rfl, Nat.le_of_ble_eq_true rfl⟩ rfl (Nat.le_of_ble_eq_true rfl) ⟨Nat.le_of_ble_eq_true rfl, Nat.le_of_ble_eq_true rfl⟩ dX12_merged_67 ?_
        refine aw_ret1 (k' := 0) (n' := 0) rfl rfl ?_
        have z_r16 := gX12_isOwn (fun _ => gA_rg) r_v2 r_a1 g17
        have r_r16 := rg_01 z_r16
        refine aw_if_ne (pc := 70) (tgt := 76) X r_r16 dX12_merged_70 (by decide) (fun z18 => ?_) (fun z18 => ?_)
        · have hf := it_f z18 hf
          refine aw_aload_n (pc := 76) X dX12_merged_76 0 rfl ?_
          obtain ⟨q19, gq19, hf⟩ := nn_some hf
          refine aw_getR (pc := 77) X 12 33 801 iw_12 rfl (by decide) (by decide) g1 rfl kw_1520 rfl rfl gq19 dX12_merged_77 ?_
          refine aw_aload_n (pc := 80) X dX12_merged_80 0 rfl ?_
          refine aw_getI (pc := 81) X 12 36 804 iw_12 rfl (by decide) (by decide) g1 rfl kw_1523 rfl rfl dX12_merged_81 ?_
          refine aw_iload_n (pc := 84) X dX12_merged_84 2 rfl ?_
          obtain ⟨g20, hf⟩ := gd_some hf
          obtain ⟨g21, hf⟩ := gd_some hf
          obtain ⟨h22, eh22, hf⟩ := lt_some hf
          have kkh22 := kp_A eh22
          refine aw_iast (pc := 85) X g20 gI_rg g21 eh22 dX12_merged_85 ?_
          refine aw_aload_n (pc := 86) X dX12_merged_86 0 rfl ?_
          refine aw_dup (pc := 87) X dX12_merged_87 rfl ?_
          refine aw_getI (pc := 88) X 12 36 804 iw_12 rfl (by decide) (by decide) (kc kkh22 g1) rfl kw_1523 rfl rfl dX12_merged_88 ?_
          refine aw_iconst (pc := 91) X dX12_merged_91 ?_
          refine aw_iadd (pc := 92) X dX12_merged_92 ?_
          obtain ⟨h23, eh23, hf⟩ := lt_some hf
          have kkh23 := (kp_I eh23).trans kkh22
          refine aw_setI (pc := 93) X 12 36 804 iw_12 tyX12 tyX12_ok nmX12 rfl (by decide) (by decide) rfl (kc kkh22 g1) kw_1523 rfl (Or.inl rfl) rfl (tyX12_ok 36 (by decide)) rfl eh23 dX12_merged_93 ?_
          exact wX12_merged_b96 X hr hlk r_a1 ih _ _ r_v2 hf
        · have hf := it_t z18 hf
          refine aw_goto (pc := 73) (tgt := 96) X dX12_merged_73 (by decide) ?_
          exact wX12_merged_b96 X hr hlk r_a1 ih _ _ r_v2 hf

set_option maxHeartbeats 4000000 in
set_option maxRecDepth 100000 in
theorem kX12_merged {D : va_G} {cy : Nat → ClassId} {B : Nat} {l : Launch} {h : Hp} {t0 : Nat} {a1 : Int} (r_a1 : rg a1) {r : Int} {h' : Hp} (hf : fX12_merged h t0 a1 = some (r, h')) : CT D cy B l yX12_merged cX12_merged 3 (some FieldType.int) 26 664 0 0 [.ref t0, vI a1] h (some (vI r)) h' := by
  refine ct_intro (own := RX12) (by decide) rfl (Nat.le_of_ble_eq_true rfl) fun p e s m args below meth c X hr hlk hnm => ?_
  refine aw_lv (lv' := [(0, .ref t0), (1, vI a1)]) rfl ?_
  rw [fX12_merged.eq_1] at hf
  refine aw_aload_n (pc := 0) X dX12_merged_0 0 rfl ?_
  refine aw_iconst (pc := 1) X dX12_merged_1 ?_
  obtain ⟨g1, hf⟩ := gd_some hf
  obtain ⟨h2, eh2, hf⟩ := lt_some hf
  have kkh2 := kp_I eh2
  refine aw_setI (pc := 2) X 12 1 769 iw_12 tyX12 tyX12_ok nmX12 rfl (by decide) (by decide) rfl g1 kw_1488 rfl (Or.inl rfl) rfl (tyX12_ok 1 (by decide)) rfl eh2 dX12_merged_2 ?_
  refine aw_aload_n (pc := 5) X dX12_merged_5 0 rfl ?_
  refine aw_iconst (pc := 6) X dX12_merged_6 ?_
  obtain ⟨h3, eh3, hf⟩ := lt_some hf
  have kkh3 := (kp_I eh3).trans kkh2
  refine aw_setI (pc := 7) X 12 0 768 iw_12 tyX12 tyX12_ok nmX12 rfl (by decide) (by decide) rfl (kc kkh2 g1) kw_1487 rfl (Or.inl rfl) rfl (tyX12_ok 0 (by decide)) rfl eh3 dX12_merged_7 ?_
  refine aw_aload_n (pc := 10) X dX12_merged_10 0 rfl ?_
  refine aw_iload_n (pc := 11) X dX12_merged_11 1 rfl ?_
  obtain ⟨q4, gq4, hf⟩ := nn_some hf
  obtain ⟨g5, hf⟩ := gd_some hf
  obtain ⟨r6, g7, hf⟩ := bd_some hf
  refine aw_invV (pc := 12) X (kX12_areJars ⟨(kc kkh3 g1), gq4, g5⟩ r_a1 g7) mw_yX12_areJars kw_2043 kw_2045 kw_118 (kc kkh3 g1) rfl (by decide) rfl ⟨Nat.le_of_ble_eq_true rfl, Nat.le_of_ble_eq_true rfl⟩ rfl (Nat.le_of_ble_eq_true rfl) ⟨Nat.le_of_ble_eq_true rfl, Nat.le_of_ble_eq_true rfl⟩ dX12_merged_12 ?_
  refine aw_ret1 (k' := 0) (n' := 0) rfl rfl ?_
  have z_r6 := gX12_areJars (fun _ => gA_rg) r_a1 g7
  have r_r6 := rg_01 z_r6
  refine aw_if_ne (pc := 15) (tgt := 24) X r_r6 dX12_merged_15 (by decide) (fun z8 => ?_) (fun z8 => ?_)
  · have hf := it_f z8 hf
    refine aw_iload_n (pc := 24) X dX12_merged_24 1 rfl ?_
    obtain ⟨r9, g10, hf⟩ := bd_some hf
    refine aw_invS (pc := 25) X (kX12_bits r_a1 g10) mw_yX12_bits kw_2108 kw_2109 rfl ⟨Nat.le_of_ble_eq_true rfl, Nat.le_of_ble_eq_true rfl⟩ rfl (Nat.le_of_ble_eq_true rfl) ⟨Nat.le_of_ble_eq_true rfl, Nat.le_of_ble_eq_true rfl⟩ dX12_merged_25 ?_
    refine aw_ret1 (k' := 0) (n' := 0) rfl rfl ?_
    have r_r9 := gX12_bits r_a1 g10
    refine aw_bipush (pc := 28) X dX12_merged_28 rfl ?_
    refine aw_icmp_le (pc := 30) (tgt := 39) X r_r9 (rg_lit rfl) dX12_merged_30 (by decide) (fun z11 => ?_) (fun z11 => ?_)
    · have hf := it_t z11 hf
      refine aw_aload_n (pc := 39) X dX12_merged_39 0 rfl ?_
      refine aw_iconst (pc := 40) X dX12_merged_40 ?_
      obtain ⟨h12, eh12, hf⟩ := lt_some hf
      have kkh12 := (kp_I eh12).trans kkh3
      refine aw_setI (pc := 41) X 12 36 804 iw_12 tyX12 tyX12_ok nmX12 rfl (by decide) (by decide) rfl (kc kkh3 g1) kw_1523 rfl (Or.inl rfl) rfl (tyX12_ok 36 (by decide)) rfl eh12 dX12_merged_41 ?_
      refine aw_iconst (pc := 44) X dX12_merged_44 ?_
      refine aw_istore_n (pc := 45) (lv' := [(2, vI 0), (0, .ref t0), (1, vI a1)]) X dX12_merged_45 (by decide) rfl ?_
      refine aw_sub [1, 2, 0] rfl ?_
      exact wX12_merged_b46 X hr hlk r_a1 _ _ _ (rg_lit rfl) hf
    · have hf := it_f z11 hf
      refine aw_aload_n (pc := 33) X dX12_merged_33 0 rfl ?_
      refine aw_iconst (pc := 34) X dX12_merged_34 ?_
      obtain ⟨r13, h15, g14, hf⟩ := bd2_some hf
      refine aw_invV (pc := 35) X (kX12_refuse (rg_lit rfl) g14) mw_yX12_refuse kw_1887 kw_1889 kw_100 (kc kkh3 g1) rfl (by decide) rfl ⟨Nat.le_of_ble_eq_true rfl, Nat.le_of_ble_eq_true rfl⟩ rfl (Nat.le_of_ble_eq_true rfl) ⟨Nat.le_of_ble_eq_true rfl, Nat.le_of_ble_eq_true rfl⟩ dX12_merged_35 ?_
      refine aw_ret1 (k' := 0) (n' := 0) rfl rfl ?_
      have r_r13 := gX12_refuse (rg_lit rfl) g14
      cases hf
      exact aw_iret (pc := 38) X hr hlk rfl rfl dX12_merged_38
  · have hf := it_t z8 hf
    refine aw_aload_n (pc := 18) X dX12_merged_18 0 rfl ?_
    refine aw_iconst (pc := 19) X dX12_merged_19 ?_
    obtain ⟨r16, h18, g17, hf⟩ := bd2_some hf
    refine aw_invV (pc := 20) X (kX12_refuse (rg_lit rfl) g17) mw_yX12_refuse kw_1887 kw_1889 kw_100 (kc kkh3 g1) rfl (by decide) rfl ⟨Nat.le_of_ble_eq_true rfl, Nat.le_of_ble_eq_true rfl⟩ rfl (Nat.le_of_ble_eq_true rfl) ⟨Nat.le_of_ble_eq_true rfl, Nat.le_of_ble_eq_true rfl⟩ dX12_merged_20 ?_
    refine aw_ret1 (k' := 0) (n' := 0) rfl rfl ?_
    have r_r16 := gX12_refuse (rg_lit rfl) g17
    cases hf
    exact aw_iret (pc := 23) X hr hlk rfl rfl dX12_merged_23

def fX12_fraction_b9 (t0 : Nat) (a1 : Int) (a2 : Int) : Nat → Hp → Int → Int → Option (Int × Hp)
  | 0, _, _, _ => none
  | fu + 1, h, v5, v7 =>
    if v7 = 0 then (
      gd (¬ v5 = 0) <|
      gd ((hK h t0).1 = 12) <|
      lt (α := Hp) (pJ h 770 t0 (ldv a1 v5)) fun h4 =>
      gd (¬ v5 = 0) <|
      lt (α := Hp) (pJ h4 771 t0 (ldv a2 v5)) fun h6 =>
      some (1, h6))
    else
    gd (¬ v7 = 0) <|
    lt (α := Int) (lrm v5 v7) fun x8 =>
    fX12_fraction_b9 t0 a1 a2 fu h v7 x8

def fX12_fraction (h : Hp) (t0 : Nat) (a1 : Int) (a2 : Int) : Option (Int × Hp) :=
    lt (α := Int) (labs a1) fun x1 =>
    fX12_fraction_b9 t0 a1 a2 FU h x1 a2

set_option maxHeartbeats 4000000 in
set_option maxRecDepth 100000 in
theorem gX12_fraction_b9 {t0 : Nat} {a1 : Int} {a2 : Int} {r : Int} {h' : Hp} (r_a1 : rl a1) (r_a2 : rl a2) : ∀ (fu : Nat) (h : Hp) (v5 : Int) (v7 : Int), rl v5 → rl v7 → fX12_fraction_b9 t0 a1 a2 fu h v5 v7 = some (r, h') → r = 0 ∨ r = 1 := by
  intro fu
  induction fu with
  | zero => intro h v5 v7 r_v5 r_v7 hf; rw [fX12_fraction_b9.eq_1] at hf; cases hf
  | succ fu ih =>
    intro h v5 v7 r_v5 r_v7 hf
    rw [fX12_fraction_b9.eq_2] at hf
    by_cases z1 : v7 = 0
    · have hf := it_t z1 hf
      obtain ⟨g2, hf⟩ := gd_some hf
      obtain ⟨g3, hf⟩ := gd_some hf
      obtain ⟨h4, eh4, hf⟩ := lt_some hf
      obtain ⟨g5, hf⟩ := gd_some hf
      obtain ⟨h6, eh6, hf⟩ := lt_some hf
      cases hf
      exact (Or.inr rfl)
    · have hf := it_f z1 hf
      obtain ⟨g7, hf⟩ := gd_some hf
      obtain ⟨x8, ex8, hf⟩ := lt_some hf
      have r_x8 : rl x8 := by rw [ex8]; exact (tj_rl _)
      exact ih _ _ _ r_v7 r_x8 hf

set_option maxHeartbeats 4000000 in
set_option maxRecDepth 100000 in
theorem gX12_fraction {h : Hp} {t0 : Nat} {a1 : Int} {a2 : Int} {r : Int} {h' : Hp} (r_a1 : rl a1) (r_a2 : rl a2) (hf : fX12_fraction h t0 a1 a2 = some (r, h')) : r = 0 ∨ r = 1 := by
  rw [fX12_fraction.eq_1] at hf
  obtain ⟨x1, ex1, hf⟩ := lt_some hf
  have r_x1 : rl x1 := by rw [ex1]; exact (tj_rl _)
  exact gX12_fraction_b9 r_a1 r_a2 _ _ _ _ r_x1 r_a2 hf

set_option maxHeartbeats 4000000 in
set_option maxRecDepth 100000 in
theorem wX12_fraction_b9 {D : va_G} {cy : Nat → ClassId} {B : Nat} {p : Program} {l : Launch} {e : Env} {s : State} {m : MethodId} {args : Array Value} {below : List Frame} {meth : Method} {c : Code} {t0 : Nat} {a1 : Int} {a2 : Int} {r : Int} {h' : Hp} (X : CXd D cy B p s m args c cX12_fraction RX12 11) (hr : meth.sig.returnType = (some FieldType.boolean)) (hlk : meth.locks = false) (r_a1 : rl a1) (r_a2 : rl a2) : ∀ (fu : Nat) (h : Hp) (v5 : Int) (v7 : Int), rl v5 → rl v7 → fX12_fraction_b9 t0 a1 a2 fu h v5 v7 = some (r, h') → AWd D cy B p l e { frames := 2, cells := 0, slots := 0, locals := 80 } s m args below meth c 11 (MQr D cy B below (some (vI r)) h' args s 0 0) h 0 0 9 [(0, .ref t0), (1, vJ a1), (3, vJ a2), (5, vJ v5), (7, vJ v7)] [] := by
  intro fu
  induction fu with
  | zero => intro h v5 v7 r_v5 r_v7 hf; rw [fX12_fraction_b9.eq_1] at hf; cases hf
  | succ fu ih =>
    intro h v5 v7 r_v5 r_v7 hf
    rw [fX12_fraction_b9.eq_2] at hf
    refine aw_lload (pc := 9) X dX12_fraction_9 4 rfl ?_
    refine aw_lconst (pc := 11) (x := 0) X 0 dX12_fraction_11 rfl ?_
    refine aw_lc_eq (pc := 12) (tgt := 34) X r_v7 (rl_lit rfl) dX12_fraction_12 dX12_fraction_13 (by decide) (fun z1 => ?_) (fun z1 => ?_)
    · have hf := it_t z1 hf
      refine aw_aload_n (pc := 34) X dX12_fraction_34 0 rfl ?_
      refine aw_lload_n (pc := 35) X dX12_fraction_35 1 rfl ?_
      refine aw_lload (pc := 36) X dX12_fraction_36 3 rfl ?_
      obtain ⟨g2, hf⟩ := gd_some hf
      refine aw_ldiv (pc := 38) X r_v5 g2 dX12_fraction_38 ?_
      obtain ⟨g3, hf⟩ := gd_some hf
      obtain ⟨h4, eh4, hf⟩ := lt_some hf
      have kkh4 := kp_J eh4
      refine aw_setJ (pc := 39) X 12 2 770 iw_12 tyX12 tyX12_ok nmX12 rfl (by decide) (by decide) rfl g3 kw_1489 rfl (Or.inl rfl) rfl (tyX12_ok 2 (by decide)) rfl eh4 dX12_fraction_39 ?_
      refine aw_aload_n (pc := 42) X dX12_fraction_42 0 rfl ?_
      refine aw_lload_n (pc := 43) X dX12_fraction_43 2 rfl ?_
      refine aw_lload (pc := 44) X dX12_fraction_44 3 rfl ?_
      obtain ⟨g5, hf⟩ := gd_some hf
      refine aw_ldiv (pc := 46) X r_v5 g5 dX12_fraction_46 ?_
      obtain ⟨h6, eh6, hf⟩ := lt_some hf
      have kkh6 := (kp_J eh6).trans kkh4
      refine aw_setJ (pc := 47) X 12 3 771 iw_12 tyX12 tyX12_ok nmX12 rfl (by decide) (by decide) rfl (kc kkh4 g3) kw_1490 rfl (Or.inl rfl) rfl (tyX12_ok 3 (by decide)) rfl eh6 dX12_fraction_47 ?_
      refine aw_iconst (pc := 50) X dX12_fraction_50 ?_
      cases hf
      exact aw_zret (pc := 51) X (nar_z (Or.inr rfl)) hr hlk rfl rfl dX12_fraction_51
    · have hf := it_f z1 hf
      refine aw_lload (pc := 16) X dX12_fraction_16 3 rfl ?_
      refine aw_lload (pc := 18) X dX12_fraction_18 4 rfl ?_
      obtain ⟨g7, hf⟩ := gd_some hf
      refine aw_lrem (pc := 20) X r_v7 g7 dX12_fraction_20 ?_
      obtain ⟨x8, ex8, hf⟩ := lt_some hf
      refine aw_topJ ex8 ?_
      have r_x8 : rl x8 := by rw [ex8]; exact (tj_rl _)
      refine aw_lstore (pc := 21) (lv' := [(9, vJ x8), (0, .ref t0), (1, vJ a1), (3, vJ a2), (5, vJ v5), (7, vJ v7)]) X dX12_fraction_21 (by decide) rfl ?_
      refine aw_lload (pc := 23) X dX12_fraction_23 5 rfl ?_
      refine aw_lstore (pc := 25) (lv' := [(5, vJ v7), (9, vJ x8), (0, .ref t0), (1, vJ a1), (3, vJ a2), (7, vJ v7)]) X dX12_fraction_25 (by decide) rfl ?_
      refine aw_lload (pc := 27) X dX12_fraction_27 1 rfl ?_
      refine aw_lstore (pc := 29) (lv' := [(7, vJ x8), (5, vJ v7), (9, vJ x8), (0, .ref t0), (1, vJ a1), (3, vJ a2)]) X dX12_fraction_29 (by decide) rfl ?_
      refine aw_goto (pc := 31) (tgt := 9) X dX12_fraction_31 (by decide) ?_
      refine aw_sub [3, 4, 5, 1, 0] rfl ?_
      exact ih _ _ _ r_v7 r_x8 hf

set_option maxHeartbeats 4000000 in
set_option maxRecDepth 100000 in
theorem kX12_fraction {D : va_G} {cy : Nat → ClassId} {B : Nat} {l : Launch} {h : Hp} {t0 : Nat} {a1 : Int} {a2 : Int} (r_a1 : rl a1) (r_a2 : rl a2) {r : Int} {h' : Hp} (hf : fX12_fraction h t0 a1 a2 = some (r, h')) : CT D cy B l yX12_fraction cX12_fraction 11 (some FieldType.boolean) 2 80 0 0 [.ref t0, vJ a1, vJ a2] h (some (vI r)) h' := by
  refine ct_intro (own := RX12) (by decide) rfl (Nat.le_of_ble_eq_true rfl) fun p e s m args below meth c X hr hlk hnm => ?_
  refine aw_lv (lv' := [(0, .ref t0), (1, vJ a1), (3, vJ a2)]) rfl ?_
  rw [fX12_fraction.eq_1] at hf
  refine aw_lload_n (pc := 0) X dX12_fraction_0 1 rfl ?_
  refine aw_labs (pc := 1) X kw_2213 kw_2214 kw_152 kw_2215 (Nat.le_of_ble_eq_true rfl) (Nat.le_of_ble_eq_true rfl) (Nat.le_of_ble_eq_true rfl) (Nat.le_of_ble_eq_true rfl) dX12_fraction_1 ?_
  obtain ⟨x1, ex1, hf⟩ := lt_some hf
  refine aw_topJ ex1 ?_
  have r_x1 : rl x1 := by rw [ex1]; exact (tj_rl _)
  refine aw_lstore (pc := 4) (lv' := [(5, vJ x1), (0, .ref t0), (1, vJ a1), (3, vJ a2)]) X dX12_fraction_4 (by decide) rfl ?_
  refine aw_lload_n (pc := 6) X dX12_fraction_6 3 rfl ?_
  refine aw_lstore (pc := 7) (lv' := [(7, vJ a2), (5, vJ x1), (0, .ref t0), (1, vJ a1), (3, vJ a2)]) X dX12_fraction_7 (by decide) rfl ?_
  refine aw_sub [2, 3, 4, 1, 0] rfl ?_
  exact wX12_fraction_b9 X hr hlk r_a1 r_a2 _ _ _ _ r_x1 r_a2 hf

def fX12_odds_b142 (t0 : Nat) (a1 : Int) (a2 : Int) (a3 : Int) (a4 : Int) (k77 : Hp → Int → Int → Option (Int × Hp)) (k101 : Hp → Int → Int → Int → Int → Int → Option (Int × Hp)) (h : Hp) (v5 : Int) (v6 : Int) (v7 : Int) (v9 : Int) (s0 : Int) : Option (Int × Hp) :=
    lt (α := Int) (w32 (v9 + 1)) fun x1 =>
    k101 h v5 v6 v7 s0 x1

def fX12_odds_b137 (t0 : Nat) (a1 : Int) (a2 : Int) (a3 : Int) (a4 : Int) (k77 : Hp → Int → Int → Option (Int × Hp)) (k101 : Hp → Int → Int → Int → Int → Int → Option (Int × Hp)) (h : Hp) (v5 : Int) (v6 : Int) (v7 : Int) (v9 : Int) : Option (Int × Hp) :=
    fX12_odds_b142 t0 a1 a2 a3 a4 k77 k101 h v5 v6 v7 v9 1

def fX12_odds_b141 (t0 : Nat) (a1 : Int) (a2 : Int) (a3 : Int) (a4 : Int) (k77 : Hp → Int → Int → Option (Int × Hp)) (k101 : Hp → Int → Int → Int → Int → Int → Option (Int × Hp)) (h : Hp) (v5 : Int) (v6 : Int) (v7 : Int) (v9 : Int) : Option (Int × Hp) :=
    fX12_odds_b142 t0 a1 a2 a3 a4 k77 k101 h v5 v6 v7 v9 0

def fX12_odds_b101 (t0 : Nat) (a1 : Int) (a2 : Int) (a3 : Int) (a4 : Int) (k77 : Hp → Int → Int → Option (Int × Hp)) : Nat → Hp → Int → Int → Int → Int → Int → Option (Int × Hp)
  | 0, _, _, _, _, _, _ => none
  | fu + 1, h, v5, v6, v7, v8, v9 =>
    gd ((hK h t0).1 = 12) <|
    nn (gR h 788 t0) fun q2 =>
    gd ((hK h q2).1 = 21) <|
    gd (inA 2 (hK h q2).2) <|
    if v9 < (gA h q2 ((2 : Int).toNat)) then (
      if v8 = 0 then (
        bd (fX12_has v7 v9) fun r11 =>
        if r11 = 0 then (
          fX12_odds_b141 t0 a1 a2 a3 a4 k77 (fX12_odds_b101 t0 a1 a2 a3 a4 k77 fu) h v5 v6 v7 v9)
        else
        gd (hK h q2 = (21, 1850)) <|
        bd (fX12_placesIn (gA h q2) v9 a1) fun r15 =>
        if 0 < r15 then (
          fX12_odds_b137 t0 a1 a2 a3 a4 k77 (fX12_odds_b101 t0 a1 a2 a3 a4 k77 fu) h v5 v6 v7 v9)
        else
        fX12_odds_b141 t0 a1 a2 a3 a4 k77 (fX12_odds_b101 t0 a1 a2 a3 a4 k77 fu) h v5 v6 v7 v9)
      else
      fX12_odds_b137 t0 a1 a2 a3 a4 k77 (fX12_odds_b101 t0 a1 a2 a3 a4 k77 fu) h v5 v6 v7 v9)
    else
    lt (α := Int) (w32 (v5 + (if v8 = 0 then 0 else 1))) fun x7 =>
    lt (α := Int) (w32 (v6 + 1)) fun x8 =>
    k77 h x7 x8

def fX12_odds_b77 (t0 : Nat) (a1 : Int) (a2 : Int) (a3 : Int) (a4 : Int) : Nat → Hp → Int → Int → Option (Int × Hp)
  | 0, _, _, _ => none
  | fu + 1, h, v5, v6 =>
    if v6 < a4 then (
      gd ((hK h t0).1 = 12) <|
      bd2 (fX12_wholeBehind h t0 (w32 (a3 + v6)) a2) fun r7 h9 =>
      fX12_odds_b101 t0 a1 a2 a3 a4 (fX12_odds_b77 t0 a1 a2 a3 a4 fu) FU h9 v5 v6 r7 0 0)
    else
    gd ((hK h t0).1 = 12) <|
    bd2 (fX12_fraction h t0 v5 a4) fun r3 h5 =>
    some (r3, h5)

def fX12_odds (h : Hp) (t0 : Nat) (a1 : Int) (a2 : Int) (a3 : Int) (a4 : Int) : Option (Int × Hp) :=
    gd ((hK h t0).1 = 12) <|
    lt (α := Hp) (pI h 769 t0 0) fun h2 =>
    lt (α := Hp) (pI h2 768 t0 0) fun h3 =>
    nn (gR h3 788 t0) fun q4 =>
    gd (hK h3 q4 = (21, 1850)) <|
    bd (fX12_isSoundAt (gA h3 q4) a1) fun r6 =>
    if r6 = 0 then (
      bd2 (fX12_no h3 t0 2) fun r27 h29 =>
      some (r27, h29))
    else
    bd (fX12_isIn a2 1 30) fun r9 =>
    if r9 = 0 then (
      bd2 (fX12_no h3 t0 5) fun r12 h14 =>
      some (r12, h14))
    else
    bd (fX12_isIn a4 1 20) fun r15 =>
    if r15 = 0 then (
      bd2 (fX12_no h3 t0 5) fun r18 h20 =>
      some (r18, h20))
    else
    bd (fX12_isIn a3 0 (w32 (10000 - a4))) fun r21 =>
    if r21 = 0 then (
      bd2 (fX12_no h3 t0 5) fun r24 h26 =>
      some (r24, h26))
    else
    fX12_odds_b77 t0 a1 a2 a3 a4 FU h3 0 0

set_option maxHeartbeats 4000000 in
set_option maxRecDepth 100000 in
theorem gX12_odds_b142 {t0 : Nat} {a1 : Int} {a2 : Int} {a3 : Int} {a4 : Int} {r : Int} {h' : Hp} {k77 : Hp → Int → Int → Option (Int × Hp)} {k101 : Hp → Int → Int → Int → Int → Int → Option (Int × Hp)} (r_a1 : rg a1) (r_a2 : rg a2) (r_a3 : rg a3) (r_a4 : rg a4) (H77 : ∀ (h : Hp) (v5 : Int) (v6 : Int), rg v5 → rg v6 → k77 h v5 v6 = some (r, h') → r = 0 ∨ r = 1) (H101 : ∀ (h : Hp) (v5 : Int) (v6 : Int) (v7 : Int) (v8 : Int) (v9 : Int), rg v5 → rg v6 → rg v7 → rg v8 → rg v9 → k101 h v5 v6 v7 v8 v9 = some (r, h') → r = 0 ∨ r = 1) : ∀ (h : Hp) (v5 : Int) (v6 : Int) (v7 : Int) (v9 : Int) (s0 : Int), rg v5 → rg v6 → rg v7 → rg v9 → rg s0 → fX12_odds_b142 t0 a1 a2 a3 a4 k77 k101 h v5 v6 v7 v9 s0 = some (r, h') → r = 0 ∨ r = 1 := by
  intro h v5 v6 v7 v9 s0 r_v5 r_v6 r_v7 r_v9 r_s0 hf
  rw [fX12_odds_b142.eq_1] at hf
  obtain ⟨x1, ex1, hf⟩ := lt_some hf
  have r_x1 : rg x1 := by rw [ex1]; exact w32_rg _
  exact H101 _ _ _ _ _ _ r_v5 r_v6 r_v7 r_s0 r_x1 hf

set_option maxHeartbeats 4000000 in
set_option maxRecDepth 100000 in
theorem gX12_odds_b137 {t0 : Nat} {a1 : Int} {a2 : Int} {a3 : Int} {a4 : Int} {r : Int} {h' : Hp} {k77 : Hp → Int → Int → Option (Int × Hp)} {k101 : Hp → Int → Int → Int → Int → Int → Option (Int × Hp)} (r_a1 : rg a1) (r_a2 : rg a2) (r_a3 : rg a3) (r_a4 : rg a4) (H77 : ∀ (h : Hp) (v5 : Int) (v6 : Int), rg v5 → rg v6 → k77 h v5 v6 = some (r, h') → r = 0 ∨ r = 1) (H101 : ∀ (h : Hp) (v5 : Int) (v6 : Int) (v7 : Int) (v8 : Int) (v9 : Int), rg v5 → rg v6 → rg v7 → rg v8 → rg v9 → k101 h v5 v6 v7 v8 v9 = some (r, h') → r = 0 ∨ r = 1) : ∀ (h : Hp) (v5 : Int) (v6 : Int) (v7 : Int) (v9 : Int), rg v5 → rg v6 → rg v7 → rg v9 → fX12_odds_b137 t0 a1 a2 a3 a4 k77 k101 h v5 v6 v7 v9 = some (r, h') → r = 0 ∨ r = 1 := by
  intro h v5 v6 v7 v9 r_v5 r_v6 r_v7 r_v9 hf
  rw [fX12_odds_b137.eq_1] at hf
  exact gX12_odds_b142 r_a1 r_a2 r_a3 r_a4 H77 H101 _ _ _ _ _ _ r_v5 r_v6 r_v7 r_v9 (rg_lit rfl) hf

set_option maxHeartbeats 4000000 in
set_option maxRecDepth 100000 in
theorem gX12_odds_b141 {t0 : Nat} {a1 : Int} {a2 : Int} {a3 : Int} {a4 : Int} {r : Int} {h' : Hp} {k77 : Hp → Int → Int → Option (Int × Hp)} {k101 : Hp → Int → Int → Int → Int → Int → Option (Int × Hp)} (r_a1 : rg a1) (r_a2 : rg a2) (r_a3 : rg a3) (r_a4 : rg a4) (H77 : ∀ (h : Hp) (v5 : Int) (v6 : Int), rg v5 → rg v6 → k77 h v5 v6 = some (r, h') → r = 0 ∨ r = 1) (H101 : ∀ (h : Hp) (v5 : Int) (v6 : Int) (v7 : Int) (v8 : Int) (v9 : Int), rg v5 → rg v6 → rg v7 → rg v8 → rg v9 → k101 h v5 v6 v7 v8 v9 = some (r, h') → r = 0 ∨ r = 1) : ∀ (h : Hp) (v5 : Int) (v6 : Int) (v7 : Int) (v9 : Int), rg v5 → rg v6 → rg v7 → rg v9 → fX12_odds_b141 t0 a1 a2 a3 a4 k77 k101 h v5 v6 v7 v9 = some (r, h') → r = 0 ∨ r = 1 := by
  intro h v5 v6 v7 v9 r_v5 r_v6 r_v7 r_v9 hf
  rw [fX12_odds_b141.eq_1] at hf
  exact gX12_odds_b142 r_a1 r_a2 r_a3 r_a4 H77 H101 _ _ _ _ _ _ r_v5 r_v6 r_v7 r_v9 (rg_lit rfl) hf

set_option maxHeartbeats 4000000 in
set_option maxRecDepth 100000 in
theorem gX12_odds_b101 {t0 : Nat} {a1 : Int} {a2 : Int} {a3 : Int} {a4 : Int} {r : Int} {h' : Hp} {k77 : Hp → Int → Int → Option (Int × Hp)} (r_a1 : rg a1) (r_a2 : rg a2) (r_a3 : rg a3) (r_a4 : rg a4) (H77 : ∀ (h : Hp) (v5 : Int) (v6 : Int), rg v5 → rg v6 → k77 h v5 v6 = some (r, h') → r = 0 ∨ r = 1) : ∀ (fu : Nat) (h : Hp) (v5 : Int) (v6 : Int) (v7 : Int) (v8 : Int) (v9 : Int), rg v5 → rg v6 → rg v7 → rg v8 → rg v9 → fX12_odds_b101 t0 a1 a2 a3 a4 k77 fu h v5 v6 v7 v8 v9 = some (r, h') → r = 0 ∨ r = 1 := by
  intro fu
  induction fu with
  | zero => intro h v5 v6 v7 v8 v9 r_v5 r_v6 r_v7 r_v8 r_v9 hf; rw [fX12_odds_b101.eq_1] at hf; cases hf
  | succ fu ih =>
    intro h v5 v6 v7 v8 v9 r_v5 r_v6 r_v7 r_v8 r_v9 hf
    rw [fX12_odds_b101.eq_2] at hf
    obtain ⟨g1, hf⟩ := gd_some hf
    obtain ⟨q2, gq2, hf⟩ := nn_some hf
    obtain ⟨g3, hf⟩ := gd_some hf
    obtain ⟨g4, hf⟩ := gd_some hf
    by_cases z5 : v9 < (gA h q2 ((2 : Int).toNat))
    · have hf := it_t z5 hf
      by_cases z10 : v8 = 0
      · have hf := it_t z10 hf
        obtain ⟨r11, g12, hf⟩ := bd_some hf
        have z_r11 := gX12_has r_v7 r_v9 g12
        have r_r11 := rg_01 z_r11
        by_cases z13 : r11 = 0
        · have hf := it_t z13 hf
          exact gX12_odds_b141 r_a1 r_a2 r_a3 r_a4 H77 ih _ _ _ _ _ r_v5 r_v6 r_v7 r_v9 hf
        · have hf := it_f z13 hf
          obtain ⟨g14, hf⟩ := gd_some hf
          obtain ⟨r15, g16, hf⟩ := bd_some hf
          have r_r15 := gX12_placesIn (fun _ => gA_rg) r_v9 r_a1 g16
          by_cases z17 : 0 < r15
          · have hf := it_t z17 hf
            exact gX12_odds_b137 r_a1 r_a2 r_a3 r_a4 H77 ih _ _ _ _ _ r_v5 r_v6 r_v7 r_v9 hf
          · have hf := it_f z17 hf
            exact gX12_odds_b141 r_a1 r_a2 r_a3 r_a4 H77 ih _ _ _ _ _ r_v5 r_v6 r_v7 r_v9 hf
      · have hf := it_f z10 hf
        exact gX12_odds_b137 r_a1 r_a2 r_a3 r_a4 H77 ih _ _ _ _ _ r_v5 r_v6 r_v7 r_v9 hf
    · have hf := it_f z5 hf
      obtain ⟨x7, ex7, hf⟩ := lt_some hf
      have r_x7 : rg x7 := by rw [ex7]; exact (w32_rg _)
      obtain ⟨x8, ex8, hf⟩ := lt_some hf
      have r_x8 : rg x8 := by rw [ex8]; exact w32_rg _
      exact H77 _ _ _ r_x7 r_x8 hf

set_option maxHeartbeats 4000000 in
set_option maxRecDepth 100000 in
theorem gX12_odds_b77 {t0 : Nat} {a1 : Int} {a2 : Int} {a3 : Int} {a4 : Int} {r : Int} {h' : Hp} (r_a1 : rg a1) (r_a2 : rg a2) (r_a3 : rg a3) (r_a4 : rg a4) : ∀ (fu : Nat) (h : Hp) (v5 : Int) (v6 : Int), rg v5 → rg v6 → fX12_odds_b77 t0 a1 a2 a3 a4 fu h v5 v6 = some (r, h') → r = 0 ∨ r = 1 := by
  intro fu
  induction fu with
  | zero => intro h v5 v6 r_v5 r_v6 hf; rw [fX12_odds_b77.eq_1] at hf; cases hf
  | succ fu ih =>
    intro h v5 v6 r_v5 r_v6 hf
    rw [fX12_odds_b77.eq_2] at hf
    by_cases z1 : v6 < a4
    · have hf := it_t z1 hf
      obtain ⟨g6, hf⟩ := gd_some hf
      obtain ⟨r7, h9, g8, hf⟩ := bd2_some hf
      have r_r7 := gX12_wholeBehind (w32_rg _) r_a2 g8
      exact gX12_odds_b101 r_a1 r_a2 r_a3 r_a4 ih _ _ _ _ _ _ _ r_v5 r_v6 r_r7 (rg_lit rfl) (rg_lit rfl) hf
    · have hf := it_f z1 hf
      obtain ⟨g2, hf⟩ := gd_some hf
      obtain ⟨r3, h5, g4, hf⟩ := bd2_some hf
      have z_r3 := gX12_fraction (rg_rl r_v5) (rg_rl r_a4) g4
      have r_r3 := rg_01 z_r3
      cases hf
      exact z_r3

set_option maxHeartbeats 4000000 in
set_option maxRecDepth 100000 in
theorem gX12_odds {h : Hp} {t0 : Nat} {a1 : Int} {a2 : Int} {a3 : Int} {a4 : Int} {r : Int} {h' : Hp} (r_a1 : rg a1) (r_a2 : rg a2) (r_a3 : rg a3) (r_a4 : rg a4) (hf : fX12_odds h t0 a1 a2 a3 a4 = some (r, h')) : r = 0 ∨ r = 1 := by
  rw [fX12_odds.eq_1] at hf
  obtain ⟨g1, hf⟩ := gd_some hf
  obtain ⟨h2, eh2, hf⟩ := lt_some hf
  obtain ⟨h3, eh3, hf⟩ := lt_some hf
  obtain ⟨q4, gq4, hf⟩ := nn_some hf
  obtain ⟨g5, hf⟩ := gd_some hf
  obtain ⟨r6, g7, hf⟩ := bd_some hf
  have z_r6 := gX12_isSoundAt (fun _ => gA_rg) r_a1 g7
  have r_r6 := rg_01 z_r6
  by_cases z8 : r6 = 0
  · have hf := it_t z8 hf
    obtain ⟨r27, h29, g28, hf⟩ := bd2_some hf
    have z_r27 := gX12_no (rg_lit rfl) g28
    have r_r27 := rg_01 z_r27
    cases hf
    exact z_r27
  · have hf := it_f z8 hf
    obtain ⟨r9, g10, hf⟩ := bd_some hf
    have z_r9 := gX12_isIn (rg_rl r_a2) (rl_lit rfl) (rl_lit rfl) g10
    have r_r9 := rg_01 z_r9
    by_cases z11 : r9 = 0
    · have hf := it_t z11 hf
      obtain ⟨r12, h14, g13, hf⟩ := bd2_some hf
      have z_r12 := gX12_no (rg_lit rfl) g13
      have r_r12 := rg_01 z_r12
      cases hf
      exact z_r12
    · have hf := it_f z11 hf
      obtain ⟨r15, g16, hf⟩ := bd_some hf
      have z_r15 := gX12_isIn (rg_rl r_a4) (rl_lit rfl) (rl_lit rfl) g16
      have r_r15 := rg_01 z_r15
      by_cases z17 : r15 = 0
      · have hf := it_t z17 hf
        obtain ⟨r18, h20, g19, hf⟩ := bd2_some hf
        have z_r18 := gX12_no (rg_lit rfl) g19
        have r_r18 := rg_01 z_r18
        cases hf
        exact z_r18
      · have hf := it_f z17 hf
        obtain ⟨r21, g22, hf⟩ := bd_some hf
        have z_r21 := gX12_isIn (rg_rl r_a3) (rl_lit rfl) (rg_rl (w32_rg _)) g22
        have r_r21 := rg_01 z_r21
        by_cases z23 : r21 = 0
        · have hf := it_t z23 hf
          obtain ⟨r24, h26, g25, hf⟩ := bd2_some hf
          have z_r24 := gX12_no (rg_lit rfl) g25
          have r_r24 := rg_01 z_r24
          cases hf
          exact z_r24
        · have hf := it_f z23 hf
          exact gX12_odds_b77 r_a1 r_a2 r_a3 r_a4 _ _ _ _ (rg_lit rfl) (rg_lit rfl) hf

set_option maxHeartbeats 4000000 in
set_option maxRecDepth 100000 in
theorem wX12_odds_b142 {D : va_G} {cy : Nat → ClassId} {B : Nat} {p : Program} {l : Launch} {e : Env} {s : State} {m : MethodId} {args : Array Value} {below : List Frame} {meth : Method} {c : Code} {t0 : Nat} {a1 : Int} {a2 : Int} {a3 : Int} {a4 : Int} {r : Int} {h' : Hp} {k77 : Hp → Int → Int → Option (Int × Hp)} {k101 : Hp → Int → Int → Int → Int → Int → Option (Int × Hp)} (X : CXd D cy B p s m args c cX12_odds RX12 10) (hr : meth.sig.returnType = (some FieldType.boolean)) (hlk : meth.locks = false) (r_a1 : rg a1) (r_a2 : rg a2) (r_a3 : rg a3) (r_a4 : rg a4) (H77 : ∀ (h : Hp) (v5 : Int) (v6 : Int), rg v5 → rg v6 → k77 h v5 v6 = some (r, h') → AWd D cy B p l e { frames := 14, cells := 0, slots := 0, locals := 338 } s m args below meth c 10 (MQr D cy B below (some (vI r)) h' args s 0 0) h 0 0 77 [(0, .ref t0), (1, vI a1), (2, vI a2), (3, vI a3), (4, vI a4), (5, vI v5), (6, vI v6)] []) (H101 : ∀ (h : Hp) (v5 : Int) (v6 : Int) (v7 : Int) (v8 : Int) (v9 : Int), rg v5 → rg v6 → rg v7 → rg v8 → rg v9 → k101 h v5 v6 v7 v8 v9 = some (r, h') → AWd D cy B p l e { frames := 14, cells := 0, slots := 0, locals := 338 } s m args below meth c 10 (MQr D cy B below (some (vI r)) h' args s 0 0) h 0 0 101 [(0, .ref t0), (1, vI a1), (2, vI a2), (3, vI a3), (4, vI a4), (5, vI v5), (6, vI v6), (7, vI v7), (8, vI v8), (9, vI v9)] []) : ∀ (h : Hp) (v5 : Int) (v6 : Int) (v7 : Int) (v9 : Int) (s0 : Int), rg v5 → rg v6 → rg v7 → rg v9 → rg s0 → fX12_odds_b142 t0 a1 a2 a3 a4 k77 k101 h v5 v6 v7 v9 s0 = some (r, h') → AWd D cy B p l e { frames := 14, cells := 0, slots := 0, locals := 338 } s m args below meth c 10 (MQr D cy B below (some (vI r)) h' args s 0 0) h 0 0 142 [(0, .ref t0), (1, vI a1), (2, vI a2), (3, vI a3), (4, vI a4), (5, vI v5), (6, vI v6), (7, vI v7), (9, vI v9)] [vI s0] := by
  intro h v5 v6 v7 v9 s0 r_v5 r_v6 r_v7 r_v9 r_s0 hf
  rw [fX12_odds_b142.eq_1] at hf
  refine aw_istore (pc := 142) (lv' := [(8, vI s0), (0, .ref t0), (1, vI a1), (2, vI a2), (3, vI a3), (4, vI a4), (5, vI v5), (6, vI v6), (7, vI v7), (9, vI v9)]) X dX12_odds_142 (by decide) rfl ?_
  obtain ⟨x1, ex1, hf⟩ := lt_some hf
  have r_x1 : rg x1 := by rw [ex1]; exact w32_rg _
  refine aw_iinc (pc := 144) (lv' := [(9, vI x1), (8, vI s0), (0, .ref t0), (1, vI a1), (2, vI a2), (3, vI a3), (4, vI a4), (5, vI v5), (6, vI v6), (7, vI v7)]) X dX12_odds_144 9 rfl (by decide) (by rw [ex1]; rfl) ?_
  refine aw_goto (pc := 147) (tgt := 101) X dX12_odds_147 (by decide) ?_
  refine aw_sub [2, 3, 4, 5, 6, 7, 8, 9, 1, 0] rfl ?_
  exact H101 _ _ _ _ _ _ r_v5 r_v6 r_v7 r_s0 r_x1 hf

set_option maxHeartbeats 4000000 in
set_option maxRecDepth 100000 in
theorem wX12_odds_b137 {D : va_G} {cy : Nat → ClassId} {B : Nat} {p : Program} {l : Launch} {e : Env} {s : State} {m : MethodId} {args : Array Value} {below : List Frame} {meth : Method} {c : Code} {t0 : Nat} {a1 : Int} {a2 : Int} {a3 : Int} {a4 : Int} {r : Int} {h' : Hp} {k77 : Hp → Int → Int → Option (Int × Hp)} {k101 : Hp → Int → Int → Int → Int → Int → Option (Int × Hp)} (X : CXd D cy B p s m args c cX12_odds RX12 10) (hr : meth.sig.returnType = (some FieldType.boolean)) (hlk : meth.locks = false) (r_a1 : rg a1) (r_a2 : rg a2) (r_a3 : rg a3) (r_a4 : rg a4) (H77 : ∀ (h : Hp) (v5 : Int) (v6 : Int), rg v5 → rg v6 → k77 h v5 v6 = some (r, h') → AWd D cy B p l e { frames := 14, cells := 0, slots := 0, locals := 338 } s m args below meth c 10 (MQr D cy B below (some (vI r)) h' args s 0 0) h 0 0 77 [(0, .ref t0), (1, vI a1), (2, vI a2), (3, vI a3), (4, vI a4), (5, vI v5), (6, vI v6)] []) (H101 : ∀ (h : Hp) (v5 : Int) (v6 : Int) (v7 : Int) (v8 : Int) (v9 : Int), rg v5 → rg v6 → rg v7 → rg v8 → rg v9 → k101 h v5 v6 v7 v8 v9 = some (r, h') → AWd D cy B p l e { frames := 14, cells := 0, slots := 0, locals := 338 } s m args below meth c 10 (MQr D cy B below (some (vI r)) h' args s 0 0) h 0 0 101 [(0, .ref t0), (1, vI a1), (2, vI a2), (3, vI a3), (4, vI a4), (5, vI v5), (6, vI v6), (7, vI v7), (8, vI v8), (9, vI v9)] []) : ∀ (h : Hp) (v5 : Int) (v6 : Int) (v7 : Int) (v9 : Int), rg v5 → rg v6 → rg v7 → rg v9 → fX12_odds_b137 t0 a1 a2 a3 a4 k77 k101 h v5 v6 v7 v9 = some (r, h') → AWd D cy B p l e { frames := 14, cells := 0, slots := 0, locals := 338 } s m args below meth c 10 (MQr D cy B below (some (vI r)) h' args s 0 0) h 0 0 137 [(0, .ref t0), (1, vI a1), (2, vI a2), (3, vI a3), (4, vI a4), (5, vI v5), (6, vI v6), (7, vI v7), (9, vI v9)] [] := by
  intro h v5 v6 v7 v9 r_v5 r_v6 r_v7 r_v9 hf
  rw [fX12_odds_b137.eq_1] at hf
  refine aw_iconst (pc := 137) X dX12_odds_137 ?_
  refine aw_goto (pc := 138) (tgt := 142) X dX12_odds_138 (by decide) ?_
  exact wX12_odds_b142 X hr hlk r_a1 r_a2 r_a3 r_a4 H77 H101 _ _ _ _ _ _ r_v5 r_v6 r_v7 r_v9 (rg_lit rfl) hf

set_option maxHeartbeats 4000000 in
set_option maxRecDepth 100000 in
theorem wX12_odds_b141 {D : va_G} {cy : Nat → ClassId} {B : Nat} {p : Program} {l : Launch} {e : Env} {s : State} {m : MethodId} {args : Array Value} {below : List Frame} {meth : Method} {c : Code} {t0 : Nat} {a1 : Int} {a2 : Int} {a3 : Int} {a4 : Int} {r : Int} {h' : Hp} {k77 : Hp → Int → Int → Option (Int × Hp)} {k101 : Hp → Int → Int → Int → Int → Int → Option (Int × Hp)} (X : CXd D cy B p s m args c cX12_odds RX12 10) (hr : meth.sig.returnType = (some FieldType.boolean)) (hlk : meth.locks = false) (r_a1 : rg a1) (r_a2 : rg a2) (r_a3 : rg a3) (r_a4 : rg a4) (H77 : ∀ (h : Hp) (v5 : Int) (v6 : Int), rg v5 → rg v6 → k77 h v5 v6 = some (r, h') → AWd D cy B p l e { frames := 14, cells := 0, slots := 0, locals := 338 } s m args below meth c 10 (MQr D cy B below (some (vI r)) h' args s 0 0) h 0 0 77 [(0, .ref t0), (1, vI a1), (2, vI a2), (3, vI a3), (4, vI a4), (5, vI v5), (6, vI v6)] []) (H101 : ∀ (h : Hp) (v5 : Int) (v6 : Int) (v7 : Int) (v8 : Int) (v9 : Int), rg v5 → rg v6 → rg v7 → rg v8 → rg v9 → k101 h v5 v6 v7 v8 v9 = some (r, h') → AWd D cy B p l e { frames := 14, cells := 0, slots := 0, locals := 338 } s m args below meth c 10 (MQr D cy B below (some (vI r)) h' args s 0 0) h 0 0 101 [(0, .ref t0), (1, vI a1), (2, vI a2), (3, vI a3), (4, vI a4), (5, vI v5), (6, vI v6), (7, vI v7), (8, vI v8), (9, vI v9)] []) : ∀ (h : Hp) (v5 : Int) (v6 : Int) (v7 : Int) (v9 : Int), rg v5 → rg v6 → rg v7 → rg v9 → fX12_odds_b141 t0 a1 a2 a3 a4 k77 k101 h v5 v6 v7 v9 = some (r, h') → AWd D cy B p l e { frames := 14, cells := 0, slots := 0, locals := 338 } s m args below meth c 10 (MQr D cy B below (some (vI r)) h' args s 0 0) h 0 0 141 [(0, .ref t0), (1, vI a1), (2, vI a2), (3, vI a3), (4, vI a4), (5, vI v5), (6, vI v6), (7, vI v7), (9, vI v9)] [] := by
  intro h v5 v6 v7 v9 r_v5 r_v6 r_v7 r_v9 hf
  rw [fX12_odds_b141.eq_1] at hf
  refine aw_iconst (pc := 141) X dX12_odds_141 ?_
  exact wX12_odds_b142 X hr hlk r_a1 r_a2 r_a3 r_a4 H77 H101 _ _ _ _ _ _ r_v5 r_v6 r_v7 r_v9 (rg_lit rfl) hf

set_option maxHeartbeats 4000000 in
set_option maxRecDepth 100000 in
theorem wX12_odds_b101 {D : va_G} {cy : Nat → ClassId} {B : Nat} {p : Program} {l : Launch} {e : Env} {s : State} {m : MethodId} {args : Array Value} {below : List Frame} {meth : Method} {c : Code} {t0 : Nat} {a1 : Int} {a2 : Int} {a3 : Int} {a4 : Int} {r : Int} {h' : Hp} {k77 : Hp → Int → Int → Option (Int × Hp)} (X : CXd D cy B p s m args c cX12_odds RX12 10) (hr : meth.sig.returnType = (some FieldType.boolean)) (hlk : meth.locks = false) (r_a1 : rg a1) (r_a2 : rg a2) (r_a3 : rg a3) (r_a4 : rg a4) (H77 : ∀ (h : Hp) (v5 : Int) (v6 : Int), rg v5 → rg v6 → k77 h v5 v6 = some (r, h') → AWd D cy B p l e { frames := 14, cells := 0, slots := 0, locals := 338 } s m args below meth c 10 (MQr D cy B below (some (vI r)) h' args s 0 0) h 0 0 77 [(0, .ref t0), (1, vI a1), (2, vI a2), (3, vI a3), (4, vI a4), (5, vI v5), (6, vI v6)] []) : ∀ (fu : Nat) (h : Hp) (v5 : Int) (v6 : Int) (v7 : Int) (v8 : Int) (v9 : Int), rg v5 → rg v6 → rg v7 → rg v8 → rg v9 → fX12_odds_b101 t0 a1 a2 a3 a4 k77 fu h v5 v6 v7 v8 v9 = some (r, h') → AWd D cy B p l e { frames := 14, cells := 0, slots := 0, locals := 338 } s m args below meth c 10 (MQr D cy B below (some (vI r)) h' args s 0 0) h 0 0 101 [(0, .ref t0), (1, vI a1), (2, vI a2), (3, vI a3), (4, vI a4), (5, vI v5), (6, vI v6), (7, vI v7), (8, vI v8), (9, vI v9)] [] := by
  intro fu
  induction fu with
  | zero => intro h v5 v6 v7 v8 v9 r_v5 r_v6 r_v7 r_v8 r_v9 hf; rw [fX12_odds_b101.eq_1] at hf; cases hf
  | succ fu ih =>
    intro h v5 v6 v7 v8 v9 r_v5 r_v6 r_v7 r_v8 r_v9 hf
    rw [fX12_odds_b101.eq_2] at hf
    refine aw_iload (pc := 101) X dX12_odds_101 9 rfl ?_
    refine aw_aload_n (pc := 103) X dX12_odds_103 0 rfl ?_
    obtain ⟨g1, hf⟩ := gd_some hf
    obtain ⟨q2, gq2, hf⟩ := nn_some hf
    refine aw_getR (pc := 104) X 12 20 788 iw_12 rfl (by decide) (by decide) g1 rfl kw_1507 rfl rfl gq2 dX12_odds_104 ?_
    refine aw_iconst (pc := 107) X dX12_odds_107 ?_
    obtain ⟨g3, hf⟩ := gd_some hf
    obtain ⟨g4, hf⟩ := gd_some hf
    refine aw_iald (pc := 108) X g3 (rg_lit rfl) g4 dX12_odds_108 ?_
    refine aw_icmp_ge (pc := 109) (tgt := 150) X r_v9 gA_rg dX12_odds_109 (by decide) (fun z5 => ?_) (fun z5 => ?_)
    · have hf := it_f z5 hf
      refine aw_iload (pc := 150) X dX12_odds_150 5 rfl ?_
      refine aw_iload (pc := 152) X dX12_odds_152 8 rfl ?_
      have K9 : AWd D cy B p l e { frames := 14, cells := 0, slots := 0, locals := 338 } s m args below meth c 10 (MQr D cy B below (some (vI r)) h' args s 0 0) h 0 0 162 [(0, .ref t0), (1, vI a1), (2, vI a2), (3, vI a3), (4, vI a4), (5, vI v5), (6, vI v6), (7, vI v7), (8, vI v8), (9, vI v9)] (vI (if v8 = 0 then 0 else 1) :: [vI v5]) := by
        refine aw_iadd (pc := 162) X dX12_odds_162 ?_
        obtain ⟨x7, ex7, hf⟩ := lt_some hf
        refine aw_topI ex7 ?_
        have r_x7 : rg x7 := by rw [ex7]; exact (w32_rg _)
        refine aw_istore (pc := 163) (lv' := [(5, vI x7), (0, .ref t0), (1, vI a1), (2, vI a2), (3, vI a3), (4, vI a4), (6, vI v6), (7, vI v7), (8, vI v8), (9, vI v9)]) X dX12_odds_163 (by decide) rfl ?_
        obtain ⟨x8, ex8, hf⟩ := lt_some hf
        have r_x8 : rg x8 := by rw [ex8]; exact w32_rg _
        refine aw_iinc (pc := 165) (lv' := [(6, vI x8), (5, vI x7), (0, .ref t0), (1, vI a1), (2, vI a2), (3, vI a3), (4, vI a4), (7, vI v7), (8, vI v8), (9, vI v9)]) X dX12_odds_165 6 rfl (by decide) (by rw [ex8]; rfl) ?_
        refine aw_goto (pc := 168) (tgt := 77) X dX12_odds_168 (by decide) ?_
        refine aw_sub [2, 3, 4, 5, 6, 1, 0] rfl ?_
        exact H77 _ _ _ r_x7 r_x8 hf
      refine aw_if_eq (pc := 154) (tgt := 161) X r_v8 dX12_odds_154 (by decide) (fun z6 => ?_) (fun z6 => ?_)
      · refine aw_iconst (pc := 161) X dX12_odds_161 ?_
        exact aw_iteT z6 K9
      · refine aw_iconst (pc := 157) X dX12_odds_157 ?_
        refine aw_goto (pc := 158) (tgt := 162) X dX12_odds_158 (by decide) ?_
        exact aw_iteF z6 K9
    · have hf := it_t z5 hf
      refine aw_iload (pc := 112) X dX12_odds_112 8 rfl ?_
      refine aw_if_ne (pc := 114) (tgt := 137) X r_v8 dX12_odds_114 (by decide) (fun z10 => ?_) (fun z10 => ?_)
      · have hf := it_f z10 hf
        refine aw_sub [0, 1, 2, 3, 4, 5, 6, 7, 9] rfl ?_
        exact wX12_odds_b137 X hr hlk r_a1 r_a2 r_a3 r_a4 H77 ih _ _ _ _ _ r_v5 r_v6 r_v7 r_v9 hf
      · have hf := it_t z10 hf
        refine aw_iload (pc := 117) X dX12_odds_117 7 rfl ?_
        refine aw_iload (pc := 119) X dX12_odds_119 9 rfl ?_
        obtain ⟨r11, g12, hf⟩ := bd_some hf
        refine aw_invS (pc := 121) X (kX12_has r_v7 r_v9 g12) mw_yX12_has kw_2051 kw_2052 rfl ⟨Nat.le_of_ble_eq_true rfl, Nat.le_of_ble_eq_true rfl⟩ rfl (Nat.le_of_ble_eq_true rfl) ⟨Nat.le_of_ble_eq_true rfl, Nat.le_of_ble_eq_true rfl⟩ dX12_odds_121 ?_
        refine aw_ret1 (k' := 0) (n' := 0) rfl rfl ?_
        have z_r11 := gX12_has r_v7 r_v9 g12
        have r_r11 := rg_01 z_r11
        refine aw_if_eq (pc := 124) (tgt := 141) X r_r11 dX12_odds_124 (by decide) (fun z13 => ?_) (fun z13 => ?_)
        · have hf := it_t z13 hf
          refine aw_sub [0, 1, 2, 3, 4, 5, 6, 7, 9] rfl ?_
          exact wX12_odds_b141 X hr hlk r_a1 r_a2 r_a3 r_a4 H77 ih _ _ _ _ _ r_v5 r_v6 r_v7 r_v9 hf
        · have hf := it_f z13 hf
          refine aw_aload_n (pc := 127) X dX12_odds_127 0 rfl ?_
          refine aw_iload (pc := 128) X dX12_odds_128 9 rfl ?_
          refine aw_iload_n (pc := 130) X dX12_odds_130 1 rfl ?_
          obtain ⟨g14, hf⟩ := gd_some hf
          obtain ⟨r15, g16, hf⟩ := bd_some hf
          refine aw_invV (pc := 131) X (kX12_placesIn ⟨g1, gq2, g14⟩ r_v9 r_a1 g16) mw_yX12_placesIn kw_2054 kw_2056 kw_120 g1 rfl (by decide) rfl ⟨Nat.le_of_ble_eq_true rfl, Nat.le_of_ble_eq_true rfl⟩ rfl (Nat.le_of_ble_eq_true rfl) ⟨Nat.le_of_ble_eq_true rfl, Nat.le_of_ble_eq_true rfl⟩ dX12_odds_131 ?_
          refine aw_ret1 (k' := 0) (n' := 0) rfl rfl ?_
          have r_r15 := gX12_placesIn (fun _ => gA_rg) r_v9 r_a1 g16
          refine aw_if_le (pc := 134) (tgt := 141) X r_r15 dX12_odds_134 (by decide) (fun z17 => ?_) (fun z17 => ?_)
          · have hf := it_f z17 hf
            refine aw_sub [0, 1, 2, 3, 4, 5, 6, 7, 9] rfl ?_
            exact wX12_odds_b141 X hr hlk r_a1 r_a2 r_a3 r_a4 H77 ih _ _ _ _ _ r_v5 r_v6 r_v7 r_v9 hf
          · have hf := it_t z17 hf
            refine aw_sub [0, 1, 2, 3, 4, 5, 6, 7, 9] rfl ?_
            exact wX12_odds_b137 X hr hlk r_a1 r_a2 r_a3 r_a4 H77 ih _ _ _ _ _ r_v5 r_v6 r_v7 r_v9 hf

set_option maxHeartbeats 4000000 in
set_option maxRecDepth 100000 in
theorem wX12_odds_b77 {D : va_G} {cy : Nat → ClassId} {B : Nat} {p : Program} {l : Launch} {e : Env} {s : State} {m : MethodId} {args : Array Value} {below : List Frame} {meth : Method} {c : Code} {t0 : Nat} {a1 : Int} {a2 : Int} {a3 : Int} {a4 : Int} {r : Int} {h' : Hp} (X : CXd D cy B p s m args c cX12_odds RX12 10) (hr : meth.sig.returnType = (some FieldType.boolean)) (hlk : meth.locks = false) (r_a1 : rg a1) (r_a2 : rg a2) (r_a3 : rg a3) (r_a4 : rg a4) : ∀ (fu : Nat) (h : Hp) (v5 : Int) (v6 : Int), rg v5 → rg v6 → fX12_odds_b77 t0 a1 a2 a3 a4 fu h v5 v6 = some (r, h') → AWd D cy B p l e { frames := 14, cells := 0, slots := 0, locals := 338 } s m args below meth c 10 (MQr D cy B below (some (vI r)) h' args s 0 0) h 0 0 77 [(0, .ref t0), (1, vI a1), (2, vI a2), (3, vI a3), (4, vI a4), (5, vI v5), (6, vI v6)] [] := by
  intro fu
  induction fu with
  | zero => intro h v5 v6 r_v5 r_v6 hf; rw [fX12_odds_b77.eq_1] at hf; cases hf
  | succ fu ih =>
    intro h v5 v6 r_v5 r_v6 hf
    rw [fX12_odds_b77.eq_2] at hf
    refine aw_iload (pc := 77) X dX12_odds_77 6 rfl ?_
    refine aw_iload (pc := 79) X dX12_odds_79 4 rfl ?_
    refine aw_icmp_ge (pc := 81) (tgt := 171) X r_v6 r_a4 dX12_odds_81 (by decide) (fun z1 => ?_) (fun z1 => ?_)
    · have hf := it_f z1 hf
      refine aw_aload_n (pc := 171) X dX12_odds_171 0 rfl ?_
      refine aw_iload (pc := 172) X dX12_odds_172 5 rfl ?_
      refine aw_i2l (pc := 174) X r_v5 dX12_odds_174 ?_
      refine aw_iload (pc := 175) X dX12_odds_175 4 rfl ?_
      refine aw_i2l (pc := 177) X r_a4 dX12_odds_177 ?_
      obtain ⟨g2, hf⟩ := gd_some hf
      obtain ⟨r3, h5, g4, hf⟩ := bd2_some hf
      refine aw_invV (pc := 178) X (kX12_fraction (rg_rl r_v5) (rg_rl r_a4) g4) mw_yX12_fraction kw_2209 kw_2211 kw_135 g2 rfl (by decide) rfl ⟨Nat.le_of_ble_eq_true rfl, Nat.le_of_ble_eq_true rfl⟩ rfl (Nat.le_of_ble_eq_true rfl) ⟨Nat.le_of_ble_eq_true rfl, Nat.le_of_ble_eq_true rfl⟩ dX12_odds_178 ?_
      refine aw_ret1 (k' := 0) (n' := 0) rfl rfl ?_
      have z_r3 := gX12_fraction (rg_rl r_v5) (rg_rl r_a4) g4
      have r_r3 := rg_01 z_r3
      cases hf
      exact aw_zret (pc := 181) X (nar_z z_r3) hr hlk rfl rfl dX12_odds_181
    · have hf := it_t z1 hf
      refine aw_aload_n (pc := 84) X dX12_odds_84 0 rfl ?_
      refine aw_iload_n (pc := 85) X dX12_odds_85 3 rfl ?_
      refine aw_iload (pc := 86) X dX12_odds_86 6 rfl ?_
      refine aw_iadd (pc := 88) X dX12_odds_88 ?_
      refine aw_iload_n (pc := 89) X dX12_odds_89 2 rfl ?_
      obtain ⟨g6, hf⟩ := gd_some hf
      obtain ⟨r7, h9, g8, hf⟩ := bd2_some hf
      refine aw_invV (pc := 90) X (kX12_wholeBehind (w32_rg _) r_a2 g8) mw_yX12_wholeBehind kw_2191 kw_2193 kw_133 g6 rfl (by decide) rfl ⟨Nat.le_of_ble_eq_true rfl, Nat.le_of_ble_eq_true rfl⟩ rfl (Nat.le_of_ble_eq_true rfl) ⟨Nat.le_of_ble_eq_true rfl, Nat.le_of_ble_eq_true rfl⟩ dX12_odds_90 ?_
      refine aw_ret1 (k' := 0) (n' := 0) rfl rfl ?_
      have r_r7 := gX12_wholeBehind (w32_rg _) r_a2 g8
      refine aw_istore (pc := 93) (lv' := [(7, vI r7), (0, .ref t0), (1, vI a1), (2, vI a2), (3, vI a3), (4, vI a4), (5, vI v5), (6, vI v6)]) X dX12_odds_93 (by decide) rfl ?_
      refine aw_iconst (pc := 95) X dX12_odds_95 ?_
      refine aw_istore (pc := 96) (lv' := [(8, vI 0), (7, vI r7), (0, .ref t0), (1, vI a1), (2, vI a2), (3, vI a3), (4, vI a4), (5, vI v5), (6, vI v6)]) X dX12_odds_96 (by decide) rfl ?_
      refine aw_iconst (pc := 98) X dX12_odds_98 ?_
      refine aw_istore (pc := 99) (lv' := [(9, vI 0), (8, vI 0), (7, vI r7), (0, .ref t0), (1, vI a1), (2, vI a2), (3, vI a3), (4, vI a4), (5, vI v5), (6, vI v6)]) X dX12_odds_99 (by decide) rfl ?_
      refine aw_sub [3, 4, 5, 6, 7, 8, 9, 2, 1, 0] rfl ?_
      exact wX12_odds_b101 X hr hlk r_a1 r_a2 r_a3 r_a4 ih _ _ _ _ _ _ _ r_v5 r_v6 r_r7 (rg_lit rfl) (rg_lit rfl) hf

set_option maxHeartbeats 4000000 in
set_option maxRecDepth 100000 in
theorem kX12_odds {D : va_G} {cy : Nat → ClassId} {B : Nat} {l : Launch} {h : Hp} {t0 : Nat} {a1 : Int} {a2 : Int} {a3 : Int} {a4 : Int} (r_a1 : rg a1) (r_a2 : rg a2) (r_a3 : rg a3) (r_a4 : rg a4) {r : Int} {h' : Hp} (hf : fX12_odds h t0 a1 a2 a3 a4 = some (r, h')) : CT D cy B l yX12_odds cX12_odds 10 (some FieldType.boolean) 14 338 0 0 [.ref t0, vI a1, vI a2, vI a3, vI a4] h (some (vI r)) h' := by
  refine ct_intro (own := RX12) (by decide) rfl (Nat.le_of_ble_eq_true rfl) fun p e s m args below meth c X hr hlk hnm => ?_
  refine aw_lv (lv' := [(0, .ref t0), (1, vI a1), (2, vI a2), (3, vI a3), (4, vI a4)]) rfl ?_
  rw [fX12_odds.eq_1] at hf
  refine aw_aload_n (pc := 0) X dX12_odds_0 0 rfl ?_
  refine aw_iconst (pc := 1) X dX12_odds_1 ?_
  obtain ⟨g1, hf⟩ := gd_some hf
  obtain ⟨h2, eh2, hf⟩ := lt_some hf
  have kkh2 := kp_I eh2
  refine aw_setI (pc := 2) X 12 1 769 iw_12 tyX12 tyX12_ok nmX12 rfl (by decide) (by decide) rfl g1 kw_1488 rfl (Or.inl rfl) rfl (tyX12_ok 1 (by decide)) rfl eh2 dX12_odds_2 ?_
  refine aw_aload_n (pc := 5) X dX12_odds_5 0 rfl ?_
  refine aw_iconst (pc := 6) X dX12_odds_6 ?_
  obtain ⟨h3, eh3, hf⟩ := lt_some hf
  have kkh3 := (kp_I eh3).trans kkh2
  refine aw_setI (pc := 7) X 12 0 768 iw_12 tyX12 tyX12_ok nmX12 rfl (by decide) (by decide) rfl (kc kkh2 g1) kw_1487 rfl (Or.inl rfl) rfl (tyX12_ok 0 (by decide)) rfl eh3 dX12_odds_7 ?_
  refine aw_aload_n (pc := 10) X dX12_odds_10 0 rfl ?_
  refine aw_iload_n (pc := 11) X dX12_odds_11 1 rfl ?_
  obtain ⟨q4, gq4, hf⟩ := nn_some hf
  obtain ⟨g5, hf⟩ := gd_some hf
  obtain ⟨r6, g7, hf⟩ := bd_some hf
  refine aw_invV (pc := 12) X (kX12_isSoundAt ⟨(kc kkh3 g1), gq4, g5⟩ r_a1 g7) mw_yX12_isSoundAt kw_1895 kw_1897 kw_101 (kc kkh3 g1) rfl (by decide) rfl ⟨Nat.le_of_ble_eq_true rfl, Nat.le_of_ble_eq_true rfl⟩ rfl (Nat.le_of_ble_eq_true rfl) ⟨Nat.le_of_ble_eq_true rfl, Nat.le_of_ble_eq_true rfl⟩ dX12_odds_12 ?_
  refine aw_ret1 (k' := 0) (n' := 0) rfl rfl ?_
  have z_r6 := gX12_isSoundAt (fun _ => gA_rg) r_a1 g7
  have r_r6 := rg_01 z_r6
  refine aw_if_ne (pc := 15) (tgt := 24) X r_r6 dX12_odds_15 (by decide) (fun z8 => ?_) (fun z8 => ?_)
  · have hf := it_f z8 hf
    refine aw_iload_n (pc := 24) X dX12_odds_24 2 rfl ?_
    refine aw_i2l (pc := 25) X r_a2 dX12_odds_25 ?_
    refine aw_lconst (pc := 26) (x := 1) X 1 dX12_odds_26 rfl ?_
    refine aw_ldc2 (pc := 27) X dX12_odds_27 kw_2190 ?_
    obtain ⟨r9, g10, hf⟩ := bd_some hf
    refine aw_invS (pc := 30) X (kX12_isIn (rg_rl r_a2) (rl_lit rfl) (rl_lit rfl) g10) mw_yX12_isIn kw_1843 kw_1844 rfl ⟨Nat.le_of_ble_eq_true rfl, Nat.le_of_ble_eq_true rfl⟩ rfl (Nat.le_of_ble_eq_true rfl) ⟨Nat.le_of_ble_eq_true rfl, Nat.le_of_ble_eq_true rfl⟩ dX12_odds_30 ?_
    refine aw_ret1 (k' := 0) (n' := 0) rfl rfl ?_
    have z_r9 := gX12_isIn (rg_rl r_a2) (rl_lit rfl) (rl_lit rfl) g10
    have r_r9 := rg_01 z_r9
    refine aw_if_eq (pc := 33) (tgt := 65) X r_r9 dX12_odds_33 (by decide) (fun z11 => ?_) (fun z11 => ?_)
    · have hf := it_t z11 hf
      refine aw_aload_n (pc := 65) X dX12_odds_65 0 rfl ?_
      refine aw_iconst (pc := 66) X dX12_odds_66 ?_
      obtain ⟨r12, h14, g13, hf⟩ := bd2_some hf
      refine aw_invV (pc := 67) X (kX12_no (rg_lit rfl) g13) mw_yX12_no kw_1648 kw_1650 kw_53 (kc kkh3 g1) rfl (by decide) rfl ⟨Nat.le_of_ble_eq_true rfl, Nat.le_of_ble_eq_true rfl⟩ rfl (Nat.le_of_ble_eq_true rfl) ⟨Nat.le_of_ble_eq_true rfl, Nat.le_of_ble_eq_true rfl⟩ dX12_odds_67 ?_
      refine aw_ret1 (k' := 0) (n' := 0) rfl rfl ?_
      have z_r12 := gX12_no (rg_lit rfl) g13
      have r_r12 := rg_01 z_r12
      cases hf
      exact aw_zret (pc := 70) X (nar_z z_r12) hr hlk rfl rfl dX12_odds_70
    · have hf := it_f z11 hf
      refine aw_iload (pc := 36) X dX12_odds_36 4 rfl ?_
      refine aw_i2l (pc := 38) X r_a4 dX12_odds_38 ?_
      refine aw_lconst (pc := 39) (x := 1) X 1 dX12_odds_39 rfl ?_
      refine aw_ldc2 (pc := 40) X dX12_odds_40 kw_2208 ?_
      obtain ⟨r15, g16, hf⟩ := bd_some hf
      refine aw_invS (pc := 43) X (kX12_isIn (rg_rl r_a4) (rl_lit rfl) (rl_lit rfl) g16) mw_yX12_isIn kw_1843 kw_1844 rfl ⟨Nat.le_of_ble_eq_true rfl, Nat.le_of_ble_eq_true rfl⟩ rfl (Nat.le_of_ble_eq_true rfl) ⟨Nat.le_of_ble_eq_true rfl, Nat.le_of_ble_eq_true rfl⟩ dX12_odds_43 ?_
      refine aw_ret1 (k' := 0) (n' := 0) rfl rfl ?_
      have z_r15 := gX12_isIn (rg_rl r_a4) (rl_lit rfl) (rl_lit rfl) g16
      have r_r15 := rg_01 z_r15
      refine aw_if_eq (pc := 46) (tgt := 65) X r_r15 dX12_odds_46 (by decide) (fun z17 => ?_) (fun z17 => ?_)
      · have hf := it_t z17 hf
        refine aw_aload_n (pc := 65) X dX12_odds_65 0 rfl ?_
        refine aw_iconst (pc := 66) X dX12_odds_66 ?_
        obtain ⟨r18, h20, g19, hf⟩ := bd2_some hf
        refine aw_invV (pc := 67) X (kX12_no (rg_lit rfl) g19) mw_yX12_no kw_1648 kw_1650 kw_53 (kc kkh3 g1) rfl (by decide) rfl ⟨Nat.le_of_ble_eq_true rfl, Nat.le_of_ble_eq_true rfl⟩ rfl (Nat.le_of_ble_eq_true rfl) ⟨Nat.le_of_ble_eq_true rfl, Nat.le_of_ble_eq_true rfl⟩ dX12_odds_67 ?_
        refine aw_ret1 (k' := 0) (n' := 0) rfl rfl ?_
        have z_r18 := gX12_no (rg_lit rfl) g19
        have r_r18 := rg_01 z_r18
        cases hf
        exact aw_zret (pc := 70) X (nar_z z_r18) hr hlk rfl rfl dX12_odds_70
      · have hf := it_f z17 hf
        refine aw_iload_n (pc := 49) X dX12_odds_49 3 rfl ?_
        refine aw_i2l (pc := 50) X r_a3 dX12_odds_50 ?_
        refine aw_lconst (pc := 51) (x := 0) X 0 dX12_odds_51 rfl ?_
        refine aw_sipush (pc := 52) X dX12_odds_52 rfl ?_
        refine aw_iload (pc := 55) X dX12_odds_55 4 rfl ?_
        refine aw_isub (pc := 57) X dX12_odds_57 ?_
        refine aw_i2l (pc := 58) X (w32_rg _) dX12_odds_58 ?_
        obtain ⟨r21, g22, hf⟩ := bd_some hf
        refine aw_invS (pc := 59) X (kX12_isIn (rg_rl r_a3) (rl_lit rfl) (rg_rl (w32_rg _)) g22) mw_yX12_isIn kw_1843 kw_1844 rfl ⟨Nat.le_of_ble_eq_true rfl, Nat.le_of_ble_eq_true rfl⟩ rfl (Nat.le_of_ble_eq_true rfl) ⟨Nat.le_of_ble_eq_true rfl, Nat.le_of_ble_eq_true rfl⟩ dX12_odds_59 ?_
        refine aw_ret1 (k' := 0) (n' := 0) rfl rfl ?_
        have z_r21 := gX12_isIn (rg_rl r_a3) (rl_lit rfl) (rg_rl (w32_rg _)) g22
        have r_r21 := rg_01 z_r21
        refine aw_if_ne (pc := 62) (tgt := 71) X r_r21 dX12_odds_62 (by decide) (fun z23 => ?_) (fun z23 => ?_)
        · have hf := it_f z23 hf
          refine aw_iconst (pc := 71) X dX12_odds_71 ?_
          refine aw_istore (pc := 72) (lv' := [(5, vI 0), (0, .ref t0), (1, vI a1), (2, vI a2), (3, vI a3), (4, vI a4)]) X dX12_odds_72 (by decide) rfl ?_
          refine aw_iconst (pc := 74) X dX12_odds_74 ?_
          refine aw_istore (pc := 75) (lv' := [(6, vI 0), (5, vI 0), (0, .ref t0), (1, vI a1), (2, vI a2), (3, vI a3), (4, vI a4)]) X dX12_odds_75 (by decide) rfl ?_
          refine aw_sub [2, 3, 4, 5, 6, 1, 0] rfl ?_
          exact wX12_odds_b77 X hr hlk r_a1 r_a2 r_a3 r_a4 _ _ _ _ (rg_lit rfl) (rg_lit rfl) hf
        · have hf := it_t z23 hf
          refine aw_aload_n (pc := 65) X dX12_odds_65 0 rfl ?_
          refine aw_iconst (pc := 66) X dX12_odds_66 ?_
          obtain ⟨r24, h26, g25, hf⟩ := bd2_some hf
          refine aw_invV (pc := 67) X (kX12_no (rg_lit rfl) g25) mw_yX12_no kw_1648 kw_1650 kw_53 (kc kkh3 g1) rfl (by decide) rfl ⟨Nat.le_of_ble_eq_true rfl, Nat.le_of_ble_eq_true rfl⟩ rfl (Nat.le_of_ble_eq_true rfl) ⟨Nat.le_of_ble_eq_true rfl, Nat.le_of_ble_eq_true rfl⟩ dX12_odds_67 ?_
          refine aw_ret1 (k' := 0) (n' := 0) rfl rfl ?_
          have z_r24 := gX12_no (rg_lit rfl) g25
          have r_r24 := rg_01 z_r24
          cases hf
          exact aw_zret (pc := 70) X (nar_z z_r24) hr hlk rfl rfl dX12_odds_70
  · have hf := it_t z8 hf
    refine aw_aload_n (pc := 18) X dX12_odds_18 0 rfl ?_
    refine aw_iconst (pc := 19) X dX12_odds_19 ?_
    obtain ⟨r27, h29, g28, hf⟩ := bd2_some hf
    refine aw_invV (pc := 20) X (kX12_no (rg_lit rfl) g28) mw_yX12_no kw_1648 kw_1650 kw_53 (kc kkh3 g1) rfl (by decide) rfl ⟨Nat.le_of_ble_eq_true rfl, Nat.le_of_ble_eq_true rfl⟩ rfl (Nat.le_of_ble_eq_true rfl) ⟨Nat.le_of_ble_eq_true rfl, Nat.le_of_ble_eq_true rfl⟩ dX12_odds_20 ?_
    refine aw_ret1 (k' := 0) (n' := 0) rfl rfl ?_
    have z_r27 := gX12_no (rg_lit rfl) g28
    have r_r27 := rg_01 z_r27
    cases hf
    exact aw_zret (pc := 23) X (nar_z z_r27) hr hlk rfl rfl dX12_odds_23

def fX12_safe (h : Hp) (t0 : Nat) (a1 : Int) (a2 : Int) (a3 : Int) : Option (Int × Hp) :=
    gd ((hK h t0).1 = 12) <|
    lt (α := Hp) (pI h 769 t0 0) fun h2 =>
    lt (α := Hp) (pI h2 768 t0 0) fun h3 =>
    nn (gR h3 788 t0) fun q4 =>
    gd (hK h3 q4 = (21, 1850)) <|
    bd (fX12_isJarAt (gA h3 q4) a1) fun r6 =>
    if r6 = 0 then (
      bd2 (fX12_no h3 t0 2) fun r34 h36 =>
      some (r34, h36))
    else
    bd (fX12_isIn a2 1 5) fun r9 =>
    if r9 = 0 then (
      bd2 (fX12_no h3 t0 5) fun r12 h14 =>
      some (r12, h14))
    else
    bd (fX12_isIn a3 0 1) fun r15 =>
    if r15 = 0 then (
      bd2 (fX12_no h3 t0 5) fun r31 h33 =>
      some (r31, h33))
    else
    gd ((hK h3 q4).1 = 21) <|
    gd (inA (w32 (180 + a1)) (hK h3 q4).2) <|
    bd (fX12_power (w64 (16 - (gA h3 q4 (w32 (180 + a1)).toNat))) a2) fun r20 =>
    bd (fX12_power 16 a2) fun r22 =>
    if a3 = 0 then (
      bd2 (fX12_fraction h3 t0 r20 r22) fun r28 h30 =>
      some (r28, h30))
    else
    bd2 (fX12_fraction h3 t0 (w64 ((w64 (r22 * r22)) - (w64 ((w64 (r22 - r20)) * (w64 (r22 - r20)))))) (w64 (r22 * r22))) fun r25 h27 =>
    some (r25, h27)

set_option maxHeartbeats 4000000 in
set_option maxRecDepth 100000 in
theorem gX12_safe {h : Hp} {t0 : Nat} {a1 : Int} {a2 : Int} {a3 : Int} {r : Int} {h' : Hp} (r_a1 : rg a1) (r_a2 : rg a2) (r_a3 : rg a3) (hf : fX12_safe h t0 a1 a2 a3 = some (r, h')) : r = 0 ∨ r = 1 := by
  rw [fX12_safe.eq_1] at hf
  obtain ⟨g1, hf⟩ := gd_some hf
  obtain ⟨h2, eh2, hf⟩ := lt_some hf
  obtain ⟨h3, eh3, hf⟩ := lt_some hf
  obtain ⟨q4, gq4, hf⟩ := nn_some hf
  obtain ⟨g5, hf⟩ := gd_some hf
  obtain ⟨r6, g7, hf⟩ := bd_some hf
  have z_r6 := gX12_isJarAt (fun _ => gA_rg) r_a1 g7
  have r_r6 := rg_01 z_r6
  by_cases z8 : r6 = 0
  · have hf := it_t z8 hf
    obtain ⟨r34, h36, g35, hf⟩ := bd2_some hf
    have z_r34 := gX12_no (rg_lit rfl) g35
    have r_r34 := rg_01 z_r34
    cases hf
    exact z_r34
  · have hf := it_f z8 hf
    obtain ⟨r9, g10, hf⟩ := bd_some hf
    have z_r9 := gX12_isIn (rg_rl r_a2) (rl_lit rfl) (rl_lit rfl) g10
    have r_r9 := rg_01 z_r9
    by_cases z11 : r9 = 0
    · have hf := it_t z11 hf
      obtain ⟨r12, h14, g13, hf⟩ := bd2_some hf
      have z_r12 := gX12_no (rg_lit rfl) g13
      have r_r12 := rg_01 z_r12
      cases hf
      exact z_r12
    · have hf := it_f z11 hf
      obtain ⟨r15, g16, hf⟩ := bd_some hf
      have z_r15 := gX12_isIn (rg_rl r_a3) (rl_lit rfl) (rl_lit rfl) g16
      have r_r15 := rg_01 z_r15
      by_cases z17 : r15 = 0
      · have hf := it_t z17 hf
        obtain ⟨r31, h33, g32, hf⟩ := bd2_some hf
        have z_r31 := gX12_no (rg_lit rfl) g32
        have r_r31 := rg_01 z_r31
        cases hf
        exact z_r31
      · have hf := it_f z17 hf
        obtain ⟨g18, hf⟩ := gd_some hf
        obtain ⟨g19, hf⟩ := gd_some hf
        obtain ⟨r20, g21, hf⟩ := bd_some hf
        have r_r20 := gX12_power (w64_rl _) r_a2 g21
        obtain ⟨r22, g23, hf⟩ := bd_some hf
        have r_r22 := gX12_power (rl_lit rfl) r_a2 g23
        by_cases z24 : a3 = 0
        · have hf := it_t z24 hf
          obtain ⟨r28, h30, g29, hf⟩ := bd2_some hf
          have z_r28 := gX12_fraction r_r20 r_r22 g29
          have r_r28 := rg_01 z_r28
          cases hf
          exact z_r28
        · have hf := it_f z24 hf
          obtain ⟨r25, h27, g26, hf⟩ := bd2_some hf
          have z_r25 := gX12_fraction (w64_rl _) (w64_rl _) g26
          have r_r25 := rg_01 z_r25
          cases hf
          exact z_r25

set_option maxHeartbeats 4000000 in
set_option maxRecDepth 100000 in
theorem kX12_safe {D : va_G} {cy : Nat → ClassId} {B : Nat} {l : Launch} {h : Hp} {t0 : Nat} {a1 : Int} {a2 : Int} {a3 : Int} (r_a1 : rg a1) (r_a2 : rg a2) (r_a3 : rg a3) {r : Int} {h' : Hp} (hf : fX12_safe h t0 a1 a2 a3 = some (r, h')) : CT D cy B l yX12_safe cX12_safe 8 (some FieldType.boolean) 6 166 0 0 [.ref t0, vI a1, vI a2, vI a3] h (some (vI r)) h' := by
  refine ct_intro (own := RX12) (by decide) rfl (Nat.le_of_ble_eq_true rfl) fun p e s m args below meth c X hr hlk hnm => ?_
  refine aw_lv (lv' := [(0, .ref t0), (1, vI a1), (2, vI a2), (3, vI a3)]) rfl ?_
  rw [fX12_safe.eq_1] at hf
  refine aw_aload_n (pc := 0) X dX12_safe_0 0 rfl ?_
  refine aw_iconst (pc := 1) X dX12_safe_1 ?_
  obtain ⟨g1, hf⟩ := gd_some hf
  obtain ⟨h2, eh2, hf⟩ := lt_some hf
  have kkh2 := kp_I eh2
  refine aw_setI (pc := 2) X 12 1 769 iw_12 tyX12 tyX12_ok nmX12 rfl (by decide) (by decide) rfl g1 kw_1488 rfl (Or.inl rfl) rfl (tyX12_ok 1 (by decide)) rfl eh2 dX12_safe_2 ?_
  refine aw_aload_n (pc := 5) X dX12_safe_5 0 rfl ?_
  refine aw_iconst (pc := 6) X dX12_safe_6 ?_
  obtain ⟨h3, eh3, hf⟩ := lt_some hf
  have kkh3 := (kp_I eh3).trans kkh2
  refine aw_setI (pc := 7) X 12 0 768 iw_12 tyX12 tyX12_ok nmX12 rfl (by decide) (by decide) rfl (kc kkh2 g1) kw_1487 rfl (Or.inl rfl) rfl (tyX12_ok 0 (by decide)) rfl eh3 dX12_safe_7 ?_
  refine aw_aload_n (pc := 10) X dX12_safe_10 0 rfl ?_
  refine aw_iload_n (pc := 11) X dX12_safe_11 1 rfl ?_
  obtain ⟨q4, gq4, hf⟩ := nn_some hf
  obtain ⟨g5, hf⟩ := gd_some hf
  obtain ⟨r6, g7, hf⟩ := bd_some hf
  refine aw_invV (pc := 12) X (kX12_isJarAt ⟨(kc kkh3 g1), gq4, g5⟩ r_a1 g7) mw_yX12_isJarAt kw_1907 kw_1909 kw_103 (kc kkh3 g1) rfl (by decide) rfl ⟨Nat.le_of_ble_eq_true rfl, Nat.le_of_ble_eq_true rfl⟩ rfl (Nat.le_of_ble_eq_true rfl) ⟨Nat.le_of_ble_eq_true rfl, Nat.le_of_ble_eq_true rfl⟩ dX12_safe_12 ?_
  refine aw_ret1 (k' := 0) (n' := 0) rfl rfl ?_
  have z_r6 := gX12_isJarAt (fun _ => gA_rg) r_a1 g7
  have r_r6 := rg_01 z_r6
  refine aw_if_ne (pc := 15) (tgt := 24) X r_r6 dX12_safe_15 (by decide) (fun z8 => ?_) (fun z8 => ?_)
  · have hf := it_f z8 hf
    refine aw_iload_n (pc := 24) X dX12_safe_24 2 rfl ?_
    refine aw_i2l (pc := 25) X r_a2 dX12_safe_25 ?_
    refine aw_lconst (pc := 26) (x := 1) X 1 dX12_safe_26 rfl ?_
    refine aw_ldc2 (pc := 27) X dX12_safe_27 kw_2220 ?_
    obtain ⟨r9, g10, hf⟩ := bd_some hf
    refine aw_invS (pc := 30) X (kX12_isIn (rg_rl r_a2) (rl_lit rfl) (rl_lit rfl) g10) mw_yX12_isIn kw_1843 kw_1844 rfl ⟨Nat.le_of_ble_eq_true rfl, Nat.le_of_ble_eq_true rfl⟩ rfl (Nat.le_of_ble_eq_true rfl) ⟨Nat.le_of_ble_eq_true rfl, Nat.le_of_ble_eq_true rfl⟩ dX12_safe_30 ?_
    refine aw_ret1 (k' := 0) (n' := 0) rfl rfl ?_
    have z_r9 := gX12_isIn (rg_rl r_a2) (rl_lit rfl) (rl_lit rfl) g10
    have r_r9 := rg_01 z_r9
    refine aw_if_eq (pc := 33) (tgt := 46) X r_r9 dX12_safe_33 (by decide) (fun z11 => ?_) (fun z11 => ?_)
    · have hf := it_t z11 hf
      refine aw_aload_n (pc := 46) X dX12_safe_46 0 rfl ?_
      refine aw_iconst (pc := 47) X dX12_safe_47 ?_
      obtain ⟨r12, h14, g13, hf⟩ := bd2_some hf
      refine aw_invV (pc := 48) X (kX12_no (rg_lit rfl) g13) mw_yX12_no kw_1648 kw_1650 kw_53 (kc kkh3 g1) rfl (by decide) rfl ⟨Nat.le_of_ble_eq_true rfl, Nat.le_of_ble_eq_true rfl⟩ rfl (Nat.le_of_ble_eq_true rfl) ⟨Nat.le_of_ble_eq_true rfl, Nat.le_of_ble_eq_true rfl⟩ dX12_safe_48 ?_
      refine aw_ret1 (k' := 0) (n' := 0) rfl rfl ?_
      have z_r12 := gX12_no (rg_lit rfl) g13
      have r_r12 := rg_01 z_r12
      cases hf
      exact aw_zret (pc := 51) X (nar_z z_r12) hr hlk rfl rfl dX12_safe_51
    · have hf := it_f z11 hf
      refine aw_iload_n (pc := 36) X dX12_safe_36 3 rfl ?_
      refine aw_i2l (pc := 37) X r_a3 dX12_safe_37 ?_
      refine aw_lconst (pc := 38) (x := 0) X 0 dX12_safe_38 rfl ?_
      refine aw_lconst (pc := 39) (x := 1) X 1 dX12_safe_39 rfl ?_
      obtain ⟨r15, g16, hf⟩ := bd_some hf
      refine aw_invS (pc := 40) X (kX12_isIn (rg_rl r_a3) (rl_lit rfl) (rl_lit rfl) g16) mw_yX12_isIn kw_1843 kw_1844 rfl ⟨Nat.le_of_ble_eq_true rfl, Nat.le_of_ble_eq_true rfl⟩ rfl (Nat.le_of_ble_eq_true rfl) ⟨Nat.le_of_ble_eq_true rfl, Nat.le_of_ble_eq_true rfl⟩ dX12_safe_40 ?_
      refine aw_ret1 (k' := 0) (n' := 0) rfl rfl ?_
      have z_r15 := gX12_isIn (rg_rl r_a3) (rl_lit rfl) (rl_lit rfl) g16
      have r_r15 := rg_01 z_r15
      refine aw_if_ne (pc := 43) (tgt := 52) X r_r15 dX12_safe_43 (by decide) (fun z17 => ?_) (fun z17 => ?_)
      · have hf := it_f z17 hf
        refine aw_ldc2 (pc := 52) X dX12_safe_52 kw_2221 ?_
        refine aw_aload_n (pc := 55) X dX12_safe_55 0 rfl ?_
        refine aw_getR (pc := 56) X 12 20 788 iw_12 rfl (by decide) (by decide) (kc kkh3 g1) rfl kw_1507 rfl rfl gq4 dX12_safe_56 ?_
        refine aw_sipush (pc := 59) X dX12_safe_59 rfl ?_
        refine aw_iload_n (pc := 62) X dX12_safe_62 1 rfl ?_
        refine aw_iadd (pc := 63) X dX12_safe_63 ?_
        obtain ⟨g18, hf⟩ := gd_some hf
        obtain ⟨g19, hf⟩ := gd_some hf
        refine aw_iald (pc := 64) X g18 (w32_rg _) g19 dX12_safe_64 ?_
        refine aw_i2l (pc := 65) X gA_rg dX12_safe_65 ?_
        refine aw_lsub (pc := 66) X dX12_safe_66 ?_
        refine aw_iload_n (pc := 67) X dX12_safe_67 2 rfl ?_
        obtain ⟨r20, g21, hf⟩ := bd_some hf
        refine aw_invS (pc := 68) X (kX12_power (w64_rl _) r_a2 g21) mw_yX12_power kw_2222 kw_2223 rfl ⟨Nat.le_of_ble_eq_true rfl, Nat.le_of_ble_eq_true rfl⟩ rfl (Nat.le_of_ble_eq_true rfl) ⟨Nat.le_of_ble_eq_true rfl, Nat.le_of_ble_eq_true rfl⟩ dX12_safe_68 ?_
        refine aw_ret1 (k' := 0) (n' := 0) rfl rfl ?_
        have r_r20 := gX12_power (w64_rl _) r_a2 g21
        refine aw_lstore (pc := 71) (lv' := [(4, vJ r20), (0, .ref t0), (1, vI a1), (2, vI a2), (3, vI a3)]) X dX12_safe_71 (by decide) rfl ?_
        refine aw_ldc2 (pc := 73) X dX12_safe_73 kw_2221 ?_
        refine aw_iload_n (pc := 76) X dX12_safe_76 3 rfl ?_
        obtain ⟨r22, g23, hf⟩ := bd_some hf
        refine aw_invS (pc := 77) X (kX12_power (rl_lit rfl) r_a2 g23) mw_yX12_power kw_2222 kw_2223 rfl ⟨Nat.le_of_ble_eq_true rfl, Nat.le_of_ble_eq_true rfl⟩ rfl (Nat.le_of_ble_eq_true rfl) ⟨Nat.le_of_ble_eq_true rfl, Nat.le_of_ble_eq_true rfl⟩ dX12_safe_77 ?_
        refine aw_ret1 (k' := 0) (n' := 0) rfl rfl ?_
        have r_r22 := gX12_power (rl_lit rfl) r_a2 g23
        refine aw_lstore (pc := 80) (lv' := [(6, vJ r22), (4, vJ r20), (0, .ref t0), (1, vI a1), (2, vI a2), (3, vI a3)]) X dX12_safe_80 (by decide) rfl ?_
        refine aw_iload_n (pc := 82) X dX12_safe_82 5 rfl ?_
        refine aw_if_ne (pc := 83) (tgt := 97) X r_a3 dX12_safe_83 (by decide) (fun z24 => ?_) (fun z24 => ?_)
        · have hf := it_f z24 hf
          refine aw_aload_n (pc := 97) X dX12_safe_97 2 rfl ?_
          refine aw_lload (pc := 98) X dX12_safe_98 0 rfl ?_
          refine aw_lload (pc := 100) X dX12_safe_100 0 rfl ?_
          refine aw_lmul (pc := 102) X dX12_safe_102 ?_
          refine aw_lload (pc := 103) X dX12_safe_103 0 rfl ?_
          refine aw_lload (pc := 105) X dX12_safe_105 1 rfl ?_
          refine aw_lsub (pc := 107) X dX12_safe_107 ?_
          refine aw_lload (pc := 108) X dX12_safe_108 0 rfl ?_
          refine aw_lload (pc := 110) X dX12_safe_110 1 rfl ?_
          refine aw_lsub (pc := 112) X dX12_safe_112 ?_
          refine aw_lmul (pc := 113) X dX12_safe_113 ?_
          refine aw_lsub (pc := 114) X dX12_safe_114 ?_
          refine aw_lload (pc := 115) X dX12_safe_115 0 rfl ?_
          refine aw_lload (pc := 117) X dX12_safe_117 0 rfl ?_
          refine aw_lmul (pc := 119) X dX12_safe_119 ?_
          obtain ⟨r25, h27, g26, hf⟩ := bd2_some hf
          refine aw_invV (pc := 120) X (kX12_fraction (w64_rl _) (w64_rl _) g26) mw_yX12_fraction kw_2209 kw_2211 kw_135 (kc kkh3 g1) rfl (by decide) rfl ⟨Nat.le_of_ble_eq_true rfl, Nat.le_of_ble_eq_true rfl⟩ rfl (Nat.le_of_ble_eq_true rfl) ⟨Nat.le_of_ble_eq_true rfl, Nat.le_of_ble_eq_true rfl⟩ dX12_safe_120 ?_
          refine aw_ret1 (k' := 0) (n' := 0) rfl rfl ?_
          have z_r25 := gX12_fraction (w64_rl _) (w64_rl _) g26
          have r_r25 := rg_01 z_r25
          cases hf
          exact aw_zret (pc := 123) X (nar_z z_r25) hr hlk rfl rfl dX12_safe_123
        · have hf := it_t z24 hf
          refine aw_aload_n (pc := 86) X dX12_safe_86 2 rfl ?_
          refine aw_lload (pc := 87) X dX12_safe_87 1 rfl ?_
          refine aw_lload (pc := 89) X dX12_safe_89 0 rfl ?_
          obtain ⟨r28, h30, g29, hf⟩ := bd2_some hf
          refine aw_invV (pc := 91) X (kX12_fraction r_r20 r_r22 g29) mw_yX12_fraction kw_2209 kw_2211 kw_135 (kc kkh3 g1) rfl (by decide) rfl ⟨Nat.le_of_ble_eq_true rfl, Nat.le_of_ble_eq_true rfl⟩ rfl (Nat.le_of_ble_eq_true rfl) ⟨Nat.le_of_ble_eq_true rfl, Nat.le_of_ble_eq_true rfl⟩ dX12_safe_91 ?_
          refine aw_ret1 (k' := 0) (n' := 0) rfl rfl ?_
          have z_r28 := gX12_fraction r_r20 r_r22 g29
          have r_r28 := rg_01 z_r28
          refine aw_goto (pc := 94) (tgt := 123) X dX12_safe_94 (by decide) ?_
          cases hf
          exact aw_zret (pc := 123) X (nar_z z_r28) hr hlk rfl rfl dX12_safe_123
      · have hf := it_t z17 hf
        refine aw_aload_n (pc := 46) X dX12_safe_46 0 rfl ?_
        refine aw_iconst (pc := 47) X dX12_safe_47 ?_
        obtain ⟨r31, h33, g32, hf⟩ := bd2_some hf
        refine aw_invV (pc := 48) X (kX12_no (rg_lit rfl) g32) mw_yX12_no kw_1648 kw_1650 kw_53 (kc kkh3 g1) rfl (by decide) rfl ⟨Nat.le_of_ble_eq_true rfl, Nat.le_of_ble_eq_true rfl⟩ rfl (Nat.le_of_ble_eq_true rfl) ⟨Nat.le_of_ble_eq_true rfl, Nat.le_of_ble_eq_true rfl⟩ dX12_safe_48 ?_
        refine aw_ret1 (k' := 0) (n' := 0) rfl rfl ?_
        have z_r31 := gX12_no (rg_lit rfl) g32
        have r_r31 := rg_01 z_r31
        cases hf
        exact aw_zret (pc := 51) X (nar_z z_r31) hr hlk rfl rfl dX12_safe_51
  · have hf := it_t z8 hf
    refine aw_aload_n (pc := 18) X dX12_safe_18 0 rfl ?_
    refine aw_iconst (pc := 19) X dX12_safe_19 ?_
    obtain ⟨r34, h36, g35, hf⟩ := bd2_some hf
    refine aw_invV (pc := 20) X (kX12_no (rg_lit rfl) g35) mw_yX12_no kw_1648 kw_1650 kw_53 (kc kkh3 g1) rfl (by decide) rfl ⟨Nat.le_of_ble_eq_true rfl, Nat.le_of_ble_eq_true rfl⟩ rfl (Nat.le_of_ble_eq_true rfl) ⟨Nat.le_of_ble_eq_true rfl, Nat.le_of_ble_eq_true rfl⟩ dX12_safe_20 ?_
    refine aw_ret1 (k' := 0) (n' := 0) rfl rfl ?_
    have z_r34 := gX12_no (rg_lit rfl) g35
    have r_r34 := rg_01 z_r34
    cases hf
    exact aw_zret (pc := 23) X (nar_z z_r34) hr hlk rfl rfl dX12_safe_23

