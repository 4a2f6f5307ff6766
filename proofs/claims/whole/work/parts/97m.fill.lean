/-! A FILL -/
set_option maxHeartbeats 200000 in
theorem tzm_fill_l {M L : Nat} {T : Nat → Int} {t : TkS} {j s fr mn : Nat} (j8 : j < 8) (s8 : s < 8) (fm : fr + mn ≤ 16) (m12 : mn ≤ 12) : ∀ n i fu (m : Hp), mn - i ≤ n → n < fu → i ≤ mn → tzMt M L T t m →
    ∃ m', GA M m m' ∧ tzMt M L T t m' ∧ (∀ k, gA m' (M + 5) k = if 1692 + 12 * j + i ≤ k ∧ k < 1692 + 12 * j + mn then gA m (M + 5) (1492 + 16 * s + fr + (k - (1692 + 12 * j))) else gA m (M + 5) k) ∧ fX12_readFill_b208 M fu m (j : Int) (s : Int) (fr : Int) (mn : Int) (i : Int) = some m' := by
  intro n
  induction n with
  | zero =>
    intro i fu m h1 h2 h3 H
    obtain ⟨fu, rfl⟩ : ∃ k, fu = k + 1 := ⟨fu - 1, by omega⟩
    refine ⟨m, GA.rf m, H, fun k => by rw [if_neg (by omega)], ?_⟩
    rw [fX12_readFill_b208.eq_2]
    exact iteF (by omega) rfl
  | succ n ih =>
    intro i fu m h1 h2 h3 H
    obtain ⟨fu, rfl⟩ : ∃ k, fu = k + 1 := ⟨fu - 1, by omega⟩
    by_cases z : i < mn
    · have k5 : hK m (M + 5) = (21, 1850) := H.1.1.k5
      have e1 : WE (16 * (s : Int)) := we (by omega) (by omega)
      have e2 : WE (1492 + 16 * (s : Int)) := we (by omega) (by omega)
      have e3 : WE (1492 + 16 * (s : Int) + (fr : Int)) := we (by omega) (by omega)
      have e4 : WE (1492 + 16 * (s : Int) + (fr : Int) + (i : Int)) := we (by omega) (by omega)
      have e5 : WE (12 * (j : Int)) := we (by omega) (by omega)
      have e6 : WE (1692 + 12 * (j : Int)) := we (by omega) (by omega)
      have e7 : WE (1692 + 12 * (j : Int) + (i : Int)) := we (by omega) (by omega)
      have e8 : WE ((i : Int) + 1) := we (by omega) (by omega)
      obtain ⟨v, hv⟩ : ∃ v, v = gA m (M + 5) (1492 + 16 * s + fr + i) := ⟨_, rfl⟩
      have rv : rg v := by rw [hv]; exact ti_rg _
      have g0 : GA M m (sA m (M + 5) ((1692 + 12 * j + i : Nat) : Int) v) := ga_sA m (by omega)
      have s2 : ∀ k, gA (sA m (M + 5) ((1692 + 12 * j + i : Nat) : Int) v) (M + 5) k = if k = 1692 + 12 * j + i then v else gA m (M + 5) k := fun k => gA_sAi rv
      obtain ⟨m', p1, p2, p3, p4⟩ := ih (i + 1) fu _ (by omega) (by omega) (by omega) (H.sA (i := ((1692 + 12 * j + i : Nat) : Int)) (v := v))
      refine ⟨m', g0.tr p1, p2, fun k => ?_, ?_⟩
      · rw [p3]
        by_cases y1 : k = 1692 + 12 * j + i
        · rw [if_neg (by omega), s2, if_pos y1, if_pos (by omega), hv, y1, show 1692 + 12 * j + i - (1692 + 12 * j) = i by omega]
        · by_cases y2 : 1692 + 12 * j + i ≤ k ∧ k < 1692 + 12 * j + mn
          · rw [if_pos (by omega), if_pos y2, s2, if_neg (by omega)]
          · rw [if_neg (by omega), if_neg y2, s2, if_neg y1]
      · rw [fX12_readFill_b208.eq_2, e1.e, e2.e, e3.e, e4.e, e5.e, e6.e, e7.e, e8.e, show (1692 + 12 * (j : Int) + (i : Int)) = ((1692 + 12 * j + i : Nat) : Int) by omega, show (1492 + 16 * (s : Int) + (fr : Int) + (i : Int)) = ((1492 + 16 * s + fr + i : Nat) : Int) by omega, Int.toNat_natCast]
        refine iteT (by omega) (gdg H.k (nng H.1.1.r788 (gdg (by rw [k5]) (gdg (by rw [k5]; show 0 ≤ _ ∧ _ < (1850 : Int); omega) (gdg (by rw [k5]; show 0 ≤ _ ∧ _ < (1850 : Int); omega) (?_))))))
        rw [← hv]
        exact ltg (ltg p4)
    · refine ⟨m, GA.rf m, H, fun k => by rw [if_neg (by omega)], ?_⟩
      rw [fX12_readFill_b208.eq_2]
      exact iteF (by omega) rfl
set_option maxHeartbeats 200000 in
/-- the rest behind a fault -/
theorem tzx_f88n {X S L : Nat} {T : Nat → Int} {t : TkS} {h : Hp} {v1 v2 s0 : Int} (H : tzXt X L T t h) (R : XRd X S h) (q : ¬ tkF t = 0) : ∃ h', FT X h h' ∧ tzXt X L T t h' ∧ fX8_readFill_b88 (X + 12) h v1 v2 s0 = some h' := by
  obtain ⟨h1, p1, H1, e1⟩ := tzx_num (a := 0) (b := w32 (s0 - 1)) H
  rw [tzNm_n q] at H1 e1
  have R1 := R.ft p1
  obtain ⟨h2, p2, H2, e2⟩ := tzx_take (w := [111, 110]) H1 rfl
  rw [tzMu_n q] at H2
  have R2 := R1.ft p2
  obtain ⟨h3, p3, H3, e3⟩ := tzx_num (a := 0) (b := 999) H2
  rw [tzNm_n q] at H3 e3
  have R3 := R2.ft p3
  obtain ⟨h4, p4, H4, e4⟩ := tzx_sign H3
  rw [tzMu_n q] at H4
  have R4 := R3.ft p4
  have e5 := tzx_hasF H4
  rw [if_neg q] at e5
  refine ⟨h4, ((p1.tr p2).tr p3).tr p4, H4, ?_⟩
  unfold fX8_readFill_b88
  exact gdg (by rw [R.1.k12]) (nng R.1.r512 (gdg H.k (bd2g e1 (gdg (by rw [R1.1.k12]) (nng R1.1.r512 (gdg H1.k (bdg e2 (gdg (by rw [R2.1.k12]) (nng R2.1.r512 (gdg H2.k (bd2g e3 (gdg (by rw [R3.1.k12]) (nng R3.1.r512 (gdg H3.k (bdg e4 (gdg (by rw [R4.1.k12]) (nng R4.1.r512 (gdg H4.k (bdg e5 (iteF (by omega) (rfl)))))))))))))))))))))
set_option maxHeartbeats 200000 in
theorem tzm_f113n {M L : Nat} {T : Nat → Int} {t : TkS} {m : Hp} {v1 v2 s0 : Int} (H : tzMt M L T t m) (q : ¬ tkF t = 0) : ∃ m', GT M m m' ∧ tzMt M L T t m' ∧ fX12_readFill_b113 M m v1 v2 s0 0 M = some m' := by
  obtain ⟨m1, p1, H1, e1⟩ := tzm_count (a := 0) (b := s0) H
  rw [tzNm_n q] at H1 e1
  obtain ⟨m2, p2, H2, e2⟩ := tzm_must (b := tzI T t [111, 110]) H1
  rw [tzMu_n q] at H2
  obtain ⟨m3, p3, H3, e3⟩ := tzm_count (a := 0) (b := 999) H2
  rw [tzNm_n q] at H3 e3
  have hf : 0 ≤ tkF t := H3.f0
  refine ⟨m3, (p1.tr p2).tr p3, H3, ?_⟩
  unfold fX12_readFill_b113
  refine gdg H.k (bd2g e1 (gdg H1.k (bdg (tzm_isOn H1) (bdg e2 (gdg H2.k (bd2g e3 (gdg H3.k (?_))))))))
  rw [H3.2.2.2.2.1]
  exact iteT (show 0 < tkF t by omega) rfl
set_option maxHeartbeats 200000 in
/-- what stands behind the numbers: the class's writing -/
theorem tzx_f88 {X S L ja sa ln : Nat} {T : Nat → Int} {t : TkS} {h : Hp} (H : tzXt X L T t h) (R : XRd X S h) (f0 : tkF t = 0) (j8 : ja < 8) (l16 : ln ≤ 16) (sz : 0 ≤ gI h 0 (S + 5 + 3 * ja) ∧ gI h 0 (S + 5 + 3 * ja) ≤ 12) (s8 : sa < 8) :
    ∃ h' t6 t7 t8 t9 : _, ∃ fr dy : Int, (fr, t6) = tzNm L T t 0 ((ln : Int) - 1) ∧ t7 = tzMu L T t6 (tzI T t6 [111, 110]) ∧ (dy, t8) = tzNm L T t7 0 999 ∧ t9 = tzMu L T t8 (decide (tkK t8 = 3)) ∧
      Fr (fun f x => (x = X + 10 ∧ 578 ≤ f ∧ f ≤ 583) ∨ (x = S + 5 + 3 * ja ∧ 6 ≤ f ∧ f ≤ 9)) (fun _ => False) h h' ∧ tzXt X L T t9 h' ∧ fX8_readFill_b88 (X + 12) h (ja : Int) (sa : Int) (ln : Int) = some h' ∧
      (tkF t9 = 0 → gI h' 8 (S + 5 + 3 * ja) = (sa : Int) ∧ gI h' 9 (S + 5 + 3 * ja) = fr ∧ gI h' 6 (S + 5 + 3 * ja) = min (gI h 0 (S + 5 + 3 * ja)) ((ln : Int) - fr) ∧ gI h' 7 (S + 5 + 3 * ja) = dy) := by
  have XS1 := R.2.2.1
  obtain ⟨h1, p1, H1, e1⟩ := tzx_num (a := 0) (b := (ln : Int) - 1) H
  have d1 := tzNm_bd (L := L) (T := T) (t := t) (a := 0) (b := (ln : Int) - 1) (by omega)
  obtain ⟨⟨fr, t6⟩, hp⟩ : ∃ p, p = tzNm L T t 0 ((ln : Int) - 1) := ⟨_, rfl⟩
  rw [← hp] at H1 e1 d1
  have R1 := R.ft p1
  obtain ⟨h2, p2, H2, e2⟩ := tzx_take (w := [111, 110]) H1 rfl
  have R2 := R1.ft p2
  obtain ⟨t7, ht7⟩ : ∃ x, x = tzMu L T t6 (tzI T t6 [111, 110]) := ⟨_, rfl⟩
  rw [← ht7] at H2
  obtain ⟨h3, p3, H3, e3⟩ := tzx_num (a := 0) (b := 999) H2
  have d2 := tzNm_bd (L := L) (T := T) (t := t7) (a := 0) (b := 999) (by omega)
  obtain ⟨⟨dy, t8⟩, hp8⟩ : ∃ p, p = tzNm L T t7 0 999 := ⟨_, rfl⟩
  rw [← hp8] at H3 e3 d2
  have R3 := R2.ft p3
  obtain ⟨h4, p4, H4, e4⟩ := tzx_sign H3
  obtain ⟨t9, ht9⟩ : ∃ x, x = tzMu L T t8 (decide (tkK t8 = 3)) := ⟨_, rfl⟩
  rw [← ht9] at H4
  have R4 := R3.ft p4
  have e5 := tzx_hasF H4
  have ew : WE ((ln : Int) - 1) := we (by omega) (by omega)
  have p14 := ((p1.tr p2).tr p3).tr p4
  replace d1 : fr = 0 ∨ (0 ≤ fr ∧ fr ≤ (ln : Int) - 1) := d1
  replace d2 : dy = 0 ∨ (0 ≤ dy ∧ dy ≤ 999) := d2
  have pre : ∀ x, (gd ((hK h4 (X + 12)).1 = 8) <| nn (gR h4 512 (X + 12)) fun q26 => gd ((hK h4 q26).1 = 9) <| bd (fX9_hasFault h4 q26) fun r28 => if r28 = 0 then (if (ja : Int) = (-1) then some h4 else nn (gR h4 517 (X + 12)) fun q32 => gd ((hK h4 q32).1 = 7) <| nn (gR h4 449 q32) fun q34 => gd ((hK h4 q34).1 = 24) <| gd (inA (ja : Int) (hK h4 q34).2) <| nn (gC h4 q34 ((ja : Int)).toNat) fun q37 => gd ((hK h4 q37).1 = 0) <| lt (α := Hp) (pI h4 8 q37 (sa : Int)) fun h39 => lt (α := Hp) (pI h39 9 q37 fr) fun h40 => lt (α := Hp) (pI h40 6 q37 (min (gI h40 0 q37) (w32 ((ln : Int) - fr)))) fun h41 => lt (α := Hp) (pI h41 7 q37 dy) fun h42 => some h42) else some h4) = x → fX8_readFill_b88 (X + 12) h (ja : Int) (sa : Int) (ln : Int) = x := fun x hx => by
    unfold fX8_readFill_b88
    rw [ew.e]
    exact gdg (by rw [R.1.k12]) (nng R.1.r512 (gdg H.k (bd2g e1 (gdg (by rw [R1.1.k12]) (nng R1.1.r512 (gdg H1.k (bdg e2 (gdg (by rw [R2.1.k12]) (nng R2.1.r512 (gdg H2.k (bd2g e3 (gdg (by rw [R3.1.k12]) (nng R3.1.r512 (gdg H3.k (bdg e4 (hx))))))))))))))))
  by_cases z : tkF t9 = 0
  · rw [if_pos z] at e5
    obtain ⟨jc, jk⟩ := R4.2.2.2.2.2.2.2.2.2 ja j8
    have k24 := R4.2.2.2.2.2.2.2.1
    have w1 : WE ((ln : Int) - fr) := we (by omega) (by omega)
    have i0 : gI h4 0 (S + 5 + 3 * ja) = gI h 0 (S + 5 + 3 * ja) := p14.i (by omega)
    have i0' : gI (pI (pI h4 8 (S + 5 + 3 * ja) (sa : Int)) 9 (S + 5 + 3 * ja) fr) 0 (S + 5 + 3 * ja) = gI h 0 (S + 5 + 3 * ja) := by rw [gI_n (by omega), gI_n (by omega)]; exact i0
    have ff : Fr (fun f x => (x = X + 10 ∧ 578 ≤ f ∧ f ≤ 583) ∨ (x = S + 5 + 3 * ja ∧ 6 ≤ f ∧ f ≤ 9)) (fun _ => False) h4 (pI (pI (pI (pI h4 8 (S + 5 + 3 * ja) (sa : Int)) 9 (S + 5 + 3 * ja) fr) 6 (S + 5 + 3 * ja) (min (gI h 0 (S + 5 + 3 * ja)) ((ln : Int) - fr))) 7 (S + 5 + 3 * ja) dy) :=
      (((fr_pI h4 (Or.inr ⟨rfl, by omega⟩)).tr (fr_pI _ (Or.inr ⟨rfl, by omega⟩))).tr (fr_pI _ (Or.inr ⟨rfl, by omega⟩))).tr (fr_pI _ (Or.inr ⟨rfl, by omega⟩))
    refine ⟨_, t6, t7, t8, t9, fr, dy, hp, ht7, hp8, ht9, (p14.mono (fun _ _ w => Or.inl w) (fun _ v => v)).tr ff, ((((H4.fj (by omega)).fj (by omega)).fj (by omega)).fj (by omega)), pre _ ?_, fun _ => ⟨?_, ?_, ?_, ?_⟩⟩
    · refine gdg (by rw [R4.1.k12]) (nng R4.1.r512 (gdg H4.k (bdg e5 (iteT rfl (iteF (by omega) (nng R4.2.1 (gdg (by rw [R4.2.2.2.1]) (nng R4.2.2.2.2.2.1 (gdg (by rw [k24]) (gdg (by rw [k24]; show 0 ≤ _ ∧ _ < ((8 : Nat) : Int); omega) (nng (by rw [Int.toNat_natCast]; exact jc) (gdg (by rw [jk]) (ltg (ltg (?_)))))))))))))))
      rw [i0', w1.e]
      rfl
    · rw [gI_n (by omega), gI_n (by omega), gI_n (by omega)]; exact gI_pIs (by unfold rg; omega)
    · rw [gI_n (by omega), gI_n (by omega)]; exact gI_pIs (by unfold rg; omega)
    · rw [gI_n (by omega)]; exact gI_pIs (by unfold rg; omega)
    · exact gI_pIs (by unfold rg; omega)
  · rw [if_neg z] at e5
    exact ⟨h4, t6, t7, t8, t9, fr, dy, hp, ht7, hp8, ht9, p14.mono (fun _ _ w => Or.inl w) (fun _ v => v), H4, pre _ (gdg (by rw [R4.1.k12]) (nng R4.1.r512 (gdg H4.k (bdg e5 (iteF (by omega) (rfl)))))), fun y => absurd y z⟩
set_option maxHeartbeats 200000 in
/-- .. and the reference's -/
theorem tzm_f113 {M L ja sa ln : Nat} {T : Nat → Int} {t : TkS} {m : Hp} (H : tzMt M L T t m) (j8 : ja < 8) (s8 : sa < 8) (l16 : ln ≤ 16) (c1 : gA m (M + 5) (1484 + sa) = (ln : Int)) (c2 : 0 ≤ gA m (M + 5) (1620 + ja) ∧ gA m (M + 5) (1620 + ja) ≤ 12)
    {t6 t7 t8 : TkS} {fr dy : Int} (hp : (fr, t6) = tzNm L T t 0 ((ln : Int) - 1)) (ht7 : t7 = tzMu L T t6 (tzI T t6 [111, 110])) (hp8 : (dy, t8) = tzNm L T t7 0 999) :
    ∃ m', GA M m m' ∧ tzMt M L T t8 m' ∧ fX12_readFill_b113 M m (ja : Int) (sa : Int) ((ln : Int) - 1) 0 M = some m' ∧ (tkF t8 = 0 → ∃ mn fn : Nat, fr = (fn : Int) ∧ (mn : Int) = min (gA m (M + 5) (1620 + ja)) ((ln : Int) - fr) ∧ fn + mn ≤ ln ∧ ∀ k, gA m' (M + 5) k = if 1692 + 12 * ja ≤ k ∧ k < 1692 + 12 * ja + mn then gA m (M + 5) (1492 + 16 * sa + fn + (k - (1692 + 12 * ja))) else if k = 1684 + ja then (sa : Int) else if k = 1676 + ja then dy else if k = 1668 + ja then (mn : Int) else gA m (M + 5) k) := by
  obtain ⟨m1, q1, K1, g1⟩ := tzm_count (a := 0) (b := (ln : Int) - 1) H
  have d1 := tzNm_bd (L := L) (T := T) (t := t) (a := 0) (b := (ln : Int) - 1) (by omega)
  have x1 := @tzNm_0 L T t 0 ((ln : Int) - 1)
  rw [← hp] at K1 g1 d1 x1
  replace K1 : tzMt M L T t6 m1 := K1
  obtain ⟨m2, q2, K2, g2⟩ := tzm_must (b := tzI T t6 [111, 110]) K1
  have x2 := @tzMu_0 L T t6 (tzI T t6 [111, 110])
  rw [← ht7] at K2 x2
  obtain ⟨m3, q3, K3, g3⟩ := tzm_count (a := 0) (b := 999) K2
  have d2 := tzNm_bd (L := L) (T := T) (t := t7) (a := 0) (b := 999) (by omega)
  have x3 := @tzNm_0 L T t7 0 999
  rw [← hp8] at K3 g3 d2 x3
  replace K3 : tzMt M L T t8 m3 := K3
  have q13 := (q1.tr q2).tr q3
  have hf := K3.f0
  have e : ∀ k, gA m3 (M + 5) k = gA m (M + 5) k := fun k => q13.a (fun z => z)
  have k5 : hK m3 (M + 5) = (21, 1850) := K3.1.1.k5
  replace d1 : fr = 0 ∨ (0 ≤ fr ∧ fr ≤ (ln : Int) - 1) := d1
  replace d2 : dy = 0 ∨ (0 ≤ dy ∧ dy ≤ 999) := d2
  by_cases z : tkF t8 = 0
  · obtain ⟨y1, -, y3, -⟩ := x1 (x2 (x3 z).1).1
    clear x1 x2 x3 hp ht7 hp8
    have y3' : 0 ≤ fr ∧ fr ≤ (ln : Int) - 1 := by omega
    obtain ⟨fn, rfl⟩ := i2n y3'.1
    obtain ⟨mn, hm⟩ := i2n (show 0 ≤ min (gA m (M + 5) (1620 + ja)) ((ln : Int) - (fn : Int)) by omega)
    have sum1 : fn + mn ≤ ln := by omega
    have mn12 : mn ≤ 12 := by omega
    have w0 : WE ((ln : Int) - (fn : Int)) := we (by omega) (by omega)
    have w1 : WE (1620 + (ja : Int)) := we (by omega) (by omega)
    have w2 : WE (1484 + (sa : Int)) := we (by omega) (by omega)
    have w3 : WE (1668 + (ja : Int)) := we (by omega) (by omega)
    have w4 : WE (1676 + (ja : Int)) := we (by omega) (by omega)
    have w5 : WE (1684 + (ja : Int)) := we (by omega) (by omega)
    have a1 : GA M m3 (sA m3 (M + 5) ((1668 + ja : Nat) : Int) (mn : Int)) := ga_sA m3 (by omega)
    have b1 : ∀ k, gA (sA m3 (M + 5) ((1668 + ja : Nat) : Int) (mn : Int)) (M + 5) k = if k = 1668 + ja then (mn : Int) else gA m3 (M + 5) k := fun k => gA_sAi (by unfold rg; omega)
    have K4 : tzMt M L T t8 (sA m3 (M + 5) ((1668 + ja : Nat) : Int) (mn : Int)) := K3.sA
    generalize h4 : sA m3 (M + 5) ((1668 + ja : Nat) : Int) (mn : Int) = m4 at *
    have a2 : GA M m4 (sA m4 (M + 5) ((1676 + ja : Nat) : Int) dy) := ga_sA m4 (by omega)
    have b2 : ∀ k, gA (sA m4 (M + 5) ((1676 + ja : Nat) : Int) dy) (M + 5) k = if k = 1676 + ja then dy else gA m4 (M + 5) k := fun k => gA_sAi (by unfold rg; omega)
    have K5 : tzMt M L T t8 (sA m4 (M + 5) ((1676 + ja : Nat) : Int) dy) := K4.sA
    generalize h5 : sA m4 (M + 5) ((1676 + ja : Nat) : Int) dy = m5 at *
    have a3 : GA M m5 (sA m5 (M + 5) ((1684 + ja : Nat) : Int) (sa : Int)) := ga_sA m5 (by omega)
    have b3 : ∀ k, gA (sA m5 (M + 5) ((1684 + ja : Nat) : Int) (sa : Int)) (M + 5) k = if k = 1684 + ja then (sa : Int) else gA m5 (M + 5) k := fun k => gA_sAi (by unfold rg; omega)
    have K6 : tzMt M L T t8 (sA m5 (M + 5) ((1684 + ja : Nat) : Int) (sa : Int)) := K5.sA
    generalize h6 : sA m5 (M + 5) ((1684 + ja : Nat) : Int) (sa : Int) = m6 at *
    obtain ⟨m', a4, K7, b4, g4⟩ := tzm_fill_l (j := ja) (s := sa) (fr := fn) (mn := mn) j8 s8 (by omega) mn12 mn 0 FU m6 (by omega) (show mn < 1000000 by omega) (by omega) K6
    refine ⟨m', (((gt_ga q13).tr a1).tr (a2.tr a3)).tr a4, K7, ?_, fun _ => ⟨mn, fn, rfl, hm.symm, sum1, fun k => ?_⟩⟩
    · unfold fX12_readFill_b113
      refine gdg H.k (bd2g g1 (gdg K1.k (bdg (tzm_isOn K1) (bdg g2 (gdg K2.k (bd2g g3 (gdg K3.k (?_))))))))
      rw [K3.2.2.2.2.1, w1.e, w2.e, w3.e, w4.e, w5.e]
      refine iteF (by omega) (nng K3.1.1.r788 (gdg (by rw [k5]) (gdg (by rw [k5]; show 0 ≤ _ ∧ _ < (1850 : Int); omega) (gdg (by rw [k5]; show 0 ≤ _ ∧ _ < (1850 : Int); omega) (?_)))))
      rw [show (1620 + (ja : Int)).toNat = 1620 + ja by omega, show (1484 + (sa : Int)).toNat = 1484 + sa by omega, e, e, c1, w0.e, hm]
      refine ltg (gdg (by rw [k5]; show 0 ≤ _ ∧ _ < (1850 : Int); omega) (ltg (?_)))
      rw [show (1668 + (ja : Int)) = ((1668 + ja : Nat) : Int) by omega, h4]
      refine nng K4.1.1.r788 (gdg (by rw [K4.1.1.k5]) (gdg (by rw [K4.1.1.k5]; show 0 ≤ _ ∧ _ < (1850 : Int); omega) (ltg (?_))))
      rw [show (1676 + (ja : Int)) = ((1676 + ja : Nat) : Int) by omega, h5]
      refine nng K5.1.1.r788 (gdg (by rw [K5.1.1.k5]) (gdg (by rw [K5.1.1.k5]; show 0 ≤ _ ∧ _ < (1850 : Int); omega) (ltg (?_))))
      rw [show (1684 + (ja : Int)) = ((1684 + ja : Nat) : Int) by omega, h6]
      exact g4
    · have b : ∀ k, gA m6 (M + 5) k = if k = 1684 + ja then (sa : Int) else if k = 1676 + ja then dy else if k = 1668 + ja then (mn : Int) else gA m (M + 5) k := fun k => by rw [b3, b2, b1, e]
      rw [b4, Nat.add_zero]
      by_cases y : 1692 + 12 * ja ≤ k ∧ k < 1692 + 12 * ja + mn
      · rw [if_pos y, if_pos y, b, if_neg (by omega), if_neg (by omega), if_neg (by omega)]
      · rw [if_neg y, if_neg y, b]
  · refine ⟨m3, gt_ga q13, K3, ?_, fun y => absurd y z⟩
    unfold fX12_readFill_b113
    refine gdg H.k (bd2g g1 (gdg K1.k (bdg (tzm_isOn K1) (bdg g2 (gdg K2.k (bd2g g3 (gdg K3.k (?_))))))))
    rw [K3.2.2.2.2.1]
    exact iteT (by omega) rfl
