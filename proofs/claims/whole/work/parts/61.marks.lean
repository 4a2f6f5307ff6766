/-! STATE: mark, back (written by wip/whole/g61.py) -/
set_option maxHeartbeats 200000 in
theorem rCopy {h : Hp} {M a b : Nat} (ms : MS h M) (a3 : a ≤ 3) (b3 : b ≤ 3) (ne : a ≠ b) : ∃ t : Hp, (On (fun x => x = M + 5) h t ∧ ∀ k, gA t (M + 5) k = if 370 * b ≤ k ∧ k < 370 * b + 370 then gA h (M + 5) (k - 370 * b + 370 * a) else gA h (M + 5) k) ∧ fX12_copy h M (a : Int) (b : Int) = some t := by
  unfold fX12_copy
  have ea : WE (370 * (a : Int)) := we (by omega) (by omega)
  have eb : WE (370 * (b : Int)) := we (by omega) (by omega)
  exact fk (S := Hp) (T := Hp) (fun fu x t => fX12_copy_b2 M (a : Int) (b : Int) fu t x) some 370 (fun i t => On (fun x => x = M + 5) h t ∧ ∀ k, gA t (M + 5) k = if 370 * b ≤ k ∧ k < 370 * b + i then gA h (M + 5) (k - 370 * b + 370 * a) else gA h (M + 5) k) _ 0 h (by omega) ⟨On.rf h, fun k => by rw [if_neg (by omega)]⟩ (by omega)
    (fun fu i t hi hI => by
      obtain ⟨p1, p2⟩ := hI
      have e5 : WE ((i : Int) + 1) := we (by omega) (by omega)
      have e6 : WE (370 * (a : Int) + (i : Int)) := we (by omega) (by omega)
      have e7 : WE (370 * (b : Int) + (i : Int)) := we (by omega) (by omega)
      have kM : (hK t M).1 = 12 := by rw [p1.k]; exact ms.k
      have k5 : hK t (M + 5) = (21, 1850) := p1.ka ms.k5
      have rr : rg (gA h (M + 5) (370 * a + i)) := ti_rg _
      have er : gA t (M + 5) (370 * (a : Int) + (i : Int)).toNat = gA h (M + 5) (370 * a + i) := by
        rw [show (370 * (a : Int) + (i : Int)).toNat = 370 * a + i by omega, p2, if_neg (by omega)]
      left
      refine ⟨sA t (M + 5) (370 * (b : Int) + (i : Int)) (gA h (M + 5) (370 * a + i)), ⟨p1.tr (on_sA t rfl), fun k => ?_⟩, ?_⟩
      · rw [gA_sA]
        by_cases y : k = 370 * b + i
        · rw [if_pos ⟨rfl, by omega⟩, w32_of rr, if_pos (by omega), y, show 370 * b + i - 370 * b + 370 * a = 370 * a + i by omega]
        · rw [if_neg (fun y2 => y (by have := y2.2; omega)), p2]
          by_cases y3 : 370 * b ≤ k ∧ k < 370 * b + i
          · rw [if_pos y3, if_pos (by omega)]
          · rw [if_neg y3, if_neg (by omega)]
      · show fX12_copy_b2 M (a : Int) (b : Int) (fu + 1) t (i : Int) = fX12_copy_b2 M (a : Int) (b : Int) fu (sA t (M + 5) (370 * (b : Int) + (i : Int)) (gA h (M + 5) (370 * a + i))) ((i : Int) + 1)
        rw [fX12_copy_b2.eq_2, ea.e, eb.e, e6.e, e7.e]
        refine iteT (by omega) (gdg kM (nng (by rw [p1.r (by omega)]; exact ms.r788) (gdg (by rw [k5]) (gdg (by rw [k5]; show 0 ≤ _ ∧ _ < (1850 : Int); omega) (gdg (by rw [k5]; show 0 ≤ _ ∧ _ < (1850 : Int); omega) ?_)))))
        rw [lt_d, lt_d, e5.e, er])
    (fun fu t hI => by
      refine ⟨t, hI, ?_⟩
      show fX12_copy_b2 M (a : Int) (b : Int) (fu + 1) t ((370 : Nat) : Int) = _
      rw [fX12_copy_b2.eq_2]
      exact iteF (by omega) rfl)
def FM : List (Nat × Nat) := [(192, 77), (192, 78), (192, 79), (193, 77), (193, 78), (193, 79), (194, 77), (194, 78), (194, 79), (717, 0), (718, 0), (719, 0), (720, 0), (790, 121)]
set_option maxHeartbeats 200000 in
theorem fm_at {m : Nat} (h : m < 3) : (192, 77 + m) ∈ FM ∧ (193, 77 + m) ∈ FM ∧ (194, 77 + m) ∈ FM := by
  have : m = 0 ∨ m = 1 ∨ m = 2 := by omega
  rcases this with rfl | rfl | rfl <;> decide
set_option maxHeartbeats 200000 in
theorem kF_mk {i : Nat} (h : i < 3) : kF [126] [(790, 121)] 192 (77 + i) = true ∧ kF [126] [(790, 121)] 193 (77 + i) = true ∧ kF [126] [(790, 121)] 194 (77 + i) = true := by
  have : i = 0 ∨ i = 1 ∨ i = 2 := by omega
  rcases this with rfl | rfl | rfl <;> decide +kernel
set_option maxHeartbeats 200000 in
theorem ok_mark {h : Hp} {X : Nat} (I : Inv h X) : OK3 (fun h => fX11_mark h X) (fun h => fX12_mark h (X + 121)) h X := by
  obtain ⟨c, J, i1, i2, i3⟩ := id I
  have H := J.x
  have G := J.m
  have w := H.wf
  obtain ⟨m, m1, m2, m3, m4⟩ := J.mk
  by_cases q : m < 3
  · obtain ⟨S, s1, s2, s3⟩ := H.2.2.2.1
    obtain ⟨R, r1, r2, r3⟩ := H.2.2.2.2
    obtain ⟨c1, c2⟩ := H.1.cMark q
    have em : WE ((m : Int) + 1) := we (by omega) (by omega)
    have fm := fm_at q
    have u1 : gI (pI (pI (pR (pR h 192 (X + 77 + m) S) 193 (X + 77 + m) R) 194 (X + 77 + m) (c 0)) 720 X ((m : Int) + 1)) 720 X = (m : Int) + 1 := gI_pIs (by unfold rg; omega)
    have e1 : fX11_mark h X = some ((m : Int) + 1, pI (pI (pI (pR (pR h 192 (X + 77 + m) S) 193 (X + 77 + m) R) 194 (X + 77 + m) (c 0)) 720 X ((m : Int) + 1)) 721 X 0) := by
      unfold fX11_mark
      rw [m3]
      refine gdg H.k (iteT (by omega) (nng H.1.r708 (gdg (by rw [H.1.k76]) (gdg (by rw [H.1.k76]; show 0 ≤ _ ∧ _ < (3 : Int); omega) (nng (by rw [show ((m : Int)).toNat = m from rfl]; exact c1) (nng s1 (gdg (by rw [c2]) ?_)))))))
      rw [lt_d]
      refine nng (by rw [gR_n (by omega)]; exact r1) ?_
      rw [lt_d, lt_d, lt_d, gI_n (f := 194) (by omega)]
      have v1 : gI (pR (pR h 192 (X + 77 + m) S) 193 (X + 77 + m) R) 719 X = c 0 := H.2.2.1
      have v2 : gI (pR (pR h 192 (X + 77 + m) S) 193 (X + 77 + m) R) 720 X = (m : Int) := m3
      rw [v1, v2, em.e, u1]
      unfold fX11_answer
      exact bd2g (gdg H.k rfl) rfl
    have p1 : FL [126] FM X h (pI (pI (pI (pR (pR h 192 (X + 77 + m) S) 193 (X + 77 + m) R) 194 (X + 77 + m) (c 0)) 720 X ((m : Int) + 1)) 721 X 0) :=
      ((((fl_pR h (77 + m) (by omega) fm.1).tr (fl_pR _ (77 + m) (by omega) fm.2.1)).tr (fl_pI _ (77 + m) (by omega) fm.2.2)).tr (fl_pI _ 0 rfl (by decide))).tr (fl_q (q_pI _ (Or.inl ⟨rfl, rfl⟩)))
    have x1 : ∀ i, gR (pI (pI (pI (pR (pR h 192 (X + 77 + m) S) 193 (X + 77 + m) R) 194 (X + 77 + m) (c 0)) 720 X ((m : Int) + 1)) 721 X 0) 192 (X + 77 + i) = if i = m then some S else gR h 192 (X + 77 + i) := by
      intro i
      rw [gR_pI, gR_pI, gR_pI, gR_n (by omega)]
      by_cases y : i = m
      · rw [if_pos y, y, gR_s]
      · rw [if_neg y, gR_n (by omega)]
    have x2 : ∀ i, gR (pI (pI (pI (pR (pR h 192 (X + 77 + m) S) 193 (X + 77 + m) R) 194 (X + 77 + m) (c 0)) 720 X ((m : Int) + 1)) 721 X 0) 193 (X + 77 + i) = if i = m then some R else gR h 193 (X + 77 + i) := by
      intro i
      rw [gR_pI, gR_pI, gR_pI]
      by_cases y : i = m
      · rw [if_pos y, y, gR_s]
      · rw [if_neg y, gR_n (by omega), gR_n (by omega)]
    have x3 : ∀ i, gI (pI (pI (pI (pR (pR h 192 (X + 77 + m) S) 193 (X + 77 + m) R) 194 (X + 77 + m) (c 0)) 720 X ((m : Int) + 1)) 721 X 0) 194 (X + 77 + i) = if i = m then c 0 else gI h 194 (X + 77 + i) := by
      intro i
      rw [gI_n (by omega), gI_n (by omega)]
      by_cases y : i = m
      · have wd := w.day
        rw [if_pos y, y]
        exact gI_pIs (by unfold rg; omega)
      · rw [if_neg y, gI_n (by omega), gI_pR, gI_pR]
    have x4 : gI (pI (pI (pI (pR (pR h 192 (X + 77 + m) S) 193 (X + 77 + m) R) 194 (X + 77 + m) (c 0)) 720 X ((m : Int) + 1)) 721 X 0) 721 X = 0 := gI_pIs (rg_lit rfl)
    have x5 : gI (pI (pI (pI (pR (pR h 192 (X + 77 + m) S) 193 (X + 77 + m) R) 194 (X + 77 + m) (c 0)) 720 X ((m : Int) + 1)) 721 X 0) 720 X = (m : Int) + 1 := by rw [gI_n (by omega)]; exact u1
    have x6 : gI (pI (pI (pI (pR (pR h 192 (X + 77 + m) S) 193 (X + 77 + m) R) 194 (X + 77 + m) (c 0)) 720 X ((m : Int) + 1)) 721 X 0) 719 X = c 0 := by rw [gI_n (by omega), gI_n (by omega), gI_n (by omega)]; exact H.2.2.1
    have x7 : gI (pI (pI (pI (pR (pR h 192 (X + 77 + m) S) 193 (X + 77 + m) R) 194 (X + 77 + m) (c 0)) 720 X ((m : Int) + 1)) 721 X 0) 790 (X + 121) = (m : Int) := by rw [gI_n (by omega), gI_n (by omega), gI_n (by omega)]; exact m2
    have x8 : gR (pI (pI (pI (pR (pR h 192 (X + 77 + m) S) 193 (X + 77 + m) R) 194 (X + 77 + m) (c 0)) 720 X ((m : Int) + 1)) 721 X 0) 717 X = some S := by rw [gR_pI, gR_pI, gR_pI, gR_n (by omega), gR_n (by omega)]; exact s1
    have x9 : gR (pI (pI (pI (pR (pR h 192 (X + 77 + m) S) 193 (X + 77 + m) R) 194 (X + 77 + m) (c 0)) 720 X ((m : Int) + 1)) 721 X 0) 718 X = some R := by rw [gR_pI, gR_pI, gR_pI, gR_n (by omega), gR_n (by omega)]; exact r1
    have p1' : FL [] FM X h (pI (pI (pI (pR (pR h 192 (X + 77 + m) S) 193 (X + 77 + m) R) 194 (X + 77 + m) (c 0)) 720 X ((m : Int) + 1)) 721 X 0) :=
      ((((fl_pR h (77 + m) (by omega) fm.1).tr (fl_pR _ (77 + m) (by omega) fm.2.1)).tr (fl_pI _ (77 + m) (by omega) fm.2.2)).tr (fl_pI _ 0 rfl (by decide))).tr (fl_q (q_pI _ (Or.inl ⟨rfl, rfl⟩)))
    have G1 := G.fl p1' J.z (by decide +kernel)
    clear p1'
    generalize pI (pI (pI (pR (pR h 192 (X + 77 + m) S) 193 (X + 77 + m) R) 194 (X + 77 + m) (c 0)) 720 X ((m : Int) + 1)) 721 X 0 = h1 at e1 p1 x1 x2 x3 x4 x5 x6 x7 x8 x9 G1
    have z1 : X + 144 ≤ hZ h1 := Nat.le_trans J.z p1.1
    have G2 : CM (pI (m0 h1 X) 790 (X + 121) ((m : Int) + 1)) X c := (G1.q (m0_q h1 X)).fl (fl_pI (E := []) (F := [(790, 121)]) _ 121 rfl (by decide)) z1 (by decide +kernel)
    obtain ⟨t, ⟨v1, v2⟩, v3⟩ := rCopy (h := pI (m0 h1 X) 790 (X + 121) ((m : Int) + 1)) (M := X + 121) (a := 0) (b := m + 1) G2.1 (by omega) (by omega) (by omega)
    have s790 : gI (pI (m0 h1 X) 790 (X + 121) ((m : Int) + 1)) 790 (X + 121) = (m : Int) + 1 := gI_pIs (by unfold rg; omega)
    have pp : FL [126] [(790, 121)] X h1 t := ((fl_m (m0_q h1 X)).tr (fl_pI _ 121 rfl (by decide))).tr (fl_on v1 (fun b hb => Or.inr ⟨126, by decide, hb⟩))
    have p2 : FL [126] FM X h1 t := ((fl_m (m0_q h1 X)).tr (fl_pI _ 121 rfl (by decide))).tr (fl_on v1 (fun b hb => Or.inr ⟨126, by decide, hb⟩))
    have p := p1.tr p2
    have e2 : fX12_mark h1 (X + 121) = some ((m : Int) + 1, t) := by
      have y1 : gI (pI (pI h1 769 (X + 121) 0) 768 (X + 121) 0) 790 (X + 121) = (m : Int) := by rw [gI_n (by omega), gI_n (by omega)]; exact x7
      have kt : (hK t (X + 121)).1 = 12 := by rw [v1.k]; exact G2.1.k
      unfold fX12_mark
      refine gdg G1.1.k ?_
      rw [lt_d, lt_d, y1]
      refine iteF (by omega) ?_
      rw [lt_d, em.e]
      show (bd (fX12_copy (pI (m0 h1 X) 790 (X + 121) ((m : Int) + 1)) (X + 121) 0 (gI (pI (m0 h1 X) 790 (X + 121) ((m : Int) + 1)) 790 (X + 121))) fun h8 => gd ((hK h8 (X + 121)).1 = 12) <| some (gI h8 790 (X + 121), h8)) = _
      rw [s790]
      refine bdg v3 (gdg kt ?_)
      rw [v1.i (by omega), s790]
    have ec : ∀ k, gA t (X + 121 + 5) k = if 370 * (m + 1) ≤ k ∧ k < 370 * (m + 1) + 370 then c (k - 370 * (m + 1)) else c k := by
      intro k
      have hc : gA (pI (m0 h1 X) 790 (X + 121) ((m : Int) + 1)) (X + 121 + 5) = c := G2.2.1
      rw [v2, hc]
      by_cases y : 370 * (m + 1) ≤ k ∧ k < 370 * (m + 1) + 370
      · rw [if_pos y, if_pos y]
        exact congrArg c (by omega)
      · rw [if_neg y, if_neg y]
    have j768 : gI t 768 (X + 121) = 0 := by rw [v1.i (by omega), gI_n (by omega)]; exact m0_s h1 X
    have j790 : gI t 790 (X + 121) = (m : Int) + 1 := by rw [v1.i (by omega)]; exact s790
    generalize ec' : gA t (X + 121 + 5) = c' at ec
    have ag : AgS c c' := ⟨by rw [ec, if_neg (by omega)], by rw [ec, if_neg (by omega)], fun k k4 _ => by rw [ec, if_neg (by omega)]⟩
    have al : AgL c c' := ⟨by rw [ec, if_neg (by omega)], fun k k4 _ => by rw [ec, if_neg (by omega)]⟩
    have c0 : c' 0 = c 0 := by rw [ec, if_neg (by omega)]
    have w' : WF c' := w.ag ag al (by rw [c0]; exact w.day)
    have bm : ∀ k, k < 370 → bk c' m k = c k := fun k hk => by
      unfold bk
      rw [if_pos hk, ec, if_pos (by omega), show 370 * (m + 1) + k - 370 * (m + 1) = k by omega]
    have agm : AgS c (bk c' m) := ⟨bm 1 (by omega), bm 2 (by omega), fun k _ k8 => bm k (by omega)⟩
    have alm : AgL c (bk c' m) := ⟨bm 3 (by omega), fun k _ k8 => bm k k8⟩
    have sv : SV t S c := s2.fl p J.z (by decide +kernel) s3 (J.b.2.1 S s1) w
    have lv : LV t R c := r2.fl p J.z (by decide +kernel) r3 (J.b.2.2 R r1)
    have zS : S + 27 ≤ hZ t := Nat.le_trans (J.b.2.1 S s1) p.1
    have zR : R + 4 ≤ hZ t := Nat.le_trans (J.b.2.2 R r1) p.1
    have t717 : gR t 717 X = some S := (pp.f0 z1 (f := 717) (by decide +kernel)).2.2.trans x8
    have t718 : gR t 718 X = some R := (pp.f0 z1 (f := 718) (by decide +kernel)).2.2.trans x9
    have t719 : gI t 719 X = c 0 := (pp.f0 z1 (f := 719) (by decide +kernel)).1.trans x6
    have t720 : gI t 720 X = (m : Int) + 1 := (pp.f0 z1 (f := 720) (by decide +kernel)).1.trans x5
    have t721 : gI t 721 X = 0 := by rw [v1.i (by omega), gI_n (by omega), (m0_q h1 X).i (by unfold sc; omega) (fun z => by unfold pM at z; omega)]; exact x4
    have mk' : MK t X c' := by
      refine ⟨m + 1, by omega, by rw [j790]; omega, by rw [t720]; omega, fun i hi => ?_⟩
      have kk := kF_mk (i := i) (by omega)
      have y1 := (pp.fi z1 kk.1).2.2
      have y2 := (pp.fi z1 kk.2.1).2.2
      have y3 := (pp.fi z1 kk.2.2).1
      rw [show X + (77 + i) = X + 77 + i by omega] at y1 y2 y3
      rw [x1] at y1
      rw [x2] at y2
      rw [x3] at y3
      by_cases y : i = m
      · rw [if_pos y] at y1 y2 y3
        subst y
        exact ⟨S, R, y1, y2, y3.trans (bm 0 (by omega)).symm, sv.ag w agm, s3, zS, lv.ag w alm, r3, zR, w.ag agm alm (by rw [bm 0 (by omega)]; exact w.day)⟩
      · rw [if_neg y] at y1 y2 y3
        refine (m4 i (by omega)).mv p J.z (by decide +kernel) y1 y2 y3 ?_
        funext k
        unfold bk
        by_cases y5 : k < 370
        · rw [if_pos y5, if_pos y5, ec, if_neg (by omega)]
        · rw [if_neg y5, if_neg y5]
    refine ⟨_, h1, t, e1, e2, c', ⟨⟨H.1.fl p J.z (by decide +kernel), w', by rw [t719, c0], ⟨S, t717, sv.ag w ag, s3⟩, R, t718, lv.ag w al, r3⟩, ⟨J.m.1.fl p J.z (by decide +kernel), ec', w'⟩, ⟨Nat.le_trans J.z p.1, fun S' z => by rw [t717] at z; cases z; exact zS, fun R' z => by rw [t718] at z; cases z; exact zR⟩, J.tr.fl p J.z (by decide +kernel), J.tp.fl p J.z (by decide +kernel), mk', J.rd.fl p J.z (by decide +kernel), J.mg.fl p J.z (by decide +kernel), J.cn.fl p J.z (by decide +kernel), J.sf.fl p J.z (by decide +kernel)⟩, t721.trans j768.symm, ?_, ?_⟩
    · rw [(p.f0 J.z (f := 722) (by decide +kernel)).2.1, (p.fi J.z (f := 770) (i := 121) (by decide +kernel)).2.1]; exact i2
    · rw [(p.f0 J.z (f := 723) (by decide +kernel)).2.1, (p.fi J.z (f := 771) (i := 121) (by decide +kernel)).2.1]; exact i3
  · refine ok3 I J ⟨7, -1, ?_, fun h1 p => ?_⟩
    · show XR (fX11_mark h X) h X _ _
      unfold fX11_mark
      rw [m3]
      exact XR.of (gdg H.k (iteF (by omega) (bd2_id _))) (xr_re H.k (QR.rf h) (rg_lit rfl))
    · obtain ⟨ms, hc, -⟩ := G.q p
      have n1 : ¬ sc X (X + 121) := by unfold sc; omega
      have y1 : gI (pI (pI h1 769 (X + 121) 0) 768 (X + 121) 0) 790 (X + 121) = (m : Int) := by rw [gI_n (by omega), gI_n (by omega), p.i n1 (fun y => by unfold pX at y; omega)]; exact m2
      show MR (fX12_mark h1 (X + 121)) h1 X _ _
      unfold fX12_mark
      refine MR.of (gdg ms.k ?_) (mr_m0r ms (rg_lit rfl))
      rw [lt_d, lt_d, y1]
      exact iteT (by omega) (bd2_id _)

set_option maxHeartbeats 200000 in
theorem ok_back {h : Hp} {X : Nat} (I : Inv h X) : OK3 (fun h => fX11_back h X) (fun h => fX12_back h (X + 121)) h X := by
  obtain ⟨c, J, i1, i2, i3⟩ := id I
  have H := J.x
  have G := J.m
  have w := H.wf
  obtain ⟨m', m1, m2, m3, m4⟩ := J.mk
  by_cases q : m' = 0
  · refine ok3 I J ⟨8, -1, ?_, fun h1 p => ?_⟩
    · show XR (fX11_back h X) h X _ _
      unfold fX11_back
      rw [m3]
      exact XR.of (gdg H.k (iteF (by omega) (bd2_id _))) (xr_re H.k (QR.rf h) (rg_lit rfl))
    · obtain ⟨ms, hc, -⟩ := G.q p
      have n1 : ¬ sc X (X + 121) := by unfold sc; omega
      have y1 : gI (pI (pI h1 769 (X + 121) 0) 768 (X + 121) 0) 790 (X + 121) = (m' : Int) := by rw [gI_n (by omega), gI_n (by omega), p.i n1 (fun y => by unfold pX at y; omega)]; exact m2
      show MR (fX12_back h1 (X + 121)) h1 X _ _
      unfold fX12_back
      refine MR.of (gdg ms.k ?_) (mr_m0r ms (rg_lit rfl))
      rw [lt_d, lt_d, y1]
      exact iteT (by omega) (bd2_id _)
  · obtain ⟨m, rfl⟩ : ∃ m, m' = m + 1 := ⟨m' - 1, by omega⟩
    obtain ⟨S, R, a1, a2, a3, a4, a5, a6, a7, a8, a9, a10⟩ := m4 m (by omega)
    obtain ⟨c1, c2⟩ := H.1.cMark (t := m) (by omega)
    have em : WE (((m + 1 : Nat) : Int) - 1) := we (by omega) (by omega)
    have wd := a10.day
    have u1 : gI (pI h 720 X (m : Int)) 720 X = (m : Int) := gI_pIs (by unfold rg; omega)
    have e1 : fX11_back h X = some ((m : Int), pI (pI (pR (pR (pI h 720 X (m : Int)) 717 X S) 718 X R) 719 X (bk c m 0)) 721 X 0) := by
      unfold fX11_back
      rw [m3]
      refine gdg H.k (iteT (by omega) ?_)
      rw [lt_d, em.e, show ((m + 1 : Nat) : Int) - 1 = (m : Int) by omega, u1]
      refine nng H.1.r708 (gdg (by rw [hK_pI, H.1.k76]) (gdg (by rw [hK_pI, H.1.k76]; show 0 ≤ _ ∧ _ < (3 : Int); omega) (nng (by rw [show ((m : Int)).toNat = m from rfl]; exact c1) (gdg (by rw [hK_pI, c2]) (nng a1 ?_)))))
      rw [lt_d]
      refine nng (by rw [gR_n (by omega)]; exact a2) ?_
      rw [lt_d, lt_d]
      have v1 : gI (pR (pR (pI h 720 X (m : Int)) 717 X S) 718 X R) 194 (X + 77 + m) = bk c m 0 := by rw [gI_pR, gI_pR, gI_n (by omega)]; exact a3
      have v2 : gI (pI (pR (pR (pI h 720 X (m : Int)) 717 X S) 718 X R) 719 X (bk c m 0)) 720 X = (m : Int) := by rw [gI_n (by omega), gI_pR, gI_pR]; exact u1
      rw [v1, v2]
      unfold fX11_answer
      exact bd2g (gdg H.k rfl) rfl
    have p1 : FL [126] FM X h (pI (pI (pR (pR (pI h 720 X (m : Int)) 717 X S) 718 X R) 719 X (bk c m 0)) 721 X 0) :=
      ((((fl_pI h 0 rfl (by decide)).tr (fl_pR _ 0 rfl (by decide))).tr (fl_pR _ 0 rfl (by decide))).tr (fl_pI _ 0 rfl (by decide))).tr (fl_q (q_pI _ (Or.inl ⟨rfl, rfl⟩)))
    have p1' : FL [] [(717, 0), (718, 0), (719, 0), (720, 0)] X h (pI (pI (pR (pR (pI h 720 X (m : Int)) 717 X S) 718 X R) 719 X (bk c m 0)) 721 X 0) :=
      ((((fl_pI h 0 rfl (by decide)).tr (fl_pR _ 0 rfl (by decide))).tr (fl_pR _ 0 rfl (by decide))).tr (fl_pI _ 0 rfl (by decide))).tr (fl_q (q_pI _ (Or.inl ⟨rfl, rfl⟩)))
    have x4 : gI (pI (pI (pR (pR (pI h 720 X (m : Int)) 717 X S) 718 X R) 719 X (bk c m 0)) 721 X 0) 721 X = 0 := gI_pIs (rg_lit rfl)
    have x5 : gI (pI (pI (pR (pR (pI h 720 X (m : Int)) 717 X S) 718 X R) 719 X (bk c m 0)) 721 X 0) 720 X = (m : Int) := by rw [gI_n (by omega), gI_n (by omega), gI_pR, gI_pR]; exact u1
    have x6 : gI (pI (pI (pR (pR (pI h 720 X (m : Int)) 717 X S) 718 X R) 719 X (bk c m 0)) 721 X 0) 719 X = bk c m 0 := by rw [gI_n (by omega)]; exact gI_pIs (by unfold rg; omega)
    have x7 : gI (pI (pI (pR (pR (pI h 720 X (m : Int)) 717 X S) 718 X R) 719 X (bk c m 0)) 721 X 0) 790 (X + 121) = ((m + 1 : Nat) : Int) := by rw [gI_n (by omega), gI_n (by omega), gI_pR, gI_pR, gI_n (by omega)]; exact m2
    have x8 : gR (pI (pI (pR (pR (pI h 720 X (m : Int)) 717 X S) 718 X R) 719 X (bk c m 0)) 721 X 0) 717 X = some S := by rw [gR_pI, gR_pI, gR_n (by omega), gR_s]
    have x9 : gR (pI (pI (pR (pR (pI h 720 X (m : Int)) 717 X S) 718 X R) 719 X (bk c m 0)) 721 X 0) 718 X = some R := by rw [gR_pI, gR_pI, gR_s]
    have G1 := G.fl p1' J.z (by decide +kernel)
    generalize pI (pI (pR (pR (pI h 720 X (m : Int)) 717 X S) 718 X R) 719 X (bk c m 0)) 721 X 0 = h1 at e1 p1 p1' x4 x5 x6 x7 x8 x9 G1
    have z1 : X + 144 ≤ hZ h1 := Nat.le_trans J.z p1.1
    obtain ⟨t, ⟨v1, v2⟩, v3⟩ := rCopy (h := m0 h1 X) (M := X + 121) (a := m + 1) (b := 0) (G1.q (m0_q h1 X)).1 (by omega) (by omega) (by omega)
    have s790 : gI (m0 h1 X) 790 (X + 121) = ((m + 1 : Nat) : Int) := by rw [(m0_q h1 X).i (by unfold sc; omega) (fun z => by unfold pM at z; omega)]; exact x7
    have pp : FL [126] [(790, 121)] X h1 (pI t 790 (X + 121) (m : Int)) := ((fl_m (m0_q h1 X)).tr (fl_on v1 (fun b hb => Or.inr ⟨126, by decide, hb⟩))).tr (fl_pI _ 121 rfl (by decide))
    have p2 : FL [126] FM X h1 (pI t 790 (X + 121) (m : Int)) := ((fl_m (m0_q h1 X)).tr (fl_on v1 (fun b hb => Or.inr ⟨126, by decide, hb⟩))).tr (fl_pI _ 121 rfl (by decide))
    have p := p1.tr p2
    have j790 : gI (pI t 790 (X + 121) (m : Int)) 790 (X + 121) = (m : Int) := gI_pIs (by unfold rg; omega)
    have e2 : fX12_back h1 (X + 121) = some ((m : Int), pI t 790 (X + 121) (m : Int)) := by
      have kt : (hK t (X + 121)).1 = 12 := by rw [v1.k]; exact G1.1.k
      have t790 : gI t 790 (X + 121) = ((m + 1 : Nat) : Int) := by rw [v1.i (by omega)]; exact s790
      unfold fX12_back
      refine gdg G1.1.k ?_
      rw [lt_d, lt_d]
      show (if gI (m0 h1 X) 790 (X + 121) = 0 then _ else bd (fX12_copy (m0 h1 X) (X + 121) (gI (m0 h1 X) 790 (X + 121)) 0) fun h7 => gd ((hK h7 (X + 121)).1 = 12) <| lt (α := Hp) (pI h7 790 (X + 121) (w32 ((gI h7 790 (X + 121)) - 1))) fun h9 => some (gI h9 790 (X + 121), h9)) = _
      rw [s790]
      refine iteF (by omega) (bdg v3 (gdg kt ?_))
      rw [t790, em.e, show ((m + 1 : Nat) : Int) - 1 = (m : Int) by omega, lt_d, j790]
    have ec : ∀ k, gA (pI t 790 (X + 121) (m : Int)) (X + 121 + 5) k = if k < 370 then c (370 * (m + 1) + k) else c k := by
      intro k
      have hc : gA (m0 h1 X) (X + 121 + 5) = c := (G1.q (m0_q h1 X)).2.1
      rw [gA_pI, v2, hc]
      by_cases y : k < 370
      · rw [if_pos y, if_pos (by omega), show k - 370 * 0 + 370 * (m + 1) = 370 * (m + 1) + k by omega]
      · rw [if_neg y, if_neg (by omega)]
    have j768 : gI (pI t 790 (X + 121) (m : Int)) 768 (X + 121) = 0 := by rw [gI_n (by omega), v1.i (by omega)]; exact m0_s h1 X
    have t721 : gI (pI t 790 (X + 121) (m : Int)) 721 X = 0 := by rw [gI_n (by omega), v1.i (by omega), (m0_q h1 X).i (by unfold sc; omega) (fun z => by unfold pM at z; omega)]; exact x4
    generalize pI t 790 (X + 121) (m : Int) = t2 at pp p2 p e2 ec j768 j790 t721
    generalize ec' : gA t2 (X + 121 + 5) = c' at ec
    have bm : ∀ k, k < 370 → c' k = bk c m k := fun k hk => by
      unfold bk
      rw [if_pos hk, ec, if_pos hk]
    have agm : AgS (bk c m) c' := ⟨bm 1 (by omega), bm 2 (by omega), fun k _ k8 => bm k (by omega)⟩
    have alm : AgL (bk c m) c' := ⟨bm 3 (by omega), fun k _ k8 => bm k k8⟩
    have w' : WF c' := a10.ag agm alm (by rw [bm 0 (by omega)]; exact wd)
    have sv : SV t2 S (bk c m) := a4.fl p J.z (by decide +kernel) a5 a6 a10
    have lv : LV t2 R (bk c m) := a7.fl p J.z (by decide +kernel) a8 a9
    have t717 : gR t2 717 X = some S := (pp.f0 z1 (f := 717) (by decide +kernel)).2.2.trans x8
    have t718 : gR t2 718 X = some R := (pp.f0 z1 (f := 718) (by decide +kernel)).2.2.trans x9
    have t719 : gI t2 719 X = bk c m 0 := (pp.f0 z1 (f := 719) (by decide +kernel)).1.trans x6
    have t720 : gI t2 720 X = (m : Int) := (pp.f0 z1 (f := 720) (by decide +kernel)).1.trans x5
    have mk' : MK t2 X c' := by
      refine ⟨m, by omega, j790, t720, fun i hi => ?_⟩
      have kk := kF_mk (i := i) (by omega)
      have kk2 : kF [] [(717, 0), (718, 0), (719, 0), (720, 0)] 192 (77 + i) = true ∧ kF [] [(717, 0), (718, 0), (719, 0), (720, 0)] 193 (77 + i) = true ∧ kF [] [(717, 0), (718, 0), (719, 0), (720, 0)] 194 (77 + i) = true := by
        have : i = 0 ∨ i = 1 ∨ i = 2 := by omega
        rcases this with rfl | rfl | rfl <;> decide +kernel
      have y1 := (pp.fi z1 kk.1).2.2.trans (p1'.fi J.z kk2.1).2.2
      have y2 := (pp.fi z1 kk.2.1).2.2.trans (p1'.fi J.z kk2.2.1).2.2
      have y3 := (pp.fi z1 kk.2.2).1.trans (p1'.fi J.z kk2.2.2).1
      rw [show X + (77 + i) = X + 77 + i by omega] at y1 y2 y3
      refine (m4 i (by omega)).mv p J.z (by decide +kernel) y1 y2 y3 ?_
      funext k
      unfold bk
      by_cases y5 : k < 370
      · rw [if_pos y5, if_pos y5, ec, if_neg (by omega)]
      · rw [if_neg y5, if_neg y5]
    have zS : S + 27 ≤ hZ t2 := Nat.le_trans a6 p.1
    have zR : R + 4 ≤ hZ t2 := Nat.le_trans a9 p.1
    refine ⟨_, h1, t2, e1, e2, c', ⟨⟨H.1.fl p J.z (by decide +kernel), w', by rw [t719, bm 0 (by omega)], ⟨S, t717, sv.ag a10 agm, a5⟩, R, t718, lv.ag a10 alm, a8⟩, ⟨J.m.1.fl p J.z (by decide +kernel), ec', w'⟩, ⟨Nat.le_trans J.z p.1, fun S' z => by rw [t717] at z; cases z; exact zS, fun R' z => by rw [t718] at z; cases z; exact zR⟩, J.tr.fl p J.z (by decide +kernel), J.tp.fl p J.z (by decide +kernel), mk', J.rd.fl p J.z (by decide +kernel), J.mg.fl p J.z (by decide +kernel), J.cn.fl p J.z (by decide +kernel), J.sf.fl p J.z (by decide +kernel)⟩, t721.trans j768.symm, ?_, ?_⟩
    · rw [(p.f0 J.z (f := 722) (by decide +kernel)).2.1, (p.fi J.z (f := 770) (i := 121) (by decide +kernel)).2.1]; exact i2
    · rw [(p.f0 J.z (f := 723) (by decide +kernel)).2.1, (p.fi J.z (f := 771) (i := 121) (by decide +kernel)).2.1]; exact i3
