/-! SHOP, both sides -/
def CFr (X : Nat) (h h' : Hp) : Prop := hZ h ≤ hZ h' ∧ ∀ a, a < hZ h → hK h' a = hK h a ∧ (∀ f, ¬ ((a = X + 10 ∧ 578 ≤ f ∧ f ≤ 583) ∨ (a = X + 12 ∧ f = 517)) → gI h' f a = gI h f a ∧ gJ h' f a = gJ h f a ∧ gR h' f a = gR h f a) ∧ (¬ (X + 13 ≤ a ∧ a ≤ X + 16) → ∀ i, gA h' a i = gA h a i ∧ gB h' a i = gB h a i ∧ gC h' a i = gC h a i)
set_option maxHeartbeats 200000 in
theorem CFr.tr {X : Nat} {h h1 h2 : Hp} (p : CFr X h h1) (q : CFr X h1 h2) : CFr X h h2 := by
  refine ⟨Nat.le_trans p.1 q.1, fun a ha => ?_⟩
  obtain ⟨p1, p2, p3⟩ := p.2 a ha
  obtain ⟨q1, q2, q3⟩ := q.2 a (Nat.lt_of_lt_of_le ha p.1)
  exact ⟨q1.trans p1, fun f n => ⟨(q2 f n).1.trans (p2 f n).1, (q2 f n).2.1.trans (p2 f n).2.1, (q2 f n).2.2.trans (p2 f n).2.2⟩, fun n i => ⟨(q3 n i).1.trans (p3 n i).1, (q3 n i).2.1.trans (p3 n i).2.1, (q3 n i).2.2.trans (p3 n i).2.2⟩⟩
set_option maxHeartbeats 200000 in
theorem mk_cfr {X S : Nat} {h : Hp} (hz : hZ h = S) (l : MkL) : CFr X h (mkH' S h l) := by
  refine ⟨by rw [mk_z hz]; omega, fun a ha => ?_⟩
  obtain ⟨s1, s2, s3⟩ := mk_s hz l (a := a) (by omega)
  exact ⟨s1, fun f _ => s2 f, fun _ i => s3 i⟩
set_option maxHeartbeats 200000 in
theorem fr_cfr {X : Nat} {W : Nat → Nat → Prop} {V : Nat → Prop} {h h' : Hp} (p : Fr W V h h') (w : ∀ f a, a < hZ h → W f a → (a = X + 10 ∧ 578 ≤ f ∧ f ≤ 583) ∨ (a = X + 12 ∧ f = 517)) (v : ∀ a, a < hZ h → V a → X + 13 ≤ a ∧ a ≤ X + 16) : CFr X h h' :=
  ⟨Nat.le_of_eq p.z.symm, fun a ha => ⟨by rw [p.k], fun f n => p.2.2.1 f a (fun z => n (w f a ha z)), fun n i => p.2.2.2 a (fun z => n (v a ha z)) i⟩⟩
def FCL : List (Nat × Nat) := [(577, 10), (578, 10), (579, 10), (580, 10), (581, 10), (582, 10), (583, 10), (517, 12)]
set_option maxHeartbeats 200000 in
theorem CFr.fl {X : Nat} {h h' : Hp} (p : CFr X h h') : FL [13, 14, 15, 16] FCL X h h' := by
  refine ⟨p.1, fun a ha => ?_⟩
  obtain ⟨p1, p2, p3⟩ := p.2 a ha
  refine ⟨p1, fun _ n2 => ⟨fun f _ _ n5 => p2 f (fun z => ?_), p3 (fun z => ?_)⟩⟩
  · rcases z with ⟨z1, z2, z3⟩ | ⟨z1, z2⟩
    · have : f = 578 ∨ f = 579 ∨ f = 580 ∨ f = 581 ∨ f = 582 ∨ f = 583 := by omega
      rcases this with e | e | e | e | e | e
      · exact n5 (578, 10) (by decide) e z1
      · exact n5 (579, 10) (by decide) e z1
      · exact n5 (580, 10) (by decide) e z1
      · exact n5 (581, 10) (by decide) e z1
      · exact n5 (582, 10) (by decide) e z1
      · exact n5 (583, 10) (by decide) e z1
    · exact n5 (517, 12) (by decide) z2 z1
  · have : a = X + 13 ∨ a = X + 14 ∨ a = X + 15 ∨ a = X + 16 := by omega
    rcases this with e | e | e | e
    · exact n2 13 (by decide) e
    · exact n2 14 (by decide) e
    · exact n2 15 (by decide) e
    · exact n2 16 (by decide) e
def FML : List (Nat × Nat) := [(776, 121), (777, 121), (780, 121), (781, 121), (782, 121), (783, 121), (784, 121), (785, 121), (786, 121), (787, 121), (794, 121)]
/-- the reference's frame -/
abbrev GR (M : Nat) : Hp → Hp → Prop := Fr (fun f a => a = M ∧ ((776 ≤ f ∧ f ≤ 777) ∨ (780 ≤ f ∧ f ≤ 787) ∨ f = 794)) (fun a => a = M + 5 ∨ a = M + 6)
set_option maxHeartbeats 200000 in
theorem gr_fl {X : Nat} {h h' : Hp} (p : GR (X + 121) h h') : FL [126, 127] FML X h h' := by
  refine ⟨Nat.le_of_eq p.z.symm, fun a _ => ⟨by rw [p.k], fun _ n2 => ⟨fun f _ _ n5 => p.2.2.1 f a (fun z => ?_), p.2.2.2 a (fun z => ?_)⟩⟩⟩
  · have : f = 776 ∨ f = 777 ∨ f = 780 ∨ f = 781 ∨ f = 782 ∨ f = 783 ∨ f = 784 ∨ f = 785 ∨ f = 786 ∨ f = 787 ∨ f = 794 := by omega
    rcases this with e | e | e | e | e | e | e | e | e | e | e
    · exact n5 (776, 121) (by decide) e z.1
    · exact n5 (777, 121) (by decide) e z.1
    · exact n5 (780, 121) (by decide) e z.1
    · exact n5 (781, 121) (by decide) e z.1
    · exact n5 (782, 121) (by decide) e z.1
    · exact n5 (783, 121) (by decide) e z.1
    · exact n5 (784, 121) (by decide) e z.1
    · exact n5 (785, 121) (by decide) e z.1
    · exact n5 (786, 121) (by decide) e z.1
    · exact n5 (787, 121) (by decide) e z.1
    · exact n5 (794, 121) (by decide) e z.1
  · rcases z with z | z
    · exact n2 126 (by decide) (by omega)
    · exact n2 127 (by decide) (by omega)
set_option maxHeartbeats 200000 in
theorem mk_fl {E : List Nat} {F : List (Nat × Nat)} {X R : Nat} {h : Hp} (hz : hZ h = R) (l : MkL) : FL E F X h (mkH' R h l) := by
  refine ⟨by rw [mk_z hz]; omega, fun a ha => ?_⟩
  obtain ⟨s1, s2, s3⟩ := mk_s hz l (a := a) (by omega)
  exact ⟨s1, fun _ _ => ⟨fun f _ _ _ => s2 f, s3⟩⟩
/-! the reference's new block: nothing in it -/
set_option maxHeartbeats 200000 in
theorem rZero {M : Nat} {a1 : Int} : ∀ n i fu (m : Hp), 370 - i ≤ n → n < fu → i ≤ 370 → MS m M → ∃ m', Fr (fun _ _ => False) (fun a => a = M + 5) m m' ∧ (∀ k, gA m' (M + 5) k = if 1480 + i ≤ k ∧ k < 1850 then 0 else gA m (M + 5) k) ∧ fX12_shop_b25 M a1 fu m (i : Int) = fX12_shop_b49 M a1 FU m' := by
  intro n
  induction n with
  | zero =>
    intro i fu m h1 h2 h3 H
    obtain ⟨fu, rfl⟩ : ∃ k, fu = k + 1 := ⟨fu - 1, by omega⟩
    refine ⟨m, Fr.rf m, fun k => by rw [if_neg (by omega)], ?_⟩
    rw [fX12_shop_b25.eq_2]
    exact iteF (by omega) rfl
  | succ n ih =>
    intro i fu m h1 h2 h3 H
    obtain ⟨fu, rfl⟩ : ∃ k, fu = k + 1 := ⟨fu - 1, by omega⟩
    by_cases z : i < 370
    · have e1 : WE (1480 + (i : Int)) := we (by omega) (by omega)
      have e2 : WE ((i : Int) + 1) := we (by omega) (by omega)
      have k5 : hK m (M + 5) = (21, 1850) := H.k5
      have f1 : Fr (fun _ _ => False) (fun a => a = M + 5) m (sA m (M + 5) ((1480 + i : Nat) : Int) 0) := fr_sA m rfl
      have s2 : ∀ k, gA (sA m (M + 5) ((1480 + i : Nat) : Int) 0) (M + 5) k = if k = 1480 + i then 0 else gA m (M + 5) k := fun k => gA_sAi (rg_lit rfl)
      obtain ⟨m', p1, p2, p3⟩ := ih (i + 1) fu _ (by omega) (by omega) (by omega) (H.fr f1 (fun _ _ z => z))
      refine ⟨m', f1.tr p1, fun k => ?_, ?_⟩
      · rw [p2, s2]
        by_cases y1 : k = 1480 + i
        · rw [if_neg (by omega), if_pos y1, if_pos (by omega)]
        · by_cases y2 : 1480 + i ≤ k ∧ k < 1850
          · rw [if_pos (by omega), if_pos y2]
          · rw [if_neg (by omega), if_neg y2, if_neg y1]
      · rw [fX12_shop_b25.eq_2, e1.e, e2.e, show (1480 + (i : Int)) = ((1480 + i : Nat) : Int) by omega]
        exact iteT (by omega) (gdg H.k (nng H.r788 (gdg (by rw [k5]) (gdg (by rw [k5]; show 0 ≤ _ ∧ _ < (1850 : Int); omega) (ltg (ltg (p3)))))))
    · refine ⟨m, Fr.rf m, fun k => by rw [if_neg (by omega)], ?_⟩
      rw [fX12_shop_b25.eq_2]
      exact iteF (by omega) rfl
set_option maxHeartbeats 200000 in
/-- the new block is taken -/
theorem rTake {M : Nat} {a1 : Int} : ∀ n i fu (m : Hp), 370 - i ≤ n → n < fu → i ≤ 370 → MS m M → ∃ m', Fr (fun _ _ => False) (fun a => a = M + 5) m m' ∧ (∀ k, gA m' (M + 5) k = if i ≤ k ∧ k < 370 then gA m (M + 5) (1480 + k) else gA m (M + 5) k) ∧ fX12_shop_b140 M a1 fu m (i : Int) = some (gA m' (M + 5) 2, pI m' 813 M 0) := by
  have fin : ∀ i fu (m : Hp), ¬ i < 370 → MS m M → ∃ m', Fr (fun _ _ => False) (fun a => a = M + 5) m m' ∧ (∀ k, gA m' (M + 5) k = if i ≤ k ∧ k < 370 then gA m (M + 5) (1480 + k) else gA m (M + 5) k) ∧ fX12_shop_b140 M a1 (fu + 1) m (i : Int) = some (gA m' (M + 5) 2, pI m' 813 M 0) := by
    intro i fu m h1 H
    have k5 : hK m (M + 5) = (21, 1850) := H.k5
    refine ⟨m, Fr.rf m, fun k => by rw [if_neg (by omega)], ?_⟩
    rw [fX12_shop_b140.eq_2]
    exact iteF (by omega) (gdg H.k (ltg (nng H.r788 (gdg (by rw [hK_pI, k5]) (gdg (by rw [hK_pI, k5]; show 0 ≤ _ ∧ _ < (1850 : Int); omega) (rfl))))))
  intro n
  induction n with
  | zero =>
    intro i fu m h1 h2 h3 H
    obtain ⟨fu, rfl⟩ : ∃ k, fu = k + 1 := ⟨fu - 1, by omega⟩
    exact fin i fu m (by omega) H
  | succ n ih =>
    intro i fu m h1 h2 h3 H
    obtain ⟨fu, rfl⟩ : ∃ k, fu = k + 1 := ⟨fu - 1, by omega⟩
    by_cases z : i < 370
    · have e1 : WE (1480 + (i : Int)) := we (by omega) (by omega)
      have e2 : WE ((i : Int) + 1) := we (by omega) (by omega)
      have k5 : hK m (M + 5) = (21, 1850) := H.k5
      obtain ⟨v, hv⟩ : ∃ v, v = gA m (M + 5) (1480 + i) := ⟨_, rfl⟩
      have rv : rg v := by rw [hv]; exact ti_rg _
      have f1 : Fr (fun _ _ => False) (fun a => a = M + 5) m (sA m (M + 5) (i : Int) v) := fr_sA m rfl
      have s2 : ∀ k, gA (sA m (M + 5) (i : Int) v) (M + 5) k = if k = i then v else gA m (M + 5) k := fun k => gA_sAi rv
      obtain ⟨m', p1, p2, p3⟩ := ih (i + 1) fu _ (by omega) (by omega) (by omega) (H.fr f1 (fun _ _ z => z))
      refine ⟨m', f1.tr p1, fun k => ?_, ?_⟩
      · rw [p2]
        by_cases y1 : k = i
        · rw [if_neg (by omega), s2, if_pos y1, if_pos (by omega), hv, y1]
        · by_cases y2 : i ≤ k ∧ k < 370
          · rw [if_pos (by omega), if_pos y2, s2, if_neg (by omega)]
          · rw [if_neg (by omega), if_neg y2, s2, if_neg y1]
      · rw [fX12_shop_b140.eq_2, e1.e, e2.e, show (1480 + (i : Int)).toNat = 1480 + i by omega]
        refine iteT (by omega) (gdg H.k (nng H.r788 (gdg (by rw [k5]) (gdg (by rw [k5]; show 0 ≤ _ ∧ _ < (1850 : Int); omega) (gdg (by rw [k5]; show 0 ≤ _ ∧ _ < (1850 : Int); omega) (?_))))))
        rw [← hv]
        exact ltg (ltg p3)
    · exact fin i fu m z H
set_option maxHeartbeats 200000 in
/-- the text, opened by both; a new shop, its parts read -/
theorem shop_read {X L : Nat} {T : Nat → Int} {u : Int} {a1 : Int} {h m : Hp} (z : X + 144 ≤ hZ h) (H : XS h X) (hu : gI h 577 (X + 10) = u) (Lu : (L : Int) ≤ u) (L9 : L ≤ 900) (hT : ∀ i, i < L → gA h (X + 11) i = T i ∧ -128 ≤ T i ∧ T i ≤ 127)
    (K : MS m (X + 121)) (ku : gI m 776 (X + 121) = u) (kT : ∀ i, i < L → gA m (X + 121 + 4) i = T i) :
    ∃ t h' m', CFr X h h' ∧ hZ h' = hZ h + 27 ∧ GR (X + 121) m m' ∧ (∀ k, k < 1480 → gA m' (X + 121 + 5) k = gA m (X + 121 + 5) k) ∧ gI m' 776 (X + 121) = 0 ∧ tzPi X (hZ h) (X + 121) L T t h' m' ∧ (tkF t = 0 → tkK t = 0) ∧
      fX8_readShop h (X + 12) (L : Int) = some (hZ h, h') ∧ (bd2 (fX12_opens m (X + 121) (L : Int) 900) fun r4 h6 => if r4 = 0 then some ((-1), h6) else fX12_shop_b25 (X + 121) a1 FU h6 0) = fX12_shop_b129 (X + 121) a1 m' := by
  obtain ⟨S, hz⟩ : ∃ S, hZ h = S := ⟨_, rfl⟩
  obtain ⟨hs, i450, i451, i386⟩ := mk_shop hz
  have hj := fun {j : Nat} (hj : j < 8) {f : Nat} (hf : f ≤ 9) => mk_jars hz hj hf
  have hZ6 := mk_shopZ hz
  have c6 : CFr X h (mkH' S h mkS_60) := mk_cfr hz _
  have einit : fX7_init (nw h 7 0) S = some (mkH' S h mkS_60) := mkS__t0 hz
  generalize mkH' S h mkS_60 = h6 at *
  have sm6 : ∀ a, a < S → hK h6 a = hK h a := fun a ha => (c6.2 a (by omega)).1
  have k12 : (hK h6 (X + 12)).1 = 8 := by rw [sm6 _ (by omega), H.k12]
  -- the class
  have f8 : Fr (fun f a => a = X + 12 ∧ f = 517) (fun _ => False) h6 (pR h6 517 (X + 12) S) := fr_pR h6 ⟨rfl, rfl⟩
  have c8 : CFr X h6 (pR h6 517 (X + 12) S) := fr_cfr f8 (fun f a _ w => Or.inr w) (fun a _ v => v.elim)
  have r517 : gR (pR h6 517 (X + 12) S) 517 (X + 12) = some S := gR_s
  generalize hh8 : pR h6 517 (X + 12) S = h8 at *
  have cc := c6.tr c8
  have cs : ∀ {f a : Nat}, a < S → ¬ ((a = X + 10 ∧ 578 ≤ f ∧ f ≤ 583) ∨ (a = X + 12 ∧ f = 517)) → gI h8 f a = gI h f a ∧ gJ h8 f a = gJ h f a ∧ gR h8 f a = gR h f a := fun {f a} ha n => (cc.2 a (by omega)).2.1 f n
  have H8 : XS h8 X := by
    refine ⟨fun i hi => by rw [(cc.2 (X + i) (by omega)).1]; exact H.1 i hi, fun q hq => ?_, fun q hq => ?_, ?_⟩
    · have n := rT_no hq
      rw [(cs (by omega) (by omega)).2.2]
      exact H.2.1 q hq
    · have n := cT_no hq
      rw [((cc.2 (X + q.1) (by omega)).2.2 (by omega) _).2.2]
      exact H.2.2.1 q hq
    · rw [(cs (by omega) (by omega)).1, (cs (by omega) (by omega)).1, (cs (by omega) (by omega)).1, (cs (by omega) (by omega)).1]
      exact H.2.2.2
  have u8 : gI h8 577 (X + 10) = u := by rw [(cs (by omega) (by omega)).1]; exact hu
  have HS8 : SHs h8 S := hs.fr f8 (fun f a w q => by omega) ⟨fun v => v, fun v => v⟩
  have Rd8 : XRd X S h8 := ⟨H8, r517, by omega, HS8⟩
  have hT8 : ∀ i, i < L → gA h8 (X + 11) i = T i ∧ -128 ≤ T i ∧ T i ≤ 127 := fun i hi => by
    rw [((cc.2 (X + 11) (by omega)).2.2 (by omega) i).1]; exact hT i hi
  obtain ⟨h13, p13, u13, H13, e13⟩ := tzx_open (u := u) (by rw [H8.k10]) H8.r576 H8.k11 L9 u8 Lu hT8
  have Rd13 := Rd8.ft p13
  -- the reference
  have L0 : rg (L : Int) := by unfold rg; omega
  have k12m : (hK m (X + 121)).1 = 12 := by rw [K.k0]
  have g1 : GR (X + 121) m (pI (pI (pI (pI m 777 (X + 121) (L : Int)) 776 (X + 121) 0) 784 (X + 121) 0) 780 (X + 121) 0) :=
    (((fr_pI m ⟨rfl, by omega⟩).tr (fr_pI _ ⟨rfl, by omega⟩)).tr (fr_pI _ ⟨rfl, by omega⟩)).tr (fr_pI _ ⟨rfl, by omega⟩)
  have K1 : tzMa (X + 121) L T 0 0 (-1) (pI (pI (pI (pI m 777 (X + 121) (L : Int)) 776 (X + 121) 0) 784 (X + 121) 0) 780 (X + 121) 0) := by
    refine ⟨⟨K, L9, ?_, fun i hi => ⟨kT i hi, (hT i hi).2⟩⟩, ?_, Nat.zero_le _, gI_pIs (rg_lit rfl), fun w => absurd rfl w, Int.le_refl _⟩
    · rw [gI_n (by omega), gI_n (by omega), gI_n (by omega)]; exact gI_pIs L0
    · rw [gI_n (by omega)]; exact gI_pIs (rg_lit rfl)
  have t1 : gI (pI (pI (pI (pI m 777 (X + 121) (L : Int)) 776 (X + 121) 0) 784 (X + 121) 0) 780 (X + 121) 0) 776 (X + 121) = 0 := by
    rw [gI_n (by omega), gI_n (by omega)]; exact gI_pIs (rg_lit rfl)
  have row1 : ∀ k, gA (pI (pI (pI (pI m 777 (X + 121) (L : Int)) 776 (X + 121) 0) 784 (X + 121) 0) 780 (X + 121) 0) (X + 121 + 5) k = gA m (X + 121 + 5) k := fun k => rfl
  obtain ⟨m2, g2, K2, e2⟩ := tzm_next K1
  have eop : fX12_opens m (X + 121) (L : Int) 900 = some (1, m2) := by
    unfold fX12_opens
    rw [ku]
    exact iteF (by omega) (gdg k12m (iteT Lu (iteT (by omega) (ltg (ltg (ltg (ltg (bdg e2 (rfl)))))))))
  generalize pI (pI (pI (pI m 777 (X + 121) (L : Int)) 776 (X + 121) 0) 784 (X + 121) 0) 780 (X + 121) 0 = m1 at *
  obtain ⟨m3, g3, row3, e3⟩ := rZero (M := X + 121) (a1 := a1) 370 0 FU m2 (by omega) (show 370 < 1000000 by omega) (by omega) K2.1.1
  have K3 : tzMt (X + 121) L T (tzNx L T 0 0 (-1)) m3 := K2.fr g3 (fun _ _ z => z) (fun _ _ _ z => z) (by omega)
  have t3 : gI m3 776 (X + 121) = 0 := by rw [g3.i (fun z => z), g2.i (by omega)]; exact t1
  have row3' : ∀ k, gA m3 (X + 121 + 5) k = if 1480 ≤ k ∧ k < 1850 then 0 else gA m (X + 121 + 5) k := fun k => by
    rw [row3, g2.a (fun z => z), row1, Nat.add_zero]
  have dz : ∀ k, k < 370 → tzD (X + 121) m3 k = 0 := fun k hk => by
    show gA m3 (X + 121 + 5) (1480 + k) = 0
    rw [row3', if_pos (by omega)]
  have xI : ∀ {f a : Nat}, S ≤ a → gI h13 f a = gI h6 f a := fun {f a} ha => by
    rw [p13.i (by omega), ← hh8, gI_pR]
  have P0 : tzPi X S (X + 121) L T (tzNx L T 0 0 (-1)) h13 m3 := by
    refine ⟨H13, K3, Rd13, fun _ => ⟨0, 0, fun _ => (0, 0), fun _ => (0, 0), ⟨?_, ?_, by omega, by omega, ?_, ?_, ?_, ?_⟩, ⟨fun k hk => absurd hk (by omega), fun k hk => absurd hk (by omega), fun k hk => absurd hk (by omega), fun k hk => absurd hk (by omega), fun k hk => absurd hk (by omega), fun k hk => absurd hk (by omega)⟩, fun s hs8 => ?_, fun s _ hs8 => dz _ (by omega), fun j hj => absurd hj (by omega), fun j _ hj8 => ?_⟩⟩
    · rw [xI (by omega)]; exact i450
    · rw [xI (by omega)]; exact i451
    · rw [row3', if_pos (by omega)]; rfl
    · rw [row3', if_pos (by omega)]; rfl
    · rw [row3', if_pos (by omega)]
    · rw [row3', if_pos (by omega)]
    · unfold tzSN
      rw [dz _ (by omega), xI (by omega)]
      exact ⟨i386 s hs8, by omega, fun k hk => absurd hk (by omega)⟩
    · unfold tzJ0
      rw [xI (by omega), xI (by omega), xI (by omega), xI (by omega), xI (by omega), xI (by omega), xI (by omega), xI (by omega), xI (by omega), xI (by omega), dz _ (by omega), dz _ (by omega), dz _ (by omega), dz _ (by omega), dz _ (by omega), dz _ (by omega), dz _ (by omega), dz _ (by omega), dz _ (by omega)]
      exact ⟨⟨hj hj8 (by omega), hj hj8 (by omega), hj hj8 (by omega), hj hj8 (by omega), hj hj8 (by omega), hj hj8 (by omega), hj hj8 (by omega), hj hj8 (by omega), hj hj8 (by omega), hj hj8 (by omega)⟩, rfl, rfl, rfl, rfl, rfl, rfl, rfl, rfl, rfl⟩
  obtain ⟨h', m', t', fc, gk, q1, q2, P', q3⟩ := tzp_loop (a1 := a1) L 0 FU FU _ h13 m3 (show L + 1 < 1000000 by omega) (show L + 1 < 1000000 by omega) (fun _ => by omega) P0
  have c13 : CFr X h h13 := cc.tr (fr_cfr p13 (fun f a _ w => Or.inl w) (fun a _ v => v.elim))
  have hz13 : hZ h13 = S + 27 := by rw [p13.z, ← hh8, hZ_pR]; exact hZ6
  refine ⟨t', h', m', ⟨by rw [fc.z]; omega, fun a ha => ?_⟩, by rw [fc.z, hz13, hz], ((g1.tr (g2.mono (fun f a w => ⟨w.1, by omega⟩) (fun _ v => v.elim))).tr (g3.mono (fun _ _ w => w.elim) (fun _ v => Or.inl v))).tr (gk.1.mono (fun f a w => ⟨w.1, by omega⟩) (fun _ v => v)), fun k hk => ?_, ?_, by rw [hz]; exact P', q3, ?_, ?_⟩
  · obtain ⟨a1, a2, a3⟩ := c13.2 a ha
    refine ⟨by rw [fc.k]; exact a1, fun f n => ?_, fun n i => ?_⟩
    · rw [fc.i (by omega), fc.j (by omega), fc.r (by omega)]; exact a2 f n
    · rw [fc.a (by omega), fc.b (by omega), fc.c (by omega)]; exact a3 n i
  · rw [gk.2 k hk, row3', if_neg (by omega)]
  · rw [gk.1.i (by omega)]; exact t3
  · unfold fX8_readShop
    rw [hz]
    refine ltg (ltg (bdg einit (gdg k12 (ltg (?_)))))
    rw [hh8]
    exact nng H8.r512 (gdg (by rw [H8.k10]) (bdg e13 (q1)))
  · exact bd2g eop (iteF (by omega) (e3.trans q2))
