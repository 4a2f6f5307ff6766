/-! LAW -/
set_option maxHeartbeats 200000 in
/-- the text, opened by both; a new law, its rules read -/
theorem law_read {X L : Nat} {T : Nat → Int} {u : Int} {a1 : Int} {h m : Hp} (z : X + 144 ≤ hZ h) (H : XS h X) (hu : gI h 577 (X + 10) = u) (Lu : (L : Int) ≤ u) (L3 : L ≤ 300) (hT : ∀ i, i < L → gA h (X + 11) i = T i ∧ -128 ≤ T i ∧ T i ≤ 127)
    (K : MS m (X + 121)) (ku : gI m 776 (X + 121) = u) (kT : ∀ i, i < L → gA m (X + 121 + 4) i = T i) :
    ∃ t h' m', CFr X h h' ∧ hZ h' = hZ h + 4 ∧ GR (X + 121) m m' ∧ (∀ k, k < 1480 → gA m' (X + 121 + 5) k = gA m (X + 121 + 5) k) ∧ gI m' 776 (X + 121) = 0 ∧ tzLi X (hZ h) (X + 121) L T t h' m' ∧ (tkF t = 0 → tkK t = 0) ∧
      fX2_readLaw h (X + 44) (L : Int) = some (hZ h, h') ∧ (bd2 (fX12_opens m (X + 121) (L : Int) 300) fun r4 h6 => if r4 = 0 then some ((-1), h6) else gd ((hK h6 (X + 121)).1 = 12) <| lt (α := Hp) (pI h6 794 (X + 121) 0) fun h9 => fX12_law_b28 (X + 121) a1 FU h9) = fX12_law_b49 (X + 121) a1 m' := by
  obtain ⟨R, hz⟩ : ∃ R, hZ h = R := ⟨_, rfl⟩
  have hZ6 := mk_lawZ hz
  have l0 : LSs (mkH' R h mkL_6) R := ⟨mk_kk (i := 0) hz (by decide +kernel), mk_rr (i := 0) (j := 1) hz (by decide +kernel), mk_rr (i := 0) (j := 2) hz (by decide +kernel), mk_rr (i := 0) (j := 3) hz (by decide +kernel), mk_kk (i := 1) hz (by decide +kernel), mk_kk (i := 2) hz (by decide +kernel), mk_kk (i := 3) hz (by decide +kernel)⟩
  have l67 : gI (mkH' R h mkL_6) 67 R = 0 := mk_ii (i := 0) hz (by decide +kernel)
  have cc : CFr X h (mkH' R h mkL_6) := mk_cfr hz _
  have einit : fX1_init (nw h 1 0) R = some (mkH' R h mkL_6) := mkL__t0 hz
  generalize mkH' R h mkL_6 = h6 at *
  have cs : ∀ {f a : Nat}, a < R → ¬ ((a = X + 10 ∧ 578 ≤ f ∧ f ≤ 583) ∨ (a = X + 12 ∧ f = 517)) → gI h6 f a = gI h f a ∧ gJ h6 f a = gJ h f a ∧ gR h6 f a = gR h f a := fun {f a} ha n => (cc.2 a (by omega)).2.1 f n
  have H6 : XS h6 X := by
    refine ⟨fun i hi => by rw [(cc.2 (X + i) (by omega)).1]; exact H.1 i hi, fun q hq => ?_, fun q hq => ?_, ?_⟩
    · have n := rT_no hq
      rw [(cs (by omega) (by omega)).2.2]
      exact H.2.1 q hq
    · have n := cT_no hq
      rw [((cc.2 (X + q.1) (by omega)).2.2 (by omega) _).2.2]
      exact H.2.2.1 q hq
    · rw [(cs (by omega) (by omega)).1, (cs (by omega) (by omega)).1, (cs (by omega) (by omega)).1, (cs (by omega) (by omega)).1]
      exact H.2.2.2
  have u6 : gI h6 577 (X + 10) = u := by rw [(cs (by omega) (by omega)).1]; exact hu
  have Q6 : LRd X R h6 := ⟨H6, by omega, l0⟩
  have hT6 : ∀ i, i < L → gA h6 (X + 11) i = T i ∧ -128 ≤ T i ∧ T i ≤ 127 := fun i hi => by
    rw [((cc.2 (X + 11) (by omega)).2.2 (by omega) i).1]; exact hT i hi
  obtain ⟨h12, p12, u12, H12, e12⟩ := tzx_open (u := u) (by rw [H6.k10]) H6.r576 H6.k11 (by omega) u6 Lu hT6
  have Q12 := Q6.ft p12
  -- the reference
  have L0 : rg (L : Int) := by unfold rg; omega
  have k12m : (hK m (X + 121)).1 = 12 := by rw [K.k0]
  have g1 : GR (X + 121) m (pI (pI (pI (pI m 777 (X + 121) (L : Int)) 776 (X + 121) 0) 784 (X + 121) 0) 780 (X + 121) 0) :=
    (((fr_pI m ⟨rfl, by omega⟩).tr (fr_pI _ ⟨rfl, by omega⟩)).tr (fr_pI _ ⟨rfl, by omega⟩)).tr (fr_pI _ ⟨rfl, by omega⟩)
  have K1 : tzMa (X + 121) L T 0 0 (-1) (pI (pI (pI (pI m 777 (X + 121) (L : Int)) 776 (X + 121) 0) 784 (X + 121) 0) 780 (X + 121) 0) := by
    refine ⟨⟨K, by omega, ?_, fun i hi => ⟨kT i hi, (hT i hi).2⟩⟩, ?_, Nat.zero_le _, gI_pIs (rg_lit rfl), fun w => absurd rfl w, Int.le_refl _⟩
    · rw [gI_n (by omega), gI_n (by omega), gI_n (by omega)]; exact gI_pIs L0
    · rw [gI_n (by omega)]; exact gI_pIs (rg_lit rfl)
  have t1 : gI (pI (pI (pI (pI m 777 (X + 121) (L : Int)) 776 (X + 121) 0) 784 (X + 121) 0) 780 (X + 121) 0) 776 (X + 121) = 0 := by
    rw [gI_n (by omega), gI_n (by omega)]; exact gI_pIs (rg_lit rfl)
  have row1 : ∀ k, gA (pI (pI (pI (pI m 777 (X + 121) (L : Int)) 776 (X + 121) 0) 784 (X + 121) 0) 780 (X + 121) 0) (X + 121 + 5) k = gA m (X + 121 + 5) k := fun k => rfl
  obtain ⟨m2, g2, K2, e2⟩ := tzm_next K1
  have eop : fX12_opens m (X + 121) (L : Int) 300 = some (1, m2) := by
    unfold fX12_opens
    rw [ku]
    exact iteF (by omega) (gdg k12m (iteT Lu (iteT (by omega) (ltg (ltg (ltg (ltg (bdg e2 (rfl)))))))))
  generalize pI (pI (pI (pI m 777 (X + 121) (L : Int)) 776 (X + 121) 0) 784 (X + 121) 0) 780 (X + 121) 0 = m1 at *
  have g3 : Fr (fun f a => a = X + 121 ∧ f = 794) (fun _ => False) m2 (pI m2 794 (X + 121) 0) := fr_pI m2 ⟨rfl, rfl⟩
  have K3 : tzMt (X + 121) L T (tzNx L T 0 0 (-1)) (pI m2 794 (X + 121) 0) := K2.fr g3 (fun q hq w => (mR_no hq).2.1 w.2) (fun f w1 w2 w => by omega) (fun w => w)
  have c794 : gI (pI m2 794 (X + 121) 0) 794 (X + 121) = 0 := gI_pIs (rg_lit rfl)
  have row3 : ∀ k, gA (pI m2 794 (X + 121) 0) (X + 121 + 5) k = gA m2 (X + 121 + 5) k := fun k => rfl
  generalize hm3 : pI m2 794 (X + 121) 0 = m3 at *
  have P0 : tzLi X R (X + 121) L T (tzNx L T 0 0 (-1)) h12 m3 := by
    refine ⟨H12, K3, Q12, fun _ => ⟨0, ?_, by omega, c794, fun k hk => absurd hk (by omega)⟩⟩
    rw [p12.i (by omega)]; exact l67
  obtain ⟨h', m', t', fc, gk, q1, q2, P', q3⟩ := tzl_loop (a1 := a1) L 0 FU FU _ h12 m3 (show L + 1 < 1000000 by omega) (show L + 1 < 1000000 by omega) (fun _ => by omega) P0
  have c12 : CFr X h h12 := cc.tr (fr_cfr p12 (fun f a _ w => Or.inl w) (fun a _ v => v.elim))
  have hz12 : hZ h12 = R + 4 := by rw [p12.z]; exact hZ6
  refine ⟨t', h', m', ⟨by rw [fc.z]; omega, fun a ha => ?_⟩, by rw [fc.z, hz12, hz], ((g1.tr (g2.mono (fun f a w => ⟨w.1, by omega⟩) (fun _ v => v.elim))).tr (g3.mono (fun f a w => ⟨w.1, Or.inr (Or.inr w.2)⟩) (fun _ v => v.elim))).tr (gk.1.mono (fun f a w => ⟨w.1, by omega⟩) (fun _ v => Or.inl v)), fun k hk => ?_, ?_, by rw [hz]; exact P', q3, ?_, ?_⟩
  · obtain ⟨a1, a2, a3⟩ := c12.2 a ha
    refine ⟨by rw [fc.k]; exact a1, fun f n => ?_, fun n i => ?_⟩
    · rw [fc.i (by omega), fc.j (by omega), fc.r (by omega)]; exact a2 f n
    · rw [fc.a (by omega), fc.b (by omega), fc.c (by omega)]; exact a3 n i
  · rw [gk.2 k hk, row3, g2.a (fun z => z), row1]
  · rw [gk.1.i (by omega), g3.i (by omega), g2.i (by omega)]; exact t1
  · unfold fX2_readLaw
    rw [hz]
    exact ltg (ltg (bdg einit (gdg (by rw [H6.k44]) (nng H6.r128 (gdg (by rw [H6.k10]) (bdg e12 (q1)))))))
  · refine bd2g eop (iteF (by omega) (gdg K2.k (ltg (?_))))
    rw [hm3]
    exact q2
set_option maxHeartbeats 200000 in
/-- the new rules are taken -/
theorem rTakeL {M : Nat} {a1 : Int} : ∀ n i fu (m : Hp), 370 - i ≤ n → n < fu → i ≤ 370 → MS m M → ∃ m', Fr (fun _ _ => False) (fun a => a = M + 5) m m' ∧ (∀ k, gA m' (M + 5) k = if i ≤ k ∧ k < 370 then gA m (M + 5) (1480 + k) else gA m (M + 5) k) ∧ fX12_law_b72 M a1 fu m (i : Int) = some (gI m' 794 M, m') := by
  have fin : ∀ i fu (m : Hp), ¬ i < 370 → MS m M → ∃ m', Fr (fun _ _ => False) (fun a => a = M + 5) m m' ∧ (∀ k, gA m' (M + 5) k = if i ≤ k ∧ k < 370 then gA m (M + 5) (1480 + k) else gA m (M + 5) k) ∧ fX12_law_b72 M a1 (fu + 1) m (i : Int) = some (gI m' 794 M, m') := by
    intro i fu m h1 H
    refine ⟨m, Fr.rf m, fun k => by rw [if_neg (by omega)], ?_⟩
    rw [fX12_law_b72.eq_2]
    exact iteF (by omega) (gdg H.k (rfl))
  intro n
  induction n with
  | zero =>
    intro i fu m h1 h2 h3 H
    obtain ⟨fu, rfl⟩ : ∃ k, fu = k + 1 := ⟨fu - 1, by omega⟩
    exact fin i fu m (by omega) H
  | succ n ih =>
    intro i fu m h1 h2 h3 H
    obtain ⟨fu, rfl⟩ : ∃ k, fu = k + 1 := ⟨fu - 1, by omega⟩
    by_cases z : i < 370
    · have e1 : WE (1480 + (i : Int)) := we (by omega) (by omega)
      have e2 : WE ((i : Int) + 1) := we (by omega) (by omega)
      have k5 : hK m (M + 5) = (21, 1850) := H.k5
      obtain ⟨v, hv⟩ : ∃ v, v = gA m (M + 5) (1480 + i) := ⟨_, rfl⟩
      have rv : rg v := by rw [hv]; exact ti_rg _
      have f1 : Fr (fun _ _ => False) (fun a => a = M + 5) m (sA m (M + 5) (i : Int) v) := fr_sA m rfl
      have s2 : ∀ k, gA (sA m (M + 5) (i : Int) v) (M + 5) k = if k = i then v else gA m (M + 5) k := fun k => gA_sAi rv
      obtain ⟨m', p1, p2, p3⟩ := ih (i + 1) fu _ (by omega) (by omega) (by omega) (H.fr f1 (fun _ _ z => z))
      refine ⟨m', f1.tr p1, fun k => ?_, ?_⟩
      · rw [p2]
        by_cases y1 : k = i
        · rw [if_neg (by omega), s2, if_pos y1, if_pos (by omega), hv, y1]
        · by_cases y2 : i ≤ k ∧ k < 370
          · rw [if_pos (by omega), if_pos y2, s2, if_neg (by omega)]
          · rw [if_neg (by omega), if_neg y2, s2, if_neg y1]
      · rw [fX12_law_b72.eq_2, e1.e, e2.e, show (1480 + (i : Int)).toNat = 1480 + i by omega]
        refine iteT (by omega) (gdg H.k (nng H.r788 (gdg (by rw [k5]) (gdg (by rw [k5]; show 0 ≤ _ ∧ _ < (1850 : Int); omega) (gdg (by rw [k5]; show 0 ≤ _ ∧ _ < (1850 : Int); omega) (?_))))))
        rw [← hv]
        exact ltg (ltg p3)
    · exact fin i fu m z H
set_option maxHeartbeats 1000000 in
theorem ok_law {h : Hp} {X : Nat} {n : Int} (I : Inv h X) : OK3 (fun h => fX11_law h X n) (fun h => fX12_law h (X + 121) n) h X := by
  obtain ⟨c, J, i1, i2, i3⟩ := id I
  have H := J.x
  have G := J.m
  have w := H.wf
  obtain ⟨tp1, tp2, tp3, tp4, tp5⟩ := J.tp
  obtain ⟨u, eu⟩ := i2n tp1.1
  rw [eu] at tp1 tp2 tp3
  have k9 : (hK h (X + 10)).1 = 9 := by rw [H.1.k10]
  by_cases q : 0 ≤ n ∧ n ≤ min (u : Int) 300
  · obtain ⟨L, rfl⟩ := i2n q.1
    obtain ⟨T, hTd⟩ : ∃ T, T = gA h (X + 11) := ⟨_, rfl⟩
    have hT : ∀ i, i < L → gA h (X + 11) i = T i ∧ -128 ≤ T i ∧ T i ≤ 127 := fun i hi => by
      rw [hTd]
      exact ⟨rfl, (tp3 i (by omega)).2⟩
    have kT : ∀ i, i < L → gA h (X + 121 + 4) i = T i := fun i hi => by rw [hTd]; exact (tp3 i (by omega)).1.symm
    obtain ⟨t0, h1, m9, c1, hz1, -, -, -, P0, -, er, -⟩ := law_read (a1 := (L : Int)) (m := h) J.z H.1 tp2 (by omega) (by omega) hT G.1 eu kT
    obtain ⟨HX1, -, Rd1, -⟩ := P0
    clear m9
    obtain ⟨S, hS⟩ : ∃ S, S = hZ h := ⟨_, rfl⟩
    rw [← hS] at Rd1 er hz1
    have X1 := Rd1.1
    have z0 := J.z
    have z1 : X + 144 ≤ hZ h1 := by omega
    have k17 : (hK (pI h1 577 (X + 10) 0) X).1 = 11 := by rw [hK_pI, X1.k0]
    have fl1 := c1.fl
    have eh0 : fX9_empty h1 (X + 10) = some (pI h1 577 (X + 10) 0) := by
      unfold fX9_empty
      exact gdg (by rw [X1.k10]) rfl
    have ehf : fX9_hasFault (pI h1 577 (X + 10) 0) (X + 10) = some (if gI h1 578 (X + 10) = 0 then 0 else 1) := by
      unfold fX9_hasFault
      rw [gI_n (by omega)]
      exact gdg (by rw [hK_pI, X1.k10]) rfl
    have pre : ∀ x, (if (if gI h1 578 (X + 10) = 0 then (0 : Int) else 1) = 0 then (lt (α := Hp) (pR (pI h1 577 (X + 10) 0) 718 X S) fun h24 => nn (gR h24 718 X) fun q25 => gd ((hK h24 q25).1 = 1) <| bd2 (fX11_answer h24 X (gI h24 67 q25)) fun r27 h29 => some (r27, h29)) else bd2 (fX11_refuse (pI h1 577 (X + 10) 0) X 10) fun r30 h32 => some (r30, h32)) = x → fX11_law h X (L : Int) = x := fun x hx => by
      unfold fX11_law
      refine gdg H.k (nng H.1.r705 (gdg k9 (?_)))
      rw [tp2]
      exact bdg (xIn_1 q.1 q.2) (iteF (by omega) (nng H.1.r707 (gdg (by rw [H.1.k44]) (bd2g er (gdg (by rw [X1.k0]) (nng X1.r705 (gdg (by rw [X1.k10]) (bdg eh0 (gdg k17 (nng (by rw [gR_pI]; exact X1.r705) (gdg (by rw [hK_pI, X1.k10]) (bdg ehf (hx)))))))))))))
    by_cases f0 : gI h1 578 (X + 10) = 0
    · -- a law
      have f17 : FL [13, 14, 15, 16] FCX X h1 (pI (pR (pI h1 577 (X + 10) 0) 718 X S) 721 X 0) := ((fl_pI h1 10 rfl (by decide)).tr (fl_pR _ 0 rfl (by decide))).tr (fl_q (q_pI _ (Or.inl ⟨rfl, rfl⟩)))
      have flh : FL [13, 14, 15, 16] FCX X h (pI (pR (pI h1 577 (X + 10) 0) 718 X S) 721 X 0) := (fl1.mono (by decide) (by decide)).tr f17
      have kR1 : (hK (pR (pI h1 577 (X + 10) 0) 718 X S) S).1 = 1 := by
        show (hK h1 S).1 = 1
        rw [Rd1.2.2.1]
      have i67 : gI (pR (pI h1 577 (X + 10) 0) 718 X S) 67 S = gI h1 67 S := by rw [gI_pR, gI_n (by omega)]
      have ecl : fX11_law h X (L : Int) = some (gI h1 67 S, pI (pR (pI h1 577 (X + 10) 0) 718 X S) 721 X 0) := by
        refine pre _ ?_
        rw [if_pos f0]
        refine iteT rfl (ltg (nng gR_s (gdg kR1 (?_))))
        rw [i67]
        unfold fX11_answer
        exact bd2g (gdg k17 rfl) rfl
      have a721 : gI (pI (pR (pI h1 577 (X + 10) 0) 718 X S) 721 X 0) 721 X = 0 := gI_pIs (rg_lit rfl)
      have v577 : gI (pI (pR (pI h1 577 (X + 10) 0) 718 X S) 721 X 0) 577 (X + 10) = 0 := by rw [gI_n (by omega), gI_pR]; exact gI_pIs (rg_lit rfl)
      have v578 : gI (pI (pR (pI h1 577 (X + 10) 0) 718 X S) 721 X 0) 578 (X + 10) = 0 := by rw [gI_n (by omega), gI_pR, gI_n (by omega)]; exact f0
      have v579 : gI (pI (pR (pI h1 577 (X + 10) 0) 718 X S) 721 X 0) 579 (X + 10) = -1 := by
        rw [gI_n (by omega), gI_pR, gI_n (by omega), HX1.2.2.2.2.2.1]
        exact HX1.2.2.2.2.2.2.1 (HX1.2.2.2.2.1.symm.trans f0)
      have v719 : gI (pI (pR (pI h1 577 (X + 10) 0) 718 X S) 721 X 0) 719 X = gI h 719 X := by rw [gI_n (by omega), gI_pR, gI_n (by omega), ((c1.2 X (by omega)).2.1 719 (by omega)).1]
      have v717 : gR (pI (pR (pI h1 577 (X + 10) 0) 718 X S) 721 X 0) 717 X = gR h 717 X := by rw [gR_pI, gR_n (by omega), gR_pI, ((c1.2 X (by omega)).2.1 717 (by omega)).2.2]
      have v718 : gR (pI (pR (pI h1 577 (X + 10) 0) 718 X S) 721 X 0) 718 X = some S := by rw [gR_pI]; exact gR_s
      have zf : hZ (pI (pR (pI h1 577 (X + 10) 0) 718 X S) 721 X 0) = hZ h1 := rfl
      clear pre
      generalize hhf : pI (pR (pI h1 577 (X + 10) 0) 718 X S) 721 X 0 = hf at *
      have zf' : X + 144 ≤ hZ hf := by omega
      have MSf : MS hf (X + 121) := G.1.fl flh J.z (by decide +kernel)
      have MS0 : MS (m0 hf X) (X + 121) := MSf
      have ku : gI (m0 hf X) 776 (X + 121) = (u : Int) := by
        show gI (pI (pI hf 769 (X + 121) 0) 768 (X + 121) 0) 776 (X + 121) = _
        rw [gI_n (by omega), gI_n (by omega), (flh.fi J.z (f := 776) (i := 121) (by decide +kernel)).1]; exact eu
      have kT' : ∀ i, i < L → gA (m0 hf X) (X + 121 + 4) i = T i := fun i hi => by
        show gA hf (X + 121 + 4) i = T i
        rw [show X + 121 + 4 = X + 125 from rfl, (flh.ro J.z (i := 125) (by decide +kernel)).1]; exact kT i hi
      obtain ⟨t, h1', m', -, -, gr, row, u0, P, kk0, er', erf⟩ := law_read (a1 := (L : Int)) J.z H.1 tp2 (by omega) (by omega) hT MS0 ku kT'
      have eh1 : h1 = h1' := by
        have := er.symm.trans er'
        injection this with e
        exact congrArg Prod.snd e
      subst eh1
      clear er er'
      obtain ⟨HX', K', Rd', Gd⟩ := P
      rw [← hS] at Rd' Gd
      have tf0 : tkF t = 0 := HX'.2.2.2.2.1.symm.trans f0
      obtain ⟨cn, g1, g2, g3, g4⟩ := Gd tf0
      have bad0 : gI m' 780 (X + 121) = 0 := K'.2.2.2.2.1.trans tf0
      have ew := isWell0 K'.k bad0
      have MSw : MS (pI (pI m' 778 (X + 121) 0) 779 (X + 121) (-1)) (X + 121) := K'.1.1
      have e794 : gI (pI (pI m' 778 (X + 121) 0) 779 (X + 121) (-1)) 794 (X + 121) = (cn : Int) := by rw [gI_n (by omega), gI_n (by omega)]; exact g3
      have fs : Fr (fun _ _ => False) (fun a => a = X + 121 + 5) (pI (pI m' 778 (X + 121) 0) 779 (X + 121) (-1)) (sA (pI (pI m' 778 (X + 121) 0) 779 (X + 121) (-1)) (X + 121 + 5) ((3 : Nat) : Int) (cn : Int)) := fr_sA _ rfl
      have cs : ∀ k, gA (sA (pI (pI m' 778 (X + 121) 0) 779 (X + 121) (-1)) (X + 121 + 5) ((3 : Nat) : Int) (cn : Int)) (X + 121 + 5) k = if k = 3 then (cn : Int) else gA m' (X + 121 + 5) k := fun k => gA_sAi (by unfold rg; omega)
      have MSs : MS (sA (pI (pI m' 778 (X + 121) 0) 779 (X + 121) (-1)) (X + 121 + 5) ((3 : Nat) : Int) (cn : Int)) (X + 121) := MSw
      obtain ⟨mf, ft, rowt, et⟩ := rTakeL (M := X + 121) (a1 := (L : Int)) 62 308 FU (sA (pI (pI m' 778 (X + 121) 0) 779 (X + 121) (-1)) (X + 121 + 5) ((3 : Nat) : Int) (cn : Int)) (by omega) (show 62 < 1000000 by omega) (by omega) MSs
      have f794 : gI mf 794 (X + 121) = (cn : Int) := by rw [ft.i (fun z => z), gI_sA]; exact e794
      have erfin : fX12_law hf (X + 121) (L : Int) = some ((cn : Int), mf) := by
        unfold fX12_law
        refine gdg MSf.k (ltg (ltg (erf.trans ?_)))
        unfold fX12_law_b49
        refine gdg K'.k (bd2g ew (iteF (by omega) (gdg MSw.k (nng MSw.r788 (gdg (by rw [MSw.k5]) (gdg (by rw [MSw.k5]; show 0 ≤ _ ∧ _ < (1850 : Int); omega) (?_)))))))
        rw [e794]
        refine ltg (et.trans ?_)
        rw [f794]
      have cc : ∀ k, gA mf (X + 121 + 5) k = if 308 ≤ k ∧ k < 370 then gA m' (X + 121 + 5) (1480 + k) else if k = 3 then (cn : Int) else gA m' (X + 121 + 5) k := fun k => by
        rw [rowt]
        by_cases y : 308 ≤ k ∧ k < 370
        · rw [if_pos y, if_pos y, cs, if_neg (by omega)]
        · rw [if_neg y, if_neg y, cs]
      have E : ∀ f a, a ≠ X + 121 → gI mf f a = gI hf f a := fun f a ha => by
        rw [ft.i (fun z => z), gI_sA, gI_n (Or.inr ha), gI_n (Or.inr ha), gr.i (fun z => ha z.1)]
        show gI (pI (pI hf 769 (X + 121) 0) 768 (X + 121) 0) f a = _
        rw [gI_n (Or.inr ha), gI_n (Or.inr ha)]
      have ER : ∀ f a, a ≠ X + 121 → gR mf f a = gR hf f a := fun f a ha => by
        rw [ft.r (fun z => z), gR_sA, gR_pI, gR_pI, gr.r (fun z => ha z.1)]
        rfl
      have y768 : gI mf 768 (X + 121) = 0 := by
        rw [ft.i (fun z => z), gI_sA, gI_n (by omega), gI_n (by omega), gr.i (by omega)]; exact m0_s hf X
      have y776 : gI mf 776 (X + 121) = 0 := by
        rw [ft.i (fun z => z), gI_sA, gI_n (by omega), gI_n (by omega)]; exact u0
      have y778 : gI mf 778 (X + 121) = 0 := by
        rw [ft.i (fun z => z), gI_sA, gI_n (by omega)]; exact gI_pIs (rg_lit rfl)
      have y779 : gI mf 779 (X + 121) = -1 := by
        rw [ft.i (fun z => z), gI_sA]; exact gI_pIs (rg_lit rfl)
      have flr : FL ERX FRW X hf mf := (((((fl_m (m0_q hf X)).tr ((gr_fl gr).mono (by decide) (by decide))).tr (fl_pI m' 121 rfl (by decide))).tr (fl_pI _ 121 rfl (by decide))).tr (fr_fl (i := 126) fs (by decide))).tr (fr_fl (i := 126) ft (by decide))
      have zfin : hZ hf ≤ hZ mf := flr.1
      clear ew et erf MSw ft rowt fs cs MSs
      have p : FL ESH FSH X h mf := (flh.mono (by decide) (by decide)).tr (flr.mono (by decide) (by decide))
      have p1 : FL ESH FSH X h1 mf := (f17.mono (by decide) (by decide)).tr (flr.mono (by decide) (by decide))
      generalize ec' : gA mf (X + 121 + 5) = c' at cc
      have rowc : ∀ k, k < 1480 → gA m' (X + 121 + 5) k = c k := fun k k2 => by
        rw [row k k2]
        show gA hf (X + 126) k = _
        rw [(flh.ro J.z (i := 126) (by decide +kernel)).1]
        exact congrFun G.2.1 k
      have c0 : c' 0 = c 0 := by rw [cc, if_neg (by omega), if_neg (by omega)]; exact rowc 0 (by omega)
      have c3 : c' 3 = (cn : Int) := by rw [cc, if_neg (by omega), if_pos rfl]
      have ag : AgS c c' := ⟨by rw [cc, if_neg (by omega), if_neg (by omega)]; exact rowc 1 (by omega), by rw [cc, if_neg (by omega), if_neg (by omega)]; exact rowc 2 (by omega), fun k k4 k8 => by rw [cc, if_neg (by omega), if_neg (by omega)]; exact rowc k (by omega)⟩
      have cr : ∀ k, 308 ≤ k → k < 370 → c' k = gA m' (X + 121 + 5) (1480 + k) := fun k k1 k2 => by rw [cc, if_pos ⟨k1, k2⟩]
      have wf : WF c' := by
        refine w.mk ag (by rw [c0]; exact w.day) (by rw [c3]; omega) (fun k k0 k8 => ?_)
        rw [c3] at k8
        obtain ⟨k, rfl⟩ := i2n k0
        obtain ⟨⟨a1, a2, a3⟩, a4, a5, a6⟩ := g4 k (by omega)
        rw [show (308 + 3 * (k : Int)).toNat = 308 + 3 * k by omega, show (308 + 3 * (k : Int) + 1).toNat = 308 + 3 * k + 1 by omega, show (308 + 3 * (k : Int) + 2).toNat = 308 + 3 * k + 2 by omega, cr _ (by omega) (by omega), cr _ (by omega) (by omega), cr _ (by omega) (by omega),
          show 1480 + (308 + 3 * k) = 1788 + 3 * k by omega, show 1480 + (308 + 3 * k + 1) = 1788 + 3 * k + 1 by omega, show 1480 + (308 + 3 * k + 2) = 1788 + 3 * k + 2 by omega, ← a1, ← a2, ← a3]
        exact ⟨a4, a5, a6⟩
      have lv1 : LV h1 S c' := by
        obtain ⟨l1, l2, l3, l4, l5, l6, l7⟩ := Rd'.2.2
        refine ⟨l1, l2, l3, l4, l5, l6, l7, by rw [c3]; exact g1, fun k k0 k8 => ?_⟩
        rw [c3] at k8
        obtain ⟨k, rfl⟩ := i2n k0
        obtain ⟨⟨a1, a2, a3⟩, -⟩ := g4 k (by omega)
        rw [Int.toNat_natCast, show (308 + 3 * (k : Int)).toNat = 308 + 3 * k by omega, show (308 + 3 * (k : Int) + 1).toNat = 308 + 3 * k + 1 by omega, show (308 + 3 * (k : Int) + 2).toNat = 308 + 3 * k + 2 by omega, cr _ (by omega) (by omega), cr _ (by omega) (by omega), cr _ (by omega) (by omega),
          show 1480 + (308 + 3 * k) = 1788 + 3 * k by omega, show 1480 + (308 + 3 * k + 1) = 1788 + 3 * k + 1 by omega, show 1480 + (308 + 3 * k + 2) = 1788 + 3 * k + 2 by omega]
        exact ⟨a1, a2, a3⟩
      obtain ⟨h2, h3, h4, ⟨S0, s1, s2, s3⟩, -⟩ := H
      have t717 : gR mf 717 X = some S0 := by rw [ER _ _ (by omega), v717]; exact s1
      have t718 : gR mf 718 X = some S := by rw [ER _ _ (by omega)]; exact v718
      have t719 : gI mf 719 X = c' 0 := by rw [E _ _ (by omega), v719, c0]; exact h4
      have sv : SV mf S0 c' := (s2.fl p J.z (by decide +kernel) s3 (J.b.2.1 S0 s1) w).ag w ag
      have lv : LV mf S c' := lv1.fl p1 z1 (by decide +kernel) (Or.inr (by omega)) (by omega)
      have zS : S0 + 27 ≤ hZ mf := Nat.le_trans (J.b.2.1 S0 s1) p.1
      have x577 : gI mf 577 (X + 10) = 0 := by rw [E _ _ (by omega)]; exact v577
      have x578 : gI mf 578 (X + 10) = 0 := by rw [E _ _ (by omega)]; exact v578
      have x579 : gI mf 579 (X + 10) = -1 := by rw [E _ _ (by omega)]; exact v579
      have flhR : FL [13, 14, 15, 16, 126, 127] (FCX ++ FRW) X h mf := (flh.mono (by decide) (by decide)).tr (flr.mono (by decide) (by decide))
      have rd : RD mf X := J.rd.fl flhR J.z (by decide +kernel)
      refine ⟨gI h1 67 S, hf, mf, ecl, erfin.trans (by rw [g1]), c', ⟨⟨h2.fl p J.z (by decide +kernel), wf, t719, ⟨S0, t717, sv, s3⟩, S, t718, lv, Or.inr (by omega)⟩, ⟨G.1.fl p J.z (by decide +kernel), ec', wf⟩, ⟨by omega, fun S' z => by rw [t717] at z; cases z; exact zS, fun R' z => by rw [t718] at z; cases z; omega⟩, J.tr.fl p J.z (by decide +kernel), inv_tp y776 x577 (x578.trans y778.symm) (x579.trans y779.symm), J.mk.fl p J.z (by decide +kernel) (bk_eq (fun k k1 k2 => by rw [cc, if_neg (by omega), if_neg (by omega)]; exact rowc k k2)), rd, J.mg.fl p J.z (by decide +kernel), J.cn.fl p J.z (by decide +kernel), J.sf.fl p J.z (by decide +kernel)⟩, ?_, ?_, ?_⟩
      · rw [E _ _ (by omega), a721, y768]
      · rw [(p.f0 J.z (f := 722) (by decide +kernel)).2.1, (p.fi J.z (f := 770) (i := 121) (by decide +kernel)).2.1]; exact i2
      · rw [(p.f0 J.z (f := 723) (by decide +kernel)).2.1, (p.fi J.z (f := 771) (i := 121) (by decide +kernel)).2.1]; exact i3
    · -- a fault
      have ecl : fX11_law h X (L : Int) = some (-1, pI (pI h1 577 (X + 10) 0) 721 X 10) := by
        refine pre _ ?_
        rw [if_neg f0]
        refine iteF (by omega) ?_
        unfold fX11_refuse
        exact bd2g (gdg k17 rfl) rfl
      have flh : FL [13, 14, 15, 16] FCX X h (pI (pI h1 577 (X + 10) 0) 721 X 10) := ((fl1.mono (by decide) (by decide)).tr (fl_pI h1 10 rfl (by decide))).tr (fl_q (q_pI _ (Or.inl ⟨rfl, rfl⟩)))
      have a721 : gI (pI (pI h1 577 (X + 10) 0) 721 X 10) 721 X = 10 := gI_pIs (rg_lit rfl)
      have v577 : gI (pI (pI h1 577 (X + 10) 0) 721 X 10) 577 (X + 10) = 0 := by rw [gI_n (by omega)]; exact gI_pIs (rg_lit rfl)
      have v578 : gI (pI (pI h1 577 (X + 10) 0) 721 X 10) 578 (X + 10) = gI h1 578 (X + 10) := by rw [gI_n (by omega), gI_n (by omega)]
      have v579 : gI (pI (pI h1 577 (X + 10) 0) 721 X 10) 579 (X + 10) = gI h1 579 (X + 10) := by rw [gI_n (by omega), gI_n (by omega)]
      have v719 : gI (pI (pI h1 577 (X + 10) 0) 721 X 10) 719 X = gI h 719 X := by rw [gI_n (by omega), gI_n (by omega), ((c1.2 X (by omega)).2.1 719 (by omega)).1]
      have v717 : ∀ f, gR (pI (pI h1 577 (X + 10) 0) 721 X 10) f X = gR h f X := fun f => by rw [gR_pI, gR_pI, ((c1.2 X (by omega)).2.1 f (by omega)).2.2]
      clear pre
      generalize hhf : pI (pI h1 577 (X + 10) 0) 721 X 10 = hf at *
      have zf' : X + 144 ≤ hZ hf := Nat.le_trans J.z flh.1
      have MSf : MS hf (X + 121) := G.1.fl flh J.z (by decide +kernel)
      have MS0 : MS (m0 hf X) (X + 121) := MSf
      have ku : gI (m0 hf X) 776 (X + 121) = (u : Int) := by
        show gI (pI (pI hf 769 (X + 121) 0) 768 (X + 121) 0) 776 (X + 121) = _
        rw [gI_n (by omega), gI_n (by omega), (flh.fi J.z (f := 776) (i := 121) (by decide +kernel)).1]; exact eu
      have kT' : ∀ i, i < L → gA (m0 hf X) (X + 121 + 4) i = T i := fun i hi => by
        show gA hf (X + 121 + 4) i = T i
        rw [show X + 121 + 4 = X + 125 from rfl, (flh.ro J.z (i := 125) (by decide +kernel)).1]; exact kT i hi
      obtain ⟨t, h1', m', -, -, gr, row, u0, P, kk0, er', erf⟩ := law_read (a1 := (L : Int)) J.z H.1 tp2 (by omega) (by omega) hT MS0 ku kT'
      have eh1 : h1 = h1' := by
        have := er.symm.trans er'
        injection this with e
        exact congrArg Prod.snd e
      subst eh1
      clear er er'
      obtain ⟨HX', K', -, -⟩ := P
      have tf : gI h1 578 (X + 10) = tkF t := HX'.2.2.2.2.1
      have tp : gI h1 579 (X + 10) = tkP t := HX'.2.2.2.2.2.1
      have tf0 : ¬ tkF t = 0 := fun z => f0 (tf.trans z)
      have bad0 : gI m' 780 (X + 121) = tkF t := K'.2.2.2.2.1
      have badp : gI m' 781 (X + 121) = tkP t := K'.2.2.2.2.2.1 tf0
      have ew := isWell1 K'.k bad0 tf0 badp
      have rf : rg (tkF t) := by rw [← tf]; exact gI_rg
      have rp : rg (tkP t) := by rw [← tp]; exact gI_rg
      have erfin : fX12_law hf (X + 121) (L : Int) = some (-1, pI (pI (pI m' 778 (X + 121) (tkF t)) 779 (X + 121) (tkP t)) 768 (X + 121) 10) := by
        unfold fX12_law
        refine gdg MSf.k (ltg (ltg (erf.trans ?_)))
        unfold fX12_law_b49
        exact gdg K'.k (bd2g ew (iteT rfl (rfl)))
      have E : ∀ f a, a ≠ X + 121 → gI (pI (pI (pI m' 778 (X + 121) (tkF t)) 779 (X + 121) (tkP t)) 768 (X + 121) 10) f a = gI hf f a := fun f a ha => by
        rw [gI_n (Or.inr ha), gI_n (Or.inr ha), gI_n (Or.inr ha), gr.i (fun z => ha z.1)]
        show gI (pI (pI hf 769 (X + 121) 0) 768 (X + 121) 0) f a = _
        rw [gI_n (Or.inr ha), gI_n (Or.inr ha)]
      have ER : ∀ f a, a ≠ X + 121 → gR (pI (pI (pI m' 778 (X + 121) (tkF t)) 779 (X + 121) (tkP t)) 768 (X + 121) 10) f a = gR hf f a := fun f a ha => by
        rw [gR_pI, gR_pI, gR_pI, gr.r (fun z => ha z.1)]
        rfl
      have y768 : gI (pI (pI (pI m' 778 (X + 121) (tkF t)) 779 (X + 121) (tkP t)) 768 (X + 121) 10) 768 (X + 121) = 10 := gI_pIs (rg_lit rfl)
      have y776 : gI (pI (pI (pI m' 778 (X + 121) (tkF t)) 779 (X + 121) (tkP t)) 768 (X + 121) 10) 776 (X + 121) = 0 := by
        rw [gI_n (by omega), gI_n (by omega), gI_n (by omega)]; exact u0
      have y778 : gI (pI (pI (pI m' 778 (X + 121) (tkF t)) 779 (X + 121) (tkP t)) 768 (X + 121) 10) 778 (X + 121) = tkF t := by
        rw [gI_n (by omega), gI_n (by omega)]; exact gI_pIs rf
      have y779 : gI (pI (pI (pI m' 778 (X + 121) (tkF t)) 779 (X + 121) (tkP t)) 768 (X + 121) 10) 779 (X + 121) = tkP t := by
        rw [gI_n (by omega)]; exact gI_pIs rp
      have flr : FL ERX FRW X hf (pI (pI (pI m' 778 (X + 121) (tkF t)) 779 (X + 121) (tkP t)) 768 (X + 121) 10) := ((((fl_m (m0_q hf X)).tr ((gr_fl gr).mono (by decide) (by decide))).tr (fl_pI m' 121 rfl (by decide))).tr (fl_pI _ 121 rfl (by decide))).tr (fl_m (q_pI _ ⟨rfl, by omega⟩))
      have cc : ∀ k, k < 1480 → gA (pI (pI (pI m' 778 (X + 121) (tkF t)) 779 (X + 121) (tkP t)) 768 (X + 121) 10) (X + 121 + 5) k = c k := fun k hk => by
        rw [gA_pI, gA_pI, gA_pI, row k hk]
        show gA hf (X + 126) k = _
        rw [(flh.ro J.z (i := 126) (by decide +kernel)).1]
        exact congrFun G.2.1 k
      generalize pI (pI (pI m' 778 (X + 121) (tkF t)) 779 (X + 121) (tkP t)) 768 (X + 121) 10 = mf at *
      clear ew erf
      have p : FL ESH FSH X h mf := (flh.mono (by decide) (by decide)).tr (flr.mono (by decide) (by decide))
      generalize ec' : gA mf (X + 121 + 5) = c' at cc
      obtain ⟨h2, h3, h4, ⟨S0, s1, s2, s3⟩, R0, r1, r2, r3⟩ := H
      have ag : AgS c c' := ⟨cc 1 (by omega), cc 2 (by omega), fun k _ k8 => cc k (by omega)⟩
      have al : AgL c c' := ⟨cc 3 (by omega), fun k _ k8 => cc k (by omega)⟩
      have wf : WF c' := w.ag ag al (by rw [cc 0 (by omega)]; exact w.day)
      have t717 : gR mf 717 X = some S0 := by rw [ER _ _ (by omega), v717]; exact s1
      have t718 : gR mf 718 X = some R0 := by rw [ER _ _ (by omega), v717]; exact r1
      have t719 : gI mf 719 X = c' 0 := by rw [E _ _ (by omega), v719, cc 0 (by omega)]; exact h4
      have sv : SV mf S0 c' := (s2.fl p J.z (by decide +kernel) s3 (J.b.2.1 S0 s1) w).ag w ag
      have lv : LV mf R0 c' := (r2.fl p J.z (by decide +kernel) r3 (J.b.2.2 R0 r1)).ag w al
      have zS : S0 + 27 ≤ hZ mf := Nat.le_trans (J.b.2.1 S0 s1) p.1
      have zR : R0 + 4 ≤ hZ mf := Nat.le_trans (J.b.2.2 R0 r1) p.1
      have x577 : gI mf 577 (X + 10) = 0 := by rw [E _ _ (by omega)]; exact v577
      have x578 : gI mf 578 (X + 10) = tkF t := by rw [E _ _ (by omega), v578]; exact tf
      have x579 : gI mf 579 (X + 10) = tkP t := by rw [E _ _ (by omega), v579]; exact tp
      have flhR : FL [13, 14, 15, 16, 126, 127] (FCX ++ FRW) X h mf := (flh.mono (by decide) (by decide)).tr (flr.mono (by decide) (by decide))
      have rd : RD mf X := J.rd.fl flhR J.z (by decide +kernel)
      refine ⟨-1, hf, mf, ecl, erfin, c', ⟨⟨h2.fl p J.z (by decide +kernel), wf, t719, ⟨S0, t717, sv, s3⟩, R0, t718, lv, r3⟩, ⟨G.1.fl p J.z (by decide +kernel), ec', wf⟩, ⟨Nat.le_trans zf' flr.1, fun S' z => by rw [t717] at z; cases z; exact zS, fun R' z => by rw [t718] at z; cases z; exact zR⟩, J.tr.fl p J.z (by decide +kernel), inv_tp y776 x577 (x578.trans y778.symm) (x579.trans y779.symm), J.mk.fl p J.z (by decide +kernel) (bk_eq (fun k _ k2 => cc k k2)), rd, J.mg.fl p J.z (by decide +kernel), J.cn.fl p J.z (by decide +kernel), J.sf.fl p J.z (by decide +kernel)⟩, ?_, ?_, ?_⟩
      · rw [E _ _ (by omega), a721, y768]
      · rw [(p.f0 J.z (f := 722) (by decide +kernel)).2.1, (p.fi J.z (f := 770) (i := 121) (by decide +kernel)).2.1]; exact i2
      · rw [(p.f0 J.z (f := 723) (by decide +kernel)).2.1, (p.fi J.z (f := 771) (i := 121) (by decide +kernel)).2.1]; exact i3
  · -- a number that can't be
    refine ok3 I J ⟨5, -1, ?_, fun h1 p => ?_⟩
    · show XR (fX11_law h X n) h X _ _
      have wi : fX11_within n 0 (min (gI h 577 (X + 10)) 300) = some 0 := by rw [tp2]; exact xIn_0 q
      unfold fX11_law
      exact XR.of (gdg H.k (nng H.1.r705 (gdg k9 (bdg wi (iteT rfl (bd2_id _)))))) (xr_re H.k (QR.rf h) (rg_lit rfl))
    · obtain ⟨ms, hc, -⟩ := G.q p
      have n1 : ¬ sc X (X + 121) := by unfold sc; omega
      have y1 : gI (pI (pI h1 769 (X + 121) 0) 768 (X + 121) 0) 776 (X + 121) = (u : Int) := by rw [gI_n (by omega), gI_n (by omega), p.i n1 (fun y => by unfold pX at y; omega)]; exact eu
      show MR (fX12_law h1 (X + 121) n) h1 X _ _
      have eno : fX12_no (pI (pI h1 769 (X + 121) 0) 768 (X + 121) 0) (X + 121) 5 = some (0, pI (pI (pI h1 769 (X + 121) 0) 768 (X + 121) 0) 768 (X + 121) 5) := by
        unfold fX12_no
        exact gdg ms.k rfl
      have eop : fX12_opens (pI (pI h1 769 (X + 121) 0) 768 (X + 121) 0) (X + 121) n 300 = some (0, pI (pI (pI h1 769 (X + 121) 0) 768 (X + 121) 0) 768 (X + 121) 5) := by
        unfold fX12_opens
        rw [y1]
        by_cases n0 : n < 0
        · exact iteT n0 (gdg ms.k (bd2g eno (rfl)))
        · by_cases nu : n ≤ (u : Int)
          · exact iteF n0 (gdg ms.k (iteT nu (iteF (by omega) (bd2g eno (rfl)))))
          · exact iteF n0 (gdg ms.k (iteF nu (bd2g eno (rfl))))
      unfold fX12_law
      exact MR.of (gdg ms.k (ltg (ltg (bd2g eop (iteT rfl (rfl)))))) (mr_st2 (rg_lit rfl))
