/-! THE RULES OF A LAW, both sides -/
def tzLg (R M : Nat) (h m : Hp) (n : Nat) : Prop := gI h 67 R = (n : Int) ∧ n ≤ 12 ∧ gI m 794 M = (n : Int) ∧
  ∀ k, k < n → (gA h (R + 1) k = gA m (M + 5) (1788 + 3 * k) ∧ gA h (R + 2) k = gA m (M + 5) (1788 + 3 * k + 1) ∧ gA h (R + 3) k = gA m (M + 5) (1788 + 3 * k + 2)) ∧ (0 ≤ gA h (R + 1) k ∧ gA h (R + 1) k ≤ 27) ∧ (0 ≤ gA h (R + 2) k ∧ gA h (R + 2) k ≤ 27) ∧ (0 ≤ gA h (R + 3) k ∧ gA h (R + 3) k ≤ 28)
def tzLi (X R M L : Nat) (T : Nat → Int) (t : TkS) (h m : Hp) : Prop := tzXt X L T t h ∧ tzMt M L T t m ∧ LRd X R h ∧ (tkF t = 0 → ∃ n, tzLg R M h m n)
set_option maxHeartbeats 200000 in
theorem tzR_ok {L : Nat} {T : Nat → Int} {t : TkS} (o : tzOk L T t) : tzOk L T (tzKd L T t).2 ∧ tzOk L T (tzGf L T t).2 := by
  have lr : tzOk L T (tzLr L T t).2 := by
    unfold tzLr
    split
    · split
      · split
        · exact tzNt_ok o
        · split
          · exact tzNt_ok o
          · exact tzSt_ok o
      · exact tzSt_ok o
    · exact o
  refine ⟨?_, ?_⟩
  · unfold tzKd
    split
    · exact tzNt_ok o
    · exact lr
  · unfold tzGf
    split
    · exact tzNt_ok o
    · split
      · exact tzNt_ok o
      · exact lr
set_option maxHeartbeats 200000 in
/-- no fault at the end: none on the way, and the text went on -/
theorem tzR7_s {L : Nat} {T : Nat → Int} {t : TkS} (o : tzOk L T t) (h : tkF (tzR7 L T t) = 0) : tkF (tzR2 L T t) = 0 ∧ tkF (tzR4 L T t) = 0 ∧ tkF (tzR6 L T t) = 0 ∧ tkF t = 0 ∧ tkS t ≤ tkS (tzR7 L T t) := by
  have o2 := (tzR_ok o).1
  have o3 : tzOk L T (tzR3 L T t) := tzMu_ok o2
  have o4 := (tzR_ok o3).1
  have o5 : tzOk L T (tzR5 L T t) := tzMu_ok o4
  have o6 := (tzR_ok o5).2
  have s7 := tzMu_s o6 h
  have s6 := tzGf_s o5 s7.1
  have s5 := tzMu_s o4 s6.1
  have s4 := tzKd_s o3 s5.1
  have s3 := tzMu_s o2 s4.1
  have s2 := tzKd_s o s3.1
  exact ⟨s3.1, s5.1, s7.1, s2.1, Nat.le_trans s2.2 (Nat.le_trans s3.2 (Nat.le_trans s4.2 (Nat.le_trans s5.2 (Nat.le_trans s6.2 s7.2))))⟩
set_option maxHeartbeats 200000 in
theorem tzl_rule {X R M L : Nat} {T : Nat → Int} {t : TkS} {h m : Hp} (P : tzLi X R M L T t h m) (f0 : tkF t = 0) (k0 : ¬ tkK t = 0) :
    ∃ h' m' t', FLw X R h h' ∧ GKl M m m' ∧ fX2_readRule h (X + 44) R = some h' ∧ fX12_readRule m M = some m' ∧ tzLi X R M L T t' h' m' ∧ (tkF t' = 0 → tkS t < tkS t') := by
  obtain ⟨H, K, Q, G⟩ := id P
  obtain ⟨n, c, n12, c2, rl⟩ := G f0
  have XR0 := Q.2.1
  have kR : (hK h R).1 = 1 := by rw [Q.2.2.1]
  have hf := K.f0
  have o := H.ok
  have lt0 := o.2.2.2.2.1 k0
  have nx := tzNt_s o
  have em := tzx_isB (w := tzMx) H rfl
  have gm := tzm_isMix K
  -- behind a fault both are through
  have fault : ∀ (t' : TkS) (h1 m1 : Hp), FT X h h1 → GT M m m1 → tzXt X L T t' h1 → tzMt M L T t' m1 → ¬ tkF t' = 0 → fX2_readRule h (X + 44) R = fX2_readRule_b30 (X + 44) R h1 → fX12_readRule m M = some m1 →
      ∃ h' m' t', FLw X R h h' ∧ GKl M m m' ∧ fX2_readRule h (X + 44) R = some h' ∧ fX12_readRule m M = some m' ∧ tzLi X R M L T t' h' m' ∧ (tkF t' = 0 → tkS t < tkS t') := fun t' h1 m1 p1 q1 H1 K1 nf e1 e2 => by
    obtain ⟨h', v1, v2, v3, p2, H2, e3, -⟩ := tzx_b30 H1 (Q.ft p1) ((p1.i (by clear nf; omega)).trans c) n12
    rw [tzMu_n nf, tzR7_n nf] at H2
    exact ⟨h', m1, t', (ft_flw p1).tr p2, gt_gl q1, e1.trans e3, e2, ⟨H2, K1, (Q.ft p1).fr p2, fun z => absurd z nf⟩, fun z => absurd z nf⟩
  have b37n : ∀ {t' : TkS} {m1 : Hp}, tzMt M L T t' m1 → ¬ tkF t' = 0 → fX12_readRule_b37 M m1 = some m1 := fun {t'} {m1} K1 nf => by
    have hf := K1.f0
    unfold fX12_readRule_b37
    rw [K1.2.2.2.2.1]
    exact gdg K1.k (iteT (by omega) (rfl))
  have b11n : ∀ {t' : TkS} {m1 : Hp}, tzMt M L T t' m1 → ¬ tkF t' = 0 → fX12_readRule_b11 M m1 = some m1 := fun {t'} {m1} K1 nf => by
    unfold fX12_readRule_b11
    rw [K1.2.2.2.2.1]
    exact gdg K1.k (iteF nf (b37n K1 nf))
  cases q : tzI T t tzMx with
  | false =>
    rw [q] at em
    rw [show tzI T t [109, 105, 120] = false from q] at gm
    obtain ⟨m1, r1, r2, r3⟩ := tzm_wrong K
    have e2 : fX12_readRule m M = some m1 := by
      unfold fX12_readRule
      exact gdg K.k (bdg gm (iteT rfl (bdg r3 (b11n r2 (tzSt_0 (by omega))))))
    -- the class takes 'mix' and stops there
    obtain ⟨h', v1, v2, v3, p2, H2, e3, -⟩ := tzx_b30 H Q c n12
    have et : tzMu L T t (tzI T t tzMx) = tzSt t 2 := by unfold tzMu; rw [if_pos f0, q, if_neg Bool.false_ne_true]
    have nf : ¬ tkF (tzSt t 2) = 0 := tzSt_0 (by omega)
    rw [et, tzR7_n nf] at H2
    refine ⟨h', m1, tzSt t 2, p2, gt_gl r1, ?_, e2, ⟨H2, r2, Q.fr p2, fun z => absurd z nf⟩, fun z => absurd z nf⟩
    unfold fX2_readRule
    rw [c]
    by_cases y : n < 12
    · exact gdg kR (iteT (by omega) (e3))
    · exact gdg kR (iteF (by omega) (gdg (by rw [Q.1.k44]) (nng Q.1.r128 (gdg H.k (bdg em (iteT rfl (e3)))))))
  | true =>
    rw [q] at em
    rw [show tzI T t [109, 105, 120] = true from q] at gm
    have k1 := (tzIs_len q).1
    by_cases y : n < 12
    · obtain ⟨h', v1, v2, v3, p2, H2, e3, x1, x2, x3, d1, d2, d3, w1, -⟩ := tzx_b30 H Q c n12
      have et : tzMu L T t (tzI T t tzMx) = tzNt L T t := by unfold tzMu; rw [if_pos f0, q, if_pos rfl]
      rw [et] at H2 x1 x2 x3
      obtain ⟨m', u1, u2, u3, q1, K2, g1, y1, y2, y3, y4, rows⟩ := tzm_b37 K f0 c2 y
      have s7 := tzHd_m (@tzR7_s L T (tzNt L T t) (tzNt_ok o))
      obtain ⟨w0, w1a, w1b, w1c, w1d⟩ := w1 y
      refine ⟨h', m', tzR7 L T (tzNt L T t), p2, q1, ?_, ?_, ⟨H2, K2, Q.fr p2, fun z => ?_⟩, fun z => ?_⟩
      · unfold fX2_readRule
        rw [c]
        exact gdg kR (iteT (by omega) (e3))
      · unfold fX12_readRule fX12_readRule_b11
        rw [K.2.2.2.2.1, c2]
        exact gdg K.k (bdg gm (iteF (by decide) (gdg K.k (iteT f0 (iteF (by omega) (g1))))))
      · obtain ⟨z2, z4, z6, z1, z7⟩ := s7 z
        have c3 := y4 z
        have f1 := (x1 z2).trans (y1 z2).symm
        have f2 := (x2 z4).trans (y2 z4).symm
        have f3 := (x3 z6).trans (y3 z6).symm
        clear x1 x2 x3 y1 y2 y3 y4 s7 z z1 z2 z4 z6 z7 nx H2 K2
        refine ⟨n + 1, w0, by omega, c3, fun k hk => ?_⟩
        by_cases e : k = n
        · rw [e, w1a, w1b, w1c, rows, rows, rows, if_neg (by omega), if_neg (by omega), if_pos rfl, if_neg (by omega), if_pos rfl, if_pos rfl]
          exact ⟨⟨f1, f2, f3⟩, d1, d2, d3⟩
        · obtain ⟨a1, a2, a3⟩ := w1d k e
          rw [a1, a2, a3, rows, rows, rows, if_neg (by omega), if_neg (by omega), if_neg (by omega), if_neg (by omega), if_neg (by omega), if_neg (by omega), if_neg (by omega), if_neg (by omega), if_neg (by omega)]
          exact rl k (by omega)
      · exact Nat.lt_of_lt_of_le lt0 (Nat.le_trans nx (s7 z).2.2.2.2)
    · obtain ⟨h1, p1, p2, p3⟩ := tzx_stop (r := 6) H (by omega)
      obtain ⟨m1, r1, r2, r3⟩ := tzm_fail (r := 6) K (by omega) (by omega)
      refine fault (tzSt t 6) h1 m1 p1 r1 p2 r2 (tzSt_0 (by omega)) ?_ ?_
      · unfold fX2_readRule
        rw [c]
        exact gdg kR (iteF (by omega) (gdg (by rw [Q.1.k44]) (nng Q.1.r128 (gdg H.k (bdg em (iteF (by decide) (bdg p3 (rfl))))))))
      · unfold fX12_readRule fX12_readRule_b11
        rw [K.2.2.2.2.1, c2, K.2.2.1]
        exact gdg K.k (bdg gm (iteF (by decide) (gdg K.k (iteT f0 (iteT (by omega) (bdg r3 (b37n r2 (tzSt_0 (by omega)))))))))
set_option maxHeartbeats 200000 in
theorem tzl_loop {X R M L : Nat} {T : Nat → Int} {a1 : Int} : ∀ n (i fu gu : Nat) (t : TkS) (h m : Hp), n + 1 < fu → n + 1 < gu → (tkF t = 0 → i ≤ tkS t ∧ L - tkS t ≤ n) → tzLi X R M L T t h m →
    ∃ h' m' t', FLw X R h h' ∧ GKl M m m' ∧ fX2_readLaw_b18 (X + 44) (L : Int) fu h 4 40 R (i : Int) = some (R, h') ∧ fX12_law_b28 M a1 gu m = fX12_law_b49 M a1 m' ∧ tzLi X R M L T t' h' m' ∧ (tkF t' = 0 → tkK t' = 0) := by
  have stop : ∀ (i fu gu : Nat) (t : TkS) (h m : Hp), ¬ tkF t = 0 → tzLi X R M L T t h m → ∃ h' m' t', FLw X R h h' ∧ GKl M m m' ∧ fX2_readLaw_b18 (X + 44) (L : Int) (fu + 1) h 4 40 R (i : Int) = some (R, h') ∧ fX12_law_b28 M a1 (gu + 1) m = fX12_law_b49 M a1 m' ∧ tzLi X R M L T t' h' m' ∧ (tkF t' = 0 → tkK t' = 0) := by
    intro i fu gu t h m f0 P
    obtain ⟨H, K, Q, G⟩ := id P
    refine ⟨h, m, t, Fr.rf h, GKl.rf m, ?_, ?_, P, fun z => absurd z f0⟩
    · have e := tzx_hasF H
      rw [if_neg f0] at e
      rw [fX2_readLaw_b18.eq_2]
      by_cases y : (i : Int) ≤ (L : Int)
      · exact iteT y (gdg (by rw [Q.1.k44]) (nng Q.1.r128 (gdg H.k (gdg (by omega) (bdg e (iteF (by omega) (gdg (by omega) (rfl))))))))
      · exact iteF y (gdg (by omega) (rfl))
    · rw [fX12_law_b28.eq_2, K.2.2.2.2.1]
      exact gdg K.k (iteF f0 (rfl))
  have fin : ∀ (i fu gu : Nat) (t : TkS) (h m : Hp), tkK t = 0 → i ≤ tkS t → tkF t = 0 → tzLi X R M L T t h m → ∃ h' m' t', FLw X R h h' ∧ GKl M m m' ∧ fX2_readLaw_b18 (X + 44) (L : Int) (fu + 1) h 4 40 R (i : Int) = some (R, h') ∧ fX12_law_b28 M a1 (gu + 1) m = fX12_law_b49 M a1 m' ∧ tzLi X R M L T t' h' m' ∧ (tkF t' = 0 → tkK t' = 0) := by
    intro i fu gu t h m k0 hi f0 P
    obtain ⟨H, K, Q, G⟩ := id P
    have o := H.ok
    have o1 := o.1
    have o2 := o.2.1
    refine ⟨h, m, t, Fr.rf h, GKl.rf m, ?_, ?_, P, fun _ => k0⟩
    · have e := tzx_hasF H
      rw [if_pos f0] at e
      have e2 := tzx_atE H
      rw [if_pos k0] at e2
      rw [fX2_readLaw_b18.eq_2]
      exact iteT (by omega) (gdg (by rw [Q.1.k44]) (nng Q.1.r128 (gdg H.k (gdg (by omega) (bdg e (iteT rfl (gdg (by omega) (bdg e2 (iteF (by omega) (gdg (by omega) (rfl)))))))))))
    · rw [fX12_law_b28.eq_2, K.2.2.2.2.1, K.2.1]
      exact gdg K.k (iteT f0 (iteT k0 (rfl)))
  intro n
  induction n with
  | zero =>
    intro i fu gu t h m h1 h2 h3 P
    obtain ⟨fu, rfl⟩ : ∃ k, fu = k + 1 := ⟨fu - 1, by omega⟩
    obtain ⟨gu, rfl⟩ : ∃ k, gu = k + 1 := ⟨gu - 1, by omega⟩
    by_cases f0 : tkF t = 0
    · have o := P.1.ok
      have o2 := o.2.1
      have o5 := o.2.2.2.2.1
      have h3' := h3 f0
      have k0 : tkK t = 0 := by
        by_cases y : tkK t = 0
        · exact y
        · have := o5 y; omega
      exact fin i fu gu t h m k0 h3'.1 f0 P
    · exact stop i fu gu t h m f0 P
  | succ n ih =>
    intro i fu gu t h m h1 h2 h3 P
    obtain ⟨fu, rfl⟩ : ∃ k, fu = k + 1 := ⟨fu - 1, by omega⟩
    obtain ⟨gu, rfl⟩ : ∃ k, gu = k + 1 := ⟨gu - 1, by omega⟩
    by_cases f0 : tkF t = 0
    · have h3' := h3 f0
      by_cases k0 : tkK t = 0
      · exact fin i fu gu t h m k0 h3'.1 f0 P
      · obtain ⟨H, K, Q, G⟩ := id P
        have o := H.ok
        have o2 := o.2.1
        have o5 := o.2.2.2.2.1 k0
        have l9 := H.l
        have ew : WE ((i : Int) + 1) := we (by omega) (by omega)
        have e := tzx_hasF H
        rw [if_pos f0] at e
        have e2 := tzx_atE H
        rw [if_neg k0] at e2
        obtain ⟨h1, m1, t2, fc, gk, ef, eg, P2, pr⟩ := tzl_rule P f0 k0
        obtain ⟨h', m', t', fc', gk', q1, q2, P', q3⟩ := ih (i + 1) fu gu t2 h1 m1 (by omega) (by omega) (fun z => by have := pr z; omega) P2
        refine ⟨h', m', t', fc.tr fc', gk.tr gk', ?_, ?_, P', q3⟩
        · rw [fX2_readLaw_b18.eq_2, ew.e]
          refine iteT (by omega) (gdg (by rw [Q.1.k44]) (nng Q.1.r128 (gdg H.k (gdg (by omega) (bdg e (iteT rfl (gdg (by omega) (bdg e2 (iteT rfl (gdg (by omega) (bdg ef (ltg (?_)))))))))))))
          rw [show ((i : Int) + 1) = ((i + 1 : Nat) : Int) by omega]; exact q1
        · rw [fX12_law_b28.eq_2, K.2.2.2.2.1, K.2.1]
          exact gdg K.k (iteT f0 (iteF k0 (bdg eg (q2))))
    · exact stop i fu gu t h m f0 P
