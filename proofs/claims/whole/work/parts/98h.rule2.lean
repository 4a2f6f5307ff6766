/-! A RULE, both sides -/
def tzMx : List Nat := [109, 105, 120]
def tzWi : List Nat := [119, 105, 116, 104]
def tzGi : List Nat := [103, 105, 118, 101, 115]
/-- from the first kind on -/
def tzR2 (L : Nat) (T : Nat → Int) (t : TkS) : TkS := (tzKd L T t).2
def tzR3 (L : Nat) (T : Nat → Int) (t : TkS) : TkS := tzMu L T (tzR2 L T t) (tzI T (tzR2 L T t) tzWi)
def tzR4 (L : Nat) (T : Nat → Int) (t : TkS) : TkS := (tzKd L T (tzR3 L T t)).2
def tzR5 (L : Nat) (T : Nat → Int) (t : TkS) : TkS := tzMu L T (tzR4 L T t) (tzI T (tzR4 L T t) tzGi)
def tzR6 (L : Nat) (T : Nat → Int) (t : TkS) : TkS := (tzGf L T (tzR5 L T t)).2
def tzR7 (L : Nat) (T : Nat → Int) (t : TkS) : TkS := tzMu L T (tzR6 L T t) (decide (tkK (tzR6 L T t) = 3))
set_option maxHeartbeats 200000 in
theorem tzLr_n {L : Nat} {T : Nat → Int} {t : TkS} (h : ¬ tkF t = 0) : (tzLr L T t).2 = t := by unfold tzLr; rw [if_neg h]
set_option maxHeartbeats 200000 in
theorem tzKd_n {L : Nat} {T : Nat → Int} {t : TkS} (h : ¬ tkF t = 0) : (tzKd L T t).2 = t := by unfold tzKd; rw [if_neg (fun z => h z.1)]; exact tzLr_n h
set_option maxHeartbeats 200000 in
theorem tzGf_n {L : Nat} {T : Nat → Int} {t : TkS} (h : ¬ tkF t = 0) : (tzGf L T t).2 = t := by unfold tzGf; rw [if_neg (fun z => h z.1), if_neg (fun z => h z.1)]; exact tzLr_n h
set_option maxHeartbeats 200000 in
theorem tzR7_n {L : Nat} {T : Nat → Int} {t : TkS} (h : ¬ tkF t = 0) : tzR7 L T t = t := by
  have e2 : tzR2 L T t = t := tzKd_n h
  have e3 : tzR3 L T t = t := by unfold tzR3; rw [e2]; exact tzMu_n h
  have e4 : tzR4 L T t = t := by unfold tzR4; rw [e3]; exact tzKd_n h
  have e5 : tzR5 L T t = t := by unfold tzR5; rw [e4]; exact tzMu_n h
  have e6 : tzR6 L T t = t := by unfold tzR6; rw [e5]; exact tzGf_n h
  unfold tzR7
  rw [e6]
  exact tzMu_n h
set_option maxHeartbeats 200000 in
theorem tzLr_s {L : Nat} {T : Nat → Int} {t : TkS} (o : tzOk L T t) (h : tkF (tzLr L T t).2 = 0) : tkF t = 0 ∧ tkS t ≤ tkS (tzLr L T t).2 := by
  have nx : tkS t ≤ tkS (tzNt L T t) := Nat.le_trans o.1 (tzNt_s o)
  unfold tzLr at h ⊢
  by_cases f0 : tkF t = 0
  · rw [if_pos f0] at h ⊢
    by_cases k1 : tkK t = 1
    · rw [if_pos k1] at h ⊢
      by_cases l1 : tkE t - tkS t = 1
      · rw [if_pos l1]; exact ⟨f0, nx⟩
      · rw [if_neg l1] at h ⊢
        cases q : tzI T t tzRe with
        | true => rw [if_pos (rfl : true = true)]; exact ⟨f0, nx⟩
        | false =>
          rw [q, if_neg Bool.false_ne_true] at h
          exact absurd h (tzSt_0 (by omega))
    · rw [if_neg k1] at h
      exact absurd h (tzSt_0 (by omega))
  · rw [if_neg f0] at h
    exact absurd h f0
set_option maxHeartbeats 200000 in
theorem tzKd_s {L : Nat} {T : Nat → Int} {t : TkS} (o : tzOk L T t) (h : tkF (tzKd L T t).2 = 0) : tkF t = 0 ∧ tkS t ≤ tkS (tzKd L T t).2 := by
  have nx : tkS t ≤ tkS (tzNt L T t) := Nat.le_trans o.1 (tzNt_s o)
  unfold tzKd at h ⊢
  by_cases q : tkF t = 0 ∧ tzI T t tzAn = true
  · rw [if_pos q]; exact ⟨q.1, nx⟩
  · rw [if_neg q] at h ⊢; exact tzLr_s o h
set_option maxHeartbeats 200000 in
theorem tzGf_s {L : Nat} {T : Nat → Int} {t : TkS} (o : tzOk L T t) (h : tkF (tzGf L T t).2 = 0) : tkF t = 0 ∧ tkS t ≤ tkS (tzGf L T t).2 := by
  have nx : tkS t ≤ tkS (tzNt L T t) := Nat.le_trans o.1 (tzNt_s o)
  unfold tzGf at h ⊢
  by_cases q : tkF t = 0 ∧ tzI T t tzFi = true
  · rw [if_pos q]; exact ⟨q.1, nx⟩
  · rw [if_neg q] at h ⊢
    by_cases q2 : tkF t = 0 ∧ tzI T t tzSe = true
    · rw [if_pos q2]; exact ⟨q2.1, nx⟩
    · rw [if_neg q2] at h ⊢; exact tzLr_s o h
set_option maxHeartbeats 200000 in
/-- the class adds a rule -/
theorem tzx_add {X R n : Nat} {h : Hp} {a b d : Int} (Q : LRd X R h) (c : gI h 67 R = (n : Int)) (n12 : n ≤ 12) (ra : 0 ≤ a ∧ a ≤ 100) (rb : 0 ≤ b ∧ b ≤ 100) (rd : 0 ≤ d ∧ d ≤ 100) :
    ∃ h', Fr (fun f x => x = R ∧ f = 67) (fun x => R + 1 ≤ x ∧ x ≤ R + 3) h h' ∧ fX1_add h R a b d = some h' ∧ (n < 12 → gI h' 67 R = ((n + 1 : Nat) : Int) ∧ gA h' (R + 1) n = a ∧ gA h' (R + 2) n = b ∧ gA h' (R + 3) n = d ∧ ∀ k, k ≠ n → gA h' (R + 1) k = gA h (R + 1) k ∧ gA h' (R + 2) k = gA h (R + 2) k ∧ gA h' (R + 3) k = gA h (R + 3) k) ∧ (¬ n < 12 → gI h' 67 R = 12) := by
  obtain ⟨HX, XR0, g1, g2, g3, g4, g5, g6, g7⟩ := Q
  have kR : (hK h R).1 = 1 := by rw [g1]
  unfold fX1_add
  rw [c]
  by_cases q : n < 12
  · have ew : WE ((n : Int) + 1) := we (by omega) (by omega)
    have f1 : Fr (fun f x => x = R ∧ f = 67) (fun x => R + 1 ≤ x ∧ x ≤ R + 3) h (sA h (R + 1) (n : Int) a) := fr_sA h ⟨Nat.le_refl _, by omega⟩
    have f2 : Fr (fun f x => x = R ∧ f = 67) (fun x => R + 1 ≤ x ∧ x ≤ R + 3) (sA h (R + 1) (n : Int) a) (sA (sA h (R + 1) (n : Int) a) (R + 2) (n : Int) b) := fr_sA _ ⟨by omega, by omega⟩
    have f3 : Fr (fun f x => x = R ∧ f = 67) (fun x => R + 1 ≤ x ∧ x ≤ R + 3) (sA (sA h (R + 1) (n : Int) a) (R + 2) (n : Int) b) (sA (sA (sA h (R + 1) (n : Int) a) (R + 2) (n : Int) b) (R + 3) (n : Int) d) := fr_sA _ ⟨by omega, by omega⟩
    have f4 : Fr (fun f x => x = R ∧ f = 67) (fun x => R + 1 ≤ x ∧ x ≤ R + 3) (sA (sA (sA h (R + 1) (n : Int) a) (R + 2) (n : Int) b) (R + 3) (n : Int) d) (pI (sA (sA (sA h (R + 1) (n : Int) a) (R + 2) (n : Int) b) (R + 3) (n : Int) d) 67 R ((n : Int) + 1)) := fr_pI _ ⟨rfl, rfl⟩
    refine ⟨_, ((f1.tr f2).tr f3).tr f4, ?_, fun _ => ⟨?_, ?_, ?_, ?_, fun k hk => ⟨?_, ?_, ?_⟩⟩, fun z => absurd q z⟩
    · refine gdg kR (iteT (by omega) (nng g2 (gdg (by rw [g5]) (gdg (by rw [g5]; show 0 ≤ _ ∧ _ < ((12 : Nat) : Int); omega) (ltg (nng g3 (gdg (by rw [hK_sA, g6]) (?_))))))))
      rw [gI_sA, c]
      refine gdg (by rw [hK_sA, g6]; show 0 ≤ _ ∧ _ < ((12 : Nat) : Int); omega) (ltg (nng g4 (gdg (by rw [hK_sA, hK_sA, g7]) (?_))))
      rw [gI_sA, gI_sA, c]
      refine gdg (by rw [hK_sA, hK_sA, g7]; show 0 ≤ _ ∧ _ < ((12 : Nat) : Int); omega) (ltg (?_))
      rw [gI_sA, gI_sA, gI_sA, c, ew.e]
      rfl
    · rw [gI_pIs (by unfold rg; omega)]; omega
    · rw [gA_pI, gA_sAn (by omega), gA_sAn (by omega), gA_sAi (by unfold rg; omega), if_pos rfl]
    · rw [gA_pI, gA_sAn (by omega), gA_sAi (by unfold rg; omega), if_pos rfl]
    · rw [gA_pI, gA_sAi (by unfold rg; omega), if_pos rfl]
    · rw [gA_pI, gA_sAn (by omega), gA_sAn (by omega), gA_sAi (by unfold rg; omega), if_neg hk]
    · rw [gA_pI, gA_sAn (by omega), gA_sAi (by unfold rg; omega), if_neg hk, gA_sAn (by omega)]
    · rw [gA_pI, gA_sAi (by unfold rg; omega), if_neg hk, gA_sAn (by omega), gA_sAn (by omega)]
  · refine ⟨h, Fr.rf h, gdg kR (iteF (by omega) (rfl)), fun z => absurd z q, fun _ => by rw [c]; omega⟩
set_option maxHeartbeats 200000 in
/-- the class, from 'mix' on -/
theorem tzx_b30 {X R L n : Nat} {T : Nat → Int} {t : TkS} {h : Hp} (H : tzXt X L T t h) (Q : LRd X R h) (c : gI h 67 R = (n : Int)) (n12 : n ≤ 12) :
    ∃ h' v1 v2 v3, FLw X R h h' ∧ tzXt X L T (tzR7 L T (tzMu L T t (tzI T t tzMx))) h' ∧ fX2_readRule_b30 (X + 44) R h = some h' ∧
      tzHd (tkF (tzR2 L T (tzMu L T t (tzI T t tzMx))) = 0 → v1 = (tzKd L T (tzMu L T t (tzI T t tzMx))).1) ∧ tzHd (tkF (tzR4 L T (tzMu L T t (tzI T t tzMx))) = 0 → v2 = (tzKd L T (tzR3 L T (tzMu L T t (tzI T t tzMx)))).1) ∧ tzHd (tkF (tzR6 L T (tzMu L T t (tzI T t tzMx))) = 0 → v3 = (tzGf L T (tzR5 L T (tzMu L T t (tzI T t tzMx)))).1) ∧
      (0 ≤ v1 ∧ v1 ≤ 27) ∧ (0 ≤ v2 ∧ v2 ≤ 27) ∧ (0 ≤ v3 ∧ v3 ≤ 28) ∧
      (n < 12 → gI h' 67 R = ((n + 1 : Nat) : Int) ∧ gA h' (R + 1) n = v1 ∧ gA h' (R + 2) n = v2 ∧ gA h' (R + 3) n = v3 ∧ ∀ k, k ≠ n → gA h' (R + 1) k = gA h (R + 1) k ∧ gA h' (R + 2) k = gA h (R + 2) k ∧ gA h' (R + 3) k = gA h (R + 3) k) ∧ (¬ n < 12 → gI h' 67 R = 12) := by
  have XR0 := Q.2.1
  obtain ⟨h1, p1, H1, e1⟩ := tzx_take (w := tzMx) H rfl
  have Q1 := Q.ft p1
  generalize tzMu L T t (tzI T t tzMx) = t1 at *
  obtain ⟨h2, v1, p2, H2, e2, x1, a1, a1'⟩ := tzx_kind H1 Q1
  have Q2 := Q1.ft p2
  obtain ⟨h3, p3, H3, e3⟩ := tzx_take (w := tzWi) (t := tzR2 L T t1) H2 rfl
  have Q3 := Q2.ft p3
  obtain ⟨h4, v2, p4, H4, e4, x2, a2, a2'⟩ := tzx_kind (t := tzR3 L T t1) H3 Q3
  have Q4 := Q3.ft p4
  obtain ⟨h5, p5, H5, e5⟩ := tzx_take (w := tzGi) (t := tzR4 L T t1) H4 rfl
  have Q5 := Q4.ft p5
  obtain ⟨h6, v3, p6, H6, e6, x3, a3, a3'⟩ := tzx_gift (t := tzR5 L T t1) H5 Q5
  have Q6 := Q5.ft p6
  obtain ⟨h7, p7, H7, e7⟩ := tzx_sign (t := tzR6 L T t1) H6
  have Q7 := Q6.ft p7
  replace x1 : tzHd (tkF (tzR2 L T t1) = 0 → v1 = (tzKd L T t1).1) := x1
  replace x2 : tzHd (tkF (tzR4 L T t1) = 0 → v2 = (tzKd L T (tzR3 L T t1)).1) := x2
  replace x3 : tzHd (tkF (tzR6 L T t1) = 0 → v3 = (tzGf L T (tzR5 L T t1)).1) := x3
  replace H7 : tzXt X L T (tzR7 L T t1) h7 := H7
  have p17 := (((((p1.tr p2).tr p3).tr p4).tr p5).tr p6).tr p7
  have c7 : gI h7 67 R = (n : Int) := by rw [p17.i (by omega)]; exact c
  obtain ⟨h8, p8, e8, y1, y2⟩ := tzx_add (a := v1) (b := v2) (d := v3) Q7 c7 n12 (by omega) (by omega) (by omega)
  have k7 : (hK h7 R).1 = 1 := by rw [Q7.2.2.1]
  refine ⟨h8, v1, v2, v3, (ft_flw p17).tr (p8.mono (fun _ _ w => Or.inr w) (fun _ v => v)), H7.fr p8 (fun f _ _ => by omega) (by omega), ?_, x1, x2, x3, ⟨a1, a1'⟩, ⟨a2, a2'⟩, ⟨a3, a3'⟩, fun z => ?_, y2⟩
  · unfold fX2_readRule_b30
    exact gdg (by rw [Q.1.k44]) (nng Q.1.r128 (gdg H.k (bdg e1 (gdg (by rw [Q1.1.k44]) (bd2g e2 (gdg (by rw [Q2.1.k44]) (nng Q2.1.r128 (gdg H2.k (bdg e3 (gdg (by rw [Q3.1.k44]) (bd2g e4 (gdg (by rw [Q4.1.k44]) (nng Q4.1.r128 (gdg H4.k (bdg e5 (gdg (by rw [Q5.1.k44]) (bd2g e6 (gdg (by rw [Q6.1.k44]) (nng Q6.1.r128 (gdg H6.k (bdg e7 (gdg k7 (bdg e8 (rfl))))))))))))))))))))))))
  · obtain ⟨w1, w2, w3, w4, w5⟩ := y1 z
    refine ⟨w1, w2, w3, w4, fun k hk => ?_⟩
    obtain ⟨z1, z2, z3⟩ := w5 k hk
    rw [z1, z2, z3, p17.a (fun z => z), p17.a (fun z => z), p17.a (fun z => z)]
    exact ⟨rfl, rfl, rfl⟩
/-- what reading a law may change of the reference -/
def GKl (M : Nat) (m m' : Hp) : Prop := Fr (fun f a => a = M ∧ ((780 ≤ f ∧ f ≤ 787) ∨ f = 794)) (fun a => a = M + 5) m m' ∧ ∀ k, k < 1480 → gA m' (M + 5) k = gA m (M + 5) k
set_option maxHeartbeats 200000 in
theorem GKl.rf {M : Nat} (m : Hp) : GKl M m m := ⟨Fr.rf m, fun _ _ => rfl⟩
set_option maxHeartbeats 200000 in
theorem GKl.tr {M : Nat} {m m1 m2 : Hp} (p : GKl M m m1) (q : GKl M m1 m2) : GKl M m m2 := ⟨p.1.tr q.1, fun k hk => (q.2 k hk).trans (p.2 k hk)⟩
set_option maxHeartbeats 200000 in
theorem gt_gl {M : Nat} {m m' : Hp} (p : GT M m m') : GKl M m m' := ⟨p.mono (fun f a w => ⟨w.1, Or.inl w.2⟩) (fun _ v => v.elim), fun k _ => p.a (fun z => z)⟩
set_option maxHeartbeats 200000 in
theorem ga_gl {M : Nat} {m m' : Hp} (p : GA M m m') : GKl M m m' := ⟨p.1.mono (fun f a w => ⟨w.1, Or.inl w.2⟩) (fun _ v => v), p.2⟩
set_option maxHeartbeats 200000 in
theorem tzm_b37 {M L n : Nat} {T : Nat → Int} {t : TkS} {m : Hp} (K : tzMt M L T t m) (f0 : tkF t = 0) (c : gI m 794 M = (n : Int)) (n12 : n < 12) :
    ∃ m' u1 u2 u3, GKl M m m' ∧ tzMt M L T (tzR7 L T (tzNt L T t)) m' ∧ fX12_readRule_b37 M m = some m' ∧
      tzHd (tkF (tzR2 L T (tzNt L T t)) = 0 → u1 = (tzKd L T (tzNt L T t)).1) ∧ tzHd (tkF (tzR4 L T (tzNt L T t)) = 0 → u2 = (tzKd L T (tzR3 L T (tzNt L T t))).1) ∧ tzHd (tkF (tzR6 L T (tzNt L T t)) = 0 → u3 = (tzGf L T (tzR5 L T (tzNt L T t))).1) ∧
      tzHd (tkF (tzR7 L T (tzNt L T t)) = 0 → gI m' 794 M = ((n + 1 : Nat) : Int)) ∧
      ∀ k, gA m' (M + 5) k = if k = 1788 + 3 * n + 2 then u3 else if k = 1788 + 3 * n + 1 then u2 else if k = 1788 + 3 * n then u1 else gA m (M + 5) k := by
  obtain ⟨m1, q1, K1, g1⟩ := tzm_nt K
  generalize tzNt L T t = t1 at *
  obtain ⟨m2, u1, q2, K2, g2, x1, a1, a1'⟩ := tzm_kind K1
  replace K2 : tzMt M L T (tzR2 L T t1) m2 := K2
  replace x1 : tzHd (tkF (tzR2 L T t1) = 0 → u1 = (tzKd L T t1).1) := x1
  have k5 : ∀ {t : TkS} {m : Hp}, tzMt M L T t m → hK m (M + 5) = (21, 1850) := fun K => K.1.1.k5
  have b1 : ∀ k, gA (sA m2 (M + 5) ((1788 + 3 * n : Nat) : Int) u1) (M + 5) k = if k = 1788 + 3 * n then u1 else gA m2 (M + 5) k := fun k => gA_sAi (by unfold rg; omega)
  have s1 : GA M m2 (sA m2 (M + 5) ((1788 + 3 * n : Nat) : Int) u1) := ga_sA m2 (by omega)
  have K3 : tzMt M L T (tzR2 L T t1) (sA m2 (M + 5) ((1788 + 3 * n : Nat) : Int) u1) := K2.sA
  generalize h3 : sA m2 (M + 5) ((1788 + 3 * n : Nat) : Int) u1 = m3 at *
  obtain ⟨m4, q4, K4, g4⟩ := tzm_must (b := tzI T (tzR2 L T t1) tzWi) K3
  replace K4 : tzMt M L T (tzR3 L T t1) m4 := K4
  obtain ⟨m5, u2, q5, K5, g5, x2, a2, a2'⟩ := tzm_kind K4
  replace K5 : tzMt M L T (tzR4 L T t1) m5 := K5
  replace x2 : tzHd (tkF (tzR4 L T t1) = 0 → u2 = (tzKd L T (tzR3 L T t1)).1) := x2
  have b2 : ∀ k, gA (sA m5 (M + 5) ((1788 + 3 * n + 1 : Nat) : Int) u2) (M + 5) k = if k = 1788 + 3 * n + 1 then u2 else gA m5 (M + 5) k := fun k => gA_sAi (by unfold rg; omega)
  have s2 : GA M m5 (sA m5 (M + 5) ((1788 + 3 * n + 1 : Nat) : Int) u2) := ga_sA m5 (by omega)
  have K6 : tzMt M L T (tzR4 L T t1) (sA m5 (M + 5) ((1788 + 3 * n + 1 : Nat) : Int) u2) := K5.sA
  generalize h6 : sA m5 (M + 5) ((1788 + 3 * n + 1 : Nat) : Int) u2 = m6 at *
  obtain ⟨m7, q7, K7, g7⟩ := tzm_must (b := tzI T (tzR4 L T t1) tzGi) K6
  replace K7 : tzMt M L T (tzR5 L T t1) m7 := K7
  obtain ⟨m8, u3, q8, K8, g8, x3, a3, a3'⟩ := tzm_gift K7
  replace K8 : tzMt M L T (tzR6 L T t1) m8 := K8
  replace x3 : tzHd (tkF (tzR6 L T t1) = 0 → u3 = (tzGf L T (tzR5 L T t1)).1) := x3
  have b3 : ∀ k, gA (sA m8 (M + 5) ((1788 + 3 * n + 2 : Nat) : Int) u3) (M + 5) k = if k = 1788 + 3 * n + 2 then u3 else gA m8 (M + 5) k := fun k => gA_sAi (by unfold rg; omega)
  have s3 : GA M m8 (sA m8 (M + 5) ((1788 + 3 * n + 2 : Nat) : Int) u3) := ga_sA m8 (by omega)
  have K9 : tzMt M L T (tzR6 L T t1) (sA m8 (M + 5) ((1788 + 3 * n + 2 : Nat) : Int) u3) := K8.sA
  generalize h9 : sA m8 (M + 5) ((1788 + 3 * n + 2 : Nat) : Int) u3 = m9 at *
  obtain ⟨m10, q10, K10, g10⟩ := tzm_sign K9
  replace K10 : tzMt M L T (tzR7 L T t1) m10 := K10
  have is3 := tzm_isWith K3
  have is6 := tzm_isGives K6
  have cn : ∀ {x y : Hp}, GT M x y → gI y 794 M = gI x 794 M := fun {x y} p => p.i (by omega)
  have cg : ∀ {x y : Hp}, GA M x y → gI y 794 M = gI x 794 M := fun {x y} p => p.1.i (by omega)
  have c1 : gI m1 794 M = (n : Int) := (cn q1).trans c
  have c10 : gI m10 794 M = (n : Int) := by rw [cn q10, cg s3, cn q8, cn q7, cg s2, cn q5, cn q4, cg s1, cn q2]; exact c1
  have rows : ∀ k, gA m10 (M + 5) k = if k = 1788 + 3 * n + 2 then u3 else if k = 1788 + 3 * n + 1 then u2 else if k = 1788 + 3 * n then u1 else gA m (M + 5) k := fun k => by
    rw [q10.a (fun z => z), b3, q8.a (fun z => z), q7.a (fun z => z), b2, q5.a (fun z => z), q4.a (fun z => z), b1, q2.a (fun z => z), q1.a (fun z => z)]
  have gl : GKl M m m10 := (((((gt_gl q1).tr (gt_gl q2)).tr (ga_gl s1)).tr (gt_gl q4)).tr ((gt_gl q5).tr (ga_gl s2))).tr (((gt_gl q7).tr (gt_gl q8)).tr ((ga_gl s3).tr (gt_gl q10)))
  have e0 : WE (3 * (n : Int)) := we (by omega) (by omega)
  have e1 : WE (1788 + 3 * (n : Int)) := we (by omega) (by omega)
  have e2 : WE (1788 + 3 * (n : Int) + 1) := we (by omega) (by omega)
  have e3 : WE (1788 + 3 * (n : Int) + 2) := we (by omega) (by omega)
  have ew : WE ((n : Int) + 1) := we (by omega) (by omega)
  have key : ∀ x, (gd ((hK m10 M).1 = 12) <| if gI m10 780 M = 0 then (lt (α := Hp) (pI m10 794 M (w32 (gI m10 794 M + 1))) fun h50 => some h50) else some m10) = x → fX12_readRule_b37 M m = x := fun x hx => by
    unfold fX12_readRule_b37
    rw [K.2.2.2.2.1]
    refine gdg K.k (iteF (by omega) (bdg g1 (gdg K1.k (?_))))
    rw [c1, e0.e, e1.e]
    refine ltg (nng K1.1.1.r788 (bd2g g2 (gdg (by rw [k5 K2]) (gdg (by rw [k5 K2]; show 0 ≤ _ ∧ _ < (1850 : Int); omega) (ltg (?_))))))
    rw [show (1788 + 3 * (n : Int)) = ((1788 + 3 * n : Nat) : Int) by omega, h3]
    refine gdg K3.k (bdg is3 (bdg g4 (gdg K4.k (nng K4.1.1.r788 (bd2g g5 (gdg (by rw [k5 K5]) (?_)))))))
    rw [show ((1788 + 3 * n : Nat) : Int) + 1 = 1788 + 3 * (n : Int) + 1 by omega, e2.e]
    refine gdg (by rw [k5 K5]; show 0 ≤ _ ∧ _ < (1850 : Int); omega) (ltg (?_))
    rw [show (1788 + 3 * (n : Int) + 1) = ((1788 + 3 * n + 1 : Nat) : Int) by omega, h6]
    refine gdg K6.k (bdg is6 (bdg g7 (gdg K7.k (nng K7.1.1.r788 (bd2g g8 (gdg (by rw [k5 K8]) (?_)))))))
    rw [show ((1788 + 3 * n : Nat) : Int) + 2 = 1788 + 3 * (n : Int) + 2 by omega, e3.e]
    refine gdg (by rw [k5 K8]; show 0 ≤ _ ∧ _ < (1850 : Int); omega) (ltg (?_))
    rw [show (1788 + 3 * (n : Int) + 2) = ((1788 + 3 * n + 2 : Nat) : Int) by omega, h9]
    exact gdg K9.k (bdg g10 (hx))
  by_cases z : tkF (tzR7 L T t1) = 0
  · have f9 : Fr (fun f a => a = M ∧ f = 794) (fun _ => False) m10 (pI m10 794 M ((n : Int) + 1)) := fr_pI m10 ⟨rfl, rfl⟩
    refine ⟨pI m10 794 M ((n : Int) + 1), u1, u2, u3, gl.tr ⟨f9.mono (fun f a w => ⟨w.1, Or.inr w.2⟩) (fun _ v => v.elim), fun _ _ => rfl⟩, K10.fr f9 (fun q hq w => (mR_no hq).2.1 w.2) (fun f w1 w2 w => by clear x1 x2 x3 z; omega) (fun w => w), ?_, x1, x2, x3, fun _ => ?_, rows⟩
    · refine key _ ?_
      rw [K10.2.2.2.2.1, c10, ew.e]
      exact gdg K10.k (iteT z (rfl))
    · rw [gI_pIs (by unfold rg; clear z; omega)]; rfl
  · refine ⟨m10, u1, u2, u3, gl, K10, key _ ?_, x1, x2, x3, fun w => absurd w z, rows⟩
    rw [K10.2.2.2.2.1]
    exact gdg K10.k (iteF z (rfl))
