/-! NAMES, new and told; the reader's own objects -/
/-- a shop's objects, whatever they tell -/
def SHs (h : Hp) (S : Nat) : Prop :=
  hK h S = (7, 0) ∧ gR h 448 S = some (S + 1) ∧ gR h 449 S = some (S + 2) ∧ hK h (S + 1) = (26, 8) ∧ hK h (S + 2) = (24, 8) ∧
  (∀ s : Nat, s < 8 → gC h (S + 1) s = some (S + 3 + 3 * s) ∧ (hK h (S + 3 + 3 * s)).1 = 6 ∧ gR h 384 (S + 3 + 3 * s) = some (S + 4 + 3 * s) ∧ hK h (S + 4 + 3 * s) = (21, 16) ∧ gI h 385 (S + 3 + 3 * s) = 0) ∧
  (∀ j : Nat, j < 8 → gC h (S + 2) j = some (S + 5 + 3 * j) ∧ hK h (S + 5 + 3 * j) = (0, 0))
def XRd (X S : Nat) (h : Hp) : Prop := XS h X ∧ gR h 517 (X + 12) = some S ∧ X + 144 ≤ S ∧ SHs h S
/-- what reading a shop may change -/
abbrev FC (X S : Nat) : Hp → Hp → Prop := Fr (fun f a => (a = X + 10 ∧ 578 ≤ f ∧ f ≤ 583) ∨ (S ≤ a ∧ f ≠ 448 ∧ f ≠ 449 ∧ f ≠ 384 ∧ f ≠ 385)) (fun a => (X + 13 ≤ a ∧ a ≤ X + 16) ∨ S + 3 ≤ a)
set_option maxHeartbeats 200000 in
theorem ft_fc {X S : Nat} {h h' : Hp} (p : FT X h h') : FC X S h h' := p.mono (fun f a w => Or.inl w) (fun _ v => v.elim)
set_option maxHeartbeats 200000 in
theorem rT_no {q : Nat × Nat × Nat} (hq : q ∈ rT) : q.2.1 < 121 ∧ ¬ (q.2.1 = 10 ∧ 577 ≤ q.1 ∧ q.1 ≤ 583) ∧ ¬ (q.2.1 = 12 ∧ q.1 = 517) ∧ ¬ q.2.1 = 102 ∧ ¬ (q.2.1 = 0 ∧ 717 ≤ q.1) := by
  have : ∀ q ∈ rT, q.2.1 < 121 ∧ ¬ (q.2.1 = 10 ∧ 577 ≤ q.1 ∧ q.1 ≤ 583) ∧ ¬ (q.2.1 = 12 ∧ q.1 = 517) ∧ ¬ q.2.1 = 102 ∧ ¬ (q.2.1 = 0 ∧ 717 ≤ q.1) := by decide
  exact this q hq
set_option maxHeartbeats 200000 in
theorem cT_no {q : Nat × Nat × Nat} (hq : q ∈ cT) : q.1 = 1 ∨ q.1 = 76 ∨ q.1 = 80 := by
  have : ∀ q ∈ cT, q.1 = 1 ∨ q.1 = 76 ∨ q.1 = 80 := by decide
  exact this q hq
set_option maxHeartbeats 200000 in
theorem XS.fr {W : Nat → Nat → Prop} {V : Nat → Prop} {X : Nat} {h h' : Hp} (H : XS h X) (p : Fr W V h h') (w : ∀ f a, W f a → X + 121 ≤ a ∨ (a = X + 10 ∧ 577 ≤ f ∧ f ≤ 583) ∨ (a = X + 12 ∧ f = 517) ∨ (a = X ∧ 717 ≤ f)) (v : ∀ a, V a → X + 121 ≤ a ∨ (X + 11 ≤ a ∧ a ≤ X + 16) ∨ a = X + 102) : XS h' X := by
  refine ⟨fun i hi => by rw [p.k]; exact H.1 i hi, fun q hq => ?_, fun q hq => ?_, ?_⟩
  · have n := rT_no hq
    rw [p.r (fun z => by have := w _ _ z; omega)]
    exact H.2.1 q hq
  · have n := cT_no hq
    rw [p.c (fun z => by have := v _ z; omega)]
    exact H.2.2.1 q hq
  · rw [p.i (fun z => by have := w _ _ z; omega), p.i (fun z => by have := w _ _ z; omega), p.i (fun z => by have := w _ _ z; omega), p.i (fun z => by have := w _ _ z; omega)]
    exact H.2.2.2
set_option maxHeartbeats 200000 in
theorem SHs.fr {W : Nat → Nat → Prop} {V : Nat → Prop} {S : Nat} {h h' : Hp} (H : SHs h S) (p : Fr W V h h') (w : ∀ f a, W f a → S ≤ a → f ≠ 448 ∧ f ≠ 449 ∧ f ≠ 384 ∧ f ≠ 385) (v : ¬ V (S + 1) ∧ ¬ V (S + 2)) : SHs h' S := by
  obtain ⟨h1, h2, h3, h4, h5, h6, h7⟩ := H
  refine ⟨by rw [p.k]; exact h1, by rw [p.r (fun z => (w _ _ z (by omega)).1 rfl)]; exact h2, by rw [p.r (fun z => (w _ _ z (by omega)).2.1 rfl)]; exact h3, by rw [p.k]; exact h4, by rw [p.k]; exact h5, fun s hs => ?_, fun j hj => ?_⟩
  · obtain ⟨a1, a2, a3, a4, a5⟩ := h6 s hs
    exact ⟨by rw [p.c v.1]; exact a1, by rw [p.k]; exact a2, by rw [p.r (fun z => (w _ _ z (by omega)).2.2.1 rfl)]; exact a3, by rw [p.k]; exact a4, by rw [p.i (fun z => (w _ _ z (by omega)).2.2.2 rfl)]; exact a5⟩
  · obtain ⟨a1, a2⟩ := h7 j hj
    exact ⟨by rw [p.c v.2]; exact a1, by rw [p.k]; exact a2⟩
set_option maxHeartbeats 200000 in
theorem XRd.fc {X S : Nat} {h h' : Hp} (H : XRd X S h) (p : FC X S h h') : XRd X S h' := by
  obtain ⟨h1, h2, h3, h4⟩ := H
  refine ⟨h1.fr p (fun f a z => by omega) (fun a z => by omega), by rw [p.r (by omega)]; exact h2, h3, h4.fr p (fun f a z _ => by omega) ⟨by omega, by omega⟩⟩
set_option maxHeartbeats 200000 in
theorem XRd.ft {X S : Nat} {h h' : Hp} (H : XRd X S h) (p : FT X h h') : XRd X S h' := H.fc (ft_fc p)
/-- a new name: it must be a name, and none that was told -/
def tzNwB (T : Nat → Int) (t : TkS) (nS : NmT) (ns : Nat) (nJ : NmT) (nj : Nat) : Bool := decide (tzFn T t nS ns = -1) && decide (tzFn T t nJ nj = -1)
def tzNw (L : Nat) (T : Nat → Int) (t : TkS) (nS : NmT) (ns : Nat) (nJ : NmT) (nj : Nat) : TkS := if tzNa T t = true then (if tzNwB T t nS ns nJ nj = true then tzNt L T t else tzSt t 3) else tzSt t 2
set_option maxHeartbeats 200000 in
theorem tzNw_ok {L : Nat} {T : Nat → Int} {t : TkS} {nS : NmT} {ns : Nat} {nJ : NmT} {nj : Nat} (o : tzOk L T t) : tzOk L T (tzNw L T t nS ns nJ nj) := by
  unfold tzNw
  split
  · split
    · exact tzNt_ok o
    · exact tzSt_ok o
  · exact tzSt_ok o
set_option maxHeartbeats 200000 in
theorem tzNw_0 {L : Nat} {T : Nat → Int} {t : TkS} {nS : NmT} {ns : Nat} {nJ : NmT} {nj : Nat} (h : tkF (tzNw L T t nS ns nJ nj) = 0) : tkF t = 0 ∧ tzNa T t = true ∧ tzNwB T t nS ns nJ nj = true ∧ tzNw L T t nS ns nJ nj = tzNt L T t := by
  unfold tzNw at h ⊢
  cases q : tzNa T t with
  | true =>
    rw [q, if_pos (rfl : true = true)] at h
    rw [if_pos (rfl : true = true)]
    cases q2 : tzNwB T t nS ns nJ nj with
    | true =>
      rw [q2, if_pos (rfl : true = true)] at h
      rw [if_pos (rfl : true = true)]
      exact ⟨h, rfl, rfl, rfl⟩
    | false =>
      rw [q2, if_neg Bool.false_ne_true] at h
      exact absurd h (tzSt_0 (by omega))
  | false =>
    rw [q, if_neg Bool.false_ne_true] at h
    exact absurd h (tzSt_0 (by omega))
set_option maxHeartbeats 200000 in
theorem tzNa_1 {T : Nat → Int} {t : TkS} (h : tzNa T t = true) : tkK t = 1 ∧ tkE t - tkS t ≤ 8 := by
  unfold tzNa at h
  rw [Bool.and_eq_true, Bool.and_eq_true] at h
  exact ⟨of_decide_eq_true h.1, of_decide_eq_true h.2.1⟩
set_option maxHeartbeats 200000 in
theorem tzFn_m {T : Nat → Int} {t : TkS} {nm : NmT} {n : Nat} (h : ¬ tzFn T t nm n = -1) : 0 ≤ tzFn T t nm n ∧ tzFn T t nm n < (n : Int) := (tzFn_bd (T := T) (t := t) (nm := nm) (n := n)).resolve_left h
/-- the frame of a new name -/
abbrev FN (X a b : Nat) : Hp → Hp → Prop := Fr (fun f x => x = X + 10 ∧ 578 ≤ f ∧ f ≤ 583) (fun x => x = a ∨ x = b)
set_option maxHeartbeats 200000 in
theorem tzx_new {X S L : Nat} {T : Nat → Int} {t : TkS} {h : Hp} {nS : NmT} {ns : Nat} {nJ : NmT} {nj a b k : Nat} (H : tzXt X L T t h) (R : XRd X S h) (f0 : tkF t = 0) (c1 : gI h 450 S = (ns : Int)) (c2 : gI h 451 S = (nj : Int)) (s8 : ns ≤ 8) (j8 : nj ≤ 8)
    (N1 : tzNX h (X + 13) (X + 14) nS ns) (N2 : tzNX h (X + 15) (X + 16) nJ nj) (G1 : tzG L T nS ns) (G2 : tzG L T nJ nj) (hab : (a = X + 13 ∧ b = X + 14) ∨ (a = X + 15 ∧ b = X + 16)) (k8 : k < 8) :
    ∃ h', FN X a b h h' ∧ tzXt X L T (tzNw L T t nS ns nJ nj) h' ∧ fX8_takeNewName h (X + 12) a b (k : Int) = some h' ∧ (tkF (tzNw L T t nS ns nJ nj) = 0 → gA h' a k = (tkS t : Int) ∧ gA h' b k = ((tkE t - tkS t : Nat) : Int) ∧ ∀ i, i ≠ k → gA h' a i = gA h a i ∧ gA h' b i = gA h b i) := by
  obtain ⟨HX, r517, XS1, HS⟩ := id R
  have o := H.ok
  have h9 := H.l
  have o1 := o.1
  have o2 := o.2.1
  have ka : hK h a = (21, 8) := by rcases hab with ⟨e, -⟩ | ⟨e, -⟩ <;> rw [e]; exact HX.k13; exact HX.k15
  have kb : hK h b = (21, 8) := by rcases hab with ⟨-, e⟩ | ⟨-, e⟩ <;> rw [e]; exact HX.k14; exact HX.k16
  have k12 : (hK h (X + 12)).1 = 8 := by rw [HX.k12]
  unfold fX8_takeNewName tzNw
  have en := tzx_name H
  cases q : tzNa T t with
  | false =>
    rw [q] at en
    rw [if_neg Bool.false_ne_true]
    obtain ⟨h', p1, p2, p3⟩ := tzx_stop (r := 2) H (by omega)
    exact ⟨h', p1.mono (fun f a w => w) (fun _ v => v.elim), p2, gdg k12 (nng HX.r512 (gdg H.k (bdg en (iteT rfl (bdg p3 rfl))))), fun z => absurd z (tzSt_0 (by omega))⟩
  | true =>
    rw [q] at en
    rw [if_pos (rfl : true = true)]
    have e1 := tzx_find H k12 HX.r512 HX.k13 HX.k14 s8 N1 G1
    have e2 := tzx_find H k12 HX.r512 HX.k15 HX.k16 j8 N2 G2
    have kS : (hK h S).1 = 7 := by rw [HS.1]
    obtain ⟨h3, p1, p2, p3⟩ := tzx_stop (r := 3) H (by omega)
    by_cases q1 : tzFn T t nS ns = -1
    · by_cases q2 : tzFn T t nJ nj = -1
      · have qb : tzNwB T t nS ns nJ nj = true := by unfold tzNwB; rw [decide_eq_true q1, decide_eq_true q2]; rfl
        rw [qb, if_pos (rfl : true = true)]
        -- the two rows
        have f1 : Fr (fun _ _ => False) (fun x => x = a ∨ x = b) h (sA h a (k : Int) (tkS t : Int)) := fr_sA h (Or.inl rfl)
        have f2 : Fr (fun _ _ => False) (fun x => x = a ∨ x = b) (sA h a (k : Int) (tkS t : Int)) (sA (sA h a (k : Int) (tkS t : Int)) b (k : Int) ((tkE t - tkS t : Nat) : Int)) := fr_sA _ (Or.inr rfl)
        have na : ¬ (X + 11 = a ∨ X + 11 = b) := by omega
        have H1 : tzXt X L T t (sA h a (k : Int) (tkS t : Int)) := H.fr f1 (fun f w1 w2 z => z) na
        have H2 : tzXt X L T t (sA (sA h a (k : Int) (tkS t : Int)) b (k : Int) ((tkE t - tkS t : Nat) : Int)) := H1.fr f2 (fun f w1 w2 z => z) na
        obtain ⟨h', p1, p2, p3⟩ := tzx_nt H2
        refine ⟨h', ((f1.tr f2).mono (fun _ _ z => z.elim) (fun _ v => v)).tr (p1.mono (fun f a w => w) (fun _ v => v.elim)), p2, ?_, fun _ => ?_⟩
        · refine gdg k12 (nng HX.r512 (gdg H.k (bdg en (iteF (by decide) (nng HX.r513 (nng HX.r514 (nng r517 (gdg kS ?_))))))))
          rw [c1, c2, H.2.2.1]
          exact bdg e1 (iteT q1 (nng HX.r515 (nng HX.r516 (bdg e2 (iteT q2 (iteF (by omega) (gdg (by rw [ka]) (gdg (by rw [ka]; show ((8 : Nat) : Int) < 2147483648; omega) (iteT (by rw [ka]; show (k : Int) < ((8 : Nat) : Int); omega) (gdg (by rw [kb]) (gdg (by rw [kb]; show ((8 : Nat) : Int) < 2147483648; omega) (iteT (by rw [kb]; show (k : Int) < ((8 : Nat) : Int); omega) (gdg (by rw [ka]; show 0 ≤ _ ∧ _ < ((8 : Nat) : Int); omega) (ltg (nng HX.r512 (gdg H.k (bdg (tzx_size H1) (gdg (by rw [hK_sA, kb]; show 0 ≤ _ ∧ _ < ((8 : Nat) : Int); omega) (ltg (nng HX.r512 (gdg H.k (bdg p3 (rfl)))))))))))))))))))))))
        · have nab : a ≠ b := by omega
          refine ⟨?_, ?_, fun i hi => ⟨?_, ?_⟩⟩
          · rw [p1.a (fun z => z), gA_sAn nab, gA_sA, if_pos ⟨rfl, by omega⟩, w32_id (by omega) (by omega)]
          · rw [p1.a (fun z => z), gA_sA, if_pos ⟨rfl, by omega⟩, w32_id (by omega) (by omega)]
          · rw [p1.a (fun z => z), gA_sAn nab, gA_sA, if_neg (fun z => hi (by have := z.2; omega))]
          · rw [p1.a (fun z => z), gA_sA, if_neg (fun z => hi (by have := z.2; omega)), gA_sAn (Ne.symm nab)]
      · have qb : tzNwB T t nS ns nJ nj = false := by unfold tzNwB; rw [decide_eq_false q2]; exact Bool.and_false _
        rw [qb, if_neg Bool.false_ne_true]
        refine ⟨h3, p1.mono (fun f a w => w) (fun _ v => v.elim), p2, ?_, fun z => absurd z (tzSt_0 (by omega))⟩
        refine gdg k12 (nng HX.r512 (gdg H.k (bdg en (iteF (by decide) (nng HX.r513 (nng HX.r514 (nng r517 (gdg kS ?_))))))))
        rw [c1, c2]
        exact bdg e1 (iteT q1 (nng HX.r515 (nng HX.r516 (bdg e2 (iteF q2 (bdg p3 rfl))))))
    · have qb : tzNwB T t nS ns nJ nj = false := by unfold tzNwB; rw [decide_eq_false q1]; rfl
      rw [qb, if_neg Bool.false_ne_true]
      refine ⟨h3, p1.mono (fun f a w => w) (fun _ v => v.elim), p2, ?_, fun z => absurd z (tzSt_0 (by omega))⟩
      refine gdg k12 (nng HX.r512 (gdg H.k (bdg en (iteF (by decide) (nng HX.r513 (nng HX.r514 (nng r517 (gdg kS ?_))))))))
      rw [c1]
      exact bdg e1 (iteF q1 (bdg p3 rfl))
/-- the reference's new name -/
abbrev GN (M : Nat) : Hp → Hp → Prop := Fr (fun f a => a = M ∧ 780 ≤ f ∧ f ≤ 787) (fun a => a = M + 6)
set_option maxHeartbeats 200000 in
theorem gt_gn {M : Nat} {m m' : Hp} (p : GT M m m') : GN M m m' := p.mono (fun f a w => w) (fun _ v => v.elim)
set_option maxHeartbeats 200000 in
theorem tzMt.gt {M L : Nat} {T : Nat → Int} {t t' : TkS} {m m' : Hp} (H : tzMt M L T t' m') (p : GT M m m') : tzMt M L T t' m' := H
set_option maxHeartbeats 200000 in
theorem tzm_readNew {M L : Nat} {T : Nat → Int} {t0 : TkS} {m : Hp} {nS : NmT} {ns : Nat} {nJ : NmT} {nj o k : Nat} (H0 : tzMt M L T t0 m) (f0 : tkF t0 = 0) (c1 : gA m (M + 5) 1481 = (ns : Int)) (c2 : gA m (M + 5) 1482 = (nj : Int)) (s8 : ns ≤ 8) (j8 : nj ≤ 8)
    (N1 : tzNM M T m 0 nS ns) (N2 : tzNM M T m 8 nJ nj) (G1 : tzG L T nS ns) (G2 : tzG L T nJ nj) (o8 : o ≤ 8) (k8 : k < 8) :
    ∃ m', GN M m m' ∧ tzMt M L T (tzNw L T (tzNt L T t0) nS ns nJ nj) m' ∧ fX12_readNew m M (o : Int) (k : Int) = some m' ∧ (tkF (tzNw L T (tzNt L T t0) nS ns nJ nj) = 0 → gB m' (M + 6) (o + k) = tzC T (tkS (tzNt L T t0)) (tkE (tzNt L T t0) - tkS (tzNt L T t0)) ∧ ∀ i, i ≠ o + k → gB m' (M + 6) i = gB m (M + 6) i) := by
  obtain ⟨m1, p1, H, p3⟩ := tzm_nt H0
  have f1 : tkF (tzNt L T t0) = 0 := f0
  have c1' : gA m1 (M + 5) 1481 = (ns : Int) := by rw [p1.a (fun z => z)]; exact c1
  have c2' : gA m1 (M + 5) 1482 = (nj : Int) := by rw [p1.a (fun z => z)]; exact c2
  have N1' : tzNM M T m1 0 nS ns := fun i hi => by rw [p1.b (fun z => z)]; exact N1 i hi
  have N2' : tzNM M T m1 8 nJ nj := fun i hi => by rw [p1.b (fun z => z)]; exact N2 i hi
  have b0 : ∀ i, gB m1 (M + 6) i = gB m (M + 6) i := fun i => p1.b (fun z => z)
  generalize tzNt L T t0 = t at H f1
  have ok := H.ok
  have b64n : ∀ {t : TkS} {m : Hp}, tzMt M L T t m → ¬ tkF t = 0 → fX12_readNew_b64 M (o : Int) (k : Int) m = some m := fun {t} {m} H q => by
    have hf := H.f0
    unfold fX12_readNew_b64
    rw [H.2.2.2.2.1]
    exact gdg H.k (iteT (by omega) rfl)
  have en := tzm_name H
  unfold fX12_readNew tzNw
  cases q : tzNa T t with
  | false =>
    rw [q] at en
    rw [if_neg Bool.false_ne_true]
    obtain ⟨m2, r1, r2, r3⟩ := tzm_wrong H
    refine ⟨m2, (gt_gn p1).tr (gt_gn r1), r2, ?_, fun z => absurd z (tzSt_0 (by omega))⟩
    refine gdg H0.k (bdg p3 (gdg H.k (bdg en (iteT rfl (bdg r3 ?_)))))
    unfold fX12_readNew_b15
    rw [r2.2.2.2.2.1]
    exact gdg r2.k (iteF (tzSt_0 (by omega)) (b64n r2 (tzSt_0 (by omega))))
  | true =>
    rw [q] at en
    rw [if_pos (rfl : true = true)]
    obtain ⟨k1, l8⟩ := tzNa_1 q
    have e1 := tzm_named (o := 0) H (by omega) s8 N1' G1 k1 l8
    have e2 := tzm_named (o := 8) H (by omega) j8 N2' G2 k1 l8
    have hw : gJ m1 787 M = tzC T (tkS t) (tkE t - tkS t) := by
      rw [(H.2.2.2.2.2.2.2.1 k1).2]
      unfold tzV
      rw [if_pos l8]
    have hT : ∀ i, i < tkE t - tkS t → 97 ≤ T (tkS t + i) ∧ T (tkS t + i) ≤ 122 := fun i hi => ok.2.2.2.2.2.1 k1 (tkS t + i) (by omega) (by omega)
    have cb := tzC_bd hT l8
    have k5 : hK m1 (M + 5) = (21, 1850) := H.1.1.k5
    obtain ⟨m2, r1, r2, r3⟩ := tzm_fail (r := 3) H (by omega) (by omega)
    have b55 : fX12_readNew_b55 M (o : Int) (k : Int) m1 = some m2 := by
      unfold fX12_readNew_b55
      rw [H.2.2.1]
      exact gdg H.k (bdg r3 (b64n r2 (tzSt_0 (by omega))))
    by_cases q1 : tzFn T t nS ns = -1
    · by_cases q2 : tzFn T t nJ nj = -1
      · have qb : tzNwB T t nS ns nJ nj = true := by unfold tzNwB; rw [decide_eq_true q1, decide_eq_true q2]; rfl
        rw [qb, if_pos (rfl : true = true)]
        have eo : WE ((o : Int) + (k : Int)) := we (by omega) (by omega)
        have g1 : GN M m1 (sB m1 (M + 6) ((o : Int) + (k : Int)) (tzC T (tkS t) (tkE t - tkS t))) := fr_sB m1 rfl
        have H2 : tzMt M L T t (sB m1 (M + 6) ((o : Int) + (k : Int)) (tzC T (tkS t) (tkE t - tkS t))) := H
        obtain ⟨m3, s1, s2, s3⟩ := tzm_nt H2
        refine ⟨m3, ((gt_gn p1).tr g1).tr (gt_gn s1), s2, ?_, fun _ => ⟨?_, fun i hi => ?_⟩⟩
        · refine gdg H0.k (bdg p3 (gdg H.k (bdg en (iteF (by decide) ?_))))
          unfold fX12_readNew_b15
          rw [H.2.2.2.2.1]
          refine gdg H.k (iteT f1 (nng H.1.1.r788 (gdg (by rw [k5]) (gdg (by rw [k5]; show 0 ≤ _ ∧ _ < (1850 : Int); omega) ?_))))
          show bd (fX12_named m1 M 0 (gA m1 (M + 5) 1481)) _ = _
          rw [c1']
          refine bdg e1 (iteT (by omega) (gdg (by rw [k5]; show 0 ≤ _ ∧ _ < (1850 : Int); omega) ?_))
          show bd (fX12_named m1 M 8 (gA m1 (M + 5) 1482)) _ = _
          rw [c2']
          refine bdg e2 (iteT (by omega) ?_)
          unfold fX12_readNew_b64
          rw [H.2.2.2.2.1, eo.e, hw]
          exact gdg H.k (iteF (by omega) (nng H.1.1.r789 (gdg (by rw [H.1.1.k6]) (gdg (by rw [H.1.1.k6]; show 0 ≤ _ ∧ _ < (16 : Int); omega) (ltg (bdg s3 rfl))))))
        · rw [s1.b (fun z => z), gB_sB, if_pos ⟨rfl, by omega⟩, w64_id (by omega) (by omega)]
        · rw [s1.b (fun z => z), gB_sB, if_neg (fun z => hi (by have := z.2; omega))]
          exact b0 i
      · have qb : tzNwB T t nS ns nJ nj = false := by unfold tzNwB; rw [decide_eq_false q2]; exact Bool.and_false _
        rw [qb, if_neg Bool.false_ne_true]
        refine ⟨m2, (gt_gn p1).tr (gt_gn r1), r2, ?_, fun z => absurd z (tzSt_0 (by omega))⟩
        refine gdg H0.k (bdg p3 (gdg H.k (bdg en (iteF (by decide) ?_))))
        unfold fX12_readNew_b15
        rw [H.2.2.2.2.1]
        refine gdg H.k (iteT f1 (nng H.1.1.r788 (gdg (by rw [k5]) (gdg (by rw [k5]; show 0 ≤ _ ∧ _ < (1850 : Int); omega) ?_))))
        show bd (fX12_named m1 M 0 (gA m1 (M + 5) 1481)) _ = _
        rw [c1']
        refine bdg e1 (iteT (by omega) (gdg (by rw [k5]; show 0 ≤ _ ∧ _ < (1850 : Int); omega) ?_))
        show bd (fX12_named m1 M 8 (gA m1 (M + 5) 1482)) _ = _
        rw [c2']
        exact bdg e2 (iteF (by have := tzFn_m q2; omega) b55)
    · have qb : tzNwB T t nS ns nJ nj = false := by unfold tzNwB; rw [decide_eq_false q1]; rfl
      rw [qb, if_neg Bool.false_ne_true]
      refine ⟨m2, (gt_gn p1).tr (gt_gn r1), r2, ?_, fun z => absurd z (tzSt_0 (by omega))⟩
      refine gdg H0.k (bdg p3 (gdg H.k (bdg en (iteF (by decide) ?_))))
      unfold fX12_readNew_b15
      rw [H.2.2.2.2.1]
      refine gdg H.k (iteT f1 (nng H.1.1.r788 (gdg (by rw [k5]) (gdg (by rw [k5]; show 0 ≤ _ ∧ _ < (1850 : Int); omega) ?_))))
      show bd (fX12_named m1 M 0 (gA m1 (M + 5) 1481)) _ = _
      rw [c1']
      exact bdg e1 (iteF (by have := tzFn_m q1; omega) b55)
