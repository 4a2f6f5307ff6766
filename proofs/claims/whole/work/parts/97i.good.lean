/-! WHAT STANDS BETWEEN THE PARTS OF A SHOP: the class's shop S in h, the reference's new block in m -/
def tzD (M : Nat) (m : Hp) : Nat → Int := fun k => gA m (M + 5) (1480 + k)
def tzSN (h : Hp) (a q : Nat) (d : Nat → Int) (s : Nat) : Prop := gI h 386 a = d (4 + s) ∧ (0 ≤ d (4 + s) ∧ d (4 + s) ≤ 16) ∧ ∀ k : Nat, (k : Int) < d (4 + s) → gA h q k = d (12 + 16 * s + k) ∧ 1 ≤ d (12 + 16 * s + k) ∧ d (12 + 16 * s + k) ≤ 26
def tzJF (h : Hp) (a : Nat) (d : Nat → Int) (j : Nat) : Prop := gI h 0 a = d (140 + j) ∧ gI h 1 a = d (148 + j) ∧ gI h 2 a = d (156 + j) ∧ gI h 3 a = d (164 + j) ∧ gI h 4 a = d (172 + j) ∧ gI h 5 a = d (180 + j) ∧ gI h 6 a = d (188 + j) ∧ gI h 7 a = d (196 + j) ∧ gI h 8 a = d (204 + j)
def tzJW (d : Nat → Int) (j : Nat) : Prop := (1 ≤ d (140 + j) ∧ d (140 + j) ≤ 12) ∧ (0 ≤ d (148 + j) ∧ d (148 + j) ≤ 99) ∧ (0 ≤ d (156 + j) ∧ d (156 + j) ≤ 2) ∧ (0 ≤ d (164 + j) ∧ d (164 + j) ≤ 99) ∧ (0 ≤ d (172 + j) ∧ d (172 + j) ≤ 99) ∧ (0 ≤ d (180 + j) ∧ d (180 + j) ≤ 15) ∧ (0 ≤ d (188 + j) ∧ d (188 + j) ≤ d (140 + j)) ∧ (0 ≤ d (196 + j) ∧ d (196 + j) ≤ 999) ∧ (0 ≤ d (204 + j) ∧ d (204 + j) < 8)
def tzJH (h : Hp) (a : Nat) (d : Nat → Int) (j ns : Nat) : Prop := 0 ≤ gI h 9 a ∧ (d (188 + j) = 0 → gI h 9 a = 0) ∧ (0 < d (188 + j) → d (204 + j) < (ns : Int) ∧ gI h 9 a + d (188 + j) ≤ d (4 + (d (204 + j)).toNat)) ∧
  ∀ k : Nat, (k : Int) < d (188 + j) → d (12 + 16 * (d (204 + j)).toNat + ((gI h 9 a).toNat + k)) = d (212 + 12 * j + k)
def tzJN (h : Hp) (a : Nat) (d : Nat → Int) (j ns : Nat) : Prop := tzJF h a d j ∧ tzJW d j ∧ tzJH h a d j ns
def tzJ0 (h : Hp) (a : Nat) (d : Nat → Int) (j : Nat) : Prop := (gI h 0 a = 0 ∧ gI h 1 a = 0 ∧ gI h 2 a = 0 ∧ gI h 3 a = 0 ∧ gI h 4 a = 1 ∧ gI h 5 a = 0 ∧ gI h 6 a = 0 ∧ gI h 7 a = 0 ∧ gI h 8 a = 0 ∧ gI h 9 a = 0) ∧
  (d (140 + j) = 0 ∧ d (148 + j) = 0 ∧ d (156 + j) = 0 ∧ d (164 + j) = 0 ∧ d (172 + j) = 0 ∧ d (180 + j) = 0 ∧ d (188 + j) = 0 ∧ d (196 + j) = 0 ∧ d (204 + j) = 0)
def tzGd (X S M L : Nat) (T : Nat → Int) (h m : Hp) (ns nj : Nat) (nS nJ : NmT) : Prop :=
  (gI h 450 S = (ns : Int) ∧ gI h 451 S = (nj : Int) ∧ ns ≤ 8 ∧ nj ≤ 8 ∧ gA m (M + 5) 1481 = (ns : Int) ∧ gA m (M + 5) 1482 = (nj : Int) ∧ gA m (M + 5) 1480 = 0 ∧ gA m (M + 5) 1483 = 0) ∧
  (tzNX h (X + 13) (X + 14) nS ns ∧ tzNX h (X + 15) (X + 16) nJ nj ∧ tzNM M T m 0 nS ns ∧ tzNM M T m 8 nJ nj ∧ tzG L T nS ns ∧ tzG L T nJ nj) ∧
  (∀ s, s < 8 → tzSN h (S + 3 + 3 * s) (S + 4 + 3 * s) (tzD M m) s) ∧ (∀ s, ns ≤ s → s < 8 → tzD M m (4 + s) = 0) ∧
  (∀ j, j < nj → tzJN h (S + 5 + 3 * j) (tzD M m) j ns) ∧ (∀ j, nj ≤ j → j < 8 → tzJ0 h (S + 5 + 3 * j) (tzD M m) j)
def tzPi (X S M L : Nat) (T : Nat → Int) (t : TkS) (h m : Hp) : Prop := tzXt X L T t h ∧ tzMt M L T t m ∧ XRd X S h ∧ (tkF t = 0 → ∃ ns nj nS nJ, tzGd X S M L T h m ns nj nS nJ)
/-- what reading may change of the reference -/
abbrev GC (M : Nat) : Hp → Hp → Prop := Fr (fun f a => a = M ∧ 780 ≤ f ∧ f ≤ 787) (fun a => a = M + 5 ∨ a = M + 6)
def GK (M : Nat) (m m' : Hp) : Prop := GC M m m' ∧ ∀ k, k < 1480 → gA m' (M + 5) k = gA m (M + 5) k
set_option maxHeartbeats 200000 in
theorem GK.rf {M : Nat} (m : Hp) : GK M m m := ⟨Fr.rf m, fun _ _ => rfl⟩
set_option maxHeartbeats 200000 in
theorem GK.tr {M : Nat} {m m1 m2 : Hp} (p : GK M m m1) (q : GK M m1 m2) : GK M m m2 := ⟨p.1.tr q.1, fun k hk => (q.2 k hk).trans (p.2 k hk)⟩
/-- only the block's row -/
def GA (M : Nat) (m m' : Hp) : Prop := Fr (fun f a => a = M ∧ 780 ≤ f ∧ f ≤ 787) (fun a => a = M + 5) m m' ∧ ∀ k, k < 1480 → gA m' (M + 5) k = gA m (M + 5) k
set_option maxHeartbeats 200000 in
theorem GA.rf {M : Nat} (m : Hp) : GA M m m := ⟨Fr.rf m, fun _ _ => rfl⟩
set_option maxHeartbeats 200000 in
theorem GA.tr {M : Nat} {m m1 m2 : Hp} (p : GA M m m1) (q : GA M m1 m2) : GA M m m2 := ⟨p.1.tr q.1, fun k hk => (q.2 k hk).trans (p.2 k hk)⟩
set_option maxHeartbeats 200000 in
theorem GA.k {M : Nat} {m m' : Hp} (p : GA M m m') : GK M m m' := ⟨p.1.mono (fun _ _ w => w) (fun _ v => Or.inl v), p.2⟩
set_option maxHeartbeats 200000 in
theorem gt_ga {M : Nat} {m m' : Hp} (p : GT M m m') : GA M m m' := ⟨p.mono (fun _ _ w => w) (fun _ v => v.elim), fun k _ => p.a (fun z => z)⟩
set_option maxHeartbeats 200000 in
theorem ga_sA {M : Nat} (m : Hp) {i : Nat} {v : Int} (hi : 1480 ≤ i) : GA M m (sA m (M + 5) (i : Int) v) := ⟨fr_sA m rfl, fun k hk => by rw [gA_sA, if_neg (fun z => by have := z.2; omega)]⟩
set_option maxHeartbeats 200000 in
theorem GA.b {M : Nat} {m m' : Hp} (p : GA M m m') {i : Nat} : gB m' (M + 6) i = gB m (M + 6) i := p.1.b (by omega)
set_option maxHeartbeats 200000 in
theorem gt_gk {M : Nat} {m m' : Hp} (p : GT M m m') : GK M m m' := ⟨p.mono (fun _ _ w => w) (fun _ v => v.elim), fun k _ => p.a (fun z => z)⟩
set_option maxHeartbeats 200000 in
theorem gn_gk {M : Nat} {m m' : Hp} (p : GN M m m') : GK M m m' := ⟨p.mono (fun _ _ w => w) (fun _ v => Or.inr v), fun k _ => p.a (by omega)⟩
set_option maxHeartbeats 200000 in
theorem gk_sA {M : Nat} (m : Hp) {i : Nat} {v : Int} (hi : 1480 ≤ i) : GK M m (sA m (M + 5) (i : Int) v) := ⟨fr_sA m (Or.inl rfl), fun k hk => by rw [gA_sA, if_neg (fun z => by have := z.2; omega)]⟩
set_option maxHeartbeats 200000 in
theorem gA_sAi {m : Hp} {a i k : Nat} {v : Int} (r : rg v) : gA (sA m a (i : Int) v) a k = if k = i then v else gA m a k := by
  rw [gA_sA, Int.toNat_natCast]
  by_cases q : k = i
  · rw [if_pos ⟨rfl, q⟩, if_pos q, w32_of r]
  · rw [if_neg (fun z => q z.2), if_neg q]
set_option maxHeartbeats 200000 in
theorem tzMt.sA {M L : Nat} {T : Nat → Int} {t : TkS} {m : Hp} {i v : Int} (H : tzMt M L T t m) : tzMt M L T t (sA m (M + 5) i v) := H.fr (W := fun _ _ => False) (V := fun a => a = M + 5) (fr_sA m rfl) (fun _ _ z => z) (fun _ _ _ z => z) (by omega)
set_option maxHeartbeats 200000 in
theorem tzSN.cg {h h' : Hp} {a q : Nat} {d d' : Nat → Int} {s : Nat} (H : tzSN h a q d s) (e : gI h' 386 a = gI h 386 a) (eq : ∀ k, gA h' q k = gA h q k) (e4 : d' (4 + s) = d (4 + s)) (el : ∀ k, k < 16 → d' (12 + 16 * s + k) = d (12 + 16 * s + k)) : tzSN h' a q d' s := by
  obtain ⟨h1, h2, h3⟩ := H
  unfold tzSN
  rw [e, e4]
  refine ⟨h1, h2, fun k hk => ?_⟩
  rw [eq, el k (by omega)]
  exact h3 k hk
set_option maxHeartbeats 200000 in
theorem tzJ0.cg {h h' : Hp} {a : Nat} {d d' : Nat → Int} {j : Nat} (H : tzJ0 h a d j) (e : ∀ f, f ≤ 9 → gI h' f a = gI h f a) (c : d' (140 + j) = d (140 + j) ∧ d' (148 + j) = d (148 + j) ∧ d' (156 + j) = d (156 + j) ∧ d' (164 + j) = d (164 + j) ∧ d' (172 + j) = d (172 + j) ∧ d' (180 + j) = d (180 + j) ∧ d' (188 + j) = d (188 + j) ∧ d' (196 + j) = d (196 + j) ∧ d' (204 + j) = d (204 + j)) : tzJ0 h' a d' j := by
  obtain ⟨c0, c1, c2, c3, c4, c5, c6, c7, c8⟩ := c
  unfold tzJ0
  rw [e 0 (by omega), e 1 (by omega), e 2 (by omega), e 3 (by omega), e 4 (by omega), e 5 (by omega), e 6 (by omega), e 7 (by omega), e 8 (by omega), e 9 (by omega), c0, c1, c2, c3, c4, c5, c6, c7, c8]
  exact H
set_option maxHeartbeats 200000 in
theorem tzJN.cg {h h' : Hp} {a : Nat} {d d' : Nat → Int} {j ns ns' : Nat} (H : tzJN h a d j ns) (n8 : ns ≤ 8) (nn : ns ≤ ns') (e : ∀ f, f ≤ 9 → gI h' f a = gI h f a) (c : d' (140 + j) = d (140 + j) ∧ d' (148 + j) = d (148 + j) ∧ d' (156 + j) = d (156 + j) ∧ d' (164 + j) = d (164 + j) ∧ d' (172 + j) = d (172 + j) ∧ d' (180 + j) = d (180 + j) ∧ d' (188 + j) = d (188 + j) ∧ d' (196 + j) = d (196 + j) ∧ d' (204 + j) = d (204 + j))
    (hl : ∀ k, k < 12 → d' (212 + 12 * j + k) = d (212 + 12 * j + k)) (sn : ∀ s, s < ns → d' (4 + s) = d (4 + s) ∧ d (4 + s) ≤ 16 ∧ ∀ k, k < 16 → d' (12 + 16 * s + k) = d (12 + 16 * s + k)) : tzJN h' a d' j ns' := by
  obtain ⟨c0, c1, c2, c3, c4, c5, c6, c7, c8⟩ := c
  obtain ⟨h1, h2, h3, h4, h5, h6⟩ := H
  unfold tzJN tzJF tzJW tzJH
  rw [e 0 (by omega), e 1 (by omega), e 2 (by omega), e 3 (by omega), e 4 (by omega), e 5 (by omega), e 6 (by omega), e 7 (by omega), e 8 (by omega), e 9 (by omega), c0, c1, c2, c3, c4, c5, c6, c7, c8]
  refine ⟨h1, h2, h3, h4, fun z => ?_, fun k hk => ?_⟩
  · obtain ⟨a1, a2⟩ := h5 z
    have b := h2.2.2.2.2.2.2.2.2
    rw [(sn (d (204 + j)).toNat (by omega)).1]
    exact ⟨by omega, a2⟩
  · have z : 0 < d (188 + j) := by omega
    obtain ⟨a1, a2⟩ := h5 z
    have b := h2.2.2.2.2.2.2.2.2
    have b1 := h2.1
    have b7 := h2.2.2.2.2.2.2.1
    obtain ⟨s1, s2, s3⟩ := sn (d (204 + j)).toNat (by omega)
    rw [hl k (by omega), s3 ((gI h 9 a).toNat + k) (by omega)]
    exact h6 k hk
/-! letters -/
def tzLt (L : Nat) (T : Nat → Int) (t : TkS) : TkS := if tkF t = 0 then (if tkK t = 1 ∧ tkE t - tkS t ≤ 16 then tzNt L T t else tzSt t 2) else t
set_option maxHeartbeats 200000 in
theorem tzLt_0 {L : Nat} {T : Nat → Int} {t : TkS} (h : tkF (tzLt L T t) = 0) : tkF t = 0 ∧ tkK t = 1 ∧ tkE t - tkS t ≤ 16 ∧ tzLt L T t = tzNt L T t := by
  unfold tzLt at h ⊢
  by_cases q : tkF t = 0
  · rw [if_pos q] at h ⊢
    by_cases q1 : tkK t = 1 ∧ tkE t - tkS t ≤ 16
    · rw [if_pos q1]; exact ⟨q, q1.1, q1.2, rfl⟩
    · rw [if_neg q1] at h
      exact absurd h (tzSt_0 (by omega))
  · rw [if_neg q] at h
    exact absurd h q
abbrev FR (X a q : Nat) : Hp → Hp → Prop := Fr (fun f x => (x = X + 10 ∧ 578 ≤ f ∧ f ≤ 583) ∨ (x = a ∧ f = 386)) (fun x => x = q)
set_option maxHeartbeats 200000 in
theorem tzx_let_l {X S L : Nat} {T : Nat → Int} {t : TkS} {s : Nat} (f0 : tkF t = 0) (k1 : tkK t = 1) (l16 : tkE t - tkS t ≤ 16) (s8 : s < 8) : ∀ n i fu (h : Hp), tkE t - tkS t - i ≤ n → n < fu → i ≤ tkE t - tkS t → tzXt X L T t h → XRd X S h → gI h 386 (S + 3 + 3 * s) = (i : Int) →
    ∃ h', FR X (S + 3 + 3 * s) (S + 4 + 3 * s) h h' ∧ tzXt X L T (tzNt L T t) h' ∧ gI h' 386 (S + 3 + 3 * s) = ((tkE t - tkS t : Nat) : Int) ∧ (∀ k, gA h' (S + 4 + 3 * s) k = if i ≤ k ∧ k < tkE t - tkS t then T (tkS t + k) - 96 else gA h (S + 4 + 3 * s) k) ∧ fX8_takeLetters_b32 (X + 12) (S + 3 + 3 * s) fu h (i : Int) = some h' := by
  have fin : ∀ i fu (h : Hp), ¬ i < tkE t - tkS t → i ≤ tkE t - tkS t → tzXt X L T t h → XRd X S h → gI h 386 (S + 3 + 3 * s) = (i : Int) →
      ∃ h', FR X (S + 3 + 3 * s) (S + 4 + 3 * s) h h' ∧ tzXt X L T (tzNt L T t) h' ∧ gI h' 386 (S + 3 + 3 * s) = ((tkE t - tkS t : Nat) : Int) ∧ (∀ k, gA h' (S + 4 + 3 * s) k = if i ≤ k ∧ k < tkE t - tkS t then T (tkS t + k) - 96 else gA h (S + 4 + 3 * s) k) ∧ fX8_takeLetters_b32 (X + 12) (S + 3 + 3 * s) (fu + 1) h (i : Int) = some h' := by
    intro i fu h h1 h2 H R hs
    have XS1 := R.2.2.1
    obtain ⟨h', p1, p2, p3⟩ := tzx_nt H
    refine ⟨h', p1.mono (fun f a w => Or.inl w) (fun _ v => v.elim), p2, ?_, fun k => ?_, ?_⟩
    · rw [p1.i (by omega), hs]; omega
    · rw [if_neg (by omega)]; exact p1.a (fun z => z)
    · rw [fX8_takeLetters_b32.eq_2]
      exact gdg (by rw [R.1.k12]) (nng R.1.r512 (gdg H.k (bdg (tzx_size H) (iteF (by omega) (bdg p3 (rfl))))))
  intro n
  induction n with
  | zero =>
    intro i fu h h1 h2 h3 H R hs
    obtain ⟨fu, rfl⟩ : ∃ k, fu = k + 1 := ⟨fu - 1, by omega⟩
    exact fin i fu h (by omega) h3 H R hs
  | succ n ih =>
    intro i fu h h1 h2 h3 H R hs
    obtain ⟨fu, rfl⟩ : ∃ k, fu = k + 1 := ⟨fu - 1, by omega⟩
    by_cases z : i < tkE t - tkS t
    · have XS1 := R.2.2.1
      have h9 := H.l
      have o := H.ok
      have o1 := o.1
      have o2 := o.2.1
      have ol := o.2.2.2.2.2.1 k1 (tkS t + i) (by omega) (by omega)
      obtain ⟨c1, c2, c3, c4, c5⟩ := R.2.2.2.2.2.2.2.2.1 s s8
      have ea := tzx_ltA (k := i) H (by omega)
      rw [if_pos (show tkS t + i < L by omega)] at ea
      have e1 : WE ((0 : Int) + (i : Int)) := we (by omega) (by omega)
      have e2 : WE ((i : Int) + 1) := we (by omega) (by omega)
      have ga : Fr (fun f x => x = S + 3 + 3 * s ∧ f = 386) (fun x => x = S + 4 + 3 * s) h (sA h (S + 4 + 3 * s) (i : Int) (T (tkS t + i) - 96)) := fr_sA h rfl
      have gb : Fr (fun f x => x = S + 3 + 3 * s ∧ f = 386) (fun x => x = S + 4 + 3 * s) (sA h (S + 4 + 3 * s) (i : Int) (T (tkS t + i) - 96)) (pI (sA h (S + 4 + 3 * s) (i : Int) (T (tkS t + i) - 96)) 386 (S + 3 + 3 * s) ((i : Int) + 1)) := fr_pI _ ⟨rfl, rfl⟩
      have g0 := ga.tr gb
      have ead : fX6_add h (S + 3 + 3 * s) (T (tkS t + i) - 96) = some (pI (sA h (S + 4 + 3 * s) (i : Int) (T (tkS t + i) - 96)) 386 (S + 3 + 3 * s) ((i : Int) + 1)) := by
        unfold fX6_add
        rw [c5, hs, e1.e, show (0 : Int) + (i : Int) = (i : Int) by omega]
        refine gdg c2 (nng c3 (gdg (by rw [c4]) (gdg (by rw [c4]; show ((16 : Nat) : Int) < 2147483648; omega) (iteT (by rw [c4]; show (i : Int) < ((16 : Nat) : Int); omega) (gdg (by rw [c4]; show 0 ≤ _ ∧ _ < ((16 : Nat) : Int); omega) (ltg (?_)))))))
        rw [gI_sA, hs, e2.e]
        rfl
      have s1 : gI (pI (sA h (S + 4 + 3 * s) (i : Int) (T (tkS t + i) - 96)) 386 (S + 3 + 3 * s) ((i : Int) + 1)) 386 (S + 3 + 3 * s) = ((i + 1 : Nat) : Int) := by rw [gI_pIs (by unfold rg; omega)]; omega
      have s2 : ∀ k, gA (pI (sA h (S + 4 + 3 * s) (i : Int) (T (tkS t + i) - 96)) 386 (S + 3 + 3 * s) ((i : Int) + 1)) (S + 4 + 3 * s) k = if k = i then T (tkS t + i) - 96 else gA h (S + 4 + 3 * s) k := fun k => by
        rw [gA_pI, gA_sAi (by unfold rg; omega)]
      generalize pI (sA h (S + 4 + 3 * s) (i : Int) (T (tkS t + i) - 96)) 386 (S + 3 + 3 * s) ((i : Int) + 1) = h2 at g0 ead s1 s2
      have R2 : XRd X S h2 := R.fc (g0.mono (fun f a w => Or.inr (by omega)) (fun a v => Or.inr (by omega)))
      have H2 : tzXt X L T t h2 := H.fr g0 (fun f _ _ => by omega) (by omega)
      obtain ⟨h', p1, p2, p3, p4, p5⟩ := ih (i + 1) fu h2 (by omega) (by omega) (by omega) H2 R2 s1
      refine ⟨h', (g0.mono (fun f a w => Or.inr w) (fun _ v => v)).tr p1, p2, p3, fun k => ?_, ?_⟩
      · rw [p4, s2]
        by_cases y1 : k = i
        · rw [if_neg (by omega), if_pos y1, if_pos (by omega), y1]
        · rw [if_neg y1]
          by_cases y2 : i ≤ k ∧ k < tkE t - tkS t
          · rw [if_pos (by omega), if_pos y2]
          · rw [if_neg (by omega), if_neg y2]
      · rw [fX8_takeLetters_b32.eq_2, e2.e]
        exact gdg (by rw [R.1.k12]) (nng R.1.r512 (gdg H.k (bdg (tzx_size H) (iteT (by omega) (bdg ea (gdg c2 (bdg ead (ltg (p5)))))))))
    · exact fin i fu h z h3 H R hs
set_option maxHeartbeats 200000 in
theorem tzx_let {X S L : Nat} {T : Nat → Int} {t : TkS} {s : Nat} {h : Hp} (H : tzXt X L T t h) (R : XRd X S h) (s8 : s < 8) (hs : tkF t = 0 → gI h 386 (S + 3 + 3 * s) = 0) :
    ∃ h', FR X (S + 3 + 3 * s) (S + 4 + 3 * s) h h' ∧ tzXt X L T (tzLt L T t) h' ∧ fX8_takeLetters h (X + 12) (S + 3 + 3 * s) = some h' ∧ (tkF (tzLt L T t) = 0 → gI h' 386 (S + 3 + 3 * s) = ((tkE t - tkS t : Nat) : Int) ∧ ∀ k, k < tkE t - tkS t → gA h' (S + 4 + 3 * s) k = T (tkS t + k) - 96) := by
  unfold fX8_takeLetters
  have k12 : (hK h (X + 12)).1 = 8 := by rw [R.1.k12]
  have b20n : ∀ {t : TkS} {h0 : Hp}, tzXt X L T t h0 → XRd X S h0 → ¬ tkF t = 0 → fX8_takeLetters_b20 (X + 12) (S + 3 + 3 * s) h0 = some h0 := fun {t} {h0} H0 R0 q => by
    have e := tzx_hasF H0
    rw [if_neg q] at e
    unfold fX8_takeLetters_b20
    exact gdg (by rw [R0.1.k12]) (nng R0.1.r512 (gdg H0.k (bdg e (iteF (by omega) (rfl)))))
  by_cases q1 : tkK t = 1 ∧ ((tkE t - tkS t : Nat) : Int) ≤ 16
  · have e1 := tzx_up1 H q1.1 q1.2
    by_cases f0 : tkF t = 0
    · have e := tzx_hasF H
      rw [if_pos f0] at e
      obtain ⟨h', p1, p2, p3, p4, p5⟩ := tzx_let_l f0 q1.1 (by omega) s8 (tkE t - tkS t) 0 FU h (by omega) (show tkE t - tkS t < 1000000 by omega) (by omega) H R (hs f0)
      unfold tzLt
      rw [if_pos f0, if_pos ⟨q1.1, by omega⟩]
      refine ⟨h', p1, p2, ?_, fun _ => ⟨p3, fun k hk => by rw [p4, if_pos ⟨Nat.zero_le _, hk⟩]⟩⟩
      refine gdg k12 (nng R.1.r512 (gdg H.k (bdg e1 (iteF (by omega) (?_)))))
      unfold fX8_takeLetters_b20
      exact gdg k12 (nng R.1.r512 (gdg H.k (bdg e (iteT rfl (p5)))))
    · unfold tzLt
      rw [if_neg f0]
      exact ⟨h, Fr.rf h, H, gdg k12 (nng R.1.r512 (gdg H.k (bdg e1 (iteF (by omega) (b20n H R f0))))), fun z => absurd z f0⟩
  · have e1 := tzx_up0 H q1
    obtain ⟨h', p1, p2, p3⟩ := tzx_stop (r := 2) H (by omega)
    have et : tzLt L T t = tzSt t 2 := by
      unfold tzLt
      by_cases f0 : tkF t = 0
      · rw [if_pos f0, if_neg (fun z => q1 ⟨z.1, by have := z.2; omega⟩)]
      · rw [if_neg f0, tzSt_n f0]
    rw [et]
    exact ⟨h', p1.mono (fun f a w => Or.inl w) (fun _ v => v.elim), p2, gdg k12 (nng R.1.r512 (gdg H.k (bdg e1 (iteT rfl (bdg p3 (b20n p2 (R.ft p1) (tzSt_0 (by omega)))))))), fun z => absurd z (tzSt_0 (by omega))⟩
