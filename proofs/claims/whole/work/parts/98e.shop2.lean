/-! SHOP: what was read is a shop as the invariant wants it -/
set_option maxHeartbeats 200000 in
theorem good_sv {X S M L : Nat} {T : Nat → Int} {h m : Hp} {ns nj : Nat} {nS nJ : NmT} (G : tzGd X S M L T h m ns nj nS nJ) (HS : SHs h S) {c : Nat → Int} (e : ∀ k, k < 370 → c k = tzD M m k) : SV h S c ∧ WF c ∧ c 0 = 0 ∧ c 2 = (nj : Int) := by
  obtain ⟨⟨b1, b2, b3, b4, b5, b6, b7, b8⟩, -, sn, s0, jn, j0⟩ := G
  obtain ⟨h1, h2, h3, h4, h5, h6, h7⟩ := HS
  have c0 : c 0 = 0 := (e 0 (by omega)).trans b7
  have c1 : c 1 = (ns : Int) := (e 1 (by omega)).trans b5
  have c2 : c 2 = (nj : Int) := (e 2 (by omega)).trans b6
  have c3 : c 3 = 0 := (e 3 (by omega)).trans b8
  have tn : ∀ a n : Nat, ((a : Int) + (n : Int)).toNat = a + n := fun a n => by omega
  have cn : ∀ (a n : Nat), a + n < 370 → c ((a : Int) + (n : Int)).toNat = tzD M m (a + n) := fun a n hn => by rw [tn]; exact e _ hn
  have lt1 : ∀ s k : Nat, s < 8 → (k : Int) < tzD M m (4 + s) → 1 ≤ tzD M m (12 + 16 * s + k) ∧ tzD M m (12 + 16 * s + k) ≤ 26 := fun s k hs hk => ((sn s hs).2.2 k hk).2
  have wf : WF c := by
    refine ⟨by omega, by omega, by omega, by omega, fun s v0 v8 => ?_, fun s k v0 v8 k0 k8 => ?_, fun j v0 v8 => ?_, fun j k v0 v8 k0 k8 => ?_, fun k k0 k8 => absurd k8 (by omega)⟩
    · obtain ⟨s, rfl⟩ := i2n v0
      rw [show (4 + (s : Int)) = ((4 : Nat) : Int) + (s : Int) from rfl, cn 4 s (by omega)]
      exact (sn s (by omega)).2.1
    · obtain ⟨s, rfl⟩ := i2n v0
      obtain ⟨k, rfl⟩ := i2n k0
      rw [show (4 + (s : Int)) = ((4 : Nat) : Int) + (s : Int) from rfl, cn 4 s (by omega)] at k8
      have b := (sn s (by omega)).2.1
      rw [show (12 + 16 * (s : Int) + (k : Int)).toNat = 12 + 16 * s + k by omega, e _ (by omega)]
      exact lt1 s k (by omega) k8
    · obtain ⟨j, rfl⟩ := i2n v0
      have j8 : j < 8 := by omega
      unfold WJ
      rw [show (140 + (j : Int)) = ((140 : Nat) : Int) + (j : Int) from rfl, show (148 + (j : Int)) = ((148 : Nat) : Int) + (j : Int) from rfl, show (156 + (j : Int)) = ((156 : Nat) : Int) + (j : Int) from rfl, show (164 + (j : Int)) = ((164 : Nat) : Int) + (j : Int) from rfl, show (172 + (j : Int)) = ((172 : Nat) : Int) + (j : Int) from rfl, show (180 + (j : Int)) = ((180 : Nat) : Int) + (j : Int) from rfl, show (188 + (j : Int)) = ((188 : Nat) : Int) + (j : Int) from rfl, show (196 + (j : Int)) = ((196 : Nat) : Int) + (j : Int) from rfl, show (204 + (j : Int)) = ((204 : Nat) : Int) + (j : Int) from rfl,
        cn 140 j (by omega), cn 148 j (by omega), cn 156 j (by omega), cn 164 j (by omega), cn 172 j (by omega), cn 180 j (by omega), cn 188 j (by omega), cn 196 j (by omega), cn 204 j (by omega)]
      by_cases y : j < nj
      · obtain ⟨w0, w1, w2, w3, w4, w5, w6, w7, w8⟩ := (jn j y).2.1
        exact ⟨⟨by omega, w0.2⟩, w1, w2, w3, w4, w5, w6, w7, w8⟩
      · obtain ⟨-, w0, w1, w2, w3, w4, w5, w6, w7, w8⟩ := j0 j (by omega) j8
        rw [w0, w1, w2, w3, w4, w5, w6, w7, w8]
        omega
    · obtain ⟨j, rfl⟩ := i2n v0
      obtain ⟨k, rfl⟩ := i2n k0
      rw [show (188 + (j : Int)) = ((188 : Nat) : Int) + (j : Int) from rfl, cn 188 j (by omega)] at k8
      by_cases y : j < nj
      · obtain ⟨-, W, H⟩ := jn j y
        obtain ⟨g1, g2, g3, g4⟩ := H
        have w0 := W.1
        have w6 := W.2.2.2.2.2.2.1
        have w8 := W.2.2.2.2.2.2.2.2
        have g3' := g3 (by omega)
        rw [show (212 + 12 * (j : Int) + (k : Int)).toNat = 212 + 12 * j + k by omega, e _ (by omega), ← g4 k k8]
        exact lt1 _ _ (by omega) (by omega)
      · have := (j0 j (by omega) (by omega)).2.2.2.2.2.2.2.1
        omega
  refine ⟨⟨h1, h2, h3, h4, h5, by rw [c1]; exact b1, by rw [c2]; exact b2, fun s v0 v8 => ?_, fun j v0 v8 => ?_, fun j v0 v8 => ?_⟩, wf, c0, c2⟩
  · obtain ⟨s, rfl⟩ := i2n v0
    have s8 : s < 8 := by omega
    obtain ⟨a1, a2, a3, a4, a5⟩ := h6 s s8
    obtain ⟨x1, x2, x3⟩ := sn s s8
    have ec : c (4 + (s : Int)).toNat = tzD M m (4 + s) := cn 4 s (by omega)
    rw [Int.toNat_natCast, ec]
    refine ⟨a1, ⟨a2, x1, x2.1, by omega, fun k hk => sL_o (by rw [ec]; exact hk), a3, by rw [a4], by omega, by rw [a5, a4]; show (0 : Int) + _ ≤ ((16 : Nat) : Int); omega, by rw [a4]; show ((16 : Nat) : Int) < 100000; omega, fun k k0 k8 => ?_⟩, a4, a5⟩
    obtain ⟨k, rfl⟩ := i2n k0
    rw [a5, show ((0 : Int) + (k : Int)).toNat = k by omega, (x3 k k8).1]
    unfold sL
    rw [ec, if_pos ⟨by omega, k8⟩, show (12 + 16 * (s : Int) + (k : Int)).toNat = 12 + 16 * s + k by omega, e _ (by omega)]
  · obtain ⟨j, rfl⟩ := i2n v0
    exact h7 j (by omega)
  · obtain ⟨j, rfl⟩ := i2n v0
    have y : j < nj := by omega
    rw [Int.toNat_natCast]
    obtain ⟨F, W, g1, g2, g3, g4⟩ := jn j y
    obtain ⟨f0, f1, f2, f3, f4, f5, f6, f7, f8⟩ := F
    have w0 := W.1
    have w6 := W.2.2.2.2.2.2.1
    have w8 := W.2.2.2.2.2.2.2.2
    unfold JV
    rw [show (140 + (j : Int)) = ((140 : Nat) : Int) + (j : Int) from rfl, show (148 + (j : Int)) = ((148 : Nat) : Int) + (j : Int) from rfl, show (156 + (j : Int)) = ((156 : Nat) : Int) + (j : Int) from rfl, show (164 + (j : Int)) = ((164 : Nat) : Int) + (j : Int) from rfl, show (172 + (j : Int)) = ((172 : Nat) : Int) + (j : Int) from rfl, show (180 + (j : Int)) = ((180 : Nat) : Int) + (j : Int) from rfl, show (188 + (j : Int)) = ((188 : Nat) : Int) + (j : Int) from rfl, show (196 + (j : Int)) = ((196 : Nat) : Int) + (j : Int) from rfl, show (204 + (j : Int)) = ((204 : Nat) : Int) + (j : Int) from rfl,
      cn 140 j (by omega), cn 148 j (by omega), cn 156 j (by omega), cn 164 j (by omega), cn 172 j (by omega), cn 180 j (by omega), cn 188 j (by omega), cn 196 j (by omega), cn 204 j (by omega)]
    generalize hs : tzD M m (204 + j) = sv at *
    obtain ⟨s, rfl⟩ := i2n w8.1
    have ec : c (4 + (s : Int)).toNat = tzD M m (4 + s) := cn 4 s (by omega)
    rw [Int.toNat_natCast] at g3 g4
    rw [ec]
    have x2 := (sn s (by omega)).2.1
    refine ⟨f0, f1, f2, f3, f4, f5, f6, f7, f8, g1, ?_, fun k k0 k8 => ?_⟩
    · by_cases q : 0 < tzD M m (188 + j)
      · exact (g3 q).2
      · have := g2 (by omega)
        omega
    · obtain ⟨k, rfl⟩ := i2n k0
      have g3' := g3 (by omega)
      obtain ⟨fr, hfr⟩ := i2n g1
      have g4' := g4 k k8
      rw [hfr] at g3' g4' ⊢
      rw [Int.toNat_natCast] at g4'
      unfold sL
      rw [ec, if_pos ⟨by omega, by omega⟩, show (12 + 16 * (s : Int) + ((fr : Int) + (k : Int))).toNat = 12 + 16 * s + (fr + k) by omega, e _ (by omega), show (212 + 12 * (j : Int) + (k : Int)).toNat = 212 + 12 * j + k by omega, e _ (by omega)]
      exact g4'
/-! the class's end: nobody was on the road -/
set_option maxHeartbeats 200000 in
theorem xBrk {X : Nat} {n : Int} {S : Nat} : ∀ d i fu (h : Hp), 8 - i ≤ d → d < fu → i ≤ 8 → XS h X → gR h 717 X = some S → (hK h S).1 = 7 → X + 103 ≤ S → (∀ k, k < i → gA h (X + 102) k = 0) →
    ∃ h', Fr (fun _ _ => False) (fun a => a = X + 102) h h' ∧ (∀ k, k < 8 → gA h' (X + 102) k = 0) ∧ fX11_shop_b79 X n fu h 31 292 (i : Int) = some (gI h' 451 S, pI h' 721 X 0) := by
  have fin : ∀ i fu (h : Hp), ¬ i < 8 → XS h X → gR h 717 X = some S → (hK h S).1 = 7 → (∀ k, k < i → gA h (X + 102) k = 0) → ∃ h', Fr (fun _ _ => False) (fun a => a = X + 102) h h' ∧ (∀ k, k < 8 → gA h' (X + 102) k = 0) ∧ fX11_shop_b79 X n (fu + 1) h 31 292 (i : Int) = some (gI h' 451 S, pI h' 721 X 0) := by
    intro i fu h h1 H r kS z
    refine ⟨h, Fr.rf h, fun k hk => z k (by omega), ?_⟩
    rw [fX11_shop_b79.eq_2]
    refine iteF (by omega) (gdg (by rw [H.k0]) (nng r (gdg kS (gdg (by omega) (?_)))))
    unfold fX11_answer
    exact bd2g (gdg (by rw [H.k0]) rfl) (gdg (by omega) (rfl))
  intro d
  induction d with
  | zero =>
    intro i fu h h1 h2 h3 H r kS hS z
    obtain ⟨fu, rfl⟩ : ∃ k, fu = k + 1 := ⟨fu - 1, by omega⟩
    exact fin i fu h (by omega) H r kS z
  | succ d ih =>
    intro i fu h h1 h2 h3 H r kS hS z
    obtain ⟨fu, rfl⟩ : ∃ k, fu = k + 1 := ⟨fu - 1, by omega⟩
    by_cases y : i < 8
    · have e2 : WE ((i : Int) + 1) := we (by omega) (by omega)
      have f1 : Fr (fun _ _ => False) (fun a => a = X + 102) h (sA h (X + 102) (i : Int) 0) := fr_sA h rfl
      have s2 : ∀ k, gA (sA h (X + 102) (i : Int) 0) (X + 102) k = if k = i then 0 else gA h (X + 102) k := fun k => gA_sAi (rg_lit rfl)
      obtain ⟨h', p1, p2, p3⟩ := ih (i + 1) fu (sA h (X + 102) (i : Int) 0) (by omega) (by omega) (by omega) (H.fr f1 (fun _ _ w => w.elim) (fun a v => Or.inr (Or.inr v))) r kS hS (fun k hk => by
        rw [s2]
        by_cases w : k = i
        · rw [if_pos w]
        · rw [if_neg w]; exact z k (by omega))
      refine ⟨h', f1.tr p1, p2, ?_⟩
      rw [fX11_shop_b79.eq_2, e2.e]
      exact iteT (by omega) (gdg (by rw [H.k0]) (nng H.r713 (gdg (by rw [H.k102]) (gdg (by rw [H.k102]; show 0 ≤ _ ∧ _ < ((8 : Nat) : Int); omega) (ltg (ltg (p3)))))))
    · exact fin i fu h y H r kS z
