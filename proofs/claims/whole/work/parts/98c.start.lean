/-! THE START: the invariant of two new objects -/
set_option maxHeartbeats 200000 in
theorem mk_az {l : MkL} {i : Nat} (d : l.all (fun o => decide (¬ (5 ≤ o.1 ∧ o.2.1 = i))) = true) : ∀ k, mkAf l i k = 0 := by
  induction l with
  | nil => intro k; rfl
  | cons o l ih =>
    intro k
    rw [List.all_cons, Bool.and_eq_true] at d
    obtain ⟨d1, d2⟩ := d
    have d1' := of_decide_eq_true d1
    obtain ⟨tg, a, b, c, v⟩ := o
    rcases tg with _ | _ | _ | _ | _ | tg
    · show (if i = mkZ l then 0 else mkAf l i k) = 0
      split
      · rfl
      · exact ih d2 k
    · exact ih d2 k
    · exact ih d2 k
    · exact ih d2 k
    · exact ih d2 k
    · show (if i = a ∧ k = b then w32 v else mkAf l i k) = 0
      rw [if_neg (fun w => d1' ⟨by omega, w.1.symm⟩)]
      exact ih d2 k
set_option maxHeartbeats 200000 in
theorem mk_aa {X : Nat} {h : Hp} (hz : hZ h = X) {l : MkL} {i : Nat} (d : (decide (i < mkZ l) && l.all (fun o => decide (¬ (5 ≤ o.1 ∧ o.2.1 = i)))) = true) (k : Nat) : gA (mkH' X h l) (X + i) k = 0 := by
  rw [Bool.and_eq_true, decide_eq_true_eq] at d
  rw [mk_a hz l d.1, mk_az d.2]
/-! a new shop -/
def mkShB (l : MkL) (b : Nat) : Bool := (List.range 8).all (fun s => (decide (mkCf l (b + 1) s = some (b + 3 + 3 * s)) && (decide (mkK l (b + 3 + 3 * s) = (6, 0)) && (decide (mkRf l 384 (b + 3 + 3 * s) = some (b + 4 + 3 * s)) && (decide (mkK l (b + 4 + 3 * s) = (21, 16)) && (decide (mkIf l 385 (b + 3 + 3 * s) = 0) && decide (mkIf l 386 (b + 3 + 3 * s) = 0)))))) && (decide (mkCf l (b + 2) s = some (b + 5 + 3 * s)) && decide (mkK l (b + 5 + 3 * s) = (0, 0)))) &&
  (decide (b + 27 ≤ mkZ l) && (decide (mkK l b = (7, 0)) && (decide (mkRf l 448 b = some (b + 1)) && (decide (mkRf l 449 b = some (b + 2)) && (decide (mkK l (b + 1) = (26, 8)) && (decide (mkK l (b + 2) = (24, 8)) && (decide (mkIf l 450 b = 0) && decide (mkIf l 451 b = 0))))))))
set_option maxHeartbeats 200000 in
theorem mkShB_s {X b : Nat} {h : Hp} {l : MkL} (hz : hZ h = X) (d : mkShB l b = true) : SHs (mkH' X h l) (X + b) ∧ gI (mkH' X h l) 450 (X + b) = 0 ∧ gI (mkH' X h l) 451 (X + b) = 0 ∧ ∀ s, s < 8 → gI (mkH' X h l) 386 (X + b + 3 + 3 * s) = 0 := by
  unfold mkShB at d
  simp only [Bool.and_eq_true, decide_eq_true_eq, List.all_eq_true, List.mem_range] at d
  obtain ⟨d1, d2, d3, d4, d5, d6, d7, d8, d9⟩ := d
  have r : ∀ {f i j : Nat}, i < mkZ l → mkRf l f i = some j → gR (mkH' X h l) f (X + i) = some (X + j) := fun {f i j} a b => by rw [mk_r hz l a, b]; rfl
  have c : ∀ {i k j : Nat}, i < mkZ l → mkCf l i k = some j → gC (mkH' X h l) (X + i) k = some (X + j) := fun {i k j} a b => by rw [mk_c hz l a, b]; rfl
  have e : ∀ n s, X + b + n + 3 * s = X + (b + n + 3 * s) := fun n s => by omega
  have e2 : ∀ n, X + b + n = X + (b + n) := fun n => by omega
  refine ⟨⟨?_, ?_, ?_, ?_, ?_, fun s hs => ?_, fun s hs => ?_⟩, ?_, ?_, fun s hs => ?_⟩
  · rw [mk_k hz l (by omega)]; exact d3
  · rw [e2]; exact r (by omega) d4
  · rw [e2]; exact r (by omega) d5
  · rw [e2, mk_k hz l (by omega)]; exact d6
  · rw [e2, mk_k hz l (by omega)]; exact d7
  · obtain ⟨⟨a1, a2, a3, a4, a5, a6⟩, -⟩ := d1 s hs
    rw [e2, e, e]
    exact ⟨c (by omega) a1, by rw [mk_k hz l (by omega), a2], r (by omega) a3, by rw [mk_k hz l (by omega)]; exact a4, by rw [mk_i hz l (by omega)]; exact a5⟩
  · obtain ⟨-, a1, a2⟩ := d1 s hs
    rw [e2, e]
    exact ⟨c (by omega) a1, by rw [mk_k hz l (by omega)]; exact a2⟩
  · rw [mk_i hz l (by omega)]; exact d8
  · rw [mk_i hz l (by omega)]; exact d9
  · rw [e, mk_i hz l (by omega)]; exact (d1 s hs).1.2.2.2.2.2
set_option maxHeartbeats 200000 in
theorem mk_shop {S : Nat} {h : Hp} (hz : hZ h = S) : SHs (mkH' S h mkS_60) S ∧ gI (mkH' S h mkS_60) 450 S = 0 ∧ gI (mkH' S h mkS_60) 451 S = 0 ∧ ∀ s, s < 8 → gI (mkH' S h mkS_60) 386 (S + 3 + 3 * s) = 0 := mkShB_s (b := 0) hz (by decide +kernel)
set_option maxHeartbeats 200000 in
theorem mk_jars {S : Nat} {h : Hp} (hz : hZ h = S) {j : Nat} (hj : j < 8) {f : Nat} (hf : f ≤ 9) : gI (mkH' S h mkS_60) f (S + 5 + 3 * j) = if f = 4 then 1 else 0 := by
  have d : ∀ j, j < 8 → ∀ f, f < 10 → mkIf mkS_60 f (5 + 3 * j) = if f = 4 then 1 else 0 := by decide +kernel
  have z : mkZ mkS_60 = 27 := by decide +kernel
  rw [show S + 5 + 3 * j = S + (5 + 3 * j) by omega, mk_i hz _ (by omega)]
  exact d j hj f (by omega)
set_option maxHeartbeats 200000 in
theorem mk_shopZ {S : Nat} {h : Hp} (hz : hZ h = S) : hZ (mkH' S h mkS_60) = S + 27 := mk_zz hz (by decide +kernel)
/-! the law with no rule -/
set_option maxHeartbeats 200000 in
theorem mk_law {R : Nat} {h : Hp} (hz : hZ h = R) {c : Nat → Int} (c3 : c 3 = 0) : LV (mkH' R h mkL_6) R c := by
  refine ⟨mk_kk (i := 0) hz (by decide +kernel), mk_rr (i := 0) (j := 1) hz (by decide +kernel), mk_rr (i := 0) (j := 2) hz (by decide +kernel), mk_rr (i := 0) (j := 3) hz (by decide +kernel), mk_kk (i := 1) hz (by decide +kernel), mk_kk (i := 2) hz (by decide +kernel), mk_kk (i := 3) hz (by decide +kernel), ?_, fun k k0 k8 => absurd k8 (by omega)⟩
  rw [c3]
  exact mk_ii (i := 0) hz (by decide +kernel)
set_option maxHeartbeats 200000 in
theorem mk_lawZ {R : Nat} {h : Hp} (hz : hZ h = R) : hZ (mkH' R h mkL_6) = R + 4 := mk_zz hz (by decide +kernel)
/-! both new objects -/
def tz0 : Nat → Int := fun _ => 0
set_option maxHeartbeats 200000 in
theorem tz0_e (k : Nat) : tz0 k = 0 := rfl
set_option maxHeartbeats 200000 in
theorem wf_0 : WF tz0 := by
  unfold WF WJ
  simp only [tz0_e]
  refine ⟨by omega, by omega, by omega, by omega, fun s _ _ => by omega, fun s k _ _ _ h => absurd h (by omega), fun j _ _ => by omega, fun j k _ _ _ h => absurd h (by omega), fun k _ h => absurd h (by omega)⟩
set_option maxHeartbeats 200000 in
theorem xs_mk {X : Nat} {h : Hp} (hz : hZ h = X) : XS (mkH' X h mkX_329) X := by
  have dk : ∀ i, i < 121 → mkK mkX_329 i = kT.getD i (99, 0) := by decide +kernel
  have dr : ∀ q ∈ rT, q.2.1 < 121 ∧ mkRf mkX_329 q.1 q.2.1 = some q.2.2 := by decide +kernel
  have dc : ∀ q ∈ cT, q.1 < 121 ∧ mkCf mkX_329 q.1 q.2.1 = some q.2.2 := by decide +kernel
  have z : mkZ mkX_329 = 144 := by decide +kernel
  refine ⟨fun i hi => by rw [mk_k hz _ (by omega)]; exact dk i hi, fun q hq => ?_, fun q hq => ?_, ?_⟩
  · have := dr q hq
    rw [mk_r hz _ (by omega), this.2]; rfl
  · have := dc q hq
    rw [mk_c hz _ (by omega), this.2]; rfl
  · exact ⟨mk_ii hz (by decide +kernel), mk_ii hz (by decide +kernel), mk_ii hz (by decide +kernel), mk_ii hz (by decide +kernel)⟩
set_option maxHeartbeats 200000 in
theorem ms_mk {X : Nat} {h : Hp} (hz : hZ h = X) : MS (mkH' X h mkX_329) (X + 121) := by
  have dk : ∀ i, i < 23 → mkK mkX_329 (121 + i) = mT.getD i (99, 0) := by decide +kernel
  have dr : ∀ q ∈ mR, mkRf mkX_329 q.1 121 = some (121 + q.2) := by decide +kernel
  have z : mkZ mkX_329 = 144 := by decide +kernel
  refine ⟨fun i hi => by rw [Nat.add_assoc, mk_k hz _ (by omega)]; exact dk i hi, fun q hq => ?_⟩
  rw [mk_r hz _ (by omega), dr q hq, Nat.add_assoc]; rfl
set_option maxHeartbeats 200000 in
theorem inv_mk {X : Nat} {h : Hp} (hz : hZ h = X) : Inv (mkH' X h mkX_329) X := by
  have zz : hZ (mkH' X h mkX_329) = X + 144 := mk_zz hz (by decide +kernel)
  have hc : gA (mkH' X h mkX_329) (X + 121 + 5) = tz0 := funext fun k => mk_aa (i := 126) hz (by decide +kernel) k
  have r717 : gR (mkH' X h mkX_329) 717 X = some (X + 45) := mk_rr (i := 0) (j := 45) hz (by decide +kernel)
  have r718 : gR (mkH' X h mkX_329) 718 X = some (X + 72) := mk_rr (i := 0) (j := 72) hz (by decide +kernel)
  obtain ⟨hs, i450, i451, i386⟩ := mkShB_s (l := mkX_329) (b := 45) hz (by decide +kernel)
  have sv : SV (mkH' X h mkX_329) (X + 45) tz0 := by
    obtain ⟨h1, h2, h3, h4, h5, h6, h7⟩ := hs
    refine ⟨h1, h2, h3, h4, h5, i450, i451, fun s s0 s8 => ?_, fun j j0 j8 => ?_, fun j j0 j8 => absurd j8 (by rw [tz0_e]; omega)⟩
    · obtain ⟨n, rfl⟩ := i2n s0
      obtain ⟨a1, a2, a3, a4, a5⟩ := h6 n (by omega)
      rw [Int.toNat_natCast]
      refine ⟨a1, ⟨a2, i386 n (by omega), by rw [tz0_e]; omega, by rw [tz0_e]; omega, fun k _ => ?_, a3, by rw [a4], by rw [a5]; omega, by rw [a5, a4, tz0_e]; show (0 : Int) + 0 ≤ ((16 : Nat) : Int); omega, by rw [a4]; show ((16 : Nat) : Int) < 100000; omega, fun k _ k8 => absurd k8 (by rw [tz0_e]; omega)⟩, a4, a5⟩
      unfold sL
      split <;> rfl
    · obtain ⟨n, rfl⟩ := i2n j0
      exact h7 n (by omega)
  have lv : LV (mkH' X h mkX_329) (X + 72) tz0 := by
    refine ⟨mk_kk (i := 72) hz (by decide +kernel), mk_rr (i := 72) (j := 73) hz (by decide +kernel), mk_rr (i := 72) (j := 74) hz (by decide +kernel), mk_rr (i := 72) (j := 75) hz (by decide +kernel), mk_kk (i := 73) hz (by decide +kernel), mk_kk (i := 74) hz (by decide +kernel), mk_kk (i := 75) hz (by decide +kernel), mk_ii (i := 72) hz (by decide +kernel), fun k k0 k8 => absurd k8 (by rw [tz0_e]; omega)⟩
  have q0 : ∀ {f : Nat}, (decide (121 < mkZ mkX_329) && decide (mkIf mkX_329 f 121 = 0)) = true → gI (mkH' X h mkX_329) f (X + 121) = 0 := fun d => mk_ii (i := 121) hz d
  refine ⟨tz0, ⟨⟨xs_mk hz, wf_0, mk_ii (i := 0) hz (by decide +kernel), ⟨X + 45, r717, sv, Or.inl ⟨by omega, by omega⟩⟩, X + 72, r718, lv, Or.inl ⟨by omega, by omega⟩⟩, ⟨ms_mk hz, hc, wf_0⟩, ⟨by omega, fun S hS => ?_, fun R hR => ?_⟩, fun t ht => Or.inl ⟨?_, ?_⟩, ⟨?_, ?_, ?_, ?_, ?_⟩, ⟨0, by omega, q0 (by decide +kernel), mk_ii (i := 0) hz (by decide +kernel), fun i hi => absurd hi (by omega)⟩, ⟨Or.inl (q0 (by decide +kernel)), fun j hj => ?_⟩, ⟨?_, ?_, ?_, fun i hi => mk_aa (i := 108) hz (by decide +kernel) i, Or.inl ⟨mk_rr (i := 104) (j := 109) hz (by decide +kernel), mk_rr (i := 104) (j := 110) hz (by decide +kernel)⟩⟩, ⟨?_, ?_, ?_⟩, ⟨?_, ?_, ?_⟩⟩, ?_, ?_, ?_⟩
  · rw [r717] at hS; cases hS; omega
  · rw [r718] at hR; cases hR; omega
  · have d : ∀ t, t < 4 → mkAf mkX_329 123 t = -1 := by decide +kernel
    have z : mkZ mkX_329 = 144 := by decide +kernel
    rw [show X + 121 + 2 = X + 123 by omega, mk_a hz _ (by omega)]
    exact d t ht
  · have d : ∀ t, t < 4 → mkIf mkX_329 641 (2 + 2 * t) = -1 := by decide +kernel
    have z : mkZ mkX_329 = 144 := by decide +kernel
    rw [show X + 2 + 2 * t = X + (2 + 2 * t) by omega, mk_i hz _ (by omega)]
    exact d t ht
  · rw [q0 (by decide +kernel)]; omega
  · rw [q0 (by decide +kernel)]; exact mk_ii (i := 10) hz (by decide +kernel)
  · intro k hk
    rw [q0 (by decide +kernel)] at hk
    exact absurd hk (by omega)
  · rw [mk_ii (i := 10) (v := -1) hz (by decide +kernel), mk_ii (i := 121) (v := -1) hz (by decide +kernel)]
  · rw [mk_ii (i := 10) (v := -1) hz (by decide +kernel), mk_ii (i := 121) (v := -1) hz (by decide +kernel)]
  · rw [q0 (by decide +kernel), if_pos rfl]; exact mk_aa (i := 102) hz (by decide +kernel) j
  · rw [q0 (by decide +kernel)]; omega
  · rw [q0 (by decide +kernel)]; exact mk_ii (i := 111) hz (by decide +kernel)
  · intro k hk
    rw [q0 (by decide +kernel)] at hk
    exact absurd hk (by omega)
  · rw [q0 (by decide +kernel)]; omega
  · rw [q0 (by decide +kernel)]; exact mk_ii (i := 117) hz (by decide +kernel)
  · intro k hk
    rw [q0 (by decide +kernel)] at hk
    exact absurd hk (by omega)
  · rw [q0 (by decide +kernel)]; omega
  · rw [q0 (by decide +kernel)]; exact mk_ii (i := 119) hz (by decide +kernel)
  · intro k hk
    rw [q0 (by decide +kernel)] at hk
    exact absurd hk (by omega)
  · rw [q0 (by decide +kernel)]; exact mk_ii (i := 0) hz (by decide +kernel)
  · exact Eq.trans (b := 0) (mk_jj (l := mkX_329) (f := 722) (i := 0) hz (by decide +kernel)) (mk_jj (l := mkX_329) (f := 770) (i := 121) hz (by decide +kernel)).symm
  · exact Eq.trans (b := 1) (mk_jj (l := mkX_329) (f := 723) (i := 0) hz (by decide +kernel)) (mk_jj (l := mkX_329) (f := 771) (i := 121) hz (by decide +kernel)).symm
