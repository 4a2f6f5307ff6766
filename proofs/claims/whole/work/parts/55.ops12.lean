/-! FRACTIONS (written by wip/whole/g55.py) -/
set_option maxHeartbeats 200000 in
theorem labs_n {n : Nat} (h : n < 9223372036854775808) : labs (n : Int) = (n : Int) := by
  unfold labs
  by_cases q : n = 0
  · subst q; rfl
  · have z : (0 : Int64) < Int64.ofInt (n : Int) := (ofJ_lt (a := 0) (b := (n : Int)) ⟨by omega, by omega⟩ ⟨by omega, by omega⟩).mpr (by omega)
    rw [if_pos z, tj_of ⟨by omega, by omega⟩]
set_option maxHeartbeats 200000 in
theorem euc_dn {a b m : Nat} (hb : b ≤ a) (b0 : 0 < b) (hm : a * b < 2 ^ (m + 1)) : b * (a % b) < 2 ^ m := by
  have h1 : a % b < b := Nat.mod_lt _ b0
  have h2 := Nat.mod_add_div a b
  have h3 : 0 < a / b := Nat.div_pos hb b0
  have h4 : b ≤ b * (a / b) := Nat.le_mul_of_pos_right b h3
  have h5 : 2 * (a % b) ≤ a := by omega
  have h6 : b * (2 * (a % b)) ≤ b * a := Nat.mul_le_mul_left b h5
  rw [Nat.mul_comm b a, Nat.mul_left_comm] at h6
  rw [Nat.pow_succ] at hm
  omega
set_option maxHeartbeats 200000 in
theorem gcd_dn {a b : Nat} (b0 : 0 < b) : Nat.gcd b (a % b) = Nat.gcd a b := by
  rw [Nat.gcd_comm b (a % b), Nat.gcd_comm a b, ← Nat.gcd_rec]
set_option maxHeartbeats 200000 in
/-- Euclid's loop, in the class -/
theorem xEuc (X : Nat) (p q : Int) (h : Hp) : ∀ (m a b v fu : Nat), b ≤ a → a < 4611686018427387904 → a * b < 2 ^ m → v + m + 1 ≤ 200 → m + 1 < fu → fX11_tellFraction_b9 X p q fu h (a : Int) (b : Int) (v : Int) = fX11_tellFraction_b45 X p q h ((Nat.gcd a b : Nat) : Int) := by
  intro m
  induction m with
  | zero =>
    intro a b v fu hb ha hm hv hf
    obtain ⟨fu, rfl⟩ : ∃ f, fu = f + 1 := ⟨fu - 1, by omega⟩
    have b0 : b = 0 := by
      apply Nat.eq_zero_of_not_pos
      intro z
      have := Nat.mul_pos (show 0 < a by omega) z
      rw [Nat.pow_zero] at hm
      omega
    subst b0
    rw [fX11_tellFraction_b9.eq_2, Nat.gcd_zero_right]
    exact iteT (by omega) (iteT rfl rfl)
  | succ m ih =>
    intro a b v fu hb ha hm hv hf
    obtain ⟨fu, rfl⟩ : ∃ f, fu = f + 1 := ⟨fu - 1, by omega⟩
    rw [fX11_tellFraction_b9.eq_2]
    by_cases b0 : b = 0
    · subst b0
      rw [Nat.gcd_zero_right]
      exact iteT (by omega) (iteT rfl rfl)
    · have e5 : WE ((v : Int) + 1) := we (by omega) (by omega)
      have el : lrm (a : Int) (b : Int) = ((a % b : Nat) : Int) := by rw [lrm_i (by omega) (by omega) (by omega) (by omega)]; rfl
      refine iteT (by omega) (iteF (by omega) (gdg (by omega) ?_))
      have := ih b (a % b) (v + 1) fu (Nat.le_of_lt (Nat.mod_lt _ (by omega))) (by omega) (euc_dn hb (by omega) hm) (by omega) (by omega)
      rw [lt_d, lt_d, e5.e, el, ← gcd_dn (a := a) (b := b) (by omega)]
      exact this
set_option maxHeartbeats 200000 in
/-- Euclid's loop, in the reference -/
theorem rEuc (M : Nat) (p q : Int) (h : Hp) : ∀ (m a b fu : Nat), b ≤ a → a < 4611686018427387904 → a * b < 2 ^ m → m + 1 < fu → fX12_fraction_b9 M p q fu h (a : Int) (b : Int) = fX12_fraction_b9 M p q 1 h ((Nat.gcd a b : Nat) : Int) 0 := by
  intro m
  induction m with
  | zero =>
    intro a b fu hb ha hm hf
    obtain ⟨fu, rfl⟩ : ∃ f, fu = f + 1 := ⟨fu - 1, by omega⟩
    have b0 : b = 0 := by
      apply Nat.eq_zero_of_not_pos
      intro z
      have := Nat.mul_pos (show 0 < a by omega) z
      rw [Nat.pow_zero] at hm
      omega
    subst b0
    rw [Nat.gcd_zero_right, fX12_fraction_b9.eq_2, fX12_fraction_b9.eq_2]
    exact iteT rfl (Eq.symm (iteT rfl rfl))
  | succ m ih =>
    intro a b fu hb ha hm hf
    obtain ⟨fu, rfl⟩ : ∃ f, fu = f + 1 := ⟨fu - 1, by omega⟩
    by_cases b0 : b = 0
    · subst b0
      rw [Nat.gcd_zero_right, fX12_fraction_b9.eq_2, fX12_fraction_b9.eq_2]
      exact iteT rfl (Eq.symm (iteT rfl rfl))
    · have el : lrm (a : Int) (b : Int) = ((a % b : Nat) : Int) := by rw [lrm_i (by omega) (by omega) (by omega) (by omega)]; rfl
      have := ih b (a % b) fu (Nat.le_of_lt (Nat.mod_lt _ (by omega))) (by omega) (euc_dn hb (by omega) hm) (by omega)
      rw [fX12_fraction_b9.eq_2]
      refine iteF (by omega) (gdg (by omega) ?_)
      rw [lt_d, el, this, gcd_dn (by omega)]
set_option maxHeartbeats 200000 in
/-- the class tells a fraction p / q -/
theorem xFra {h : Hp} {X p q : Nat} (k : (hK h X).1 = 11) (pq : p ≤ q) (q0 : 0 < q) (q8 : q < 1152921504606846976) :
    fX11_tellFraction h X (p : Int) (q : Int) = some (pJ (pJ h 722 X (ldv (p : Int) ((Nat.gcd q p : Nat) : Int))) 723 X (ldv (q : Int) ((Nat.gcd q p : Nat) : Int))) := by
  have g0 : 0 < Nat.gcd q p := Nat.gcd_pos_of_pos_left _ q0
  have hm : q * p < 2 ^ 120 := by
    have h1 : q * p ≤ q * q := Nat.mul_le_mul_left q pq
    have h2 : q * q < 1152921504606846976 * 1152921504606846976 := Nat.mul_lt_mul'' q8 q8
    have h3 : (1152921504606846976 : Nat) * 1152921504606846976 = 2 ^ 120 := by decide +kernel
    omega
  have key := xEuc X (p : Int) (q : Int) h 120 q p 0 FU pq (by omega) hm (by omega) (show 121 < 1000000 by omega)
  unfold fX11_tellFraction
  have key : fX11_tellFraction_b9 X (p : Int) (q : Int) FU h (q : Int) (p : Int) 0 = _ := key
  rw [key, fX11_tellFraction_b45]
  exact iteF (by omega) (gdg (by omega) (gdg k (by rw [lt_d]; exact gdg (by omega) (by rw [lt_d]))))
set_option maxHeartbeats 200000 in
/-- the reference tells a fraction p / q -/
theorem rFra {h : Hp} {M p q : Nat} (k : (hK h M).1 = 12) (pq : p ≤ q) (q0 : 0 < q) (q8 : q < 1152921504606846976) :
    fX12_fraction h M (p : Int) (q : Int) = some (1, pJ (pJ h 770 M (ldv (p : Int) ((Nat.gcd q p : Nat) : Int))) 771 M (ldv (q : Int) ((Nat.gcd q p : Nat) : Int))) := by
  have g0 : 0 < Nat.gcd q p := Nat.gcd_pos_of_pos_left _ q0
  have hm : q * (p % q) < 2 ^ 120 := by
    have h0 : p % q ≤ q := Nat.le_of_lt (Nat.mod_lt _ q0)
    have h1 : q * (p % q) ≤ q * q := Nat.mul_le_mul_left q h0
    have h2 : q * q < 1152921504606846976 * 1152921504606846976 := Nat.mul_lt_mul'' q8 q8
    have h3 : (1152921504606846976 : Nat) * 1152921504606846976 = 2 ^ 120 := by decide +kernel
    omega
  have key := rEuc M (p : Int) (q : Int) h 120 q (p % q) 999999 (Nat.le_of_lt (Nat.mod_lt _ q0)) (by omega) hm (by omega)
  have el : lrm (p : Int) (q : Int) = ((p % q : Nat) : Int) := by rw [lrm_i (by omega) (by omega) (by omega) (by omega)]; rfl
  unfold fX12_fraction
  rw [labs_n (by omega), lt_d]
  show fX12_fraction_b9 M (p : Int) (q : Int) (999999 + 1) h (p : Int) (q : Int) = _
  rw [fX12_fraction_b9.eq_2]
  refine iteF (by omega) (gdg (by omega) ?_)
  rw [lt_d, el, key, show Nat.gcd q (p % q) = Nat.gcd q p by rw [gcd_dn q0, Nat.gcd_comm], fX12_fraction_b9.eq_2]
  exact iteT rfl (gdg (by omega) (gdg k (by rw [lt_d]; exact gdg (by omega) (by rw [lt_d]))))
