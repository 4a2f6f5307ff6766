/-! SAFE (written by wip/whole/g57.py) -/
set_option maxHeartbeats 200000 in
theorem pow_bd {b i : Nat} (hb : b ≤ 16) (hi : i ≤ 6) : b ^ i ≤ 16777216 := by
  have h1 : b ^ i ≤ 16 ^ i := Nat.pow_le_pow_left hb i
  have h2 : 16 ^ i ≤ 16 ^ 6 := Nat.pow_le_pow_right (by omega) hi
  have h3 : (16 : Nat) ^ 6 = 16777216 := by decide
  omega
set_option maxHeartbeats 200000 in
theorem pow_up {b i : Nat} (hb : b ≤ 16) (hi : i < 6) : w64 (((b ^ i : Nat) : Int) * (b : Int)) = ((b ^ (i + 1) : Nat) : Int) := by
  have h := pow_bd (b := b) (i := i + 1) hb (by omega)
  have e : ((b ^ i : Nat) : Int) * (b : Int) = ((b ^ (i + 1) : Nat) : Int) := by rw [Nat.pow_succ]; exact (Int.natCast_mul _ _).symm
  rw [e, w64_id (by omega) (by omega)]
set_option maxHeartbeats 200000 in
/-- POWER, in the reference -/
theorem rPow {b n : Nat} (hb : b ≤ 16) (hn : n ≤ 5) : fX12_power (b : Int) (n : Int) = some ((b ^ n : Nat) : Int) := by
  unfold fX12_power
  have := fg (S := Int) (fun fu v t => fX12_power_b5 (b : Int) (n : Int) fu t v) some n (fun i => ((b ^ i : Nat) : Int)) (by omega)
    (fun fu i hi => by
      have e5 : WE ((i : Int) + 1) := we (by omega) (by omega)
      show fX12_power_b5 (b : Int) (n : Int) (fu + 1) ((b ^ i : Nat) : Int) (i : Int) = fX12_power_b5 (b : Int) (n : Int) fu ((b ^ (i + 1) : Nat) : Int) ((i : Int) + 1)
      rw [fX12_power_b5.eq_2]
      refine iteT (by omega) ?_
      rw [lt_d, lt_d, e5.e, pow_up hb (by omega)])
    (fun fu => by
      show fX12_power_b5 (b : Int) (n : Int) (fu + 1) ((b ^ n : Nat) : Int) (n : Int) = _
      rw [fX12_power_b5.eq_2]
      exact iteF (by omega) rfl) 0 (by omega)
  exact this
