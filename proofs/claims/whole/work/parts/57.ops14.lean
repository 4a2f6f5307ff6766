/-! SAFE (written by wip/whole/g57.py) -/
set_option maxHeartbeats 200000 in
theorem pow_bd {b i : Nat} (hb : b ≤ 16) (hi : i ≤ 6) : b ^ i ≤ 16777216 := by
  have h1 : b ^ i ≤ 16 ^ i := Nat.pow_le_pow_left hb i
  have h2 : 16 ^ i ≤ 16 ^ 6 := Nat.pow_le_pow_right (by omega) hi
  have h3 : (16 : Nat) ^ 6 = 16777216 := by decide
  omega
set_option maxHeartbeats 200000 in
theorem pow_up {b i : Nat} (hb : b ≤ 16) (hi : i < 6) : w64 (((b ^ i : Nat) : Int) * (b : Int)) = ((b ^ (i + 1) : Nat) : Int) := by
  have h := pow_bd (b := b) (i := i + 1) hb (by omega)
  have e : ((b ^ i : Nat) : Int) * (b : Int) = ((b ^ (i + 1) : Nat) : Int) := by rw [Nat.pow_succ]; exact (Int.natCast_mul _ _).symm
  rw [e, w64_id (by omega) (by omega)]
set_option maxHeartbeats 200000 in
/-- POWER, in the reference -/
theorem rPow {b n : Nat} (hb : b ≤ 16) (hn : n ≤ 5) : fX12_power (b : Int) (n : Int) = some ((b ^ n : Nat) : Int) := by
  unfold fX12_power
  have := fg (S := Int) (fun fu v t => fX12_power_b5 (b : Int) (n : Int) fu t v) some n (fun i => ((b ^ i : Nat) : Int)) (by omega)
    (fun fu i hi => by
      have e5 : WE ((i : Int) + 1) := we (by omega) (by omega)
      show fX12_power_b5 (b : Int) (n : Int) (fu + 1) ((b ^ i : Nat) : Int) (i : Int) = fX12_power_b5 (b : Int) (n : Int) fu ((b ^ (i + 1) : Nat) : Int) ((i : Int) + 1)
      rw [fX12_power_b5.eq_2]
      refine iteT (by omega) ?_
      rw [lt_d, lt_d, e5.e, pow_up hb (by omega)])
    (fun fu => by
      show fX12_power_b5 (b : Int) (n : Int) (fu + 1) ((b ^ n : Nat) : Int) (n : Int) = _
      rw [fX12_power_b5.eq_2]
      exact iteF (by omega) rfl) 0 (by omega)
  exact this

set_option maxHeartbeats 200000 in
/-- the class's loop of safe -/
theorem xSafL {h : Hp} {X n b : Nat} {c : Nat → Int} {a a3 : Int} (H : CX h X c) (qa : okJ c a) (hb : b ≤ 16) (eb : 16 - c (180 + a).toNat = (b : Int)) (hn : n ≤ 5) :
    fX11_safe_b51 X a (n : Int) a3 FU h 1 1 0 = fX11_safe_b51 X a (n : Int) a3 1 h ((b ^ n : Nat) : Int) ((16 ^ n : Nat) : Int) (n : Int) := by
  have w := H.wf
  have a8 := nj_lt w qa
  have e0 : w32 (16 - c (180 + a).toNat) = (b : Int) := by rw [eb, w32_id (by omega) (by omega)]
  obtain ⟨S, f1, f2, f3, f4, f5, f6⟩ := H.shop
  obtain ⟨j1, j2, j3, j4, j5, j6, j7, j8⟩ := f3.jar w qa.1 qa.2
  have i5 : gI h 5 (S + 5 + 3 * a.toNat) = c (180 + a).toNat := j7.2.2.2.2.2.1
  have := fg (S := Int × Int) (fun fu v t => fX11_safe_b51 X a (n : Int) a3 fu h t.1 t.2 v) (fun t => fX11_safe_b51 X a (n : Int) a3 1 h t.1 t.2 (n : Int)) n (fun i => (((b ^ i : Nat) : Int), ((16 ^ i : Nat) : Int))) (by omega)
    (fun fu i hi => by
      have e5 : WE ((i : Int) + 1) := we (by omega) (by omega)
      have u1 := pow_up (b := b) (i := i) hb (by omega)
      have u2 : w64 (((16 ^ i : Nat) : Int) * 16) = ((16 ^ (i + 1) : Nat) : Int) := pow_up (b := 16) (i := i) (by omega) (by omega)
      show fX11_safe_b51 X a (n : Int) a3 (fu + 1) h ((b ^ i : Nat) : Int) ((16 ^ i : Nat) : Int) (i : Int) = fX11_safe_b51 X a (n : Int) a3 fu h ((b ^ (i + 1) : Nat) : Int) ((16 ^ (i + 1) : Nat) : Int) ((i : Int) + 1)
      rw [fX11_safe_b51.eq_2]
      refine iteT (by omega) (gdg H.k (nng f1 (gdg f2 (nng j2 (gdg j3 (gdg j4 (nng j5 (gdg j6 ?_))))))))
      rw [i5, e0, lt_d, lt_d, lt_d, e5.e, u1, u2])
    (fun fu => by
      show fX11_safe_b51 X a (n : Int) a3 (fu + 1) h ((b ^ n : Nat) : Int) ((16 ^ n : Nat) : Int) (n : Int) = fX11_safe_b51 X a (n : Int) a3 (0 + 1) h ((b ^ n : Nat) : Int) ((16 ^ n : Nat) : Int) (n : Int)
      rw [fX11_safe_b51.eq_2, fX11_safe_b51.eq_2]
      exact iteF (by omega) (Eq.symm (iteF (by omega) rfl))) 0 (by omega)
  exact this
