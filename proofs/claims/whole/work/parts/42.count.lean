/-! bitCount, its end; sums of bits -/
set_option maxHeartbeats 200000 in
theorem pcA1 {b0 b1 b2 b3 : Nat} (h0 : b0 < 256) (h1 : b1 < 256) (h2 : b2 < 256) (h3 : b3 < 256) : (b0 + 256 * b1 + 65536 * b2 + 16777216 * b3) / 2 &&& 1431655765 = pcP b0 + 256 * pcP b1 + 65536 * pcP b2 + 16777216 * pcP b3 := by
  have := and4 (b0 / 2 + 128 * (b1 % 2)) (b1 / 2 + 128 * (b2 % 2)) (b2 / 2 + 128 * (b3 % 2)) (b3 / 2 + 128 * 0) 85 (by omega) (by omega) (by omega) (by omega) (by omega)
  rw [pc1 b0 h0 _ (by omega), pc1 b1 h1 _ (by omega), pc1 b2 h2 _ (by omega), pc1 b3 h3 _ (by omega)] at this
  rw [← this]
  clear this
  congr 1
  omega
set_option maxHeartbeats 200000 in
theorem pcU_lt {b : Nat} (h : b < 256) : pcU b < 256 := by unfold pcU; omega
set_option maxHeartbeats 200000 in
theorem pcA3 {b0 b1 b2 b3 : Nat} (h0 : b0 < 256) (h1 : b1 < 256) (h2 : b2 < 256) (h3 : b3 < 256) : (pcU b0 + 256 * pcU b1 + 65536 * pcU b2 + 16777216 * pcU b3) / 4 &&& 858993459 = (pcU b0 / 4 &&& 51) + 256 * (pcU b1 / 4 &&& 51) + 65536 * (pcU b2 / 4 &&& 51) + 16777216 * (pcU b3 / 4 &&& 51) := by
  have q0 := pcU_lt h0
  have q1 := pcU_lt h1
  have q2 := pcU_lt h2
  have q3 := pcU_lt h3
  have r0 := pc3 b0 h0 (pcU b1 % 4) (by omega)
  have r1 := pc3 b1 h1 (pcU b2 % 4) (by omega)
  have r2 := pc3 b2 h2 (pcU b3 % 4) (by omega)
  have r3 := pc3 b3 h3 0 (by omega)
  rw [← r0, ← r1, ← r2, ← r3]
  clear r0 r1 r2 r3
  generalize pcU b0 = u0 at *
  generalize pcU b1 = u1 at *
  generalize pcU b2 = u2 at *
  generalize pcU b3 = u3 at *
  clear h0 h1 h2 h3
  have := and4 (u0 / 4 + 64 * (u1 % 4)) (u1 / 4 + 64 * (u2 % 4)) (u2 / 4 + 64 * (u3 % 4)) (u3 / 4 + 64 * 0) 51 (by omega) (by omega) (by omega) (by omega) (by omega)
  rw [← this]
  clear this
  congr 1
  omega
set_option maxHeartbeats 200000 in
theorem pcA4 {b0 b1 b2 b3 : Nat} (h0 : b0 < 256) (h1 : b1 < 256) (h2 : b2 < 256) (h3 : b3 < 256) : ((pcV b0 + 256 * pcV b1 + 65536 * pcV b2 + 16777216 * pcV b3) + (pcV b0 + 256 * pcV b1 + 65536 * pcV b2 + 16777216 * pcV b3) / 16) &&& 252645135 = pcW b0 + 256 * pcW b1 + 65536 * pcW b2 + 16777216 * pcW b3 := by
  have q0 := pc4 b0 h0
  have q1 := pc4 b1 h1
  have q2 := pc4 b2 h2
  have q3 := pc4 b3 h3
  have r0 := pc5 b0 h0 (pcV b1 % 16) (by omega)
  have r1 := pc5 b1 h1 (pcV b2 % 16) (by omega)
  have r2 := pc5 b2 h2 (pcV b3 % 16) (by omega)
  have r3 := pc5 b3 h3 0 (by omega)
  rw [← r0, ← r1, ← r2, ← r3]
  clear r0 r1 r2 r3
  generalize pcV b0 = u0 at *
  generalize pcV b1 = u1 at *
  generalize pcV b2 = u2 at *
  generalize pcV b3 = u3 at *
  clear h0 h1 h2 h3
  have := and4 (u0 + u0 / 16 + 16 * (u1 % 16)) (u1 + u1 / 16 + 16 * (u2 % 16)) (u2 + u2 / 16 + 16 * (u3 % 16)) (u3 + u3 / 16 + 16 * 0) 15 (by omega) (by omega) (by omega) (by omega) (by omega)
  rw [← this]
  clear this
  congr 1
  omega
set_option maxHeartbeats 200000 in
/-- the five steps, with what each gives told from outside -/
theorem pcGo {N P U A B V W : Nat} (hN : N < 2147483648) (e1 : N / 2 &&& 1431655765 = P) (e2 : N = U + P) (e3 : U &&& 858993459 = A) (e4 : U / 4 &&& 858993459 = B) (e5 : A + B = V) (e6 : V + V / 16 &&& 252645135 = W) (hV : V < 2000000000) (hW : W < 200000000) :
    fJ6_bitCount_0f7a4 (N : Int) = some (((W + W / 256 + (W + W / 256) / 65536) % 64 : Nat) : Int) := by
  have a5 : ∀ z : Nat, z &&& 63 = z % 64 := fun z => Nat.and_two_pow_sub_one_eq_mod z 6
  have f1 : ushr (N : Int) 1 = ((N / 2 : Nat) : Int) := ushr_n (k := 1) hN (by omega)
  have f2 : bnd ((N / 2 : Nat) : Int) 1431655765 = (P : Int) := by rw [← e1]; exact bnd_n (b := 1431655765) (by omega)
  have f4 : ushr (U : Int) 2 = ((U / 4 : Nat) : Int) := ushr_n (k := 2) (by omega) (by omega)
  have f5 : bnd (U : Int) 858993459 = (A : Int) := by rw [← e3]; exact bnd_n (b := 858993459) (by omega)
  have f6 : bnd ((U / 4 : Nat) : Int) 858993459 = (B : Int) := by rw [← e4]; exact bnd_n (b := 858993459) (by omega)
  have f8 : ushr (V : Int) 4 = ((V / 16 : Nat) : Int) := ushr_n (k := 4) (by omega) (by omega)
  have f9 : bnd ((V + V / 16 : Nat) : Int) 252645135 = (W : Int) := by rw [← e6]; exact bnd_n' (b := 252645135) (by omega)
  have g1 : ushr (W : Int) 8 = ((W / 256 : Nat) : Int) := ushr_n (k := 8) (by omega) (by omega)
  have g2 : ushr ((W + W / 256 : Nat) : Int) 16 = (((W + W / 256) / 65536 : Nat) : Int) := ushr_n (k := 16) (by omega) (by omega)
  have g3 : bnd ((W + W / 256 + (W + W / 256) / 65536 : Nat) : Int) 63 = (((W + W / 256 + (W + W / 256) / 65536) &&& 63 : Nat) : Int) := bnd_n' (b := 63) (by omega)
  clear e1 e3 e4 e6
  unfold fJ6_bitCount_0f7a4
  rw [f1, f2, lt_d]
  clear f1 f2
  rw [w32_id (x := (N : Int) - (P : Int)) (by omega) (by omega), show (N : Int) - (P : Int) = (U : Int) by omega, f4, f5, f6, lt_d]
  clear f4 f5 f6
  rw [w32_id (x := (A : Int) + (B : Int)) (by omega) (by omega), show (A : Int) + (B : Int) = (V : Int) by omega, f8]
  clear f8
  rw [w32_id (x := (V : Int) + ((V / 16 : Nat) : Int)) (by omega) (by omega), show (V : Int) + ((V / 16 : Nat) : Int) = ((V + V / 16 : Nat) : Int) by omega, f9, lt_d, g1]
  clear f9 g1
  rw [w32_id (x := (W : Int) + ((W / 256 : Nat) : Int)) (by omega) (by omega), lt_d, show (W : Int) + ((W / 256 : Nat) : Int) = ((W + W / 256 : Nat) : Int) by omega, g2]
  clear g2
  rw [w32_id (x := ((W + W / 256 : Nat) : Int) + (((W + W / 256) / 65536 : Nat) : Int)) (by omega) (by omega), lt_d, show ((W + W / 256 : Nat) : Int) + (((W + W / 256) / 65536 : Nat) : Int) = ((W + W / 256 + (W + W / 256) / 65536 : Nat) : Int) by omega, g3, a5]
set_option maxHeartbeats 200000 in
theorem pcEnd {a b c d : Nat} (ha : a ≤ 8) (hb : b ≤ 8) (hc : c ≤ 8) (hd : d ≤ 8) : ((a + 256 * b + 65536 * c + 16777216 * d) + (a + 256 * b + 65536 * c + 16777216 * d) / 256 + ((a + 256 * b + 65536 * c + 16777216 * d) + (a + 256 * b + 65536 * c + 16777216 * d) / 256) / 65536) % 64 = a + b + c + d := by
  rw [show (a + 256 * b + 65536 * c + 16777216 * d) / 256 = b + 256 * c + 65536 * d by omega]
  rw [show (a + 256 * b + 65536 * c + 16777216 * d + (b + 256 * c + 65536 * d)) / 65536 = c + d + 256 * d by omega]
  omega
set_option maxHeartbeats 200000 in
theorem xBitsB {b0 b1 b2 b3 : Nat} (h0 : b0 < 256) (h1 : b1 < 256) (h2 : b2 < 256) (h3 : b3 < 128) :
    fJ6_bitCount_0f7a4 ((b0 + 256 * b1 + 65536 * b2 + 16777216 * b3 : Nat) : Int) = some ((pcW b0 + pcW b1 + pcW b2 + pcW b3 : Nat) : Int) := by
  have h3' : b3 < 256 := by omega
  have l3 : pcU b3 < 128 := by unfold pcU; omega
  have key := pcGo (by omega) (pcA1 h0 h1 h2 h3') (U := pcU b0 + 256 * pcU b1 + 65536 * pcU b2 + 16777216 * pcU b3)
    (by have p0 := pc2 b0 h0; have p1 := pc2 b1 h1; have p2 := pc2 b2 h2; have p3 := pc2 b3 h3'; unfold pcU; omega)
    (and4 _ _ _ _ 51 (pcU_lt h0) (pcU_lt h1) (pcU_lt h2) (pcU_lt h3') (by omega)) (pcA3 h0 h1 h2 h3') (V := pcV b0 + 256 * pcV b1 + 65536 * pcV b2 + 16777216 * pcV b3) (by unfold pcV; omega) (pcA4 h0 h1 h2 h3')
    (by have p0 := pc4 b0 h0; have p1 := pc4 b1 h1; have p2 := pc4 b2 h2; have p3 := pc4 b3 h3'; omega)
    (by have p0 := pc6 b0 h0; have p1 := pc6 b1 h1; have p2 := pc6 b2 h2; have p3 := pc6 b3 h3'; omega)
  rw [key, pcEnd (pc6 b0 h0).2 (pc6 b1 h1).2 (pc6 b2 h2).2 (pc6 b3 h3').2]
/-- how many of the first n bits are set -/
def bcN (n s : Nat) : Int := sm n (fun k => if s.testBit k then 1 else 0)
set_option maxHeartbeats 200000 in
theorem dv_dv (s a b : Nat) : s / 2 ^ a / 2 ^ b = s / 2 ^ (a + b) := by rw [Nat.div_div_eq_div_mul, Nat.pow_add]
set_option maxHeartbeats 200000 in
theorem bcN_lt {n m s : Nat} (h : s < 2 ^ n) (hm : n ≤ m) : bcN m s = bcN n s := by
  induction m with
  | zero => rw [show n = 0 by omega]
  | succ m ih =>
    by_cases q : n = m + 1
    · rw [q]
    · show sm m _ + (if s.testBit m then 1 else 0) = _
      have e : s.testBit m = false := Nat.testBit_lt_two_pow (Nat.lt_of_lt_of_le h (Nat.pow_le_pow_right (by omega) (by omega)))
      rw [e]
      have := ih (by omega)
      unfold bcN at this ⊢
      rw [this]; simp
set_option maxHeartbeats 200000 in
theorem sm_add (m n : Nat) (f : Nat → Int) : sm (m + n) f = sm m f + sm n (fun k => f (m + k)) := by
  induction n with
  | zero => show sm m f = sm m f + 0; omega
  | succ n ih => show sm (m + n) f + f (m + n) = sm m f + (sm n (fun k => f (m + k)) + f (m + n)); rw [ih]; omega
set_option maxHeartbeats 200000 in
theorem pcB (x : Nat) : sm 8 (fun k => ((x / 2 ^ k % 2 : Nat) : Int)) = (pcW (x % 256) : Nat) := by
  rw [(pc6 (x % 256) (by omega)).1]
  simp only [sm, Nat.reducePow]
  omega
set_option maxHeartbeats 200000 in
theorem xBits {s : Nat} (hs : s < 2147483648) : fJ6_bitCount_0f7a4 (s : Int) = some (bcN 31 s) := by
  have h := xBitsB (b0 := s % 256) (b1 := s / 256 % 256) (b2 := s / 65536 % 256) (b3 := s / 16777216) (by omega) (by omega) (by omega) (by omega)
  rw [show s % 256 + 256 * (s / 256 % 256) + 65536 * (s / 65536 % 256) + 16777216 * (s / 16777216) = s by omega] at h
  rw [h, ← bcN_lt (n := 31) (m := 32) hs (by omega)]
  congr 1
  have e : ∀ k, (if s.testBit k then (1 : Int) else 0) = ((s / 2 ^ k % 2 : Nat) : Int) := fun k => by rw [tb_n]; split <;> rfl
  have q0 := pcB s
  have q1 := pcB (s / 256)
  have q2 := pcB (s / 65536)
  have q3 := pcB (s / 16777216)
  rw [show s / 16777216 % 256 = s / 16777216 by omega] at q3
  unfold bcN
  rw [show (32 : Nat) = 8 + (8 + (8 + 8)) from rfl, sm_add, sm_add, sm_add]
  simp only [e]
  have d1 : ∀ k, s / 256 / 2 ^ k = s / 2 ^ (8 + k) := fun k => dv_dv s 8 k
  have d2 : ∀ k, s / 65536 / 2 ^ k = s / 2 ^ (8 + (8 + k)) := fun k => by rw [← Nat.add_assoc]; exact dv_dv s 16 k
  have d3 : ∀ k, s / 16777216 / 2 ^ k = s / 2 ^ (8 + (8 + (8 + k))) := fun k => by rw [← Nat.add_assoc, ← Nat.add_assoc]; exact dv_dv s 24 k
  simp only [d1] at q1
  simp only [d2] at q2
  simp only [d3] at q3
  rw [q0, q1, q2, q3]
  omega
