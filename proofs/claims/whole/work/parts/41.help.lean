/-! HELP FOR THE QUERIES: what the class's context gives at a jar, a sound, the law; the law's two methods; bitCount -/
set_option maxHeartbeats 200000 in
theorem CX.jar {h : Hp} {X : Nat} {c : Nat → Int} {a : Int} (H : CX h X c) (q : okJ c a) :
    ∃ S J, gR h 717 X = some S ∧ (hK h S).1 = 7 ∧ gR h 449 S = some (S + 2) ∧ (hK h (S + 2)).1 = 24 ∧ inA a (hK h (S + 2)).2 ∧ gC h (S + 2) a.toNat = some J ∧ (hK h J).1 = 0 ∧ JV h J c a ∧ gI h 451 S = c 2 := by
  obtain ⟨S, s1, s2, s3⟩ := H.2.2.2.1
  obtain ⟨v1, v2, v3, v4, v5, v6, v7, v8, v9, v10⟩ := s2
  have j8 := nj_lt H.wf q
  obtain ⟨c1, c2⟩ := v9 a q.1 j8
  exact ⟨S, _, s1, by rw [v1], v3, by rw [v5], by rw [v5]; exact ⟨q.1, j8⟩, c1, by rw [c2], v10 a q.1 q.2, v7⟩
set_option maxHeartbeats 200000 in
theorem CX.snd {h : Hp} {X : Nat} {c : Nat → Int} {a : Int} (H : CX h X c) (q : okS c a) :
    ∃ S, gR h 717 X = some S ∧ (hK h S).1 = 7 ∧ gR h 448 S = some (S + 1) ∧ (hK h (S + 1)).1 = 26 ∧ inA a (hK h (S + 1)).2 ∧ gC h (S + 1) a.toNat = some (S + 3 + 3 * a.toNat) ∧ RVa h (S + 3 + 3 * a.toNat) (S + 4 + 3 * a.toNat) (c (4 + a).toNat) (sL c a) ∧ SO X S := by
  obtain ⟨S, s1, s2, s3⟩ := H.2.2.2.1
  obtain ⟨v1, v2, v3, v4, v5, v6, v7, v8, v9, v10⟩ := s2
  have j8 := ns_lt H.wf q
  obtain ⟨c1, c2, c3, c4⟩ := v8 a q.1 j8
  exact ⟨S, s1, by rw [v1], v2, by rw [v4], by rw [v4]; exact ⟨q.1, j8⟩, c1, c2, s3⟩
set_option maxHeartbeats 200000 in
theorem CX.law {h : Hp} {X : Nat} {c : Nat → Int} (H : CX h X c) : ∃ R, gR h 718 X = some R ∧ (hK h R).1 = 1 ∧ LV h R c := by
  obtain ⟨R, r1, r2, r3⟩ := H.2.2.2.2
  exact ⟨R, r1, by rw [r2.1], r2⟩
set_option maxHeartbeats 200000 in
theorem rTr1 {a : Int} (h1 : 0 ≤ a) (h2 : a < 4) : fX12_isTray a = some 1 := bdg (rIn1 h1 (by omega)) rfl
set_option maxHeartbeats 200000 in
theorem rTr0 {a : Int} (h : a < 0 ∨ 4 ≤ a) : fX12_isTray a = some 0 := bdg (rIn0 (by omega)) rfl
set_option maxHeartbeats 200000 in
theorem xSui {k v : Int} : fX1_suits k v = some (if suB k v then 1 else 0) := by
  unfold fX1_suits suB
  by_cases h : k = 27
  · rw [if_pos h]; simp [h]
  · rw [if_neg h]
    by_cases h2 : k = v
    · rw [if_pos h2]; simp [h2]
    · rw [if_neg h2]; simp [h, h2]
set_option maxHeartbeats 200000 in
theorem xGiv {g a b : Int} : fX1_given g a b = some (giv g a b) := by
  unfold fX1_given giv
  split
  · rfl
  · split <;> rfl
set_option maxHeartbeats 200000 in
theorem xMix {h : Hp} {R : Nat} {c : Nat → Int} {a b : Int} (v : LV h R c) (w : WF c) : fX1_mix h R a b = some (mixS c a b) := by
  have h3 := w.nr
  obtain ⟨v1, v2, v3, v4, v5, v6, v7, v8, v9⟩ := v
  have kR : (hK h R).1 = 1 := by rw [v1]
  have k1 : (hK h (R + 1)).1 = 21 := by rw [v5]
  have k2 : (hK h (R + 2)).1 = 21 := by rw [v6]
  have k3 : (hK h (R + 3)).1 = 21 := by rw [v7]
  unfold fX1_mix
  refine (fke (S := Unit) (fun fu v _ => fX1_mix_b2 h R a b fu v) some (c 3).toNat (fun i _ => mixR c a b ((c 3).toNat - i) i = mixS c a b) (mixS c a b) 0 () (by omega) rfl (by omega) ?_ ?_ : _)
  · intro fu i s hi hI
    have l1 : inA (i : Int) (hK h (R + 1)).2 := by rw [v5]; show 0 ≤ _ ∧ _ < (12 : Int); omega
    have l2 : inA (i : Int) (hK h (R + 2)).2 := by rw [v6]; show 0 ≤ _ ∧ _ < (12 : Int); omega
    have l3 : inA (i : Int) (hK h (R + 3)).2 := by rw [v7]; show 0 ≤ _ ∧ _ < (12 : Int); omega
    obtain ⟨t1, t2, t3⟩ := v9 (i : Int) (by omega) (by omega)
    have e5 : WE ((i : Int) + 1) := we (by omega) (by omega)
    have en : (c 3).toNat - i = ((c 3).toNat - (i + 1)) + 1 := by omega
    rw [en] at hI
    have hI : (if ruB c a b i then giv (c (308 + 3 * (i : Int) + 2).toNat) a b else mixR c a b ((c 3).toNat - (i + 1)) (i + 1)) = mixS c a b := hI
    by_cases q : ruB c a b i = true
    · right
      rw [if_pos q] at hI
      have hh : suB (c (308 + 3 * (i : Int)).toNat) a = true ∧ suB (c (308 + 3 * (i : Int) + 1).toNat) b = true := Bool.and_eq_true_iff.mp q
      rw [← hI]
      show fX1_mix_b2 h R a b (fu + 1) (i : Int) = _
      rw [fX1_mix_b2.eq_2, v8]
      have f1 : fX1_suits (gA h (R + 1) (i : Int).toNat) a = some 1 := by rw [t1, xSui, hh.1]; rfl
      have f2 : fX1_suits (gA h (R + 2) (i : Int).toNat) b = some 1 := by rw [t2, xSui, hh.2]; rfl
      refine gdg kR (iteT (by omega) (nng v2 (gdg k1 (gdg l1 (bdg f1 (iteF (by omega) (nng v3 (gdg k2 (gdg l2 (bdg f2 (iteF (by omega) (nng v4 (gdg k3 (gdg l3 ?_))))))))))))))
      rw [t3]
      exact bdg xGiv rfl
    · left
      refine ⟨(), by rw [if_neg q] at hI; exact hI, ?_⟩
      show fX1_mix_b2 h R a b (fu + 1) (i : Int) = fX1_mix_b2 h R a b fu ((i : Int) + 1)
      rw [fX1_mix_b2.eq_2, v8]
      refine gdg kR (iteT (by omega) (nng v2 (gdg k1 (gdg l1 ?_))))
      by_cases h1 : suB (c (308 + 3 * (i : Int)).toNat) a = true
      · have f1 : fX1_suits (gA h (R + 1) (i : Int).toNat) a = some 1 := by rw [t1, xSui, h1]; rfl
        have h2 : ¬ suB (c (308 + 3 * (i : Int) + 1).toNat) b = true := fun z => q (Bool.and_eq_true_iff.mpr ⟨h1, z⟩)
        have f2 : fX1_suits (gA h (R + 2) (i : Int).toNat) b = some 0 := by rw [t2, xSui, if_neg h2]
        refine bdg f1 (iteF (by omega) (nng v3 (gdg k2 (gdg l2 (bdg f2 (iteT rfl ?_))))))
        rw [fX1_mix_b48, e5.e]; rfl
      · have f1 : fX1_suits (gA h (R + 1) (i : Int).toNat) a = some 0 := by rw [t1, xSui, if_neg h1]
        refine bdg f1 (iteT rfl ?_)
        rw [fX1_mix_b48, e5.e]; rfl
  · intro fu s hI
    have en : (c 3).toNat - (c 3).toNat = 0 := by omega
    rw [en] at hI
    rw [← hI]
    show fX1_mix_b2 h R a b (fu + 1) ((c 3).toNat : Int) = some (dflS a b)
    rw [fX1_mix_b2.eq_2, v8]
    refine gdg kR (iteF (by omega) ?_)
    unfold dflS
    by_cases q1 : a = b
    · rw [if_pos q1, if_pos q1]
    · rw [if_neg q1, if_neg q1]
      by_cases q2 : b = 0
      · rw [if_pos q2]
        by_cases q3 : a = 0
        · omega
        · rw [if_neg q3, if_pos q2]
      · rw [if_neg q2]
        by_cases q3 : a = 0
        · rw [if_pos q3, if_pos q3]
        · rw [if_neg q3, if_neg q3, if_neg q2]
set_option maxHeartbeats 200000 in
theorem xPar {h : Hp} {R : Nat} {c : Nat → Int} {a g : Int} (v : LV h R c) (w : WF c) : fX1_partners h R a g = some (othS c a g : Nat) := by
  have kR : (hK h R).1 = 1 := by rw [v.1]
  unfold fX1_partners
  have := fg (S := Int) (fun fu v s => fX1_partners_b5 h R a g fu s v) some 27 (fun i => ((bs i (fun b => mixS c a (b : Int) == g) : Nat) : Int)) (by omega) ?_ ?_ 0 (by omega)
  · exact this
  · intro fu i hi
    have e5 : WE ((i : Int) + 1) := we (by omega) (by omega)
    show fX1_partners_b5 h R a g (fu + 1) ((bs i (fun b => mixS c a (b : Int) == g) : Nat) : Int) (i : Int) = _
    rw [fX1_partners_b5.eq_2]
    refine iteT (by omega) (gdg kR (bdg (xMix v w) ?_))
    by_cases q : mixS c a (i : Int) = g
    · refine iteT q ?_
      rw [lt_d, fX1_partners_b30, lt_d, e5.e, bor_set (p := fun b => mixS c a (b : Int) == g) (by omega) (by simp [q])]
    · refine iteF q ?_
      rw [fX1_partners_b30, lt_d, e5.e, bs_no (p := fun b => mixS c a (b : Int) == g) (by simp [q])]
  · intro fu
    show fX1_partners_b5 h R a g (fu + 1) _ ((27 : Nat) : Int) = _
    rw [fX1_partners_b5.eq_2]
    exact iteF (by omega) rfl
/-! bitCount -/
set_option maxHeartbeats 200000 in
theorem and_split (a b : Nat) : a &&& b = (a % 256 &&& b % 256) + 256 * (a / 256 &&& b / 256) := by
  have h1 : (a &&& b) % 256 = a % 256 &&& b % 256 := by
    have := Nat.and_mod_two_pow (a := a) (b := b) (n := 8)
    exact this
  have h2 : (a &&& b) / 256 = a / 256 &&& b / 256 := by
    have := Nat.and_div_two_pow (a := a) (b := b) (n := 8)
    exact this
  omega
set_option maxHeartbeats 200000 in
theorem and4 (a0 a1 a2 a3 m : Nat) (h0 : a0 < 256) (h1 : a1 < 256) (h2 : a2 < 256) (h3 : a3 < 256) (hm : m < 256) :
    (a0 + 256 * a1 + 65536 * a2 + 16777216 * a3) &&& (m + 256 * m + 65536 * m + 16777216 * m) = (a0 &&& m) + 256 * (a1 &&& m) + 65536 * (a2 &&& m) + 16777216 * (a3 &&& m) := by
  rw [and_split, show (a0 + 256 * a1 + 65536 * a2 + 16777216 * a3) % 256 = a0 by omega, show (a0 + 256 * a1 + 65536 * a2 + 16777216 * a3) / 256 = a1 + 256 * a2 + 65536 * a3 by omega, show (m + 256 * m + 65536 * m + 16777216 * m) % 256 = m by omega, show (m + 256 * m + 65536 * m + 16777216 * m) / 256 = m + 256 * m + 65536 * m by omega]
  rw [and_split (a1 + 256 * a2 + 65536 * a3), show (a1 + 256 * a2 + 65536 * a3) % 256 = a1 by omega, show (a1 + 256 * a2 + 65536 * a3) / 256 = a2 + 256 * a3 by omega, show (m + 256 * m + 65536 * m) % 256 = m by omega, show (m + 256 * m + 65536 * m) / 256 = m + 256 * m by omega]
  rw [and_split (a2 + 256 * a3), show (a2 + 256 * a3) % 256 = a2 by omega, show (a2 + 256 * a3) / 256 = a3 by omega, show (m + 256 * m) % 256 = m by omega, show (m + 256 * m) / 256 = m by omega]
  omega
def pcP (b : Nat) : Nat := b / 2 &&& 85
def pcU (b : Nat) : Nat := b - pcP b
def pcV (b : Nat) : Nat := (pcU b &&& 51) + (pcU b / 4 &&& 51)
def pcW (b : Nat) : Nat := (pcV b + pcV b / 16) &&& 15
set_option maxHeartbeats 200000 in
theorem pc1 : ∀ b, b < 256 → ∀ c, c < 2 → (b / 2 + 128 * c) &&& 85 = pcP b := by decide +kernel
set_option maxHeartbeats 200000 in
theorem pc2 : ∀ b, b < 256 → pcP b ≤ b := by decide +kernel
set_option maxHeartbeats 200000 in
theorem pc3 : ∀ b, b < 256 → ∀ c, c < 4 → (pcU b / 4 + 64 * c) &&& 51 = (pcU b / 4 &&& 51) := by decide +kernel
set_option maxHeartbeats 200000 in
theorem pc4 : ∀ b, b < 256 → pcV b ≤ 68 ∧ pcV b % 16 ≤ 4 := by decide +kernel
set_option maxHeartbeats 200000 in
theorem pc5 : ∀ b, b < 256 → ∀ c, c < 5 → (pcV b + pcV b / 16 + 16 * c) &&& 15 = pcW b := by decide +kernel
set_option maxHeartbeats 200000 in
theorem pc6 : ∀ b, b < 256 → pcW b = b % 2 + b / 2 % 2 + b / 4 % 2 + b / 8 % 2 + b / 16 % 2 + b / 32 % 2 + b / 64 % 2 + b / 128 % 2 ∧ pcW b ≤ 8 := by decide +kernel
