/-! MERGED ROWS: the first states, in words -/
set_option maxHeartbeats 200000 in
theorem jw_0 {c : Nat → Int} {l : List Nat} (n6 : l.length ≤ 6) (B : ∀ a j, j < l.length → ptO c l a j < ptZ c l j ∧ ptZ c l j ≤ 12) : ∃ m : Nat, (m : Int) = rsC c l 0 l.length ∧ m ≤ 72 ∧ JW c l m m [] (nxL c l 0 l.length l.length []) := by
  have b0 : bcu 0 = 0 := by decide
  have z0 := (pw6 n6).1
  obtain ⟨f1, r0, f2, f3⟩ := rsF_c (L := ptL c l) n6 B l.length 0 l.length z0 (by omega)
  have e0 : rsC c l 0 l.length = rsF l.length (ptZ c l) (ptO c l) l.length 0 l.length := by unfold rsC; rw [b0, Nat.sub_zero]
  rw [← e0] at f1 f3
  have l72 := Cmp_len (L := ptL c l) B _ _ _ _ f2
  have mem : ∀ s, s ∈ nxL c l 0 l.length l.length [] ↔ ∃ j, j < l.length ∧ sRW c l 0 l.length j = rsC c l 0 l.length ∧ s = (0 ||| 2 ^ j) * 6 + j := fun s => by
    rw [nxL_mem]
    constructor
    · rintro (h | ⟨j, a, _, b⟩)
      · exact absurd h (by simp)
      · exact ⟨j, a, b⟩
    · rintro ⟨j, a, b⟩
      exact Or.inr ⟨j, a, by rw [Nat.zero_testBit], b⟩
  have nx : ∀ j, j < l.length → okT l ((0 ||| 2 ^ j) * 6 + j) ∧ ((0 ||| 2 ^ j) * 6 + j) / 6 = (0 ||| 2 ^ j) ∧ ((0 ||| 2 ^ j) * 6 + j) % 6 = j ∧ l.length = (l.length - bcu (0 ||| 2 ^ j)) + 1 := fun j hj => by
    obtain ⟨g1, g2, g3⟩ := okT_mk (l := l) n6 z0 hj
    have b := bcu_or (u := 0) (show j < 8 by omega) (by rw [Nat.zero_testBit])
    exact ⟨g1, g2, g3, by omega⟩
  have sr : ∀ j, sRW c l 0 l.length j = (ptZ c l j : Int) + rsC c l (0 ||| 2 ^ j) j := fun j => by
    unfold sRW
    rw [ptO_n]; omega
  have pz : ∀ j, j < l.length → sRW c l 0 l.length j = rsC c l 0 l.length → plc c l ((0 ||| 2 ^ j) * 6 + j) ((r0.length : Nat) : Int) = 0 := fun j hj h => by
    obtain ⟨g1, g2, g3, -⟩ := nx j hj
    unfold plc
    rw [g2, g3, f3]
    have := sr j
    omega
  have up : ∀ d j q, l.length = d + 1 → Cmp l.length (ptZ c l) (ptL c l) (ptO c l) d (0 ||| 2 ^ j) j q → j < l.length → C0 c l (sgm (ptZ c l) (ptL c l) j 0 ++ q) := fun d j q hd hq hj => by
    have : Cmp l.length (ptZ c l) (ptL c l) (ptO c l) (d + 1) 0 l.length (sgm (ptZ c l) (ptL c l) j 0 ++ q) := ⟨j, hj, by rw [Nat.zero_testBit], q, by rw [ptO_n], hq⟩
    rw [← hd] at this
    exact this
  refine ⟨r0.length, f3, by omega, by show 0 + _ = _; omega, fun s hs => ?_, fun s hs r hr => ?_, fun l0 w v1 v2 _ => ?_, fun w _ _ => by rw [show w.take ([] : List Int).length = [] by simp, lxB], r0, f2, rfl, by simp⟩
  · obtain ⟨j, h1, h2, h3⟩ := (mem s).mp hs
    obtain ⟨g1, g2, g3, -⟩ := nx j h1
    have := B 0 j h1
    rw [h3, pz j h1 h2, g3]
    exact ⟨g1, by omega, by omega⟩
  · obtain ⟨j, h1, h2, h3⟩ := (mem s).mp hs
    obtain ⟨g1, g2, g3, g4⟩ := nx j h1
    rw [h3] at hr ⊢
    unfold Cs at hr
    rw [g2, g3] at hr
    have e : tlW c l ((0 ||| 2 ^ j) * 6 + j) ((r0.length : Nat) : Int) = sgm (ptZ c l) (ptL c l) j 0 := by
      unfold tlW
      rw [pz j h1 h2, g3]; rfl
    rw [e, List.nil_append]
    exact up _ j r g4 hr.1 h1
  · obtain ⟨d, hd⟩ : ∃ d, l.length = d + 1 := by
      rcases Nat.eq_zero_or_pos l.length with z | z
      · have l72 : r0.length ≤ 12 * l.length := l72
        omega
      · exact ⟨l.length - 1, by omega⟩
    have v1' : Cmp l.length (ptZ c l) (ptL c l) (ptO c l) (d + 1) 0 l.length w := by rw [← hd]; exact v1
    obtain ⟨j, b1, b2, r', b3, b4⟩ := v1'
    obtain ⟨g1, g2, g3, g4⟩ := nx j b1
    have b1j := bcu_or (u := 0) (show j < 8 by omega) (by rw [Nat.zero_testBit])
    have dd : d = l.length - bcu (0 ||| 2 ^ j) := by omega
    rw [ptO_n] at b3
    have lo := (rsF_c (L := ptL c l) n6 B d (0 ||| 2 ^ j) j (pw_or z0 b1) (by omega))
    have el : rsF l.length (ptZ c l) (ptO c l) d (0 ||| 2 ^ j) j = rsC c l (0 ||| 2 ^ j) j := by unfold rsC; rw [← dd]
    rw [el] at lo
    obtain ⟨lo1, q, q1, q2⟩ := lo
    have a1 := lo1 r' b4
    have a2 := f1 _ (up d j q hd q1 b1)
    rw [List.length_append, sgm_len] at a2
    have wl : w.length = ptZ c l j - 0 + r'.length := by rw [b3, List.length_append, sgm_len]
    have sj := sr j
    have eq : sRW c l 0 l.length j = rsC c l 0 l.length := by omega
    have rc : (r'.length : Int) = rsC c l (0 ||| 2 ^ j) j := by omega
    refine ⟨_, (mem _).mpr ⟨j, b1, eq, rfl⟩, r', ?_, ?_⟩
    · unfold Cs
      rw [g2, g3, ← dd]
      exact ⟨b4, rc⟩
    · have e : tlW c l ((0 ||| 2 ^ j) * 6 + j) ((r0.length : Nat) : Int) = sgm (ptZ c l) (ptL c l) j 0 := by
        unfold tlW
        rw [pz j b1 eq, g3]; rfl
      rw [e, List.nil_append]
      exact b3
set_option maxHeartbeats 200000 in
/-- at the end nothing is open, and the word is the least -/
theorem jw_z {c : Nat → Int} {l os : List Nat} {m : Nat} {o : List Int} (J : JW c l m 0 o os) (rb : ∀ u a, 0 ≤ rsC c l u a) : os = [] ∧ C0 c l o ∧ ∀ w, C0 c l w → m ≤ w.length → bet w o = false := by
  obtain ⟨j1, j2, j3, j4, j5, w0, w1, w2, w3⟩ := J
  refine ⟨?_, ?_, fun w v1 v2 => ?_⟩
  · cases os with
    | nil => rfl
    | cons s os =>
      have h := (j2 s (by simp)).2.2
      have := rb (s / 6) (s % 6)
      unfold plc at h
      omega
  · have : w0 = o := by
      rw [← w3]
      exact (List.take_of_length_le (by omega)).symm
    rw [← this]; exact w1
  · unfold bet
    by_cases e : w.length = o.length
    · rw [if_pos e]
      have := j5 w v1 (by omega)
      rw [List.take_of_length_le (by omega)] at this
      exact this
    · rw [if_neg e]
      exact decide_eq_false (by omega)
