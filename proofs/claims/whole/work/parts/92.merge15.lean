/-! MERGED ROWS: one letter on -/
set_option maxHeartbeats 200000 in
theorem gtL_r0 {p s : List Int} : gtL (p ++ s) p.length = gtL s 0 := gtL_r (k := 0)
set_option maxHeartbeats 200000 in
theorem leaL_ok {c : Nat → Int} {l os : List Nat} {left : Int} (b26 : ∀ s, s ∈ os → ltr c l s left ≤ 26) (ne : os ≠ []) : (∀ s, s ∈ os → leaL c l os left os.length ≤ ltr c l s left) ∧ ∃ s, s ∈ os ∧ ltr c l s left = leaL c l os left os.length := by
  have h1 := mnO_le (a := 26) (g := fun _ => true) (f := fun k => ltr c l (gtN os k) left) os.length
  have h2 := mnO_is (a := 26) (g := fun _ => true) (f := fun k => ltr c l (gtN os k) left) os.length
  have e : leaL c l os left os.length = mnO 26 (fun _ => true) (fun k => ltr c l (gtN os k) left) os.length := rfl
  rw [← e] at h1 h2
  have le : ∀ s, s ∈ os → leaL c l os left os.length ≤ ltr c l s left := fun s hs => by
    obtain ⟨k, k1, k2⟩ := gtN_ex hs
    rw [← k2]
    exact h1.2 k k1 rfl
  refine ⟨le, ?_⟩
  rcases h2 with h2 | ⟨k, k1, _, k3⟩
  · cases os with
    | nil => exact absurd rfl ne
    | cons a os =>
      have m : a ∈ a :: os := by simp
      have := le a m
      have := b26 a m
      exact ⟨a, m, by omega⟩
  · exact ⟨gtN os k, gtN_mem k1, k3.symm⟩
set_option maxHeartbeats 200000 in
theorem tl_c {c : Nat → Int} {l : List Nat} {s : Nat} {left : Int} (h0 : 0 ≤ plc c l s left) (h1 : plc c l s left < (ptZ c l (s % 6) : Int)) : tlW c l s left = ltr c l s left :: sgm (ptZ c l) (ptL c l) (s % 6) ((plc c l s left).toNat + 1) := by
  unfold tlW
  rw [sgm_c (by omega)]
  unfold ltr
  rw [show (((plc c l s left).toNat : Nat) : Int) = plc c l s left by omega]
set_option maxHeartbeats 200000 in
theorem take_pre {a b : List Int} {k : Nat} (h : k = a.length) : (a ++ b).take k = a := by rw [h]; simp
set_option maxHeartbeats 200000 in
theorem jw_step {c : Nat → Int} {l os : List Nat} {m left : Nat} {o : List Int} (n6 : l.length ≤ 6) (B : ∀ a j, j < l.length → ptO c l a j < ptZ c l j ∧ ptZ c l j ≤ 12) (b26 : ∀ s, s ∈ os → ltr c l s ((left + 1 : Nat) : Int) ≤ 26) (J : JW c l m (left + 1) o os) :
    JW c l m left (o ++ [leaL c l os ((left + 1 : Nat) : Int) os.length]) (flw c l os (leaL c l os ((left + 1 : Nat) : Int) os.length) ((left + 1 : Nat) : Int) os.length) := by
  obtain ⟨j1, j2, j3, j4, j5, w0, w1, w2, w3⟩ := J
  have j4 := j4 (by omega)
  have ne : os ≠ [] := fun e => by
    obtain ⟨s, s1, -⟩ := j4 w0 w1 w2 w3
    rw [e] at s1; cases s1
  obtain ⟨le, sx, sx1, sx2⟩ := leaL_ok b26 ne
  generalize leaL c l os ((left + 1 : Nat) : Int) os.length = x at le sx2
  have mem : ∀ s', s' ∈ flw c l os x ((left + 1 : Nat) : Int) os.length ↔ ∃ s, s ∈ os ∧ nxt c l x ((left + 1 : Nat) : Int) s s' := fun s' => by
    rw [flw_mem]
    constructor
    · rintro ⟨i, i1, i2⟩; exact ⟨_, gtN_mem i1, i2⟩
    · rintro ⟨s, s1, s2⟩
      obtain ⟨k, k1, k2⟩ := gtN_ex s1
      exact ⟨k, k1, by rw [k2]; exact s2⟩
  have ln : (o ++ [x]).length = o.length + 1 := by rw [List.length_append]; rfl
  have ex : ∀ s, okT l s → ∃ r, Cs c l s r := fun s k => by
    have f := (full_n n6 k.2.1).1
    obtain ⟨r, r1, r2⟩ := (rsF_c (L := ptL c l) n6 B (l.length - bcu (s / 6)) (s / 6) (s % 6) k.2.1 (by omega)).2
    exact ⟨r, r1, r2⟩
  -- what a next state is
  have nx : ∀ s j, okT l s → j < l.length → (s / 6).testBit j = false → okT l ((s / 6 ||| 2 ^ j) * 6 + j) ∧ ((s / 6 ||| 2 ^ j) * 6 + j) / 6 = (s / 6 ||| 2 ^ j) ∧ ((s / 6 ||| 2 ^ j) * 6 + j) % 6 = j ∧ l.length - bcu (s / 6) = (l.length - bcu (s / 6 ||| 2 ^ j)) + 1 := fun s j k hj q => by
    obtain ⟨g1, g2, g3⟩ := okT_mk (l := l) n6 k.2.1 hj
    have b := bcu_or (show j < 8 by omega) q
    have f := (full_n n6 (pw_or k.2.1 hj)).1
    exact ⟨g1, g2, g3, by omega⟩
  have pe : ∀ s j, (s / 6 ||| 2 ^ j) * 6 + j < 100000 → ((s / 6 ||| 2 ^ j) * 6 + j) / 6 = (s / 6 ||| 2 ^ j) → ((s / 6 ||| 2 ^ j) * 6 + j) % 6 = j → ¬ plc c l s ((left + 1 : Nat) : Int) + 1 < (ptZ c l (s % 6) : Int) → plc c l s ((left + 1 : Nat) : Int) < (ptZ c l (s % 6) : Int) → sRW c l (s / 6) (s % 6) j = rsC c l (s / 6) (s % 6) → plc c l ((s / 6 ||| 2 ^ j) * 6 + j) (left : Int) = (ptO c l (s % 6) j : Int) := fun s j _ e1 e2 h1 h2 h3 => by
    unfold plc at h1 h2 ⊢
    rw [e1, e2]
    unfold sRW at h3
    omega
  have p1 : ∀ s, plc c l s (left : Int) = plc c l s ((left + 1 : Nat) : Int) + 1 := fun s => by unfold plc; omega
  refine ⟨by omega, fun s' hs => ?_, fun s' hs r hr => ?_, fun l0 w v1 v2 v3 => ?_, fun w v1 v2 => ?_, ?_⟩
  · obtain ⟨s, s1, s2, s3⟩ := (mem s').mp hs
    obtain ⟨k, k1, k2⟩ := j2 s s1
    rcases s3 with ⟨a, b⟩ | ⟨a, j, b1, b2, b3, b4⟩
    · rw [b, p1]; exact ⟨k, by omega, a⟩
    · obtain ⟨g1, g2, g3, g4⟩ := nx s j k b1 b2
      have l8 := (okT_lt n6 g1).1
      have := B (s % 6) j b1
      rw [b4, pe s j (by omega) g2 g3 a k2 b3, g3]
      exact ⟨g1, by omega, by omega⟩
  · obtain ⟨s, s1, s2, s3⟩ := (mem s').mp hs
    obtain ⟨k, k1, k2⟩ := j2 s s1
    have tc := tl_c k1 k2
    rcases s3 with ⟨a, b⟩ | ⟨a, j, b1, b2, b3, b4⟩
    · rw [b] at hr ⊢
      have := j3 s s1 r hr
      rw [tc, s2] at this
      have e : tlW c l s (left : Int) = sgm (ptZ c l) (ptL c l) (s % 6) ((plc c l s ((left + 1 : Nat) : Int)).toNat + 1) := by
        unfold tlW
        rw [p1, show (plc c l s ((left + 1 : Nat) : Int) + 1).toNat = (plc c l s ((left + 1 : Nat) : Int)).toNat + 1 by omega]
      rw [e, List.append_assoc]
      exact this
    · obtain ⟨g1, g2, g3, g4⟩ := nx s j k b1 b2
      have l8 := (okT_lt n6 g1).1
      have bz := B (s % 6) j b1
      have pe' := pe s j (by omega) g2 g3 a k2 b3
      rw [b4] at hr ⊢
      unfold Cs at hr
      rw [g2, g3] at hr
      have e : tlW c l ((s / 6 ||| 2 ^ j) * 6 + j) (left : Int) = sgm (ptZ c l) (ptL c l) j (ptO c l (s % 6) j) := by
        unfold tlW
        rw [pe', g3]; rfl
      have := j3 s s1 (sgm (ptZ c l) (ptL c l) j (ptO c l (s % 6) j) ++ r) ⟨by
        rw [g4]
        exact ⟨j, b1, b2, r, rfl, hr.1⟩, by
        rw [List.length_append, sgm_len, ← b3]
        unfold sRW
        rw [← hr.2]
        omega⟩
      rw [tc, s2, sgm_e (by omega)] at this
      rw [e, List.append_assoc]
      exact this
  · -- where a word comes from
    rw [ln] at v3
    have lw : o.length < w.length := by omega
    rw [gtL_take lw] at v3
    have v4 := List.append_inj' v3 rfl
    obtain ⟨s, s1, r, r1, r2⟩ := j4 w v1 v2 v4.1
    obtain ⟨k, k1, k2⟩ := j2 s s1
    have tc := tl_c k1 k2
    have lx : ltr c l s ((left + 1 : Nat) : Int) = x := by
      have e : gtL w o.length = x := by have := v4.2; simpa using this
      rw [← e, r2]
      rw [gtL_r0, tc]
      rfl
    by_cases y : plc c l s ((left + 1 : Nat) : Int) + 1 < (ptZ c l (s % 6) : Int)
    · refine ⟨s, (mem s).mpr ⟨s, s1, lx, Or.inl ⟨y, rfl⟩⟩, r, r1, ?_⟩
      have e : tlW c l s (left : Int) = sgm (ptZ c l) (ptL c l) (s % 6) ((plc c l s ((left + 1 : Nat) : Int)).toNat + 1) := by
        unfold tlW
        rw [p1, show (plc c l s ((left + 1 : Nat) : Int) + 1).toNat = (plc c l s ((left + 1 : Nat) : Int)).toNat + 1 by omega]
      rw [r2, tc, lx, e, List.append_assoc]; rfl
    · -- the part ends here
      have rl : (r.length : Int) = (left : Int) := by
        rw [r1.2]
        unfold plc at y k2
        omega
      obtain ⟨d, hd⟩ : ∃ d, l.length - bcu (s / 6) = d + 1 := by
        rcases Nat.eq_zero_or_pos (l.length - bcu (s / 6)) with z | z
        · have := r1.1
          rw [z] at this
          have this : r = [] := this
          rw [this] at rl
          have rl : (0 : Int) = (left : Int) := rl
          omega
        · exact ⟨l.length - bcu (s / 6) - 1, by omega⟩
      have c1 := r1.1
      rw [hd] at c1
      obtain ⟨j, b1, b2, r', b3, b4⟩ := c1
      obtain ⟨g1, g2, g3, g4⟩ := nx s j k b1 b2
      have dd : d = l.length - bcu (s / 6 ||| 2 ^ j) := by omega
      have f := (full_n n6 (pw_or k.2.1 b1)).1
      have f0 := (full_n n6 k.2.1).1
      have lo := (rsF_c (L := ptL c l) n6 B d (s / 6 ||| 2 ^ j) j (pw_or k.2.1 b1) (by omega)).1 r' b4
      have el : rsF l.length (ptZ c l) (ptO c l) d (s / 6 ||| 2 ^ j) j = rsC c l (s / 6 ||| 2 ^ j) j := by unfold rsC; rw [← dd]
      rw [el] at lo
      have bz := B (s % 6) j b1
      have len : (r.length : Int) = (ptZ c l j : Int) - (ptO c l (s % 6) j : Int) + (r'.length : Int) := by
        rw [b3, List.length_append, sgm_len]; omega
      -- the least of the row is at most this
      have up : rsC c l (s / 6) (s % 6) ≤ sRW c l (s / 6) (s % 6) j := by
        obtain ⟨q, q1, q2⟩ := (rsF_c (L := ptL c l) n6 B d (s / 6 ||| 2 ^ j) j (pw_or k.2.1 b1) (by omega)).2
        have := (rsF_c (L := ptL c l) n6 B (d + 1) (s / 6) (s % 6) k.2.1 (by omega)).1 (sgm (ptZ c l) (ptL c l) j (ptO c l (s % 6) j) ++ q) ⟨j, b1, b2, q, rfl, q1⟩
        rw [List.length_append, sgm_len] at this
        unfold sRW
        have e2 : rsC c l (s / 6) (s % 6) = rsF l.length (ptZ c l) (ptO c l) (d + 1) (s / 6) (s % 6) := by unfold rsC; rw [hd]
        rw [e2, ← el, ← q2]
        omega
      have eq : sRW c l (s / 6) (s % 6) j = rsC c l (s / 6) (s % 6) := by
        have := r1.2
        unfold sRW at up ⊢
        omega
      have rc : (r'.length : Int) = rsC c l (s / 6 ||| 2 ^ j) j := by
        have := r1.2
        unfold sRW at eq
        omega
      have l8 := (okT_lt n6 g1).1
      have pe' := pe s j (by omega) g2 g3 y k2 eq
      refine ⟨_, (mem _).mpr ⟨s, s1, lx, Or.inr ⟨y, j, b1, b2, eq, rfl⟩⟩, r', ?_, ?_⟩
      · unfold Cs
        rw [g2, g3, ← dd]
        exact ⟨b4, rc⟩
      · have e : tlW c l ((s / 6 ||| 2 ^ j) * 6 + j) (left : Int) = sgm (ptZ c l) (ptL c l) j (ptO c l (s % 6) j) := by
          unfold tlW
          rw [pe', g3]; rfl
        rw [r2, tc, lx, sgm_e (by omega), e, b3, List.append_assoc]
        first | done | rfl
  · rw [ln]
    have lw : o.length < w.length := by omega
    rw [gtL_take lw]
    by_cases y : w.take o.length = o
    · rw [y]
      obtain ⟨s, s1, r, r1, r2⟩ := j4 w v1 v2 y
      obtain ⟨k, k1, k2⟩ := j2 s s1
      have tc := tl_c k1 k2
      have e : gtL w o.length = ltr c l s ((left + 1 : Nat) : Int) := by
        rw [r2]
        rw [gtL_r0, tc]
        rfl
      rw [e]
      exact lx_sx (le s s1)
    · exact lx_sn (by rw [List.length_take]; omega) (j5 w v1 v2) y
  · obtain ⟨k, k1, k2⟩ := j2 sx sx1
    obtain ⟨r, r1⟩ := ex sx k
    have tc := tl_c k1 k2
    refine ⟨_, j3 sx sx1 r r1, ?_, ?_⟩
    · have := r1.2
      rw [List.length_append, List.length_append]
      unfold tlW
      rw [sgm_len]
      unfold plc at k1 k2 ⊢
      omega
    · rw [tc, sx2]
      have : o ++ (x :: sgm (ptZ c l) (ptL c l) (sx % 6) ((plc c l sx ((left + 1 : Nat) : Int)).toNat + 1) ++ r) = (o ++ [x]) ++ (sgm (ptZ c l) (ptL c l) (sx % 6) ((plc c l sx ((left + 1 : Nat) : Int)).toNat + 1) ++ r) := by rw [List.append_assoc]; rfl
      rw [this]
      exact take_pre rfl
