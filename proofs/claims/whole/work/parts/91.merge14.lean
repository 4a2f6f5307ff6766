/-! MERGED ROWS: letter by letter, the least word -/
set_option maxHeartbeats 200000 in
theorem nxL_mem {c : Nat → Int} {l : List Nat} {u a s : Nat} {os : List Nat} : ∀ k, s ∈ nxL c l u a k os ↔ s ∈ os ∨ ∃ j, j < k ∧ u.testBit j = false ∧ sRW c l u a j = rsC c l u a ∧ s = (u ||| 2 ^ j) * 6 + j := by
  intro k
  induction k with
  | zero => exact ⟨fun h => Or.inl h, fun h => h.elim id (fun ⟨j, j1, _⟩ => absurd j1 (by omega))⟩
  | succ k ih =>
    have st : nxL c l u a (k + 1) os = if !u.testBit k && decide (sRW c l u a k = rsC c l u a) then addO (nxL c l u a k os) ((u ||| 2 ^ k) * 6 + k) else nxL c l u a k os := rfl
    rw [st]
    by_cases q : (!u.testBit k && decide (sRW c l u a k = rsC c l u a)) = true
    · rw [if_pos q, addO_mem, ih]
      rw [Bool.and_eq_true] at q
      have q1 : u.testBit k = false := by simpa using q.1
      have q2 := of_decide_eq_true q.2
      constructor
      · rintro ((h | ⟨j, j1, j2⟩) | h)
        · exact Or.inl h
        · exact Or.inr ⟨j, by omega, j2⟩
        · exact Or.inr ⟨k, by omega, q1, q2, h⟩
      · rintro (h | ⟨j, j1, j2, j3, j4⟩)
        · exact Or.inl (Or.inl h)
        · by_cases e : j = k
          · exact Or.inr (by rw [j4, e])
          · exact Or.inl (Or.inr ⟨j, by omega, j2, j3, j4⟩)
    · rw [if_neg q, ih]
      constructor
      · rintro (h | ⟨j, j1, j2⟩)
        · exact Or.inl h
        · exact Or.inr ⟨j, by omega, j2⟩
      · rintro (h | ⟨j, j1, j2, j3, j4⟩)
        · exact Or.inl h
        · by_cases e : j = k
          · exact absurd (by rw [← e, j2, decide_eq_true j3]; rfl) q
          · exact Or.inr ⟨j, by omega, j2, j3, j4⟩
def nxt (c : Nat → Int) (l : List Nat) (lt left : Int) (s s' : Nat) : Prop := ltr c l s left = lt ∧ ((plc c l s left + 1 < (ptZ c l (s % 6) : Int) ∧ s' = s) ∨ (¬ plc c l s left + 1 < (ptZ c l (s % 6) : Int) ∧ ∃ j, j < l.length ∧ (s / 6).testBit j = false ∧ sRW c l (s / 6) (s % 6) j = rsC c l (s / 6) (s % 6) ∧ s' = (s / 6 ||| 2 ^ j) * 6 + j))
set_option maxHeartbeats 200000 in
theorem flw_mem {c : Nat → Int} {l os : List Nat} {lt left : Int} {s' : Nat} : ∀ k, s' ∈ flw c l os lt left k ↔ ∃ i, i < k ∧ nxt c l lt left (gtN os i) s' := by
  intro k
  induction k with
  | zero => exact ⟨fun h => absurd h (by show ¬ s' ∈ []; simp), fun ⟨i, i1, _⟩ => absurd i1 (by omega)⟩
  | succ k ih =>
    have st : flw c l os lt left (k + 1) = if ltr c l (gtN os k) left = lt then (if plc c l (gtN os k) left + 1 < (ptZ c l (gtN os k % 6) : Int) then addO (flw c l os lt left k) (gtN os k) else nxL c l (gtN os k / 6) (gtN os k % 6) l.length (flw c l os lt left k)) else flw c l os lt left k := rfl
    have up : (∃ i, i < k ∧ nxt c l lt left (gtN os i) s') ∨ nxt c l lt left (gtN os k) s' ↔ ∃ i, i < k + 1 ∧ nxt c l lt left (gtN os i) s' := by
      constructor
      · rintro (⟨i, i1, i2⟩ | h)
        · exact ⟨i, by omega, i2⟩
        · exact ⟨k, by omega, h⟩
      · rintro ⟨i, i1, i2⟩
        by_cases e : i = k
        · exact Or.inr (by rw [← e]; exact i2)
        · exact Or.inl ⟨i, by omega, i2⟩
    rw [st, ← up, ← ih]
    by_cases q : ltr c l (gtN os k) left = lt
    · rw [if_pos q]
      by_cases q2 : plc c l (gtN os k) left + 1 < (ptZ c l (gtN os k % 6) : Int)
      · rw [if_pos q2, addO_mem]
        constructor
        · rintro (h | h)
          · exact Or.inl h
          · exact Or.inr ⟨q, Or.inl ⟨q2, h⟩⟩
        · rintro (h | ⟨_, ⟨_, h⟩ | ⟨h, _⟩⟩)
          · exact Or.inl h
          · exact Or.inr h
          · exact absurd q2 h
      · rw [if_neg q2, nxL_mem]
        constructor
        · rintro (h | h)
          · exact Or.inl h
          · exact Or.inr ⟨q, Or.inr ⟨q2, h⟩⟩
        · rintro (h | ⟨_, ⟨h, _⟩ | ⟨_, h⟩⟩)
          · exact Or.inl h
          · exact absurd h q2
          · exact Or.inr h
    · rw [if_neg q]
      constructor
      · exact fun h => Or.inl h
      · rintro (h | ⟨h, _⟩)
        · exact h
        · exact absurd h q
set_option maxHeartbeats 200000 in
theorem sgm_c {sz : Nat → Nat} {L : Nat → Int → Int} {j o : Nat} (h : o < sz j) : sgm sz L j o = L j (o : Int) :: sgm sz L j (o + 1) := by
  refine gtL_ext (by rw [List.length_cons, sgm_len, sgm_len]; omega) (fun k hk => ?_)
  rw [sgm_len] at hk
  rw [sgm_gt hk]
  cases k with
  | zero => rw [gtL_0, Nat.add_zero]
  | succ k => rw [gtL_s, sgm_gt (by omega), show o + (k + 1) = o + 1 + k by omega]
set_option maxHeartbeats 200000 in
theorem sgm_e {sz : Nat → Nat} {L : Nat → Int → Int} {j o : Nat} (h : sz j ≤ o) : sgm sz L j o = [] := by
  refine List.eq_nil_of_length_eq_zero ?_
  rw [sgm_len]; omega
set_option maxHeartbeats 200000 in
theorem gtL_take {w : List Int} {k : Nat} (h : k < w.length) : w.take (k + 1) = w.take k ++ [gtL w k] := by
  unfold gtL
  rw [List.take_add_one]
  simp [List.getD_eq_getElem?_getD, List.getElem?_eq_getElem h]
set_option maxHeartbeats 200000 in
theorem lx_sn {a b : List Int} {x y : Int} (e : a.length = b.length) (h : lxB a b = false) (ne : a ≠ b) : lxB (a ++ [x]) (b ++ [y]) = false := by
  induction a generalizing b with
  | nil =>
    cases b with
    | nil => exact absurd rfl ne
    | cons z b => simp at e
  | cons z a ih =>
    cases b with
    | nil => simp at e
    | cons v b =>
      rw [lxB_c] at h
      rw [List.cons_append, List.cons_append, lxB_c]
      by_cases p : z = v
      · rw [if_pos p] at h ⊢
        exact ih (by simpa using e) h (fun q => ne (by rw [p, q]))
      · rw [if_neg p] at h ⊢
        exact h
set_option maxHeartbeats 200000 in
theorem lx_sx {a : List Int} {x y : Int} (h : y ≤ x) : lxB (a ++ [x]) (a ++ [y]) = false := by
  induction a with
  | nil =>
    show lxB [x] [y] = false
    rw [lxB_c]
    by_cases p : x = y
    · rw [if_pos p]; rw [lxB]
    · rw [if_neg p]; exact decide_eq_false (by omega)
  | cons z a ih => rw [List.cons_append, List.cons_append, lxB_c, if_pos rfl]; exact ih
abbrev C0 (c : Nat → Int) (l : List Nat) (w : List Int) : Prop := Cmp l.length (ptZ c l) (ptL c l) (ptO c l) l.length 0 l.length w
abbrev Cs (c : Nat → Int) (l : List Nat) (s : Nat) (r : List Int) : Prop := Cmp l.length (ptZ c l) (ptL c l) (ptO c l) (l.length - bcu (s / 6)) (s / 6) (s % 6) r ∧ (r.length : Int) = rsC c l (s / 6) (s % 6)
def tlW (c : Nat → Int) (l : List Nat) (s : Nat) (left : Int) : List Int := sgm (ptZ c l) (ptL c l) (s % 6) (plc c l s left).toNat
def JW (c : Nat → Int) (l : List Nat) (m left : Nat) (o : List Int) (os : List Nat) : Prop :=
  o.length + left = m ∧ (∀ s, s ∈ os → okT l s ∧ 0 ≤ plc c l s left ∧ plc c l s left < (ptZ c l (s % 6) : Int)) ∧
  (∀ s, s ∈ os → ∀ r, Cs c l s r → C0 c l (o ++ (tlW c l s left ++ r))) ∧
  (0 < left → ∀ w, C0 c l w → w.length = m → w.take o.length = o → ∃ s, s ∈ os ∧ ∃ r, Cs c l s r ∧ w = o ++ (tlW c l s left ++ r)) ∧
  (∀ w, C0 c l w → w.length = m → lxB (w.take o.length) o = false) ∧ ∃ w, C0 c l w ∧ w.length = m ∧ w.take o.length = o
