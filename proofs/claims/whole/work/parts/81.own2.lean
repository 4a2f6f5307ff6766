/-! MERGED ROWS, in the class: which parts are left, row by row -/
def addL (c : Nat → Int) (l : List Nat) (j : Nat) : List Nat := if l.any (fun p => oB c j p) then l else l.filter (fun p => !oB c p j) ++ (if 0 < hN c (j : Int) then [j] else [])
set_option maxHeartbeats 200000 in
theorem ownR_s {c : Nat → Int} {A m j : Nat} : ownR c A (m + 1) j = (ownR c A m j && (m == j || !A.testBit m || !oB c j m || (decide (hN c (m : Int) ≤ hN c (j : Int)) && !decide (m < j)))) := by
  unfold ownR
  show (_ && (ab m _ && _)) = _
  rw [Bool.and_assoc]
set_option maxHeartbeats 200000 in
theorem ownR_lt {c : Nat → Int} {A m j : Nat} (h : j < m) : ownR c A (m + 1) j = (ownR c A m j && (!A.testBit m || !oB c j m || decide (hN c (m : Int) ≤ hN c (j : Int)))) := by
  rw [ownR_s, beq_eq_false_iff_ne.mpr (show m ≠ j by omega), decide_eq_false (show ¬ m < j by omega)]
  simp
set_option maxHeartbeats 200000 in
theorem ownR_v {c : Nat → Int} {A m j v : Nat} (h : ownR c A m j = true) (hv : v < m) (ne : v ≠ j) (a : A.testBit v = true) (o : oB c j v = true) : hN c (v : Int) ≤ hN c (j : Int) ∧ ¬ v < j := by
  unfold ownR at h
  rw [Bool.and_eq_true] at h
  have := ab_iff.mp h.2 v hv
  rw [beq_eq_false_iff_ne.mpr ne, a, o] at this
  have this : (decide (hN c (v : Int) ≤ hN c (j : Int)) && !decide (v < j)) = true := by simpa using this
  rw [Bool.and_eq_true] at this
  refine ⟨of_decide_eq_true this.1, fun z => ?_⟩
  rw [decide_eq_true z] at this
  exact absurd this.2 (by simp)
set_option maxHeartbeats 200000 in
theorem ownR_p {c : Nat → Int} {A m j : Nat} (h : ownR c A m j = true) : 0 < hN c (j : Int) := by
  unfold ownR at h
  rw [Bool.and_eq_true] at h
  exact of_decide_eq_true h.1
set_option maxHeartbeats 200000 in
theorem oB_rf {c : Nat → Int} {a : Nat} (w : WF c) (ha : a < 8) : oB c a a = true := (oB_iff w ha ha).mpr ⟨0, by omega, fun k _ => by rw [show ((0 : Nat) : Int) + (k : Int) = (k : Int) by omega]⟩
set_option maxHeartbeats 200000 in
theorem oB_tr {c : Nat → Int} {a b d : Nat} (w : WF c) (ha : a < 8) (hb : b < 8) (hd : d < 8) (h1 : oB c a b = true) (h2 : oB c b d = true) : oB c a d = true :=
  (oB_iff w ha hd).mpr (((oB_iff w ha hb).mp h1).tr ((oB_iff w hb hd).mp h2))
set_option maxHeartbeats 200000 in
theorem oB_le {c : Nat → Int} {a b : Nat} (w : WF c) (ha : a < 8) (hb : b < 8) (h1 : oB c a b = true) : hN c (a : Int) ≤ hN c (b : Int) := ((oB_iff w ha hb).mp h1).le
set_option maxHeartbeats 200000 in
theorem oB_bk {c : Nat → Int} {a b : Nat} (w : WF c) (ha : a < 8) (hb : b < 8) (h1 : oB c a b = true) (e : hN c (b : Int) ≤ hN c (a : Int)) : oB c b a = true := (oB_iff w hb ha).mpr (((oB_iff w ha hb).mp h1).bk e)
set_option maxHeartbeats 200000 in
theorem own_0 {c : Nat → Int} {A m : Nat} (a : A.testBit m = false) : ownL c A (m + 1) (m + 1) = ownL c A m m := by
  rw [ownL_s]
  have : ownP c A (m + 1) m = false := by unfold ownP; rw [a]; rfl
  rw [this]
  show ownL c A (m + 1) m = _
  unfold ownL
  refine List.filter_congr (fun j hj => ?_)
  have hj := List.mem_range.mp hj
  unfold ownP
  rw [ownR_lt hj, a]
  simp
def Top (c : Nat → Int) (A m : Nat) : Prop := ∀ v, v < m → A.testBit v = true → 0 < hN c (v : Int) → ∃ p, p ∈ ownL c A m m ∧ oB c v p = true
set_option maxHeartbeats 200000 in
theorem own_1 {c : Nat → Int} {A m : Nat} (w : WF c) (m8 : m < 8) (a : A.testBit m = true) (tp : Top c A m) : ownL c A (m + 1) (m + 1) = addL c (ownL c A m m) m := by
  rw [ownL_s]
  unfold addL
  cases q : (ownL c A m m).any (fun p => oB c m p) with
  | true =>
    rw [if_pos rfl]
    obtain ⟨p, p1, p2⟩ := List.any_eq_true.mp q
    obtain ⟨pm, pA, pO⟩ := ownL_mem p1
    have no : ownP c A (m + 1) m = false := by
      cases z : ownP c A (m + 1) m with
      | false => rfl
      | true =>
        unfold ownP at z
        rw [Bool.and_eq_true] at z
        exact absurd pm (ownR_v z.2 (by omega) (by omega) pA p2).2
    rw [no]
    show ownL c A (m + 1) m = _
    unfold ownL
    refine List.filter_congr (fun j hj => ?_)
    have hj := List.mem_range.mp hj
    unfold ownP
    rw [ownR_lt hj]
    cases y1 : A.testBit j with
    | false => rfl
    | true =>
      cases y2 : ownR c A m j with
      | false => rfl
      | true =>
        show (!A.testBit m || !oB c j m || decide (hN c (m : Int) ≤ hN c (j : Int))) = true
        cases y3 : oB c j m with
        | false => simp
        | true =>
          have le : hN c (m : Int) ≤ hN c (j : Int) := by
            by_cases e : p = j
            · rw [← e]; exact oB_le w (by omega) (by omega) p2
            · have jp := oB_tr w (by omega) (by omega) (by omega) y3 p2
              have := (ownR_v y2 pm e pA jp).1
              have := oB_le w (a := m) (b := p) (by omega) (by omega) p2
              omega
          rw [decide_eq_true le]; simp
  | false =>
    have nq : ∀ p, p ∈ ownL c A m m → oB c m p = false := fun p hp => by
      cases z : oB c m p with
      | false => rfl
      | true =>
        have := List.any_eq_true.mpr ⟨p, hp, z⟩
        rw [this] at q; cases q
    have e1 : ownL c A (m + 1) m = (ownL c A m m).filter (fun p => !oB c p m) := by
      unfold ownL
      rw [List.filter_filter]
      refine List.filter_congr (fun j hj => ?_)
      have hj := List.mem_range.mp hj
      unfold ownP
      rw [ownR_lt hj, a]
      cases y1 : A.testBit j with
      | false => simp
      | true =>
        cases y2 : ownR c A m j with
        | false => simp
        | true =>
          have jm : j ∈ ownL c A m m := by
            unfold ownL
            rw [List.mem_filter]
            refine ⟨List.mem_range.mpr hj, ?_⟩
            unfold ownP
            rw [y1, y2]; rfl
          cases y3 : oB c j m with
          | false => simp
          | true =>
            have nl : ¬ hN c (m : Int) ≤ hN c (j : Int) := fun z => by
              have := oB_bk w (by omega) (by omega) y3 z
              rw [nq j jm] at this; cases this
            rw [decide_eq_false nl]; simp
    have e2 : ownP c A (m + 1) m = decide (0 < hN c (m : Int)) := by
      unfold ownP
      rw [a, Bool.true_and]
      unfold ownR
      by_cases y : 0 < hN c (m : Int)
      · rw [decide_eq_true y, Bool.true_and, ab_iff]
        intro v hv
        rcases Nat.lt_succ_iff_lt_or_eq.mp hv with y1 | y1
        · cases y2 : A.testBit v with
          | false => simp
          | true =>
            cases y3 : oB c m v with
            | false => simp
            | true =>
              have l1 := oB_le w (a := m) (b := v) (by omega) (by omega) y3
              obtain ⟨p, p1, p2⟩ := tp v y1 y2 (by omega)
              obtain ⟨pm, pA, pO⟩ := ownL_mem p1
              have := oB_tr w (by omega) (by omega) (by omega) y3 p2
              rw [nq p p1] at this; cases this
        · rw [y1]; simp
      · rw [decide_eq_false y, Bool.false_and]
    rw [e1, e2]
    by_cases y : 0 < hN c (m : Int)
    · rw [decide_eq_true y, if_pos rfl, if_pos y]; rfl
    · rw [decide_eq_false y, if_neg y, List.append_nil]; rfl
set_option maxHeartbeats 200000 in
theorem own_top {c : Nat → Int} {A : Nat} (w : WF c) : ∀ m, m ≤ 8 → Top c A m := by
  intro m
  induction m with
  | zero => intro _ v hv; omega
  | succ m ih =>
    intro hm v hv av nv
    have tp := ih (by omega)
    cases a : A.testBit m with
    | false =>
      rw [own_0 a]
      have : v ≠ m := fun e => by rw [e, a] at av; cases av
      exact tp v (by omega) av nv
    | true =>
      rw [own_1 w (by omega) a tp]
      unfold addL
      cases q : (ownL c A m m).any (fun p => oB c m p) with
      | true =>
        rw [if_pos rfl]
        obtain ⟨p, p1, p2⟩ := List.any_eq_true.mp q
        by_cases e : v = m
        · rw [e]; exact ⟨p, p1, p2⟩
        · exact tp v (by omega) av nv
      | false =>
        show ∃ p, p ∈ (ownL c A m m).filter (fun p => !oB c p m) ++ (if 0 < hN c (m : Int) then [m] else []) ∧ oB c v p = true
        by_cases e : v = m
        · rw [e] at nv ⊢
          rw [if_pos nv]
          exact ⟨m, by simp, oB_rf w (by omega)⟩
        · obtain ⟨p, p1, p2⟩ := tp v (by omega) av nv
          obtain ⟨pm, pA, pO⟩ := ownL_mem p1
          cases z : oB c p m with
          | false => exact ⟨p, by rw [List.mem_append, List.mem_filter]; exact Or.inl ⟨p1, by rw [z]; rfl⟩, p2⟩
          | true =>
            have l1 := oB_le w (a := p) (b := m) (by omega) (by omega) z
            have := ownR_p pO
            rw [if_pos (by omega)]
            exact ⟨m, by simp, oB_tr w (by omega) (by omega) (by omega) p2 z⟩
