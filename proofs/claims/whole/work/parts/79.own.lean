/-! MERGED ROWS: which parts are left: rows that stand in rows -/
set_option maxHeartbeats 200000 in
theorem sm_ex {n : Nat} {f : Nat → Int} (h : 0 < sm n f) : ∃ k, k < n ∧ f k ≠ 0 := by
  induction n with
  | zero => exact absurd h (by show ¬ (0 : Int) < 0; omega)
  | succ n ih =>
    have e : sm (n + 1) f = sm n f + f n := rfl
    by_cases q : f n = 0
    · obtain ⟨k, k1, k2⟩ := ih (by omega)
      exact ⟨k, by omega, k2⟩
    · exact ⟨n, by omega, q⟩
set_option maxHeartbeats 200000 in
theorem sm_nn {n : Nat} {f : Nat → Int} (h : ∀ k, k < n → 0 ≤ f k) : 0 ≤ sm n f := by
  induction n with
  | zero => exact Int.le_refl _
  | succ n ih =>
    have e : sm (n + 1) f = sm n f + f n := rfl
    have := ih (fun k hk => h k (by omega))
    have := h n (by omega)
    omega
set_option maxHeartbeats 200000 in
theorem sm_ps {n k : Nat} {f : Nat → Int} (hk : k < n) (h : ∀ k, k < n → 0 ≤ f k) (p : 0 < f k) : 0 < sm n f := by
  induction n with
  | zero => exact absurd hk (by omega)
  | succ n ih =>
    have e : sm (n + 1) f = sm n f + f n := rfl
    have hn := h n (by omega)
    have nn := sm_nn (n := n) (f := f) (fun k hk => h k (by omega))
    by_cases q : k = n
    · rw [q] at p; omega
    · have := ih (by omega) (fun k hk => h k (by omega))
      omega
def Occ (n : Int) (L : Int → Int) (n' : Int) (L' : Int → Int) : Prop := ∃ p : Nat, (p : Int) + n ≤ n' ∧ ∀ k : Nat, (k : Int) < n → L (k : Int) = L' ((p : Int) + (k : Int))
set_option maxHeartbeats 200000 in
theorem stB_iff {n : Int} {L L' : Int → Int} {p : Int} : stB n L L' p = true ↔ ∀ k : Nat, (k : Int) < n → L (k : Int) = L' (p + (k : Int)) := by
  unfold stB
  rw [ab_iff]
  constructor
  · intro h k hk
    have := h k (by omega)
    exact eq_of_beq this
  · intro h k hk
    have := h k (by omega)
    rw [this]; exact beq_self_eq_true _
set_option maxHeartbeats 200000 in
theorem siB_iff {n n' : Int} {L L' : Int → Int} (h0 : 0 ≤ n) (h1 : 0 ≤ n') : siB n L n' L' = true ↔ Occ n L n' L' := by
  unfold siB
  rw [Bool.or_eq_true]
  constructor
  · rintro (q | q)
    · have := eq_of_beq q
      exact ⟨0, by omega, fun k hk => absurd hk (by omega)⟩
    · have q := of_decide_eq_true q
      unfold timesS at q
      by_cases y : n ≤ 0
      · rw [if_pos y] at q; exact absurd q (by omega)
      · rw [if_neg y] at q
        obtain ⟨p, p1, p2⟩ := sm_ex q
        have p2 : (if stB n L L' (p : Int) then (1 : Int) else 0) ≠ 0 := p2
        by_cases z : stB n L L' (p : Int) = true
        · exact ⟨p, by omega, stB_iff.mp z⟩
        · rw [if_neg z] at p2; exact absurd rfl p2
  · rintro ⟨p, p1, p2⟩
    by_cases y : n ≤ 0
    · exact Or.inl (by rw [show n = 0 by omega]; rfl)
    · refine Or.inr (decide_eq_true ?_)
      unfold timesS
      rw [if_neg y]
      refine sm_ps (k := p) (by omega) (fun k _ => ?_) ?_
      · show 0 ≤ (if stB n L L' (k : Int) then (1 : Int) else 0)
        split <;> omega
      · show 0 < (if stB n L L' (p : Int) then (1 : Int) else 0)
        rw [if_pos (stB_iff.mpr p2)]; omega
set_option maxHeartbeats 200000 in
theorem Occ.tr {n n' n'' : Int} {L L' L'' : Int → Int} (h1 : Occ n L n' L') (h2 : Occ n' L' n'' L'') : Occ n L n'' L'' := by
  obtain ⟨p, p1, p2⟩ := h1
  obtain ⟨r, r1, r2⟩ := h2
  refine ⟨r + p, by omega, fun k hk => ?_⟩
  have := r2 (p + k) (by omega)
  rw [p2 k hk]
  rw [show ((p + k : Nat) : Int) = (p : Int) + (k : Int) by omega] at this
  rw [this, show ((r + p : Nat) : Int) + (k : Int) = (r : Int) + ((p : Int) + (k : Int)) by omega]
set_option maxHeartbeats 200000 in
theorem Occ.le {n n' : Int} {L L' : Int → Int} (h : Occ n L n' L') : n ≤ n' := by
  obtain ⟨p, p1, -⟩ := h
  omega
set_option maxHeartbeats 200000 in
theorem Occ.bk {n n' : Int} {L L' : Int → Int} (h : Occ n L n' L') (e : n' ≤ n) : Occ n' L' n L := by
  obtain ⟨p, p1, p2⟩ := h
  have p0 : p = 0 := by omega
  subst p0
  refine ⟨0, by omega, fun k hk => ?_⟩
  have := p2 k (by omega)
  rw [show ((0 : Nat) : Int) + (k : Int) = (k : Int) by omega] at this ⊢
  exact this.symm
def oB (c : Nat → Int) (a b : Nat) : Bool := siB (hN c (a : Int)) (hL c (a : Int)) (hN c (b : Int)) (hL c (b : Int))
set_option maxHeartbeats 200000 in
theorem oB_iff {c : Nat → Int} {a b : Nat} (w : WF c) (ha : a < 8) (hb : b < 8) : oB c a b = true ↔ Occ (hN c (a : Int)) (hL c (a : Int)) (hN c (b : Int)) (hL c (b : Int)) :=
  siB_iff (hN_bd w (by omega) (by omega)).1 (hN_bd w (by omega) (by omega)).1
set_option maxHeartbeats 200000 in
/-- the reference's test -/
theorem rStI {c : Nat → Int} {a b : Nat} (w : WF c) (ha : a < 8) (hb : b < 8) : fX12_standsIn c (a : Int) (b : Int) = some (b01 (oB c a b)) := by
  have ba := hN_bd w (j := (a : Int)) (by omega) (by omega)
  have bb := hN_bd w (j := (b : Int)) (by omega) (by omega)
  have ea := rNow w (j := (a : Int)) (by omega) (by omega)
  have eb := rNow w (j := (b : Int)) (by omega) (by omega)
  have iff := oB_iff (c := c) w ha hb
  unfold fX12_standsIn
  refine bdg ea ?_
  by_cases le : hN c (a : Int) ≤ hN c (b : Int)
  · have key := fke (S := Unit) (T := Int) (fun fu i _ => fX12_standsIn_b9 c (a : Int) (b : Int) fu (hN c (a : Int)) i) some (hN c (b : Int) - hN c (a : Int) + 1).toNat (fun i _ => ∀ p : Nat, p < i → stB (hN c (a : Int)) (hL c (a : Int)) (hL c (b : Int)) (p : Int) = false) (b01 (oB c a b)) 0 () (by omega) (fun p hp => absurd hp (by omega)) (by omega)
      (fun fu i _ hi hI => by
        have e4 : WE ((i : Int) + hN c (a : Int)) := we (by omega) (by omega)
        have e5 : WE ((i : Int) + 1) := we (by omega) (by omega)
        have goal : fX12_standsIn_b9 c (a : Int) (b : Int) (fu + 1) (hN c (a : Int)) (i : Int) = fX12_standsIn_b71 c (a : Int) (b : Int) (fX12_standsIn_b9 c (a : Int) (b : Int) fu) (hN c (a : Int)) (i : Int) (if stB (hN c (a : Int)) (hL c (a : Int)) (hL c (b : Int)) (i : Int) then 1 else 0) := by
          rw [fX12_standsIn_b9.eq_2]
          refine bdg eb ?_
          rw [e4.e]
          refine iteT (by omega) ?_
          refine (flag (fun fu' v s => fX12_standsIn_b27 c (a : Int) (b : Int) (fX12_standsIn_b9 c (a : Int) (b : Int) fu) fu' (hN c (a : Int)) (i : Int) s v) (fun s => fX12_standsIn_b71 c (a : Int) (b : Int) (fX12_standsIn_b9 c (a : Int) (b : Int) fu) (hN c (a : Int)) (i : Int) s) (hN c (a : Int)).toNat (fun k => hL c (a : Int) (k : Int) == hL c (b : Int) ((i : Int) + (k : Int))) (by omega) ?_ ?_ ?_ : _)
          · intro fu' k hk
            have e6 : WE ((i : Int) + (k : Int)) := we (by omega) (by omega)
            have e7 : WE ((k : Int) + 1) := we (by omega) (by omega)
            show fX12_standsIn_b27 c (a : Int) (b : Int) (fX12_standsIn_b9 c (a : Int) (b : Int) fu) (fu' + 1) (hN c (a : Int)) (i : Int) 1 (k : Int) = fX12_standsIn_b27 c (a : Int) (b : Int) (fX12_standsIn_b9 c (a : Int) (b : Int) fu) fu' (hN c (a : Int)) (i : Int) _ ((k : Int) + 1)
            rw [fX12_standsIn_b27.eq_2, e6.e]
            refine iteT (by omega) (iteF (by omega) (bdg (rLet w (by omega) (by omega) (by omega) (by omega)) (bdg (rLet w (by omega) (by omega) (by omega) (by omega)) ?_)))
            rw [lt_d, lt_d, e7.e, eqb_ite]
          · intro fu' k hk
            show fX12_standsIn_b27 c (a : Int) (b : Int) (fX12_standsIn_b9 c (a : Int) (b : Int) fu) (fu' + 1) (hN c (a : Int)) (i : Int) 0 (k : Int) = _
            rw [fX12_standsIn_b27.eq_2]
            by_cases y : (k : Int) < hN c (a : Int)
            · exact iteT y (iteT rfl rfl)
            · exact iteF y rfl
          · intro fu'
            show fX12_standsIn_b27 c (a : Int) (b : Int) (fX12_standsIn_b9 c (a : Int) (b : Int) fu) (fu' + 1) (hN c (a : Int)) (i : Int) 1 ((hN c (a : Int)).toNat : Int) = _
            rw [fX12_standsIn_b27.eq_2]
            exact iteF (by omega) rfl
        show _ ∨ fX12_standsIn_b9 c (a : Int) (b : Int) (fu + 1) (hN c (a : Int)) (i : Int) = _
        cases q : stB (hN c (a : Int)) (hL c (a : Int)) (hL c (b : Int)) (i : Int) with
        | true =>
          right
          rw [goal, q, fX12_standsIn_b71, iff.mpr ⟨i, by omega, stB_iff.mp q⟩]
          exact iteF (by decide) rfl
        | false =>
          left
          refine ⟨(), fun p hp => ?_, ?_⟩
          · rcases Nat.lt_succ_iff_lt_or_eq.mp hp with y | y
            · exact hI p y
            · rw [y]; exact q
          · show fX12_standsIn_b9 c (a : Int) (b : Int) (fu + 1) (hN c (a : Int)) (i : Int) = _
            rw [goal, q, fX12_standsIn_b71]
            refine iteT rfl ?_
            rw [lt_d, e5.e])
      (fun fu _ hI => by
        have no : oB c a b = false := by
          cases q : oB c a b with
          | false => rfl
          | true =>
            obtain ⟨p, p1, p2⟩ := iff.mp q
            have := hI p (by omega)
            rw [stB_iff.mpr p2] at this
            cases this
        have e4 : WE (((hN c (b : Int) - hN c (a : Int) + 1).toNat : Int) + hN c (a : Int)) := we (by omega) (by omega)
        show fX12_standsIn_b9 c (a : Int) (b : Int) (fu + 1) (hN c (a : Int)) (((hN c (b : Int) - hN c (a : Int) + 1).toNat : Nat) : Int) = _
        rw [fX12_standsIn_b9.eq_2, no]
        refine bdg eb ?_
        rw [e4.e]
        exact iteF (by omega) rfl)
    exact key
  · have no : oB c a b = false := by
      cases q : oB c a b with
      | false => rfl
      | true => exact absurd (iff.mp q).le le
    have e4 : WE (0 + hN c (a : Int)) := we (by omega) (by omega)
    rw [no]
    show fX12_standsIn_b9 c (a : Int) (b : Int) (999999 + 1) (hN c (a : Int)) 0 = _
    rw [fX12_standsIn_b9.eq_2]
    refine bdg eb ?_
    rw [e4.e]
    exact iteF (by omega) rfl
/-- own, as far as the rows below m go -/
def ownR (c : Nat → Int) (A m j : Nat) : Bool := decide (0 < hN c (j : Int)) && ab m (fun v => v == j || !A.testBit v || !oB c j v || (decide (hN c (v : Int) ≤ hN c (j : Int)) && !decide (v < j)))
set_option maxHeartbeats 200000 in
theorem rOwn {c : Nat → Int} {A j : Nat} (w : WF c) (hA : A < 256) (hj : j < (c 2).toNat) : fX12_isOwn c (j : Int) (A : Int) = some (b01 (ownR c A (c 2).toNat j)) := by
  have nj := w.nj
  have ej := rNow w (j := (j : Int)) (by omega) (by omega)
  have bj := hN_bd w (j := (j : Int)) (by omega) (by omega)
  unfold fX12_isOwn
  refine bdg ej ?_
  by_cases z : hN c (j : Int) = 0
  · refine iteT z ?_
    unfold ownR
    rw [decide_eq_false (by omega), Bool.false_and]; rfl
  · refine iteF z ?_
    refine (fke (S := Unit) (T := Int) (fun fu i _ => fX12_isOwn_b12 c (j : Int) (A : Int) fu i) some (c 2).toNat (fun i _ => ∀ v : Nat, v < i → (v == j || !A.testBit v || !oB c j v || (decide (hN c (v : Int) ≤ hN c (j : Int)) && !decide (v < j))) = true) (b01 (ownR c A (c 2).toNat j)) 0 () (by omega) (fun p hp => absurd hp (by omega)) (by omega) ?_ ?_ : _)
    · intro fu i _ hi hI
      have e5 : WE ((i : Int) + 1) := we (by omega) (by omega)
      have ei := rNow w (j := (i : Int)) (by omega) (by omega)
      have ih := rHas (s := A) (k := i) (by omega) (by omega)
      have is := rStI (a := j) (b := i) w (by omega) (by omega)
      have e67 : fX12_isOwn_b67 c (j : Int) (A : Int) (fX12_isOwn_b12 c (j : Int) (A : Int) fu) (i : Int) = fX12_isOwn_b12 c (j : Int) (A : Int) fu ((i : Int) + 1) := by rw [fX12_isOwn_b67, lt_d, e5.e]
      show _ ∨ fX12_isOwn_b12 c (j : Int) (A : Int) (fu + 1) (i : Int) = _
      have yes : (i == j || !A.testBit i || !oB c j i || (decide (hN c (i : Int) ≤ hN c (j : Int)) && !decide (i < j))) = true → fX12_isOwn_b12 c (j : Int) (A : Int) (fu + 1) (i : Int) = fX12_isOwn_b12 c (j : Int) (A : Int) fu ((i : Int) + 1) → ∃ s', (∀ v : Nat, v < i + 1 → (v == j || !A.testBit v || !oB c j v || (decide (hN c (v : Int) ≤ hN c (j : Int)) && !decide (v < j))) = true) ∧ fX12_isOwn_b12 c (j : Int) (A : Int) (fu + 1) (i : Int) = (fun _ : Unit => fX12_isOwn_b12 c (j : Int) (A : Int) fu ((i : Int) + 1)) s' := fun y1 y2 => ⟨(), fun v hv => by
        rcases Nat.lt_succ_iff_lt_or_eq.mp hv with y | y
        · exact hI v y
        · rw [y]; exact y1, y2⟩
      have no : (i == j || !A.testBit i || !oB c j i || (decide (hN c (i : Int) ≤ hN c (j : Int)) && !decide (i < j))) = false → ownR c A (c 2).toNat j = false := fun y => by
        unfold ownR
        rw [ab_no hi y, Bool.and_false]
      rw [fX12_isOwn_b12.eq_2] at yes ⊢
      have hd : ∀ r : Option Int, (gd (inA 2 1850) <| if (i : Int) < c ((2 : Int).toNat) then r else some 1) = r := fun r => gdg (by show 0 ≤ (2 : Int) ∧ (2 : Int) < 1850; omega) (iteT (by show (i : Int) < c 2; omega) rfl)
      rw [hd] at yes ⊢
      by_cases y1 : i = j
      · left
        exact yes (by simp [y1]) (iteT (by omega) e67)
      · have b1 : (i == j) = false := beq_eq_false_iff_ne.mpr y1
        rw [b1] at yes no
        cases y2 : A.testBit i with
        | false =>
          rw [y2] at yes ih
          left
          exact yes rfl (iteF (by omega) (bdg ih (iteT rfl e67)))
        | true =>
          rw [y2] at yes no ih
          have n1 : ¬ b01 true = 0 := by decide
          cases y3 : oB c j i with
          | false =>
            rw [y3] at yes is
            left
            exact yes rfl (iteF (by omega) (bdg ih (iteF n1 (bdg is (iteT rfl e67)))))
          | true =>
            rw [y3] at yes no is
            by_cases y4 : hN c (i : Int) ≤ hN c (j : Int)
            · rw [decide_eq_true y4] at yes no
              by_cases y5 : i < j
              · rw [decide_eq_true y5] at no
                right
                rw [no rfl]
                exact iteF (by omega) (bdg ih (iteF n1 (bdg is (iteF n1 (bdg ei (bdg ej (iteT y4 (iteT (by omega) rfl))))))))
              · rw [decide_eq_false y5] at yes
                left
                exact yes rfl (iteF (by omega) (bdg ih (iteF n1 (bdg is (iteF n1 (bdg ei (bdg ej (iteT y4 (iteF (by omega) e67)))))))))
            · rw [decide_eq_false y4] at no
              right
              rw [no rfl]
              exact iteF (by omega) (bdg ih (iteF n1 (bdg is (iteF n1 (bdg ei (bdg ej (iteF y4 rfl)))))))
    · intro fu _ hI
      show fX12_isOwn_b12 c (j : Int) (A : Int) (fu + 1) ((c 2).toNat : Int) = _
      rw [fX12_isOwn_b12.eq_2]
      have : ownR c A (c 2).toNat j = true := by
        unfold ownR
        rw [decide_eq_true (by omega), Bool.true_and]
        exact ab_iff.mpr hI
      rw [this]
      exact gdg (by show 0 ≤ (2 : Int) ∧ (2 : Int) < 1850; omega) (iteF (by show ¬ _ < c 2; omega) rfl)
