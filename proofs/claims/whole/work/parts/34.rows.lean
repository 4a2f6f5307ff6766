/-! ROWS of the class: what a Row object at a tells: n LETTERS, L; outside 0 -/
def RV (h : Hp) (a : Nat) (n : Int) (L : Int → Int) : Prop :=
  (hK h a).1 = 6 ∧ gI h 386 a = n ∧ 0 ≤ n ∧ n ≤ 1000 ∧ (∀ k : Int, (k < 0 ∨ n ≤ k) → L k = 0) ∧
  ∃ q, gR h 384 a = some q ∧ (hK h q).1 = 21 ∧ 0 ≤ gI h 385 a ∧ gI h 385 a + n ≤ ((hK h q).2 : Int) ∧ ((hK h q).2 : Int) < 100000 ∧ ∀ k : Int, 0 ≤ k → k < n → gA h q (gI h 385 a + k).toNat = L k
set_option maxHeartbeats 200000 in
theorem RV.k {h : Hp} {a : Nat} {n : Int} {L : Int → Int} (r : RV h a n L) : (hK h a).1 = 6 := r.1
set_option maxHeartbeats 200000 in
theorem RV.z {h : Hp} {a : Nat} {n : Int} {L : Int → Int} (r : RV h a n L) : gI h 386 a = n := r.2.1
set_option maxHeartbeats 200000 in
theorem RV.b {h : Hp} {a : Nat} {n : Int} {L : Int → Int} (r : RV h a n L) : 0 ≤ n ∧ n ≤ 1000 := ⟨r.2.2.1, r.2.2.2.1⟩
set_option maxHeartbeats 200000 in
theorem RV.o {h : Hp} {a : Nat} {n : Int} {L : Int → Int} (r : RV h a n L) {k : Int} (hk : k < 0 ∨ n ≤ k) : L k = 0 := r.2.2.2.2.1 k hk
set_option maxHeartbeats 200000 in
theorem xHas1 {h : Hp} {a : Nat} {n : Int} {L : Int → Int} (r : RV h a n L) {k : Int} (h0 : 0 ≤ k) (h8 : k < n) : fX6_has h a k = some 1 := by
  unfold fX6_has
  rw [r.z]
  (repeat' (first | (with_reducible refine ltg ?_) | ((with_reducible refine iteT ?_ ?_); omega) | ((with_reducible refine iteF ?_ ?_); omega) | ((with_reducible refine gdg ?_ ?_); first | with_reducible exact r.k | omega) | ((with_reducible apply nng); first | with_reducible exact r.k) | ((with_reducible apply bdg); first | with_reducible exact r.k) | ((with_reducible apply bd2g); first | with_reducible exact r.k)))
  rfl
set_option maxHeartbeats 200000 in
theorem xHas0 {h : Hp} {a : Nat} {n : Int} {L : Int → Int} (r : RV h a n L) {k : Int} (h0 : k < 0 ∨ n ≤ k) : fX6_has h a k = some 0 := by
  unfold fX6_has
  rw [r.z]
  by_cases hk : k < 0
  · (repeat' (first | (with_reducible refine ltg ?_) | ((with_reducible refine iteT ?_ ?_); omega) | ((with_reducible refine iteF ?_ ?_); omega) | ((with_reducible refine gdg ?_ ?_); first | with_reducible exact r.k | omega) | ((with_reducible apply nng); first | with_reducible exact r.k) | ((with_reducible apply bdg); first | with_reducible exact r.k) | ((with_reducible apply bd2g); first | with_reducible exact r.k)))
    rfl
  · (repeat' (first | (with_reducible refine ltg ?_) | ((with_reducible refine iteT ?_ ?_); omega) | ((with_reducible refine iteF ?_ ?_); omega) | ((with_reducible refine gdg ?_ ?_); first | with_reducible exact r.k | omega) | ((with_reducible apply nng); first | with_reducible exact r.k) | ((with_reducible apply bdg); first | with_reducible exact r.k) | ((with_reducible apply bd2g); first | with_reducible exact r.k)))
    rfl
set_option maxHeartbeats 200000 in
theorem xAt {h : Hp} {a : Nat} {n : Int} {L : Int → Int} (r : RV h a n L) (k : Int) : fX6_at h a k = some (L k) := by
  unfold fX6_at
  by_cases hk : k < 0 ∨ n ≤ k
  · rw [r.o hk]
    (have z_1 := xHas0 r hk; (repeat' (first | (with_reducible refine ltg ?_) | ((with_reducible refine iteT ?_ ?_); omega) | ((with_reducible refine iteF ?_ ?_); omega) | ((with_reducible refine gdg ?_ ?_); first | with_reducible exact r.k | with_reducible exact z_1 | omega) | ((with_reducible apply nng); first | with_reducible exact r.k | with_reducible exact z_1) | ((with_reducible apply bdg); first | with_reducible exact r.k | with_reducible exact z_1) | ((with_reducible apply bd2g); first | with_reducible exact r.k | with_reducible exact z_1))))
    rfl
  · obtain ⟨q, e1, e2, e3, e4, e5, e6⟩ := r.2.2.2.2.2
    have ew : WE (gI h 385 a + k) := we (by omega) (by omega)
    rw [ew.e]
    refine gdg r.k (bdg (xHas1 r (by omega) (by omega)) (iteF (by omega) (nng e1 (gdg e2 (gdg (by omega) ?_)))))
    rw [e6 k (by omega) (by omega)]
set_option maxHeartbeats 200000 in
theorem xCnt {h : Hp} {a : Nat} {n : Int} {L : Int → Int} (r : RV h a n L) : fX6_countLetters h a = some (sm n.toNat (fun k => if L (k : Int) = 0 then 0 else 1)) := by
  have hb := r.b
  unfold fX6_countLetters
  have := fg (S := Int) (fun fu v s => fX6_countLetters_b4 h a fu s v) some n.toNat (fun i => sm i (fun k => if L (k : Int) = 0 then 0 else 1)) (by omega) ?_ ?_ 0 (by omega)
  · exact this
  · intro fu i hi
    have e5 : WE ((i : Int) + 1) := we (by omega) (by omega)
    have bd := sm_bd (n := i) (f := fun k => if L (k : Int) = 0 then 0 else 1) (a := 0) (b := 1) (fun k _ => by
      show 0 ≤ (if L (k : Int) = 0 then (0 : Int) else 1) ∧ (if L (k : Int) = 0 then (0 : Int) else 1) ≤ 1
      split <;> omega)
    show fX6_countLetters_b4 h a (fu + 1) _ (i : Int) = fX6_countLetters_b4 h a fu (sm i (fun k => if L (k : Int) = 0 then 0 else 1) + (if L (i : Int) = 0 then 0 else 1)) _
    rw [fX6_countLetters_b4.eq_2, r.z]
    refine gdg r.k (iteT (by omega) (bdg (xAt r _) ?_))
    by_cases q : L (i : Int) = 0
    · rw [if_pos q, if_pos q, fX6_countLetters_b23, lt_d, e5.e, Int.add_zero]
    · rw [if_neg q, if_neg q, lt_d, fX6_countLetters_b23, lt_d, e5.e, w32_id (by omega) (by omega)]
  · intro fu
    show fX6_countLetters_b4 h a (fu + 1) _ (n.toNat : Int) = _
    rw [fX6_countLetters_b4.eq_2, r.z]
    exact gdg r.k (iteF (by omega) rfl)
/-- the set of the LETTERS of a row -/
def lsN : Nat → (Nat → Int) → Nat
  | 0, _ => 0
  | n + 1, f => lsN n f ||| 2 ^ (f n).toNat
set_option maxHeartbeats 200000 in
theorem lsN_lt {n : Nat} {f : Nat → Int} (h : ∀ k, k < n → f k ≤ 26) : lsN n f < 2 ^ 27 := by
  induction n with
  | zero => exact Nat.pow_pos (by omega)
  | succ n ih =>
    exact Nat.or_lt_two_pow (ih (fun k hk => h k (by omega))) (Nat.pow_lt_pow_right (by omega) (by have := h n (by omega); omega))
set_option maxHeartbeats 200000 in
theorem lsN_tb {n : Nat} {f : Nat → Int} (k : Nat) : (lsN n f).testBit k = true ↔ ∃ i, i < n ∧ (f i).toNat = k := by
  induction n with
  | zero => simp [lsN]
  | succ n ih =>
    show (lsN n f ||| 2 ^ (f n).toNat).testBit k = true ↔ _
    rw [Nat.testBit_or, Bool.or_eq_true, ih, Nat.testBit_two_pow]
    constructor
    · rintro (⟨i, h1, h2⟩ | h)
      · exact ⟨i, by omega, h2⟩
      · exact ⟨n, by omega, of_decide_eq_true h⟩
    · rintro ⟨i, h1, h2⟩
      rcases Nat.lt_succ_iff_lt_or_eq.mp h1 with q | q
      · exact Or.inl ⟨i, q, h2⟩
      · subst q; exact Or.inr (decide_eq_true h2)
set_option maxHeartbeats 200000 in
theorem bor_bit {s : Nat} {v : Int} (hs : s < 2147483648) (h0 : 0 ≤ v) (h8 : v ≤ 26) : bor (s : Int) (shl 1 v) = ((s ||| 2 ^ v.toNat : Nat) : Int) := by
  obtain ⟨m, rfl⟩ := i2n h0
  rw [shl_1 (by omega), bor_n hs (Nat.pow_lt_pow_right (by omega) (show m < 31 by omega))]
  simp
set_option maxHeartbeats 200000 in
theorem xSet {h : Hp} {a : Nat} {n : Int} {L : Int → Int} (r : RV h a n L) (hL : ∀ k : Int, 0 ≤ L k ∧ L k ≤ 26) : fX6_letterSet h a = some (lsN n.toNat (fun k => L (k : Int)) : Nat) := by
  have hb := r.b
  unfold fX6_letterSet
  have := fg (S := Int) (fun fu v s => fX6_letterSet_b4 h a fu s v) some n.toNat (fun i => (lsN i (fun k => L (k : Int)) : Nat)) (by omega) ?_ ?_ 0 (by omega)
  · exact this
  · intro fu i hi
    have e5 : WE ((i : Int) + 1) := we (by omega) (by omega)
    have bd := lsN_lt (n := i) (f := fun k => L (k : Int)) (fun k _ => (hL k).2)
    show fX6_letterSet_b4 h a (fu + 1) _ (i : Int) = fX6_letterSet_b4 h a fu ((lsN i (fun k => L (k : Int)) ||| 2 ^ (L (i : Int)).toNat : Nat) : Int) _
    rw [fX6_letterSet_b4.eq_2, r.z]
    refine gdg r.k (iteT (by omega) (bdg (xAt r _) ?_))
    rw [lt_d, lt_d, e5.e, bor_bit (by omega) (hL _).1 (hL _).2]
  · intro fu
    show fX6_letterSet_b4 h a (fu + 1) _ (n.toNat : Int) = _
    rw [fX6_letterSet_b4.eq_2, r.z]
    exact gdg r.k (iteF (by omega) rfl)
set_option maxHeartbeats 200000 in
theorem xStA {h : Hp} {a a' : Nat} {n n' : Int} {L L' : Int → Int} (r : RV h a n L) (r' : RV h a' n' L') {p : Int} (p0 : 0 ≤ p) (p8 : p ≤ 100000) : fX6_standsAt h a a' p = some (if stB n L L' p then 1 else 0) := by
  have hb := r.b
  unfold fX6_standsAt
  refine (flag (fun fu v s => fX6_standsAt_b5 h a a' p fu s v) some n.toNat (fun k => L (k : Int) == L' (p + (k : Int))) (by omega) ?_ ?_ ?_ : _)
  · intro fu i hi
    have e5 : WE ((i : Int) + 1) := we (by omega) (by omega)
    have e6 : WE (p + (i : Int)) := we (by omega) (by omega)
    show fX6_standsAt_b5 h a a' p (fu + 1) 1 (i : Int) = fX6_standsAt_b5 h a a' p fu _ _
    rw [fX6_standsAt_b5.eq_2, r.z, e6.e]
    refine iteF (by omega) (gdg r.k (iteT (by omega) (bdg (xAt r _) (gdg r'.k (bdg (xAt r' _) ?_)))))
    rw [lt_d, lt_d, e5.e, eqb_ite]
  · intro fu i hi
    show fX6_standsAt_b5 h a a' p (fu + 1) 0 (i : Int) = _
    rw [fX6_standsAt_b5.eq_2]
    exact iteT rfl (gdg (by omega) rfl)
  · intro fu
    show fX6_standsAt_b5 h a a' p (fu + 1) 1 (n.toNat : Int) = _
    rw [fX6_standsAt_b5.eq_2, r.z]
    exact iteF (by omega) (gdg r.k (iteF (by omega) (gdg (by omega) rfl)))
set_option maxHeartbeats 200000 in
theorem xTim {h : Hp} {a a' : Nat} {n n' : Int} {L L' : Int → Int} (r : RV h a n L) (r' : RV h a' n' L') : fX6_timesIn h a a' = some (timesS n L n' L') := by
  have hb := r.b
  have hb' := r'.b
  have e4 : WE (n' - n) := we (by omega) (by omega)
  unfold fX6_timesIn timesS
  by_cases hn : n ≤ 0
  · rw [if_pos hn]
    show fX6_timesIn_b4 h a a' (999999 + 1) _ _ = _
    rw [fX6_timesIn_b4.eq_2, r.z]
    exact gdg r.k (iteF (by omega) rfl)
  · rw [if_neg hn]
    have := fg (S := Int) (fun fu v t => fX6_timesIn_b4 h a a' fu t v) some (n' - n + 1).toNat (fun i => sm i (fun p => if stB n L L' (p : Int) then 1 else 0)) (by omega) ?_ ?_ 0 (by omega)
    · exact this
    · intro fu i hi
      have e5 : WE ((i : Int) + 1) := we (by omega) (by omega)
      have bd := sm_bd (n := i) (f := fun p => if stB n L L' (p : Int) then 1 else 0) (a := 0) (b := 1) (fun k _ => by
        show 0 ≤ (if stB n L L' (k : Int) then (1 : Int) else 0) ∧ (if stB n L L' (k : Int) then (1 : Int) else 0) ≤ 1
        split <;> omega)
      show fX6_timesIn_b4 h a a' (fu + 1) _ (i : Int) = fX6_timesIn_b4 h a a' fu (sm i (fun p => if stB n L L' (p : Int) then 1 else 0) + (if stB n L L' (i : Int) then 1 else 0)) ((i : Int) + 1)
      rw [fX6_timesIn_b4.eq_2, r.z, r'.z, e4.e]
      refine gdg r.k (iteT (by omega) (gdg r'.k (iteT (by omega) (bdg (xStA r r' (by omega) (by omega)) ?_))))
      by_cases q : stB n L L' (i : Int) = true
      · rw [if_pos q, if_neg (by omega), lt_d, fX6_timesIn_b36, lt_d, e5.e, w32_id (by omega) (by omega)]
      · rw [if_neg q, if_pos rfl, fX6_timesIn_b36, lt_d, e5.e, Int.add_zero]
    · intro fu
      show fX6_timesIn_b4 h a a' (fu + 1) _ ((n' - n + 1).toNat : Int) = _
      rw [fX6_timesIn_b4.eq_2, r.z, r'.z, e4.e]
      exact gdg r.k (iteT (by omega) (gdg r'.k (iteF (by omega) rfl)))
def siB (n : Int) (L : Int → Int) (n' : Int) (L' : Int → Int) : Bool := n == 0 || decide (0 < timesS n L n' L')
set_option maxHeartbeats 200000 in
theorem xStI {h : Hp} {a a' : Nat} {n n' : Int} {L L' : Int → Int} (r : RV h a n L) (r' : RV h a' n' L') : fX6_standsIn h a a' = some (if siB n L n' L' then 1 else 0) := by
  unfold fX6_standsIn siB
  rw [r.z]
  by_cases q : n = 0
  · refine gdg r.k (iteT q ?_)
    simp [q]
  · refine gdg r.k (iteF q (bdg (xTim r r') ?_))
    by_cases q2 : 0 < timesS n L n' L'
    · refine iteT q2 ?_
      simp [q2]
    · refine iteF q2 ?_
      simp [q, q2]
set_option maxHeartbeats 200000 in
theorem xTih {h : Hp} {a a' : Nat} {n n' : Int} {L L' : Int → Int} (r : RV h a n L) (r' : RV h a' n' L') {m : Nat} (hm : (m : Int) ≤ n) : fX6_tailIsHead h a a' (m : Int) = some (if laB n L L' m then 1 else 0) := by
  have hb := r.b
  have e4 : WE (n - (m : Int)) := we (by omega) (by omega)
  unfold fX6_tailIsHead
  refine (flag (fun fu v s => fX6_tailIsHead_b5 h a a' (m : Int) fu s v) some m (fun k => L (n - (m : Int) + (k : Int)) == L' (k : Int)) (by omega) ?_ ?_ ?_ : _)
  · intro fu i hi
    have e5 : WE ((i : Int) + 1) := we (by omega) (by omega)
    have e6 : WE (n - (m : Int) + (i : Int)) := we (by omega) (by omega)
    show fX6_tailIsHead_b5 h a a' (m : Int) (fu + 1) 1 (i : Int) = fX6_tailIsHead_b5 h a a' (m : Int) fu _ _
    rw [fX6_tailIsHead_b5.eq_2, r.z, e4.e, e6.e]
    refine iteF (by omega) (iteT (by omega) (gdg r.k (bdg (xAt r _) (gdg r'.k (bdg (xAt r' _) ?_)))))
    rw [lt_d, lt_d, e5.e, eqb_ite]
  · intro fu i hi
    show fX6_tailIsHead_b5 h a a' (m : Int) (fu + 1) 0 (i : Int) = _
    rw [fX6_tailIsHead_b5.eq_2]
    exact iteT rfl (gdg (by omega) rfl)
  · intro fu
    show fX6_tailIsHead_b5 h a a' (m : Int) (fu + 1) 1 (m : Int) = _
    rw [fX6_tailIsHead_b5.eq_2]
    exact iteF (by omega) (iteF (by omega) (gdg (by omega) rfl))
set_option maxHeartbeats 200000 in
theorem xLap {h : Hp} {a a' : Nat} {n n' : Int} {L L' : Int → Int} (r : RV h a n L) (r' : RV h a' n' L') : fX6_overlap h a a' = some (lapR n L n' L') := by
  have hb := r.b
  have hb' := r'.b
  have e4 : WE (min n n' - 1) := we (by omega) (by omega)
  unfold fX6_overlap
  rw [r.z, r'.z, e4.e]
  refine gdg r.k (gdg r'.k (ltg ?_))
  by_cases hm : min n n' - 1 ≤ 0
  · show fX6_overlap_b14 h a a' (999999 + 1) _ = _
    rw [fX6_overlap_b14.eq_2]
    refine iteF (by omega) ?_
    unfold lapR
    rw [show (min n n' - 1).toNat = 0 by omega]; rfl
  · have key : ∀ fu (m : Nat), m < fu → (m : Int) ≤ n → fX6_overlap_b14 h a a' fu (m : Int) = some (dn m (laB n L L') : Nat) := by
      intro fu
      induction fu with
      | zero => intro m h; exact absurd h (Nat.not_lt_zero _)
      | succ fu ih =>
        intro m hf ha
        rw [fX6_overlap_b14.eq_2]
        cases m with
        | zero => exact iteF (by omega) rfl
        | succ m =>
          refine iteT (by omega) (gdg r.k (bdg (xTih r r' ha) ?_))
          show _ = some ((if laB n L L' (m + 1) then m + 1 else dn m (laB n L L') : Nat) : Int)
          by_cases q : laB n L L' (m + 1) = true
          · rw [if_pos q, if_neg (by omega), if_pos q]
          · rw [if_neg q, if_pos rfl, if_neg q, lt_d, w32_id (by omega) (by omega), show ((m + 1 : Nat) : Int) + -1 = (m : Int) by omega]
            exact ih m (by omega) (by omega)
    have := key FU (min n n' - 1).toNat (show _ < 1000000 by omega) (by omega)
    rw [show ((min n n' - 1).toNat : Int) = min n n' - 1 by omega] at this
    exact this
/-- how many LETTERS from p of one row and from q of another are alike, one behind the other -/
def srB (n : Int) (L : Int → Int) (n' : Int) (L' : Int → Int) (p q : Int) (k : Nat) : Bool := decide (p + (k : Int) < n) && decide (q + (k : Int) < n') && (L (p + (k : Int)) == L' (q + (k : Int)))
def srS (n : Int) (L : Int → Int) (n' : Int) (L' : Int → Int) (p q : Int) : Int := (rn 1001 0 (srB n L n' L' p q) : Nat)
set_option maxHeartbeats 200000 in
theorem srS_bd (n : Int) (L : Int → Int) (n' : Int) (L' : Int → Int) (p q : Int) : 0 ≤ srS n L n' L' p q ∧ srS n L n' L' p q ≤ 1001 := by
  have := rn_spec (srB n L n' L' p q) 1001 0
  unfold srS
  omega
def stR (n : Int) (L : Int → Int) (n' : Int) (L' : Int → Int) (p : Int) : Int := mx n'.toNat (fun q => srS n L n' L' p (q : Int))
set_option maxHeartbeats 200000 in
theorem xStrI {h : Hp} {a a' : Nat} {n n' : Int} {L L' : Int → Int} (r : RV h a n L) (r' : RV h a' n' L') {p q : Int} (p0 : 0 ≤ p) (p8 : p ≤ 1000) (q0 : 0 ≤ q) (q8 : q ≤ 1000) (k : Int → Int → Option Int) (v3 : Int) :
    fX6_stretchIn_b17 h a a' p k FU v3 q 0 = k (max v3 (srS n L n' L' p q)) (q + 1) := by
  have hb := r.b
  have hb' := r'.b
  have e7 : WE (q + 1) := we (by omega) (by omega)
  refine (fke (S := Unit) (fun fu v _ => fX6_stretchIn_b17 h a a' p k fu v3 q v) (fun (z : Option Int) => z) 1001 (fun i _ => rn (1001 - i) i (srB n L n' L' p q) = rn 1001 0 (srB n L n' L' p q)) (k (max v3 (srS n L n' L' p q)) (q + 1)) 0 () (by omega) rfl (by omega) ?_ ?_ : _)
  · intro fu i _ hi hI
    have e5 : WE ((i : Int) + 1) := we (by omega) (by omega)
    have e6 : WE (p + (i : Int)) := we (by omega) (by omega)
    have e8 : WE (q + (i : Int)) := we (by omega) (by omega)
    rw [show 1001 - i = (1001 - (i + 1)) + 1 by omega] at hI
    have hI : (if srB n L n' L' p q i then rn (1001 - (i + 1)) (i + 1) (srB n L n' L' p q) else i) = rn 1001 0 (srB n L n' L' p q) := hI
    by_cases g : srB n L n' L' p q i = true
    · left
      rw [if_pos g] at hI
      refine ⟨(), hI, ?_⟩
      unfold srB at g
      simp only [Bool.and_eq_true, decide_eq_true_eq, beq_iff_eq] at g
      show fX6_stretchIn_b17 h a a' p k (fu + 1) v3 q (i : Int) = fX6_stretchIn_b17 h a a' p k fu v3 q ((i : Int) + 1)
      rw [fX6_stretchIn_b17.eq_2, r.z, r'.z, e6.e, e8.e, e5.e]
      exact gdg r.k (iteT (by omega) (gdg r'.k (iteT (by omega) (bdg (xAt r _) (bdg (xAt r' _) (iteT g.2 rfl))))))
    · right
      rw [if_neg g] at hI
      have es : srS n L n' L' p q = (i : Int) := by unfold srS; rw [← hI]
      have ej : fX6_stretchIn_b66 h a a' p k v3 q (i : Int) = k (max v3 (srS n L n' L' p q)) (q + 1) := by rw [fX6_stretchIn_b66, lt_d, lt_d, e7.e, es]
      show fX6_stretchIn_b17 h a a' p k (fu + 1) v3 q (i : Int) = _
      rw [fX6_stretchIn_b17.eq_2, r.z, r'.z, e6.e, e8.e]
      unfold srB at g
      simp only [Bool.and_eq_true, decide_eq_true_eq, beq_iff_eq] at g
      refine gdg r.k ?_
      by_cases g1 : p + (i : Int) < n
      · refine iteT g1 (gdg r'.k ?_)
        by_cases g2 : q + (i : Int) < n'
        · exact iteT g2 (bdg (xAt r _) (bdg (xAt r' _) (iteF (fun z => g ⟨⟨g1, g2⟩, z⟩) ej)))
        · exact iteF g2 ej
      · exact iteF g1 ej
  · intro fu _ hI
    have es : srS n L n' L' p q = (1001 : Int) := by unfold srS; rw [← hI]; rfl
    have e6 : WE (p + ((1001 : Nat) : Int)) := we (by omega) (by omega)
    show fX6_stretchIn_b17 h a a' p k (fu + 1) v3 q ((1001 : Nat) : Int) = _
    rw [fX6_stretchIn_b17.eq_2, r.z, e6.e]
    refine gdg r.k (iteF (by omega) ?_)
    rw [fX6_stretchIn_b66, lt_d, lt_d, e7.e, es]; rfl
set_option maxHeartbeats 200000 in
theorem xStr {h : Hp} {a a' : Nat} {n n' : Int} {L L' : Int → Int} (r : RV h a n L) (r' : RV h a' n' L') {p : Int} (p0 : 0 ≤ p) (p8 : p ≤ 1000) : fX6_stretchIn h a a' p = some (stR n L n' L' p) := by
  have hb := r.b
  have hb' := r'.b
  unfold fX6_stretchIn stR
  have := fg (S := Int) (fun fu v t => fX6_stretchIn_b5 h a a' p fu t v) some n'.toNat (fun i => mx i (fun q => srS n L n' L' p (q : Int))) (by omega) ?_ ?_ 0 (by omega)
  · exact this
  · intro fu i hi
    show fX6_stretchIn_b5 h a a' p (fu + 1) _ (i : Int) = fX6_stretchIn_b5 h a a' p fu (max (mx i (fun q => srS n L n' L' p (q : Int))) (srS n L n' L' p (i : Int))) ((i : Int) + 1)
    rw [fX6_stretchIn_b5.eq_2, r'.z]
    refine gdg r'.k (iteT (by omega) ?_)
    rw [xStrI r r' p0 p8 (by omega) (by omega)]
  · intro fu
    show fX6_stretchIn_b5 h a a' p (fu + 1) _ (n'.toNat : Int) = _
    rw [fX6_stretchIn_b5.eq_2, r'.z]
    exact gdg r'.k (iteF (by omega) rfl)
