/-! MORE OF THE SPEC, and the reference's functions of a block alone -/
def suB (k v : Int) : Bool := k == 27 || k == v
def ruB (c : Nat → Int) (a b : Int) (k : Nat) : Bool := suB (c (308 + 3 * (k : Int)).toNat) a && suB (c (308 + 3 * (k : Int) + 1).toNat) b
def giv (g a b : Int) : Int := if g = 27 then a else if g = 28 then b else g
def dflS (a b : Int) : Int := if a = b then a else if a = 0 then b else if b = 0 then a else 0
def mixR (c : Nat → Int) (a b : Int) : Nat → Nat → Int
  | 0, _ => dflS a b
  | n + 1, k => if ruB c a b k then giv (c (308 + 3 * (k : Int) + 2).toNat) a b else mixR c a b n (k + 1)
def mixS (c : Nat → Int) (a b : Int) : Int := mixR c a b (c 3).toNat 0
set_option maxHeartbeats 200000 in
theorem mixR_bd {c : Nat → Int} {a b : Int} (w : WF c) (ha : 0 ≤ a) (ha2 : a ≤ 26) (hb : 0 ≤ b) (hb2 : b ≤ 26) : ∀ n k : Nat, (k : Int) + n ≤ c 3 → 0 ≤ mixR c a b n k ∧ mixR c a b n k ≤ 26 := by
  intro n
  induction n with
  | zero =>
    intro k _
    show 0 ≤ dflS a b ∧ dflS a b ≤ 26
    unfold dflS
    (repeat' split) <;> omega
  | succ n ih =>
    intro k hk
    show 0 ≤ (if ruB c a b k then giv (c (308 + 3 * (k : Int) + 2).toNat) a b else mixR c a b n (k + 1)) ∧ (if ruB c a b k then giv (c (308 + 3 * (k : Int) + 2).toNat) a b else mixR c a b n (k + 1)) ≤ 26
    split
    · have := (w.ru (k := (k : Int)) (by omega) (by omega)).2.2
      unfold giv
      (repeat' split) <;> omega
    · exact ih (k + 1) (by omega)
set_option maxHeartbeats 200000 in
theorem mixS_bd {c : Nat → Int} {a b : Int} (w : WF c) (ha : 0 ≤ a) (ha2 : a ≤ 26) (hb : 0 ≤ b) (hb2 : b ≤ 26) : 0 ≤ mixS c a b ∧ mixS c a b ≤ 26 :=
  mixR_bd w ha ha2 hb hb2 _ 0 (by have := w.nr; omega)
set_option maxHeartbeats 200000 in
theorem rFit {k v : Int} : fX12_fitsKind k v = some (if suB k v then 1 else 0) := by
  unfold fX12_fitsKind suB
  by_cases h : k = 27
  · rw [if_pos h]; simp [h]
  · rw [if_neg h]
    by_cases h2 : k = v
    · rw [if_pos h2]; simp [h2]
    · rw [if_neg h2]; simp [h, h2]
set_option maxHeartbeats 200000 in
theorem rMix {c : Nat → Int} {a b : Int} (w : WF c) : fX12_mixOf c a b = some (mixS c a b) := by
  have h3 := w.nr
  unfold fX12_mixOf
  refine (fke (S := Unit) (fun fu v _ => fX12_mixOf_b2 c a b fu v) some (c 3).toNat (fun i _ => mixR c a b ((c 3).toNat - i) i = mixS c a b) (mixS c a b) 0 () (by omega) rfl (by omega) ?_ ?_ : _)
  · intro fu i s hi hI
    have e1 : w32 (3 * (i : Int)) = 3 * (i : Int) := w32_id (by omega) (by omega)
    have e2 : w32 (308 + 3 * (i : Int)) = 308 + 3 * (i : Int) := w32_id (by omega) (by omega)
    have e3 : w32 (308 + 3 * (i : Int) + 1) = 308 + 3 * (i : Int) + 1 := w32_id (by omega) (by omega)
    have e4 : w32 (308 + 3 * (i : Int) + 2) = 308 + 3 * (i : Int) + 2 := w32_id (by omega) (by omega)
    have e5 : w32 ((i : Int) + 1) = (i : Int) + 1 := w32_id (by omega) (by omega)
    have en : (c 3).toNat - i = ((c 3).toNat - (i + 1)) + 1 := by omega
    rw [en] at hI
    have hI : (if ruB c a b i then giv (c (308 + 3 * (i : Int) + 2).toNat) a b else mixR c a b ((c 3).toNat - (i + 1)) (i + 1)) = mixS c a b := hI
    by_cases h : ruB c a b i = true
    · right
      rw [if_pos h] at hI
      have hh : suB (c (308 + 3 * (i : Int)).toNat) a = true ∧ suB (c (308 + 3 * (i : Int) + 1).toNat) b = true := Bool.and_eq_true_iff.mp h
      rw [← hI]
      show fX12_mixOf_b2 c a b (fu + 1) (i : Int) = _
      rw [fX12_mixOf_b2.eq_2, e1, e2, lt_d, e3, e4]
      have f1 : fX12_fitsKind (c (308 + 3 * (i : Int)).toNat) a = some 1 := by rw [rFit, hh.1]; rfl
      have f2 : fX12_fitsKind (c (308 + 3 * (i : Int) + 1).toNat) b = some 1 := by rw [rFit, hh.2]; rfl
      refine gdg (by omega) (iteT (by show (i : Int) < c 3; omega) (gdg (by omega) (bdg f1 (iteF (by omega) (gdg (by omega) (bdg f2 (iteF (by omega) (gdg (by omega) ?_)))))))) 
      unfold giv
      by_cases g1 : c (308 + 3 * (i : Int) + 2).toNat = 27
      · rw [if_pos g1, if_pos g1]
      · rw [if_neg g1, if_neg g1]
        refine gdg (by omega) ?_
        by_cases g2 : c (308 + 3 * (i : Int) + 2).toNat = 28
        · rw [if_pos g2, if_pos g2]
        · rw [if_neg g2, if_neg g2]
          exact gdg (by omega) rfl
    · left
      refine ⟨(), by rw [if_neg h] at hI; exact hI, ?_⟩
      show fX12_mixOf_b2 c a b (fu + 1) (i : Int) = _
      rw [fX12_mixOf_b2.eq_2, e1, e2, lt_d, e3]
      refine gdg (by omega) (iteT (by show (i : Int) < c 3; omega) (gdg (by omega) ?_))
      by_cases h1 : suB (c (308 + 3 * (i : Int)).toNat) a = true
      · have f1 : fX12_fitsKind (c (308 + 3 * (i : Int)).toNat) a = some 1 := by rw [rFit, h1]; rfl
        have h2 : ¬ suB (c (308 + 3 * (i : Int) + 1).toNat) b = true := fun q => h (Bool.and_eq_true_iff.mpr ⟨h1, q⟩)
        have f2 : fX12_fitsKind (c (308 + 3 * (i : Int) + 1).toNat) b = some 0 := by rw [rFit, if_neg h2]
        refine bdg f1 (iteF (by omega) (gdg (by omega) (bdg f2 (iteT rfl ?_))))
        rw [fX12_mixOf_b100, e5]; rfl
      · have f1 : fX12_fitsKind (c (308 + 3 * (i : Int)).toNat) a = some 0 := by rw [rFit, if_neg h1]
        refine bdg f1 (iteT rfl ?_)
        rw [fX12_mixOf_b100, e5]; rfl
  · intro fu s hI
    have en : (c 3).toNat - (c 3).toNat = 0 := by omega
    rw [en] at hI
    rw [← hI]
    show fX12_mixOf_b2 c a b (fu + 1) ((c 3).toNat : Int) = some (dflS a b)
    rw [fX12_mixOf_b2.eq_2]
    refine gdg (by omega) (iteF (by show ¬ ((c 3).toNat : Int) < c 3; omega) ?_)
    unfold dflS
    (repeat' split) <;> rfl
def othS (c : Nat → Int) (a g : Int) : Nat := bs 27 (fun b => mixS c a (b : Int) == g)
set_option maxHeartbeats 200000 in
theorem rOth {c : Nat → Int} {a g : Int} (w : WF c) : fX12_othersOf c a g = some (othS c a g : Nat) := by
  unfold fX12_othersOf
  have := fg (S := Int) (fun fu v s => fX12_othersOf_b5 c a g fu s v) some 27 (fun i => ((bs i (fun b => mixS c a (b : Int) == g) : Nat) : Int)) (by omega) ?_ ?_ 0 (by omega)
  · exact this
  · intro fu i hi
    have e5 : w32 ((i : Int) + 1) = (i : Int) + 1 := w32_id (by omega) (by omega)
    have hl := bs_lt i (fun b => mixS c a (b : Int) == g)
    have hl2 : 2 ^ i ≤ 2 ^ 30 := Nat.pow_le_pow_right (by omega) (by omega)
    show fX12_othersOf_b5 c a g (fu + 1) ((bs i (fun b => mixS c a (b : Int) == g) : Nat) : Int) (i : Int) = _
    rw [fX12_othersOf_b5.eq_2]
    refine iteT (by omega) (bdg (rMix w) ?_)
    by_cases h : mixS c a (i : Int) = g
    · refine iteT h ?_
      rw [fX12_othersOf_b32, lt_d, lt_d, e5, bor_set (p := fun b => mixS c a (b : Int) == g) (by omega) (by simp [h])]
    · refine iteF h ?_
      rw [fX12_othersOf_b32, lt_d, lt_d, e5, bor_0 (by omega), bs_no (p := fun b => mixS c a (b : Int) == g) (by simp [h])]
  · intro fu
    show fX12_othersOf_b5 c a g (fu + 1) _ ((27 : Nat) : Int) = _
    rw [fX12_othersOf_b5.eq_2]
    exact iteF (by omega) rfl
/-! rows side by side -/
def stB (n : Int) (L L' : Int → Int) (p : Int) : Bool := ab n.toNat (fun k => L (k : Int) == L' (p + (k : Int)))
def timesS (n : Int) (L : Int → Int) (n' : Int) (L' : Int → Int) : Int := if n ≤ 0 then 0 else sm (n' - n + 1).toNat (fun p => if stB n L L' (p : Int) then 1 else 0)
set_option maxHeartbeats 200000 in
theorem timesS_bd (n : Int) (L : Int → Int) (n' : Int) (L' : Int → Int) : 0 ≤ timesS n L n' L' ∧ timesS n L n' L' ≤ ((n' - n + 1).toNat : Int) := by
  unfold timesS
  split
  · omega
  · have := sm_bd (n := (n' - n + 1).toNat) (f := fun p => if stB n L L' (p : Int) then 1 else 0) (a := 0) (b := 1) (fun k _ => by
      show 0 ≤ (if stB n L L' (k : Int) then (1 : Int) else 0) ∧ (if stB n L L' (k : Int) then (1 : Int) else 0) ≤ 1
      split <;> omega)
    omega
def plS (c : Nat → Int) (j s : Int) : Int := timesS (hN c j) (hL c j) (c (4 + s).toNat) (sL c s)
set_option maxHeartbeats 200000 in
theorem rStA {c : Nat → Int} {j s p : Int} (w : WF c) (h0 : 0 ≤ j) (h8 : j < 8) (s0 : 0 ≤ s) (s8 : s < 8) (p0 : 0 ≤ p) (p8 : p + hN c j ≤ c (4 + s).toNat) :
    fX12_standsAt c j (hN c j) s p = some (if stB (hN c j) (hL c j) (sL c s) p then 1 else 0) := by
  have b1 := hN_bd w h0 h8
  have b2 := w.sl s0 s8
  unfold fX12_standsAt
  refine (fke (S := Unit) (fun fu v _ => fX12_standsAt_b3 c j (hN c j) s p fu v) some (hN c j).toNat (fun i _ => ∀ k, k < i → (hL c j (k : Int) == sL c s (p + (k : Int))) = true) (if stB (hN c j) (hL c j) (sL c s) p then 1 else 0) 0 () (by omega) (fun k hk => absurd hk (by omega)) (by omega) ?_ ?_ : _)
  · intro fu i _ hi hI
    have e5 : w32 ((i : Int) + 1) = (i : Int) + 1 := w32_id (by omega) (by omega)
    have e6 : w32 (p + (i : Int)) = p + (i : Int) := w32_id (by omega) (by omega)
    show _ ∨ fX12_standsAt_b3 c j (hN c j) s p (fu + 1) (i : Int) = _
    have goal : fX12_standsAt_b3 c j (hN c j) s p (fu + 1) (i : Int) = if hL c j (i : Int) = sL c s (p + (i : Int)) then fX12_standsAt_b3 c j (hN c j) s p fu ((i : Int) + 1) else some 0 := by
      rw [fX12_standsAt_b3.eq_2, e5, e6]
      exact iteT (by omega) (bdg (rLet w h0 h8 (by omega) (by omega)) (bdg (rSnd s0 s8 (by omega) (by omega) (by omega)) rfl))
    by_cases h : hL c j (i : Int) = sL c s (p + (i : Int))
    · left
      refine ⟨(), fun k hk => ?_, ?_⟩
      · rcases Nat.lt_succ_iff_lt_or_eq.mp hk with q | q
        · exact hI k q
        · subst q; simp [h]
      · show fX12_standsAt_b3 c j (hN c j) s p (fu + 1) (i : Int) = _
        rw [goal, if_pos h]
    · right
      have : stB (hN c j) (hL c j) (sL c s) p = false := ab_no (k := i) hi (by simp [h])
      rw [goal, if_neg h, this]; rfl
  · intro fu _ hI
    have : stB (hN c j) (hL c j) (sL c s) p = true := ab_iff.mpr hI
    rw [this]
    show fX12_standsAt_b3 c j (hN c j) s p (fu + 1) ((hN c j).toNat : Int) = _
    rw [fX12_standsAt_b3.eq_2]
    exact iteF (by omega) rfl
set_option maxHeartbeats 200000 in
theorem rPl {c : Nat → Int} {j s : Int} (w : WF c) (h0 : 0 ≤ j) (h8 : j < 8) (s0 : 0 ≤ s) (s8 : s < 8) : fX12_placesIn c j s = some (plS c j s) := by
  have b1 := hN_bd w h0 h8
  have b2 := w.sl s0 s8
  have e4 : w32 (4 + s) = 4 + s := w32_id (by omega) (by omega)
  unfold fX12_placesIn
  refine bdg (rNow w h0 h8) ?_
  unfold plS timesS
  by_cases hn : hN c j ≤ 0
  · rw [if_pos hn]
    show fX12_placesIn_b12 c j s (999999 + 1) _ _ _ = _
    rw [fX12_placesIn_b12.eq_2]
    exact iteF (by omega) rfl
  · rw [if_neg hn]
    have := fg (S := Int) (fun fu v t => fX12_placesIn_b12 c j s fu (hN c j) t v) some (c (4 + s).toNat - hN c j + 1).toNat (fun i => sm i (fun p => if stB (hN c j) (hL c j) (sL c s) (p : Int) then 1 else 0)) (by omega) ?_ ?_ 0 (by omega)
    · exact this
    · intro fu i hi
      have e5 : w32 ((i : Int) + 1) = (i : Int) + 1 := w32_id (by omega) (by omega)
      have e6 : w32 ((i : Int) + hN c j) = (i : Int) + hN c j := w32_id (by omega) (by omega)
      have bd := sm_bd (n := i) (f := fun p => if stB (hN c j) (hL c j) (sL c s) (p : Int) then 1 else 0) (a := 0) (b := 1) (fun k _ => by
        show 0 ≤ (if stB (hN c j) (hL c j) (sL c s) (k : Int) then (1 : Int) else 0) ∧ (if stB (hN c j) (hL c j) (sL c s) (k : Int) then (1 : Int) else 0) ≤ 1
        split <;> omega)
      show fX12_placesIn_b12 c j s (fu + 1) (hN c j) _ (i : Int) = fX12_placesIn_b12 c j s fu (hN c j) _ ((i : Int) + 1)
      rw [fX12_placesIn_b12.eq_2, e4, e5, e6]
      refine iteT (by omega) (gdg (by omega) (iteT (by omega) (bdg (rStA w h0 h8 s0 s8 (by omega) (by omega)) ?_)))
      rw [lt_d, lt_d]
      show fX12_placesIn_b12 c j s fu (hN c j) _ _ = fX12_placesIn_b12 c j s fu (hN c j) (sm i (fun p => if stB (hN c j) (hL c j) (sL c s) (p : Int) then 1 else 0) + (if stB (hN c j) (hL c j) (sL c s) (i : Int) then 1 else 0)) _
      by_cases h : stB (hN c j) (hL c j) (sL c s) (i : Int) = true
      · rw [if_pos h, if_neg (by omega), w32_id (by omega) (by omega)]
      · rw [if_neg h, if_pos rfl, w32_id (by omega) (by omega)]
    · intro fu
      have e6 : w32 (((c (4 + s).toNat - hN c j + 1).toNat : Int) + hN c j) = ((c (4 + s).toNat - hN c j + 1).toNat : Int) + hN c j := w32_id (by omega) (by omega)
      show fX12_placesIn_b12 c j s (fu + 1) (hN c j) _ ((c (4 + s).toNat - hN c j + 1).toNat : Int) = _
      rw [fX12_placesIn_b12.eq_2, e4, e6]
      by_cases h : c (4 + s).toNat - hN c j + 1 ≤ 0
      · exact iteT (by omega) (gdg (by omega) (iteF (by omega) rfl))
      · exact iteT (by omega) (gdg (by omega) (iteF (by omega) rfl))
/-! LAPS -/
def laB (n : Int) (L L' : Int → Int) (m : Nat) : Bool := ab m (fun k => L (n - (m : Int) + (k : Int)) == L' (k : Int))
def lapR (n : Int) (L : Int → Int) (n' : Int) (L' : Int → Int) : Int := (dn (min n n' - 1).toNat (laB n L L') : Nat)
def lapS (c : Nat → Int) (a b : Int) : Int := lapR (hN c a) (hL c a) (hN c b) (hL c b)
set_option maxHeartbeats 200000 in
theorem lapR_bd (n : Int) (L : Int → Int) (n' : Int) (L' : Int → Int) : 0 ≤ lapR n L n' L' ∧ lapR n L n' L' ≤ ((min n n' - 1).toNat : Int) := by
  have := dn_le (min n n' - 1).toNat (laB n L L')
  unfold lapR
  omega
set_option maxHeartbeats 200000 in
theorem rLapI {c : Nat → Int} {a b : Int} (w : WF c) (a0 : 0 ≤ a) (a8 : a < 8) (b0 : 0 ≤ b) (b8 : b < 8) (m : Nat) (hm : 0 < m) (hma : (m : Int) < hN c a) (hmb : (m : Int) < hN c b) (k : Int → Option Int) :
    fX12_lapsOf_b26 c a b k FU (m : Int) 1 0 = if laB (hN c a) (hL c a) (hL c b) m then some (m : Int) else k ((m : Int) - 1) := by
  have b1 := hN_bd w a0 a8
  have b2 := hN_bd w b0 b8
  have e7 : (m : Int) + -1 = (m : Int) - 1 := by omega
  have key := flag (fun fu v s => fX12_lapsOf_b26 c a b k fu (m : Int) s v) (fun s => if s = 0 then k ((m : Int) - 1) else some (m : Int)) m (fun k => hL c a (hN c a - (m : Int) + (k : Int)) == hL c b (k : Int)) (by omega)
    (fun fu i hi => by
      show fX12_lapsOf_b26 c a b k (fu + 1) (m : Int) 1 (i : Int) = fX12_lapsOf_b26 c a b k fu (m : Int) _ ((i : Int) + 1)
      rw [fX12_lapsOf_b26.eq_2, w32_id (x := (i : Int) + 1) (by omega) (by omega)]
      refine iteT (by omega) (iteF (by omega) (bdg (rNow w a0 a8) ?_))
      rw [w32_id (x := hN c a - (m : Int)) (by omega) (by omega), w32_id (x := hN c a - (m : Int) + (i : Int)) (by omega) (by omega)]
      refine bdg (rLet w a0 a8 (by omega) (by omega)) (bdg (rLet w b0 b8 (by omega) (by omega)) ?_)
      rw [lt_d, lt_d, eqb_ite])
    (fun fu i hi => by
      show fX12_lapsOf_b26 c a b k (fu + 1) (m : Int) 0 (i : Int) = k ((m : Int) - 1)
      rw [fX12_lapsOf_b26.eq_2]
      by_cases q : (i : Int) < (m : Int)
      · refine iteT q (iteT rfl ?_)
        rw [fX12_lapsOf_b75, w32_id (x := (m : Int) + -1) (by omega) (by omega), e7]
        exact iteT rfl rfl
      · refine iteF q ?_
        rw [fX12_lapsOf_b75, w32_id (x := (m : Int) + -1) (by omega) (by omega), e7]
        exact iteT rfl rfl)
    (fun fu => by
      show fX12_lapsOf_b26 c a b k (fu + 1) (m : Int) 1 (m : Int) = some (m : Int)
      rw [fX12_lapsOf_b26.eq_2]
      refine iteF (by omega) ?_
      rw [fX12_lapsOf_b75]
      exact iteF (by omega) rfl)
  have key : fX12_lapsOf_b26 c a b k FU (m : Int) 1 0 = (if (if ab m (fun k => hL c a (hN c a - (m : Int) + (k : Int)) == hL c b (k : Int)) then (1 : Int) else 0) = 0 then k ((m : Int) - 1) else some (m : Int)) := key
  rw [key]
  show _ = if ab m (fun k => hL c a (hN c a - (m : Int) + (k : Int)) == hL c b (k : Int)) = true then _ else _
  by_cases h : ab m (fun k => hL c a (hN c a - (m : Int) + (k : Int)) == hL c b (k : Int)) = true
  · rw [if_pos h, if_pos h, if_neg (by omega)]
  · rw [if_neg h, if_neg h, if_pos rfl]
set_option maxHeartbeats 200000 in
theorem rLap {c : Nat → Int} {a b : Int} (w : WF c) (a0 : 0 ≤ a) (a8 : a < 8) (b0 : 0 ≤ b) (b8 : b < 8) : fX12_lapsOf c a b = some (lapS c a b) := by
  have b1 := hN_bd w a0 a8
  have b2 := hN_bd w b0 b8
  have e1 : w32 (min (hN c a) (hN c b) - 1) = min (hN c a) (hN c b) - 1 := w32_id (by omega) (by omega)
  unfold fX12_lapsOf
  refine bdg (rNow w a0 a8) (bdg (rNow w b0 b8) (ltg ?_))
  rw [e1]
  by_cases hm : min (hN c a) (hN c b) - 1 ≤ 0
  · show fX12_lapsOf_b16 c a b (999999 + 1) _ = _
    rw [fX12_lapsOf_b16.eq_2]
    refine iteF (by omega) ?_
    unfold lapS lapR
    rw [show (min (hN c a) (hN c b) - 1).toNat = 0 by omega]; rfl
  · have key : ∀ fu (m : Nat), m < fu → (m : Int) < hN c a → (m : Int) < hN c b → fX12_lapsOf_b16 c a b fu (m : Int) = some (dn m (laB (hN c a) (hL c a) (hL c b)) : Nat) := by
      intro fu
      induction fu with
      | zero => intro m h; exact absurd h (Nat.not_lt_zero _)
      | succ fu ih =>
        intro m hf ha hb
        rw [fX12_lapsOf_b16.eq_2]
        cases m with
        | zero => exact iteF (by omega) rfl
        | succ m =>
          refine iteT (by omega) ?_
          rw [rLapI w a0 a8 b0 b8 (m + 1) (by omega) ha hb]
          show _ = some ((if laB (hN c a) (hL c a) (hL c b) (m + 1) then m + 1 else dn m (laB (hN c a) (hL c a) (hL c b)) : Nat) : Int)
          by_cases h : laB (hN c a) (hL c a) (hL c b) (m + 1) = true
          · rw [if_pos h, if_pos h]
          · rw [if_neg h, if_neg h, show ((m + 1 : Nat) : Int) - 1 = (m : Int) by omega]
            exact ih m (by omega) (by omega) (by omega)
    have := key FU (min (hN c a) (hN c b) - 1).toNat (show _ < 1000000 by omega) (by omega) (by omega)
    rw [show ((min (hN c a) (hN c b) - 1).toNat : Int) = min (hN c a) (hN c b) - 1 by omega] at this
    exact this
