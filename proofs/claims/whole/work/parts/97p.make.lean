/-! MAKING: heaps by lists of steps, the newest first; X + i is the object with number i -/
abbrev MkO : Type := Nat × Nat × Nat × Nat × Int
abbrev MkL : Type := List MkO
abbrev mkN (k n : Nat) : MkO := (0, k, n, 0, 0)
abbrev mkR (f i j : Nat) : MkO := (1, f, i, j, 0)
abbrev mkI (f i : Nat) (v : Int) : MkO := (2, f, i, 0, v)
abbrev mkC (i k j : Nat) : MkO := (3, i, k, j, 0)
abbrev mkJ (f i : Nat) (v : Int) : MkO := (4, f, i, 0, v)
abbrev mkA (i k : Nat) (v : Int) : MkO := (5, i, k, 0, v)
def mkS (X : Nat) (h : Hp) : MkO → Hp
  | (0, a, b, _, _) => nw h a b
  | (1, a, b, c, _) => pR h a (X + b) (X + c)
  | (2, a, b, _, v) => pI h a (X + b) v
  | (3, a, b, c, _) => sC h (X + a) (b : Int) (X + c)
  | (4, a, b, _, v) => pJ h a (X + b) v
  | (_ + 5, a, b, _, v) => sA h (X + a) (b : Int) v
def mkH' (X : Nat) (h : Hp) : MkL → Hp
  | [] => h
  | o :: l => mkS X (mkH' X h l) o
def mkZ : MkL → Nat
  | [] => 0
  | (0, _, _, _, _) :: l => mkZ l + 1
  | (_ + 1, _, _, _, _) :: l => mkZ l
def mkK : MkL → Nat → Nat × Nat
  | [], _ => (99, 0)
  | (0, a, b, _, _) :: l, i => if i = mkZ l then (a, b) else mkK l i
  | (_ + 1, _, _, _, _) :: l, i => mkK l i
def mkRf : MkL → Nat → Nat → Option Nat
  | [], _, _ => none
  | (0, _, _, _, _) :: l, f, i => if i = mkZ l then none else mkRf l f i
  | (1, a, b, c, _) :: l, f, i => if f = a ∧ i = b then some c else mkRf l f i
  | (_ + 2, _, _, _, _) :: l, f, i => mkRf l f i
def mkIf : MkL → Nat → Nat → Int
  | [], _, _ => 0
  | (0, _, _, _, _) :: l, f, i => if i = mkZ l then 0 else mkIf l f i
  | (1, _, _, _, _) :: l, f, i => mkIf l f i
  | (2, a, b, _, v) :: l, f, i => if f = a ∧ i = b then w32 v else mkIf l f i
  | (_ + 3, _, _, _, _) :: l, f, i => mkIf l f i
def mkJf : MkL → Nat → Nat → Int
  | [], _, _ => 0
  | (0, _, _, _, _) :: l, f, i => if i = mkZ l then 0 else mkJf l f i
  | (1, _, _, _, _) :: l, f, i => mkJf l f i
  | (2, _, _, _, _) :: l, f, i => mkJf l f i
  | (3, _, _, _, _) :: l, f, i => mkJf l f i
  | (4, a, b, _, v) :: l, f, i => if f = a ∧ i = b then w64 v else mkJf l f i
  | (_ + 5, _, _, _, _) :: l, f, i => mkJf l f i
def mkCf : MkL → Nat → Nat → Option Nat
  | [], _, _ => none
  | (0, _, _, _, _) :: l, i, k => if i = mkZ l then none else mkCf l i k
  | (1, _, _, _, _) :: l, i, k => mkCf l i k
  | (2, _, _, _, _) :: l, i, k => mkCf l i k
  | (3, a, b, c, _) :: l, i, k => if i = a ∧ k = b then some c else mkCf l i k
  | (_ + 4, _, _, _, _) :: l, i, k => mkCf l i k
def mkAf : MkL → Nat → Nat → Int
  | [], _, _ => 0
  | (0, _, _, _, _) :: l, i, k => if i = mkZ l then 0 else mkAf l i k
  | (1, _, _, _, _) :: l, i, k => mkAf l i k
  | (2, _, _, _, _) :: l, i, k => mkAf l i k
  | (3, _, _, _, _) :: l, i, k => mkAf l i k
  | (4, _, _, _, _) :: l, i, k => mkAf l i k
  | (_ + 5, a, b, _, v) :: l, i, k => if i = a ∧ k = b then w32 v else mkAf l i k
/-! a new object -/
set_option maxHeartbeats 200000 in
theorem hZ_nw (h : Hp) (k n : Nat) : hZ (nw h k n) = hZ h + 1 := rfl
set_option maxHeartbeats 200000 in
theorem hK_nw (h : Hp) (k n a : Nat) : hK (nw h k n) a = if a = hZ h then (k, n) else hK h a := rfl
set_option maxHeartbeats 200000 in
theorem gI_nw (h : Hp) (k n f a : Nat) : gI (nw h k n) f a = if a = hZ h then 0 else gI h f a := by
  show (va_up (hI h f) (hZ h) 0 a).toInt = _
  unfold va_up
  split
  · rfl
  · rfl
set_option maxHeartbeats 200000 in
theorem gJ_nw (h : Hp) (k n f a : Nat) : gJ (nw h k n) f a = if a = hZ h then 0 else gJ h f a := by
  show (va_up (hJ h f) (hZ h) 0 a).toInt = _
  unfold va_up
  split
  · rfl
  · rfl
set_option maxHeartbeats 200000 in
theorem gR_nw (h : Hp) (k n f a : Nat) : gR (nw h k n) f a = if a = hZ h then none else gR h f a := by
  show va_up (hR h f) (hZ h) none a = _
  unfold va_up
  rfl
set_option maxHeartbeats 200000 in
theorem gA_nw (h : Hp) (k n a i : Nat) : gA (nw h k n) a i = if a = hZ h then 0 else gA h a i := by
  show (va_up (hA h) (hZ h) (fun _ => 0) a i).toInt = _
  unfold va_up
  split
  · rfl
  · rfl
set_option maxHeartbeats 200000 in
theorem gB_nw (h : Hp) (k n a i : Nat) : gB (nw h k n) a i = if a = hZ h then 0 else gB h a i := by
  show (va_up (hB h) (hZ h) (fun _ => 0) a i).toInt = _
  unfold va_up
  split
  · rfl
  · rfl
set_option maxHeartbeats 200000 in
theorem gC_nw (h : Hp) (k n a i : Nat) : gC (nw h k n) a i = if a = hZ h then none else gC h a i := by
  show va_up (hC h) (hZ h) (fun _ => none) a i = _
  unfold va_up
  split
  · rfl
  · rfl
/-! what a list has made -/
set_option maxHeartbeats 200000 in
theorem mk_z {X : Nat} {h : Hp} (hz : hZ h = X) (l : MkL) : hZ (mkH' X h l) = X + mkZ l := by
  induction l with
  | nil => exact hz
  | cons o l ih =>
    obtain ⟨tg, a, b, c, v⟩ := o
    rcases tg with _ | _ | _ | _ | _ | tg
    · show hZ (mkH' X h l) + 1 = X + (mkZ l + 1)
      omega
    all_goals exact ih
set_option maxHeartbeats 200000 in
theorem mk_k {X : Nat} {h : Hp} (hz : hZ h = X) (l : MkL) {i : Nat} (hi : i < mkZ l) : hK (mkH' X h l) (X + i) = mkK l i := by
  induction l with
  | nil => exact absurd hi (Nat.not_lt_zero _)
  | cons o l ih =>
    have z := mk_z hz l
    obtain ⟨tg, a, b, c, v⟩ := o
    rcases tg with _ | _ | _ | _ | _ | tg
    · have hi' : i < mkZ l + 1 := hi
      show hK (nw (mkH' X h l) a b) (X + i) = if i = mkZ l then (a, b) else mkK l i
      rw [hK_nw, z]
      by_cases y : i = mkZ l
      · rw [if_pos (by omega), if_pos y]
      · rw [if_neg (by omega), if_neg y]
        exact ih (by omega)
    · exact ih hi
    · exact ih hi
    · exact ih hi
    · exact ih hi
    · exact ih hi
set_option maxHeartbeats 200000 in
theorem mk_r {X : Nat} {h : Hp} (hz : hZ h = X) (l : MkL) {f i : Nat} (hi : i < mkZ l) : gR (mkH' X h l) f (X + i) = Option.map (fun j => X + j) (mkRf l f i) := by
  induction l with
  | nil => exact absurd hi (Nat.not_lt_zero _)
  | cons o l ih =>
    have z := mk_z hz l
    obtain ⟨tg, a, b, c, v⟩ := o
    rcases tg with _ | _ | _ | _ | _ | tg
    · have hi' : i < mkZ l + 1 := hi
      show gR (nw (mkH' X h l) a b) f (X + i) = Option.map (fun j => X + j) (if i = mkZ l then none else mkRf l f i)
      rw [gR_nw, z]
      by_cases y : i = mkZ l
      · rw [if_pos (by omega), if_pos y]; rfl
      · rw [if_neg (by omega), if_neg y]
        exact ih (by omega)
    · show gR (pR (mkH' X h l) a (X + b) (X + c)) f (X + i) = Option.map (fun j => X + j) (if f = a ∧ i = b then some c else mkRf l f i)
      rw [gR_pR]
      by_cases y : f = a ∧ i = b
      · rw [if_pos ⟨y.1, by have := y.2; omega⟩, if_pos y]; rfl
      · rw [if_neg (fun w => y ⟨w.1, by have := w.2; omega⟩), if_neg y]
        exact ih hi
    · exact ih hi
    · exact ih hi
    · exact ih hi
    · exact ih hi
set_option maxHeartbeats 200000 in
theorem mk_i {X : Nat} {h : Hp} (hz : hZ h = X) (l : MkL) {f i : Nat} (hi : i < mkZ l) : gI (mkH' X h l) f (X + i) = mkIf l f i := by
  induction l with
  | nil => exact absurd hi (Nat.not_lt_zero _)
  | cons o l ih =>
    have z := mk_z hz l
    obtain ⟨tg, a, b, c, v⟩ := o
    rcases tg with _ | _ | _ | _ | _ | tg
    · have hi' : i < mkZ l + 1 := hi
      show gI (nw (mkH' X h l) a b) f (X + i) = if i = mkZ l then 0 else mkIf l f i
      rw [gI_nw, z]
      by_cases y : i = mkZ l
      · rw [if_pos (by omega), if_pos y]
      · rw [if_neg (by omega), if_neg y]
        exact ih (by omega)
    · exact ih hi
    · show gI (pI (mkH' X h l) a (X + b) v) f (X + i) = (if f = a ∧ i = b then w32 v else mkIf l f i)
      rw [gI_pI]
      by_cases y : f = a ∧ i = b
      · rw [if_pos ⟨y.1, by have := y.2; omega⟩, if_pos y]
      · rw [if_neg (fun w => y ⟨w.1, by have := w.2; omega⟩), if_neg y]
        exact ih hi
    · exact ih hi
    · exact ih hi
    · exact ih hi
set_option maxHeartbeats 200000 in
theorem mk_j {X : Nat} {h : Hp} (hz : hZ h = X) (l : MkL) {f i : Nat} (hi : i < mkZ l) : gJ (mkH' X h l) f (X + i) = mkJf l f i := by
  induction l with
  | nil => exact absurd hi (Nat.not_lt_zero _)
  | cons o l ih =>
    have z := mk_z hz l
    obtain ⟨tg, a, b, c, v⟩ := o
    rcases tg with _ | _ | _ | _ | _ | tg
    · have hi' : i < mkZ l + 1 := hi
      show gJ (nw (mkH' X h l) a b) f (X + i) = if i = mkZ l then 0 else mkJf l f i
      rw [gJ_nw, z]
      by_cases y : i = mkZ l
      · rw [if_pos (by omega), if_pos y]
      · rw [if_neg (by omega), if_neg y]
        exact ih (by omega)
    · exact ih hi
    · exact ih hi
    · exact ih hi
    · show gJ (pJ (mkH' X h l) a (X + b) v) f (X + i) = (if f = a ∧ i = b then w64 v else mkJf l f i)
      rw [gJ_pJ]
      by_cases y : f = a ∧ i = b
      · rw [if_pos ⟨y.1, by have := y.2; omega⟩, if_pos y]
      · rw [if_neg (fun w => y ⟨w.1, by have := w.2; omega⟩), if_neg y]
        exact ih hi
    · exact ih hi
set_option maxHeartbeats 200000 in
theorem mk_c {X : Nat} {h : Hp} (hz : hZ h = X) (l : MkL) {i k : Nat} (hi : i < mkZ l) : gC (mkH' X h l) (X + i) k = Option.map (fun j => X + j) (mkCf l i k) := by
  induction l with
  | nil => exact absurd hi (Nat.not_lt_zero _)
  | cons o l ih =>
    have z := mk_z hz l
    obtain ⟨tg, a, b, c, v⟩ := o
    rcases tg with _ | _ | _ | _ | _ | tg
    · have hi' : i < mkZ l + 1 := hi
      show gC (nw (mkH' X h l) a b) (X + i) k = Option.map (fun j => X + j) (if i = mkZ l then none else mkCf l i k)
      rw [gC_nw, z]
      by_cases y : i = mkZ l
      · rw [if_pos (by omega), if_pos y]; rfl
      · rw [if_neg (by omega), if_neg y]
        exact ih (by omega)
    · exact ih hi
    · exact ih hi
    · show gC (sC (mkH' X h l) (X + a) (b : Int) (X + c)) (X + i) k = Option.map (fun j => X + j) (if i = a ∧ k = b then some c else mkCf l i k)
      rw [gC_sC, Int.toNat_natCast]
      by_cases y : i = a ∧ k = b
      · rw [if_pos ⟨by have := y.1; omega, y.2⟩, if_pos y]; rfl
      · rw [if_neg (fun w => y ⟨by have := w.1; omega, w.2⟩), if_neg y]
        exact ih hi
    · exact ih hi
    · exact ih hi
set_option maxHeartbeats 200000 in
theorem mk_a {X : Nat} {h : Hp} (hz : hZ h = X) (l : MkL) {i k : Nat} (hi : i < mkZ l) : gA (mkH' X h l) (X + i) k = mkAf l i k := by
  induction l with
  | nil => exact absurd hi (Nat.not_lt_zero _)
  | cons o l ih =>
    have z := mk_z hz l
    obtain ⟨tg, a, b, c, v⟩ := o
    rcases tg with _ | _ | _ | _ | _ | tg
    · have hi' : i < mkZ l + 1 := hi
      show gA (nw (mkH' X h l) a b) (X + i) k = if i = mkZ l then 0 else mkAf l i k
      rw [gA_nw, z]
      by_cases y : i = mkZ l
      · rw [if_pos (by omega), if_pos y]
      · rw [if_neg (by omega), if_neg y]
        exact ih (by omega)
    · exact ih hi
    · exact ih hi
    · exact ih hi
    · exact ih hi
    · show gA (sA (mkH' X h l) (X + a) (b : Int) v) (X + i) k = (if i = a ∧ k = b then w32 v else mkAf l i k)
      rw [gA_sA, Int.toNat_natCast]
      by_cases y : i = a ∧ k = b
      · rw [if_pos ⟨by have := y.1; omega, y.2⟩, if_pos y]
      · rw [if_neg (fun w => y ⟨by have := w.1; omega, w.2⟩), if_neg y]
        exact ih hi
set_option maxHeartbeats 200000 in
/-- what stood before stays -/
theorem mk_s {X : Nat} {h : Hp} (hz : hZ h = X) (l : MkL) {a : Nat} (ha : a < X) : Sm h (mkH' X h l) a := by
  induction l with
  | nil => exact ⟨rfl, fun _ => ⟨rfl, rfl, rfl⟩, fun _ => ⟨rfl, rfl, rfl⟩⟩
  | cons o l ih =>
    have z := mk_z hz l
    obtain ⟨s1, s2, s3⟩ := ih
    obtain ⟨tg, a', b, c, v⟩ := o
    rcases tg with _ | _ | _ | _ | _ | tg
    · refine ⟨?_, fun f => ⟨?_, ?_, ?_⟩, fun i => ⟨?_, ?_, ?_⟩⟩
      · show hK (nw (mkH' X h l) a' b) a = _
        rw [hK_nw, if_neg (by omega)]; exact s1
      · show gI (nw (mkH' X h l) a' b) f a = _
        rw [gI_nw, if_neg (by omega)]; exact (s2 f).1
      · show gJ (nw (mkH' X h l) a' b) f a = _
        rw [gJ_nw, if_neg (by omega)]; exact (s2 f).2.1
      · show gR (nw (mkH' X h l) a' b) f a = _
        rw [gR_nw, if_neg (by omega)]; exact (s2 f).2.2
      · show gA (nw (mkH' X h l) a' b) a i = _
        rw [gA_nw, if_neg (by omega)]; exact (s3 i).1
      · show gB (nw (mkH' X h l) a' b) a i = _
        rw [gB_nw, if_neg (by omega)]; exact (s3 i).2.1
      · show gC (nw (mkH' X h l) a' b) a i = _
        rw [gC_nw, if_neg (by omega)]; exact (s3 i).2.2
    · refine ⟨s1, fun f => ⟨(s2 f).1, (s2 f).2.1, ?_⟩, s3⟩
      show gR (pR (mkH' X h l) a' (X + b) (X + c)) f a = _
      rw [gR_pR, if_neg (by omega)]; exact (s2 f).2.2
    · refine ⟨s1, fun f => ⟨?_, (s2 f).2.1, (s2 f).2.2⟩, s3⟩
      show gI (pI (mkH' X h l) a' (X + b) v) f a = _
      rw [gI_pI, if_neg (by omega)]; exact (s2 f).1
    · refine ⟨s1, s2, fun i => ⟨(s3 i).1, (s3 i).2.1, ?_⟩⟩
      show gC (sC (mkH' X h l) (X + a') (b : Int) (X + c)) a i = _
      rw [gC_sC, if_neg (by omega)]; exact (s3 i).2.2
    · refine ⟨s1, fun f => ⟨(s2 f).1, ?_, (s2 f).2.2⟩, s3⟩
      show gJ (pJ (mkH' X h l) a' (X + b) v) f a = _
      rw [gJ_pJ, if_neg (by omega)]; exact (s2 f).2.1
    · refine ⟨s1, s2, fun i => ⟨?_, (s3 i).2.1, (s3 i).2.2⟩⟩
      show gA (sA (mkH' X h l) (X + a') (b : Int) v) a i = _
      rw [gA_sA, if_neg (by omega)]; exact (s3 i).1
/-! facts by computing -/
set_option maxHeartbeats 200000 in
theorem mk_k1 {X : Nat} {h : Hp} (hz : hZ h = X) {l : MkL} {i : Nat} {k : Nat} (d : (decide (i < mkZ l) && decide ((mkK l i).1 = k)) = true) : (hK (mkH' X h l) (X + i)).1 = k := by
  simp only [Bool.and_eq_true, decide_eq_true_eq] at d
  rw [mk_k hz l d.1]; exact d.2
set_option maxHeartbeats 200000 in
theorem mk_kk {X : Nat} {h : Hp} (hz : hZ h = X) {l : MkL} {i : Nat} {k : Nat × Nat} (d : (decide (i < mkZ l) && decide (mkK l i = k)) = true) : hK (mkH' X h l) (X + i) = k := by
  simp only [Bool.and_eq_true, decide_eq_true_eq] at d
  rw [mk_k hz l d.1]; exact d.2
set_option maxHeartbeats 200000 in
theorem mk_rr {X : Nat} {h : Hp} (hz : hZ h = X) {l : MkL} {f i j : Nat} (d : (decide (i < mkZ l) && decide (mkRf l f i = some j)) = true) : gR (mkH' X h l) f (X + i) = some (X + j) := by
  simp only [Bool.and_eq_true, decide_eq_true_eq] at d
  rw [mk_r hz l d.1, d.2]; rfl
set_option maxHeartbeats 200000 in
theorem mk_cc {X : Nat} {h : Hp} (hz : hZ h = X) {l : MkL} {i k j : Nat} (d : (decide (i < mkZ l) && decide (mkCf l i k = some j)) = true) : gC (mkH' X h l) (X + i) k = some (X + j) := by
  simp only [Bool.and_eq_true, decide_eq_true_eq] at d
  rw [mk_c hz l d.1, d.2]; rfl
set_option maxHeartbeats 200000 in
theorem mk_ii {X : Nat} {h : Hp} (hz : hZ h = X) {l : MkL} {f i : Nat} {v : Int} (d : (decide (i < mkZ l) && decide (mkIf l f i = v)) = true) : gI (mkH' X h l) f (X + i) = v := by
  simp only [Bool.and_eq_true, decide_eq_true_eq] at d
  rw [mk_i hz l d.1]; exact d.2
set_option maxHeartbeats 200000 in
theorem mk_jj {X : Nat} {h : Hp} (hz : hZ h = X) {l : MkL} {f i : Nat} {v : Int} (d : (decide (i < mkZ l) && decide (mkJf l f i = v)) = true) : gJ (mkH' X h l) f (X + i) = v := by
  simp only [Bool.and_eq_true, decide_eq_true_eq] at d
  rw [mk_j hz l d.1]; exact d.2
set_option maxHeartbeats 200000 in
theorem ltzg {α β : Type} {v v' : α} {k : α → Option β} {x : Option β} (e : v = v') (q : k v' = x) : lt v k = x := by rw [e]; exact q
set_option maxHeartbeats 200000 in
theorem mk_zz {X : Nat} {h : Hp} (hz : hZ h = X) {l : MkL} {n : Nat} (d : decide (mkZ l = n) = true) : hZ (mkH' X h l) = X + n := by
  rw [mk_z hz l, of_decide_eq_true d]
