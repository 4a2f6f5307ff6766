/-! FRAMES by lists of offsets: besides scratch, the cells X + i of E and the fields (f, X + i) of F may have changed -/
def Sm (h h' : Hp) (a : Nat) : Prop := hK h' a = hK h a ∧ (∀ f, gI h' f a = gI h f a ∧ gJ h' f a = gJ h f a ∧ gR h' f a = gR h f a) ∧ (∀ i, gA h' a i = gA h a i ∧ gB h' a i = gB h a i ∧ gC h' a i = gC h a i)
set_option maxHeartbeats 200000 in
theorem Sm.i {h h' : Hp} {a : Nat} (s : Sm h h' a) {f : Nat} : gI h' f a = gI h f a := (s.2.1 f).1
set_option maxHeartbeats 200000 in
theorem Sm.j {h h' : Hp} {a : Nat} (s : Sm h h' a) {f : Nat} : gJ h' f a = gJ h f a := (s.2.1 f).2.1
set_option maxHeartbeats 200000 in
theorem Sm.r {h h' : Hp} {a : Nat} (s : Sm h h' a) {f : Nat} : gR h' f a = gR h f a := (s.2.1 f).2.2
set_option maxHeartbeats 200000 in
theorem Sm.a {h h' : Hp} {a : Nat} (s : Sm h h' a) {i : Nat} : gA h' a i = gA h a i := (s.2.2 i).1
set_option maxHeartbeats 200000 in
theorem Sm.b {h h' : Hp} {a : Nat} (s : Sm h h' a) {i : Nat} : gB h' a i = gB h a i := (s.2.2 i).2.1
set_option maxHeartbeats 200000 in
theorem Sm.c {h h' : Hp} {a : Nat} (s : Sm h h' a) {i : Nat} : gC h' a i = gC h a i := (s.2.2 i).2.2
set_option maxHeartbeats 200000 in
theorem Sm.af {h h' : Hp} {a : Nat} (s : Sm h h' a) : gA h' a = gA h a := funext fun _ => s.a
set_option maxHeartbeats 200000 in
theorem Sm.k {h h' : Hp} {a : Nat} {v : Nat × Nat} (s : Sm h h' a) (e : hK h a = v) : hK h' a = v := by rw [s.1]; exact e
set_option maxHeartbeats 200000 in
theorem RVa.sm {h h' : Hp} {a q : Nat} {n : Int} {L : Int → Int} (r : RVa h a q n L) (s : Sm h h' a) (t : Sm h h' q) : RVa h' a q n L := by
  obtain ⟨r1, r2, r3, r4, r5, r6, r7, r8, r9, r10, r11⟩ := r
  unfold RVa
  rw [s.1, s.i, s.i, s.r, t.1]
  exact ⟨r1, r2, r3, r4, r5, r6, r7, r8, r9, r10, fun k k0 k8 => by rw [t.a]; exact r11 k k0 k8⟩
set_option maxHeartbeats 200000 in
theorem JV.sm {h h' : Hp} {a : Nat} {c : Nat → Int} {j : Int} (v : JV h a c j) (s : Sm h h' a) : JV h' a c j := by
  unfold JV
  rw [s.i, s.i, s.i, s.i, s.i, s.i, s.i, s.i, s.i, s.i]
  exact v
set_option maxHeartbeats 200000 in
theorem SV.sm {h h' : Hp} {S : Nat} {c : Nat → Int} (v : SV h S c) (s : ∀ a, S ≤ a → a < S + 27 → Sm h h' a) (w2 : c 2 ≤ 8) : SV h' S c := by
  obtain ⟨v1, v2, v3, v4, v5, v6, v7, v8, v9, v10⟩ := v
  have s0 := s S (by omega) (by omega)
  have s1 := s (S + 1) (by omega) (by omega)
  have s2 := s (S + 2) (by omega) (by omega)
  refine ⟨s0.k v1, by rw [s0.r]; exact v2, by rw [s0.r]; exact v3, s1.k v4, s2.k v5, by rw [s0.i]; exact v6, by rw [s0.i]; exact v7, fun x x0 x8 => ?_, fun j j0 j8 => ?_, fun j j0 j8 => ?_⟩
  · obtain ⟨q1, q2, q3, q4⟩ := v8 x x0 x8
    have sa := s (S + 3 + 3 * x.toNat) (by omega) (by omega)
    have sb := s (S + 4 + 3 * x.toNat) (by omega) (by omega)
    exact ⟨by rw [s1.c]; exact q1, q2.sm sa sb, sb.k q3, by rw [sa.i]; exact q4⟩
  · obtain ⟨q1, q2⟩ := v9 j j0 j8
    exact ⟨by rw [s2.c]; exact q1, (s _ (by omega) (by omega)).k q2⟩
  · exact (v10 j j0 j8).sm (s _ (by omega) (by omega))
set_option maxHeartbeats 200000 in
theorem LV.sm {h h' : Hp} {R : Nat} {c : Nat → Int} (v : LV h R c) (s : ∀ a, R ≤ a → a < R + 4 → Sm h h' a) : LV h' R c := by
  obtain ⟨v1, v2, v3, v4, v5, v6, v7, v8, v9⟩ := v
  have s0 := s R (by omega) (by omega)
  have s1 := s (R + 1) (by omega) (by omega)
  have s2 := s (R + 2) (by omega) (by omega)
  have s3 := s (R + 3) (by omega) (by omega)
  refine ⟨s0.k v1, by rw [s0.r]; exact v2, by rw [s0.r]; exact v3, by rw [s0.r]; exact v4, s1.k v5, s2.k v6, s3.k v7, by rw [s0.i]; exact v8, fun k k0 k8 => ?_⟩
  rw [s1.a, s2.a, s3.a]
  exact v9 k k0 k8
def FL (E : List Nat) (F : List (Nat × Nat)) (X : Nat) (h h' : Hp) : Prop :=
  hZ h ≤ hZ h' ∧ ∀ a, a < hZ h → hK h' a = hK h a ∧ (¬ sc X a → (∀ i ∈ E, a ≠ X + i) →
    (∀ f, ¬ pX X f a → ¬ pM X f a → (∀ q ∈ F, f = q.1 → a ≠ X + q.2) → gI h' f a = gI h f a ∧ gJ h' f a = gJ h f a ∧ gR h' f a = gR h f a) ∧ (∀ i, gA h' a i = gA h a i ∧ gB h' a i = gB h a i ∧ gC h' a i = gC h a i))
set_option maxHeartbeats 200000 in
theorem FL.rf {E : List Nat} {F : List (Nat × Nat)} {X : Nat} (h : Hp) : FL E F X h h := ⟨Nat.le_refl _, fun _ _ => ⟨rfl, fun _ _ => ⟨fun _ _ _ _ => ⟨rfl, rfl, rfl⟩, fun _ => ⟨rfl, rfl, rfl⟩⟩⟩⟩
set_option maxHeartbeats 200000 in
theorem FL.tr {E : List Nat} {F : List (Nat × Nat)} {X : Nat} {h h1 h2 : Hp} (p : FL E F X h h1) (q : FL E F X h1 h2) : FL E F X h h2 := by
  refine ⟨Nat.le_trans p.1 q.1, fun a z => ?_⟩
  obtain ⟨p1, p2⟩ := p.2 a z
  obtain ⟨q1, q2⟩ := q.2 a (Nat.lt_of_lt_of_le z p.1)
  refine ⟨q1.trans p1, fun n1 n2 => ⟨fun f n3 n4 n5 => ?_, fun i => ?_⟩⟩
  · obtain ⟨a1, a2, a3⟩ := (p2 n1 n2).1 f n3 n4 n5
    obtain ⟨b1, b2, b3⟩ := (q2 n1 n2).1 f n3 n4 n5
    exact ⟨b1.trans a1, b2.trans a2, b3.trans a3⟩
  · obtain ⟨a1, a2, a3⟩ := (p2 n1 n2).2 i
    obtain ⟨b1, b2, b3⟩ := (q2 n1 n2).2 i
    exact ⟨b1.trans a1, b2.trans a2, b3.trans a3⟩
set_option maxHeartbeats 200000 in
theorem FL.mono {E E' : List Nat} {F F' : List (Nat × Nat)} {X : Nat} {h h' : Hp} (p : FL E F X h h') (e : ∀ i ∈ E, i ∈ E') (f : ∀ q ∈ F, q ∈ F') : FL E' F' X h h' :=
  ⟨p.1, fun a z => ⟨(p.2 a z).1, fun n1 n2 => ⟨fun g n3 n4 n5 => ((p.2 a z).2 n1 (fun i hi => n2 i (e i hi))).1 g n3 n4 (fun q hq => n5 q (f q hq)), ((p.2 a z).2 n1 (fun i hi => n2 i (e i hi))).2⟩⟩⟩
set_option maxHeartbeats 200000 in
theorem fl_on {E : List Nat} {F : List (Nat × Nat)} {X : Nat} {W : Nat → Prop} {h h' : Hp} (p : On W h h') (m : ∀ a, W a → sc X a ∨ ∃ i ∈ E, a = X + i) : FL E F X h h' := by
  refine ⟨Nat.le_of_eq p.1.symm, fun a _ => ⟨by rw [p.k], fun n1 n2 => ?_⟩⟩
  have nw : ¬ W a := fun z => (m a z).elim n1 (fun ⟨i, h1, h2⟩ => n2 i h1 h2)
  exact ⟨fun f _ _ _ => ⟨p.i nw, p.j nw, p.r nw⟩, fun i => ⟨p.a nw, p.b nw, p.c nw⟩⟩
set_option maxHeartbeats 200000 in
theorem fl_q {E : List Nat} {F : List (Nat × Nat)} {X : Nat} {h h' : Hp} (p : QX X h h') : FL E F X h h' :=
  ⟨Nat.le_of_eq p.1.symm, fun _ _ => ⟨by rw [p.k], fun n1 _ => ⟨fun _ n3 _ _ => ⟨p.i n1 n3, p.j n1, p.r n1⟩, fun _ => ⟨p.a n1, p.b n1, p.c n1⟩⟩⟩⟩
set_option maxHeartbeats 200000 in
theorem fl_m {E : List Nat} {F : List (Nat × Nat)} {X : Nat} {h h' : Hp} (p : QM X h h') : FL E F X h h' :=
  ⟨Nat.le_of_eq p.1.symm, fun _ _ => ⟨by rw [p.k], fun n1 _ => ⟨fun _ _ n4 _ => ⟨p.i n1 n4, p.j n1, p.r n1⟩, fun _ => ⟨p.a n1, p.b n1, p.c n1⟩⟩⟩⟩
set_option maxHeartbeats 200000 in
theorem fl_pI {E : List Nat} {F : List (Nat × Nat)} {X : Nat} (h : Hp) {f a : Nat} {v : Int} (i : Nat) (ea : a = X + i) (m : (f, i) ∈ F) : FL E F X h (pI h f a v) :=
  ⟨Nat.le_refl _, fun b _ => ⟨rfl, fun _ _ => ⟨fun f' _ _ n5 => ⟨by
    rw [gI_pI]
    by_cases e : f' = f ∧ b = a
    · exact absurd (e.2.trans ea) (n5 (f, i) m e.1)
    · rw [if_neg e], rfl, rfl⟩, fun _ => ⟨rfl, rfl, rfl⟩⟩⟩⟩
set_option maxHeartbeats 200000 in
theorem fl_pJ {E : List Nat} {F : List (Nat × Nat)} {X : Nat} (h : Hp) {f a : Nat} {v : Int} (i : Nat) (ea : a = X + i) (m : (f, i) ∈ F) : FL E F X h (pJ h f a v) :=
  ⟨Nat.le_refl _, fun b _ => ⟨rfl, fun _ _ => ⟨fun f' _ _ n5 => ⟨rfl, by
    rw [gJ_pJ]
    by_cases e : f' = f ∧ b = a
    · exact absurd (e.2.trans ea) (n5 (f, i) m e.1)
    · rw [if_neg e], rfl⟩, fun _ => ⟨rfl, rfl, rfl⟩⟩⟩⟩
set_option maxHeartbeats 200000 in
theorem fl_pR {E : List Nat} {F : List (Nat × Nat)} {X : Nat} (h : Hp) {f a v : Nat} (i : Nat) (ea : a = X + i) (m : (f, i) ∈ F) : FL E F X h (pR h f a v) :=
  ⟨Nat.le_refl _, fun b _ => ⟨rfl, fun _ _ => ⟨fun f' _ _ n5 => ⟨rfl, rfl, by
    rw [gR_pR]
    by_cases e : f' = f ∧ b = a
    · exact absurd (e.2.trans ea) (n5 (f, i) m e.1)
    · rw [if_neg e]⟩, fun _ => ⟨rfl, rfl, rfl⟩⟩⟩⟩
set_option maxHeartbeats 200000 in
theorem fl_sA {E : List Nat} {F : List (Nat × Nat)} {X : Nat} (h : Hp) {a : Nat} {k v : Int} (i : Nat) (ea : a = X + i) (m : i ∈ E) : FL E F X h (sA h a k v) := fl_on (W := fun b => b = a) (on_sA h rfl) (fun _ hb => Or.inr ⟨i, m, by rw [hb, ea]⟩)
set_option maxHeartbeats 200000 in
theorem fl_sB {E : List Nat} {F : List (Nat × Nat)} {X : Nat} (h : Hp) {a : Nat} {k v : Int} (i : Nat) (ea : a = X + i) (m : i ∈ E) : FL E F X h (sB h a k v) := fl_on (W := fun b => b = a) (on_sB h rfl) (fun _ hb => Or.inr ⟨i, m, by rw [hb, ea]⟩)
/-! what a frame keeps, by computing -/
def scB (i : Nat) : Bool := (decide (81 ≤ i) && decide (i ≤ 98)) || i == 100 || i == 101 || i == 103 || i == 106 || i == 107 || (decide (114 ≤ i) && decide (i ≤ 116)) || (decide (128 ≤ i) && decide (i ≤ 133)) || i == 135 || i == 137 || i == 138 || i == 140 || i == 141 || i == 142
set_option maxHeartbeats 200000 in
theorem scB_no {X i : Nat} (h : scB i = false) : ¬ sc X (X + i) := by
  unfold scB at h
  simp only [Bool.or_eq_false_iff, Bool.and_eq_false_iff, decide_eq_false_iff_not, beq_eq_false_iff_ne, ne_eq] at h
  unfold sc
  omega
def kR (E : List Nat) (i : Nat) : Bool := decide (i < 144) && !scB i && E.all (fun j => !(j == i))
def kF (E : List Nat) (F : List (Nat × Nat)) (f i : Nat) : Bool := kR E i && F.all (fun q => !(q.1 == f && q.2 == i)) && !(i == 0 && f == 721) && !(i == 99 && f == 386) && !(i == 121 && (f == 768 || f == 769 || f == 799 || f == 804 || f == 805 || f == 812))
def kA (E : List Nat) (F : List (Nat × Nat)) (i : Nat) : Bool := kR E i && F.all (fun q => !(q.2 == i)) && !(i == 0) && !(i == 99) && !(i == 121)
set_option maxHeartbeats 200000 in
theorem kR_s {E : List Nat} {i : Nat} (h : kR E i = true) : i < 144 ∧ scB i = false ∧ ∀ j ∈ E, j ≠ i := by
  unfold kR at h
  simp only [Bool.and_eq_true, decide_eq_true_eq, Bool.not_eq_true', List.all_eq_true, beq_eq_false_iff_ne, ne_eq] at h
  exact ⟨h.1.1, h.1.2, h.2⟩
set_option maxHeartbeats 200000 in
theorem FL.ro {E : List Nat} {F : List (Nat × Nat)} {X : Nat} {h h' : Hp} (p : FL E F X h h') (z : X + 144 ≤ hZ h) {i : Nat} (d : kR E i = true) : (∀ k, gA h' (X + i) k = gA h (X + i) k) ∧ (∀ k, gB h' (X + i) k = gB h (X + i) k) ∧ (∀ k, gC h' (X + i) k = gC h (X + i) k) := by
  obtain ⟨d1, d2, d3⟩ := kR_s d
  have q := ((p.2 (X + i) (by omega)).2 (scB_no d2) (fun j hj e => d3 j hj (by omega))).2
  exact ⟨fun k => (q k).1, fun k => (q k).2.1, fun k => (q k).2.2⟩
set_option maxHeartbeats 200000 in
theorem FL.fi {E : List Nat} {F : List (Nat × Nat)} {X : Nat} {h h' : Hp} (p : FL E F X h h') (z : X + 144 ≤ hZ h) {f i : Nat} (d : kF E F f i = true) : gI h' f (X + i) = gI h f (X + i) ∧ gJ h' f (X + i) = gJ h f (X + i) ∧ gR h' f (X + i) = gR h f (X + i) := by
  unfold kF at d
  simp only [Bool.and_eq_true, Bool.not_eq_true', Bool.and_eq_false_iff, Bool.or_eq_false_iff, List.all_eq_true, beq_eq_false_iff_ne, ne_eq] at d
  obtain ⟨⟨⟨⟨d0, d1⟩, d2⟩, d3⟩, d4⟩ := d
  obtain ⟨e1, e2, e3⟩ := kR_s d0
  refine ((p.2 (X + i) (by omega)).2 (scB_no e2) (fun j hj e => e3 j hj (by omega))).1 f (fun z => ?_) (fun z => ?_) (fun q hq e y => ?_)
  · unfold pX at z; omega
  · unfold pM at z; omega
  · have := d1 q hq; omega
set_option maxHeartbeats 200000 in
theorem FL.f0 {E : List Nat} {F : List (Nat × Nat)} {X : Nat} {h h' : Hp} (p : FL E F X h h') (z : X + 144 ≤ hZ h) {f : Nat} (d : kF E F f 0 = true) : gI h' f X = gI h f X ∧ gJ h' f X = gJ h f X ∧ gR h' f X = gR h f X := p.fi z d
set_option maxHeartbeats 200000 in
theorem kA_s {E : List Nat} {F : List (Nat × Nat)} {i : Nat} (d : kA E F i = true) (f : Nat) : kF E F f i = true := by
  unfold kA at d
  unfold kF
  simp only [Bool.and_eq_true, Bool.not_eq_true', Bool.and_eq_false_iff, Bool.or_eq_false_iff, List.all_eq_true, beq_eq_false_iff_ne, ne_eq] at d ⊢
  obtain ⟨⟨⟨⟨d0, d1⟩, d2⟩, d3⟩, d4⟩ := d
  exact ⟨⟨⟨⟨d0, fun q hq => Or.inr (d1 q hq)⟩, Or.inl d2⟩, Or.inl d3⟩, Or.inl d4⟩
set_option maxHeartbeats 200000 in
theorem FL.k {E : List Nat} {F : List (Nat × Nat)} {X : Nat} {h h' : Hp} (p : FL E F X h h') {a : Nat} (z : a < hZ h) : hK h' a = hK h a := (p.2 a z).1
set_option maxHeartbeats 200000 in
theorem FL.at {E : List Nat} {F : List (Nat × Nat)} {X : Nat} {h h' : Hp} (p : FL E F X h h') (z : X + 144 ≤ hZ h) {i : Nat} (d : kA E F i = true) : Sm h h' (X + i) := by
  have d0 : kR E i = true := by
    unfold kA at d
    simp only [Bool.and_eq_true] at d
    exact d.1.1.1.1
  have d1 := (kR_s d0).1
  obtain ⟨q1, q2, q3⟩ := p.ro z d0
  exact ⟨p.k (by omega), fun f => p.fi z (kA_s d f), fun k => ⟨q1 k, q2 k, q3 k⟩⟩
def kS (E : List Nat) (F : List (Nat × Nat)) : Bool := (List.range 59).all (fun k => kA E F (17 + k)) && E.all (fun i => decide (i < 144)) && F.all (fun q => decide (q.2 < 144))
set_option maxHeartbeats 200000 in
theorem FL.so {E : List Nat} {F : List (Nat × Nat)} {X : Nat} {h h' : Hp} (p : FL E F X h h') (z : X + 144 ≤ hZ h) (d : kS E F = true) {a : Nat} (za : a < hZ h) (o : (X + 17 ≤ a ∧ a < X + 76) ∨ X + 144 ≤ a) : Sm h h' a := by
  unfold kS at d
  simp only [Bool.and_eq_true, List.all_eq_true, List.mem_range, decide_eq_true_eq] at d
  obtain ⟨⟨d0, d1⟩, d2⟩ := d
  rcases o with o | o
  · have := p.at z (d0 (a - X - 17) (by omega))
    rw [show X + (17 + (a - X - 17)) = a by omega] at this
    exact this
  · have n1 : ¬ sc X a := by unfold sc; omega
    have q := (p.2 a za).2 n1 (fun i hi e => by have := d1 i hi; omega)
    refine ⟨(p.2 a za).1, fun f => q.1 f (fun y => ?_) (fun y => ?_) (fun x hx _ y => ?_), q.2⟩
    · unfold pX at y; omega
    · unfold pM at y; omega
    · have := d2 x hx; omega
set_option maxHeartbeats 200000 in
theorem SO.c {X S a : Nat} (o : SO X S) (h1 : S ≤ a) (h2 : a < S + 27) : (X + 17 ≤ a ∧ a < X + 76) ∨ X + 144 ≤ a := by unfold SO at o; omega
set_option maxHeartbeats 200000 in
theorem LO.c {X S a : Nat} (o : LO X S) (h1 : S ≤ a) (h2 : a < S + 4) : (X + 17 ≤ a ∧ a < X + 76) ∨ X + 144 ≤ a := by unfold LO at o; omega
set_option maxHeartbeats 200000 in
theorem SV.fl {E : List Nat} {F : List (Nat × Nat)} {X S : Nat} {h h' : Hp} {c : Nat → Int} (v : SV h S c) (p : FL E F X h h') (z : X + 144 ≤ hZ h) (d : kS E F = true) (o : SO X S) (zS : S + 27 ≤ hZ h) (w : WF c) : SV h' S c :=
  v.sm (fun a h1 h2 => p.so z d (by omega) (o.c h1 h2)) w.nj.2
set_option maxHeartbeats 200000 in
theorem LV.fl {E : List Nat} {F : List (Nat × Nat)} {X R : Nat} {h h' : Hp} {c : Nat → Int} (v : LV h R c) (p : FL E F X h h') (z : X + 144 ≤ hZ h) (d : kS E F = true) (o : LO X R) (zR : R + 4 ≤ hZ h) : LV h' R c :=
  v.sm (fun a h1 h2 => p.so z d (by omega) (o.c h1 h2))
/-! statics -/
def kXS (E : List Nat) (F : List (Nat × Nat)) : Bool := rT.all (fun q => kF E F q.1 q.2.1) && cT.all (fun q => kR E q.1) && kF E F 385 99 && kF E F 385 111 && kF E F 385 117 && kF E F 385 119
set_option maxHeartbeats 200000 in
theorem XS.fl {E : List Nat} {F : List (Nat × Nat)} {X : Nat} {h h' : Hp} (H : XS h X) (p : FL E F X h h') (z : X + 144 ≤ hZ h) (d : kXS E F = true) : XS h' X := by
  unfold kXS at d
  simp only [Bool.and_eq_true, List.all_eq_true] at d
  obtain ⟨⟨⟨⟨⟨d0, d1⟩, d2⟩, d3⟩, d4⟩, d5⟩ := d
  refine ⟨fun i hi => by rw [p.k (by omega)]; exact H.1 i hi, fun q hq => by rw [(p.fi z (d0 q hq)).2.2]; exact H.2.1 q hq, fun q hq => by rw [(p.ro z (d1 q hq)).2.2]; exact H.2.2.1 q hq, ?_⟩
  rw [(p.fi z d2).1, (p.fi z d3).1, (p.fi z d4).1, (p.fi z d5).1]
  exact H.2.2.2
def kMS (E : List Nat) (F : List (Nat × Nat)) : Bool := mR.all (fun q => kF E F q.1 121)
set_option maxHeartbeats 200000 in
theorem MS.fl {E : List Nat} {F : List (Nat × Nat)} {X : Nat} {h h' : Hp} (H : MS h (X + 121)) (p : FL E F X h h') (z : X + 144 ≤ hZ h) (d : kMS E F = true) : MS h' (X + 121) := by
  unfold kMS at d
  simp only [List.all_eq_true] at d
  exact ⟨fun i hi => by rw [p.k (by omega)]; exact H.1 i hi, fun q hq => by rw [(p.fi z (d q hq)).2.2]; exact H.2 q hq⟩
/-! blocks that agree: in what a shop needs, in what a law needs -/
def AgS (c c' : Nat → Int) : Prop := c' 1 = c 1 ∧ c' 2 = c 2 ∧ ∀ k, 4 ≤ k → k < 308 → c' k = c k
def AgL (c c' : Nat → Int) : Prop := c' 3 = c 3 ∧ ∀ k, 308 ≤ k → k < 370 → c' k = c k
set_option maxHeartbeats 200000 in
theorem WF.mk {c c' : Nat → Int} (w : WF c) (g : AgS c c') (d : 0 ≤ c' 0 ∧ c' 0 ≤ 9999) (nr : 0 ≤ c' 3 ∧ c' 3 ≤ 12)
    (ru : ∀ k : Int, 0 ≤ k → k < c' 3 → (0 ≤ c' (308 + 3 * k).toNat ∧ c' (308 + 3 * k).toNat ≤ 27) ∧ (0 ≤ c' (308 + 3 * k + 1).toNat ∧ c' (308 + 3 * k + 1).toNat ≤ 27) ∧ (0 ≤ c' (308 + 3 * k + 2).toNat ∧ c' (308 + 3 * k + 2).toNat ≤ 28)) : WF c' := by
  have e : ∀ {x : Int}, 4 ≤ x → x < 308 → c' x.toNat = c x.toNat := fun {x} h1 h2 => g.2.2 _ (by omega) (by omega)
  refine ⟨d, by rw [g.1]; exact w.2.1, by rw [g.2.1]; exact w.2.2.1, nr, fun s s0 s8 => ?_, fun s k s0 s8 k0 k8 => ?_, fun j j0 j8 => ?_, fun j k j0 j8 k0 k8 => ?_, ru⟩
  · rw [e (by omega) (by omega)]; exact w.sl s0 s8
  · rw [e (by omega) (by omega)] at k8
    have := w.sl s0 s8
    rw [e (by omega) (by omega)]; exact w.sc s0 s8 k0 k8
  · unfold WJ
    rw [e (x := 140 + j) (by omega) (by omega), e (x := 148 + j) (by omega) (by omega), e (x := 156 + j) (by omega) (by omega), e (x := 164 + j) (by omega) (by omega), e (x := 172 + j) (by omega) (by omega), e (x := 180 + j) (by omega) (by omega), e (x := 188 + j) (by omega) (by omega), e (x := 196 + j) (by omega) (by omega), e (x := 204 + j) (by omega) (by omega)]
    exact w.wj j0 j8
  · rw [e (by omega) (by omega)] at k8
    have := w.wj j0 j8
    have h1 := this.1
    have h2 := this.2.2.2.2.2.2.1
    rw [e (by omega) (by omega)]; exact w.hc j0 j8 k0 k8
set_option maxHeartbeats 200000 in
theorem WF.ag {c c' : Nat → Int} (w : WF c) (g : AgS c c') (l : AgL c c') (d : 0 ≤ c' 0 ∧ c' 0 ≤ 9999) : WF c' := by
  have hr := w.nr
  refine w.mk g d (by rw [l.1]; exact hr) (fun k k0 k8 => ?_)
  rw [l.1] at k8
  rw [l.2 _ (show 308 ≤ (308 + 3 * k).toNat by omega) (by omega), l.2 _ (show 308 ≤ (308 + 3 * k + 1).toNat by omega) (by omega), l.2 _ (show 308 ≤ (308 + 3 * k + 2).toNat by omega) (by omega)]
  exact w.ru k0 k8
set_option maxHeartbeats 200000 in
theorem sL_ag {c c' : Nat → Int} (w : WF c) (g : AgS c c') {s : Int} (s0 : 0 ≤ s) (s8 : s < 8) : sL c' s = sL c s := by
  funext k
  have h1 := w.sl s0 s8
  unfold sL
  rw [g.2.2 _ (show 4 ≤ (4 + s).toNat by omega) (by omega)]
  by_cases q : 0 ≤ k ∧ k < c (4 + s).toNat
  · rw [if_pos q, if_pos q, g.2.2 _ (by omega) (by omega)]
  · rw [if_neg q, if_neg q]
set_option maxHeartbeats 200000 in
theorem SV.ag {h : Hp} {S : Nat} {c c' : Nat → Int} (v : SV h S c) (w : WF c) (g : AgS c c') : SV h S c' := by
  have e : ∀ {x : Int}, 4 ≤ x → x < 308 → c' x.toNat = c x.toNat := fun {x} h1 h2 => g.2.2 _ (by omega) (by omega)
  have hj := w.nj
  obtain ⟨v1, v2, v3, v4, v5, v6, v7, v8, v9, v10⟩ := v
  refine ⟨v1, v2, v3, v4, v5, by rw [g.1]; exact v6, by rw [g.2.1]; exact v7, fun s s0 s8 => ?_, v9, fun j j0 j8 => ?_⟩
  · rw [sL_ag w g s0 s8, e (by omega) (by omega)]; exact v8 s s0 s8
  · rw [g.2.1] at j8
    have q := v10 j j0 j8
    have wj := w.wj j0 (show j < 8 by omega)
    have hs := wj.2.2.2.2.2.2.2.2
    have h1 := wj.1
    have h2 := wj.2.2.2.2.2.2.1
    unfold JV at q ⊢
    rw [e (x := 140 + j) (by omega) (by omega), e (x := 148 + j) (by omega) (by omega), e (x := 156 + j) (by omega) (by omega), e (x := 164 + j) (by omega) (by omega), e (x := 172 + j) (by omega) (by omega), e (x := 180 + j) (by omega) (by omega), e (x := 188 + j) (by omega) (by omega), e (x := 196 + j) (by omega) (by omega), e (x := 204 + j) (by omega) (by omega), e (x := 4 + c (204 + j).toNat) (by omega) (by omega), sL_ag w g hs.1 hs.2]
    refine ⟨q.1, q.2.1, q.2.2.1, q.2.2.2.1, q.2.2.2.2.1, q.2.2.2.2.2.1, q.2.2.2.2.2.2.1, q.2.2.2.2.2.2.2.1, q.2.2.2.2.2.2.2.2.1, q.2.2.2.2.2.2.2.2.2.1, q.2.2.2.2.2.2.2.2.2.2.1, fun k k0 k8 => ?_⟩
    rw [e (x := 212 + 12 * j + k) (by omega) (by omega)]
    exact q.2.2.2.2.2.2.2.2.2.2.2 k k0 k8
set_option maxHeartbeats 200000 in
theorem LV.ag {h : Hp} {R : Nat} {c c' : Nat → Int} (v : LV h R c) (w : WF c) (l : AgL c c') : LV h R c' := by
  have hr := w.nr
  obtain ⟨v1, v2, v3, v4, v5, v6, v7, v8, v9⟩ := v
  refine ⟨v1, v2, v3, v4, v5, v6, v7, by rw [l.1]; exact v8, fun k k0 k8 => ?_⟩
  rw [l.1] at k8
  rw [l.2 _ (show 308 ≤ (308 + 3 * k).toNat by omega) (by omega), l.2 _ (show 308 ≤ (308 + 3 * k + 1).toNat by omega) (by omega), l.2 _ (show 308 ≤ (308 + 3 * k + 2).toNat by omega) (by omega)]
  exact v9 k k0 k8
/-! THE PARTS OF THE INVARIANT -/
def TRt (h : Hp) (X t : Nat) : Prop :=
  (gA h (X + 121 + 2) t = -1 ∧ gI h 641 (X + 2 + 2 * t) = -1) ∨
  ((0 ≤ gA h (X + 121 + 2) t ∧ gA h (X + 121 + 2) t ≤ 60) ∧ (0 ≤ gA h (X + 121 + 1) t ∧ gA h (X + 121 + 1) t ≤ 3) ∧ gI h 641 (X + 2 + 2 * t) = gA h (X + 121 + 1) t ∧ gI h 642 (X + 2 + 2 * t) = gA h (X + 121 + 2) t ∧
    ∀ p : Nat, (p : Int) < gA h (X + 121 + 2) t → gB h (X + 3 + 2 * t) p = gB h (X + 121 + 3) (60 * t + p))
def TR (h : Hp) (X : Nat) : Prop := ∀ t, t < 4 → TRt h X t
def TP (h : Hp) (X : Nat) : Prop :=
  (0 ≤ gI h 776 (X + 121) ∧ gI h 776 (X + 121) ≤ 900) ∧ gI h 577 (X + 10) = gI h 776 (X + 121) ∧
  (∀ k : Nat, (k : Int) < gI h 776 (X + 121) → gA h (X + 11) k = gA h (X + 121 + 4) k ∧ -128 ≤ gA h (X + 11) k ∧ gA h (X + 11) k ≤ 127) ∧
  gI h 578 (X + 10) = gI h 778 (X + 121) ∧ gI h 579 (X + 10) = gI h 779 (X + 121)
def bk (c : Nat → Int) (i : Nat) : Nat → Int := fun k => if k < 370 then c (370 * (i + 1) + k) else 0
def MKi (h : Hp) (X : Nat) (c : Nat → Int) (i : Nat) : Prop :=
  ∃ S R, gR h 192 (X + 77 + i) = some S ∧ gR h 193 (X + 77 + i) = some R ∧ gI h 194 (X + 77 + i) = bk c i 0 ∧ SV h S (bk c i) ∧ SO X S ∧ S + 27 ≤ hZ h ∧ LV h R (bk c i) ∧ LO X R ∧ R + 4 ≤ hZ h ∧ WF (bk c i)
def MK (h : Hp) (X : Nat) (c : Nat → Int) : Prop := ∃ m : Nat, m ≤ 3 ∧ gI h 790 (X + 121) = (m : Int) ∧ gI h 720 X = (m : Int) ∧ ∀ i, i < m → MKi h X c i
def RD (h : Hp) (X : Nat) : Prop :=
  (gI h 813 (X + 121) = 0 ∨ gI h 813 (X + 121) = 1) ∧ ∀ j : Nat, j < 8 → gA h (X + 102) j = if gI h 813 (X + 121) = 0 then 0 else gA h (X + 121 + 22) j
def MG (h : Hp) (X : Nat) : Prop :=
  (0 ≤ gI h 806 (X + 121) ∧ gI h 806 (X + 121) ≤ 72) ∧ gI h 386 (X + 111) = gI h 806 (X + 121) ∧ (∀ k : Nat, (k : Int) < gI h 806 (X + 121) → gA h (X + 112) k = gA h (X + 121 + 15) k) ∧
  (∀ i, i < 384 → gA h (X + 108) i = 0) ∧ ((gR h 260 (X + 104) = some (X + 109) ∧ gR h 261 (X + 104) = some (X + 110)) ∨ (gR h 260 (X + 104) = some (X + 110) ∧ gR h 261 (X + 104) = some (X + 109)))
def CNv (h : Hp) (X : Nat) : Prop :=
  (0 ≤ gI h 800 (X + 121) ∧ gI h 800 (X + 121) ≤ 8) ∧ gI h 386 (X + 117) = gI h 800 (X + 121) ∧ (∀ k : Nat, (k : Int) < gI h 800 (X + 121) → gA h (X + 118) k = gA h (X + 121 + 13) k)
def SF (h : Hp) (X : Nat) : Prop :=
  (0 ≤ gI h 809 (X + 121) ∧ gI h 809 (X + 121) ≤ 8) ∧ gI h 386 (X + 119) = gI h 809 (X + 121) ∧ (∀ k : Nat, (k : Int) < gI h 809 (X + 121) → gA h (X + 120) k = gA h (X + 121 + 18) k)
def CB (h : Hp) (X : Nat) : Prop := X + 144 ≤ hZ h ∧ (∀ S, gR h 717 X = some S → S + 27 ≤ hZ h) ∧ (∀ R, gR h 718 X = some R → R + 4 ≤ hZ h)
def JC (h : Hp) (X : Nat) (c : Nat → Int) : Prop := CX h X c ∧ CM h X c ∧ CB h X ∧ TR h X ∧ TP h X ∧ MK h X c ∧ RD h X ∧ MG h X ∧ CNv h X ∧ SF h X
def Inv (h : Hp) (X : Nat) : Prop := ∃ c, JC h X c ∧ gI h 721 X = gI h 768 (X + 121) ∧ gJ h 722 X = gJ h 770 (X + 121) ∧ gJ h 723 X = gJ h 771 (X + 121)
set_option maxHeartbeats 200000 in
theorem JC.x {h : Hp} {X : Nat} {c : Nat → Int} (J : JC h X c) : CX h X c := J.1
set_option maxHeartbeats 200000 in
theorem JC.m {h : Hp} {X : Nat} {c : Nat → Int} (J : JC h X c) : CM h X c := J.2.1
set_option maxHeartbeats 200000 in
theorem JC.b {h : Hp} {X : Nat} {c : Nat → Int} (J : JC h X c) : CB h X := J.2.2.1
set_option maxHeartbeats 200000 in
theorem JC.z {h : Hp} {X : Nat} {c : Nat → Int} (J : JC h X c) : X + 144 ≤ hZ h := J.2.2.1.1
set_option maxHeartbeats 200000 in
theorem JC.tr {h : Hp} {X : Nat} {c : Nat → Int} (J : JC h X c) : TR h X := J.2.2.2.1
set_option maxHeartbeats 200000 in
theorem JC.tp {h : Hp} {X : Nat} {c : Nat → Int} (J : JC h X c) : TP h X := J.2.2.2.2.1
set_option maxHeartbeats 200000 in
theorem JC.mk {h : Hp} {X : Nat} {c : Nat → Int} (J : JC h X c) : MK h X c := J.2.2.2.2.2.1
set_option maxHeartbeats 200000 in
theorem JC.rd {h : Hp} {X : Nat} {c : Nat → Int} (J : JC h X c) : RD h X := J.2.2.2.2.2.2.1
set_option maxHeartbeats 200000 in
theorem JC.mg {h : Hp} {X : Nat} {c : Nat → Int} (J : JC h X c) : MG h X := J.2.2.2.2.2.2.2.1
set_option maxHeartbeats 200000 in
theorem JC.cn {h : Hp} {X : Nat} {c : Nat → Int} (J : JC h X c) : CNv h X := J.2.2.2.2.2.2.2.2.1
set_option maxHeartbeats 200000 in
theorem JC.sf {h : Hp} {X : Nat} {c : Nat → Int} (J : JC h X c) : SF h X := J.2.2.2.2.2.2.2.2.2
/-! each part behind a frame that leaves its cells alone -/
def kCX (E : List Nat) (F : List (Nat × Nat)) : Bool := kXS E F && kS E F && kF E F 717 0 && kF E F 718 0
set_option maxHeartbeats 200000 in
theorem kCX_s {E : List Nat} {F : List (Nat × Nat)} (d : kCX E F = true) : kXS E F = true ∧ kS E F = true ∧ kF E F 717 0 = true ∧ kF E F 718 0 = true := by
  unfold kCX at d
  simp only [Bool.and_eq_true] at d
  exact ⟨d.1.1.1, d.1.1.2, d.1.2, d.2⟩
set_option maxHeartbeats 200000 in
theorem CX.fl {E : List Nat} {F : List (Nat × Nat)} {X : Nat} {h h' : Hp} {c : Nat → Int} (H : CX h X c) (b : CB h X) (p : FL E F X h h') (d : kCX E F = true) (d9 : kF E F 719 0 = true) : CX h' X c := by
  obtain ⟨d1, d2, d3, d4⟩ := kCX_s d
  obtain ⟨h1, h2, h3, ⟨S, s1, s2, s3⟩, R, r1, r2, r3⟩ := H
  have e3 := (p.fi b.1 d3).2.2
  have e4 := (p.fi b.1 d4).2.2
  have e9 := (p.fi b.1 d9).1
  exact ⟨h1.fl p b.1 d1, h2, Eq.trans e9 h3, ⟨S, Eq.trans e3 s1, s2.fl p b.1 d2 s3 (b.2.1 S s1) h2, s3⟩, R, Eq.trans e4 r1, r2.fl p b.1 d2 r3 (b.2.2 R r1), r3⟩
set_option maxHeartbeats 200000 in
theorem CB.fl {E : List Nat} {F : List (Nat × Nat)} {X : Nat} {h h' : Hp} (b : CB h X) (p : FL E F X h h') (d3 : kF E F 717 0 = true) (d4 : kF E F 718 0 = true) : CB h' X := by
  have e3 := (p.fi b.1 d3).2.2
  have e4 := (p.fi b.1 d4).2.2
  have z := p.1
  exact ⟨Nat.le_trans b.1 z, fun S s => Nat.le_trans (b.2.1 S (e3.symm.trans s)) z, fun R r => Nat.le_trans (b.2.2 R (e4.symm.trans r)) z⟩
def kCM (E : List Nat) (F : List (Nat × Nat)) : Bool := kMS E F && kR E 126
set_option maxHeartbeats 200000 in
theorem CM.fl {E : List Nat} {F : List (Nat × Nat)} {X : Nat} {h h' : Hp} {c : Nat → Int} (H : CM h X c) (p : FL E F X h h') (z : X + 144 ≤ hZ h) (d : kCM E F = true) : CM h' X c := by
  unfold kCM at d
  simp only [Bool.and_eq_true] at d
  refine ⟨H.1.fl p z d.1, ?_, H.2.2⟩
  rw [← H.2.1]
  funext k
  exact (p.ro z d.2).1 k
def kTR (E : List Nat) (F : List (Nat × Nat)) : Bool := (List.range 4).all (fun t => kF E F 641 (2 + 2 * t) && kF E F 642 (2 + 2 * t) && kR E (3 + 2 * t)) && kR E 122 && kR E 123 && kR E 124
set_option maxHeartbeats 200000 in
theorem TR.fl {E : List Nat} {F : List (Nat × Nat)} {X : Nat} {h h' : Hp} (H : TR h X) (p : FL E F X h h') (z : X + 144 ≤ hZ h) (d : kTR E F = true) : TR h' X := by
  unfold kTR at d
  simp only [Bool.and_eq_true, List.all_eq_true, List.mem_range] at d
  obtain ⟨⟨⟨d0, d1⟩, d2⟩, d3⟩ := d
  intro t ht
  obtain ⟨⟨d4, d5⟩, d6⟩ := d0 t ht
  have q1 : ∀ k, gA h' (X + 121 + 1) k = gA h (X + 121 + 1) k := (p.ro z d1).1
  have q2 : ∀ k, gA h' (X + 121 + 2) k = gA h (X + 121 + 2) k := (p.ro z d2).1
  have q3 : ∀ k, gB h' (X + 121 + 3) k = gB h (X + 121 + 3) k := (p.ro z d3).2.1
  have q4 := (p.fi z d4).1
  have q5 := (p.fi z d5).1
  have q6 := (p.ro z d6).2.1
  rw [show X + (2 + 2 * t) = X + 2 + 2 * t by omega] at q4 q5
  rw [show X + (3 + 2 * t) = X + 3 + 2 * t by omega] at q6
  unfold TRt
  rw [q1, q2, q4, q5]
  simp only [q3, q6]
  exact H t ht
def kTP (E : List Nat) (F : List (Nat × Nat)) : Bool := kF E F 776 121 && kF E F 577 10 && kR E 11 && kR E 125 && kF E F 578 10 && kF E F 579 10 && kF E F 778 121 && kF E F 779 121
set_option maxHeartbeats 200000 in
theorem TP.fl {E : List Nat} {F : List (Nat × Nat)} {X : Nat} {h h' : Hp} (H : TP h X) (p : FL E F X h h') (z : X + 144 ≤ hZ h) (d : kTP E F = true) : TP h' X := by
  unfold kTP at d
  simp only [Bool.and_eq_true] at d
  obtain ⟨⟨⟨⟨⟨⟨⟨d1, d2⟩, d3⟩, d4⟩, d5⟩, d6⟩, d7⟩, d8⟩ := d
  have q4 : ∀ k, gA h' (X + 121 + 4) k = gA h (X + 121 + 4) k := (p.ro z d4).1
  have q3 := (p.ro z d3).1
  unfold TP
  rw [(p.fi z d1).1, (p.fi z d2).1, (p.fi z d5).1, (p.fi z d6).1, (p.fi z d7).1, (p.fi z d8).1]
  simp only [q3, q4]
  exact H
def kMK (E : List Nat) (F : List (Nat × Nat)) : Bool := kS E F && (List.range 3).all (fun i => kF E F 192 (77 + i) && kF E F 193 (77 + i) && kF E F 194 (77 + i)) && kF E F 790 121 && kF E F 720 0
set_option maxHeartbeats 200000 in
theorem MKi.mv {E : List Nat} {F : List (Nat × Nat)} {X : Nat} {h h' : Hp} {c c' : Nat → Int} {i : Nat} (H : MKi h X c i) (p : FL E F X h h') (z : X + 144 ≤ hZ h) (d : kS E F = true) (e1 : gR h' 192 (X + 77 + i) = gR h 192 (X + 77 + i)) (e2 : gR h' 193 (X + 77 + i) = gR h 193 (X + 77 + i)) (e3 : gI h' 194 (X + 77 + i) = gI h 194 (X + 77 + i)) (g : bk c' i = bk c i) : MKi h' X c' i := by
  obtain ⟨S, R, h1, h2, h3, h4, h5, h6, h7, h8, h9, h10⟩ := H
  refine ⟨S, R, e1.trans h1, e2.trans h2, ?_, ?_, h5, Nat.le_trans h6 p.1, ?_, h8, Nat.le_trans h9 p.1, ?_⟩
  · rw [g]; exact e3.trans h3
  · rw [g]; exact h4.fl p z d h5 h6 h10
  · rw [g]; exact h7.fl p z d h8 h9
  · rw [g]; exact h10
set_option maxHeartbeats 200000 in
theorem MKi.fl {E : List Nat} {F : List (Nat × Nat)} {X : Nat} {h h' : Hp} {c c' : Nat → Int} {i : Nat} (H : MKi h X c i) (p : FL E F X h h') (z : X + 144 ≤ hZ h) (d : kS E F = true) (d1 : kF E F 192 (77 + i) = true) (d2 : kF E F 193 (77 + i) = true) (d3 : kF E F 194 (77 + i) = true) (g : bk c' i = bk c i) : MKi h' X c' i := by
  have e1 := (p.fi z d1).2.2
  have e2 := (p.fi z d2).2.2
  have e3 := (p.fi z d3).1
  rw [show X + (77 + i) = X + 77 + i by omega] at e1 e2 e3
  exact H.mv p z d e1 e2 e3 g
set_option maxHeartbeats 200000 in
theorem MK.fl {E : List Nat} {F : List (Nat × Nat)} {X : Nat} {h h' : Hp} {c c' : Nat → Int} (H : MK h X c) (p : FL E F X h h') (z : X + 144 ≤ hZ h) (d : kMK E F = true) (g : ∀ i, i < 3 → bk c' i = bk c i) : MK h' X c' := by
  unfold kMK at d
  simp only [Bool.and_eq_true, List.all_eq_true, List.mem_range] at d
  obtain ⟨⟨⟨d1, d2⟩, d3⟩, d4⟩ := d
  obtain ⟨m, m1, m2, m3, m4⟩ := H
  refine ⟨m, m1, (p.fi z d3).1.trans m2, (p.fi z d4).1.trans m3, fun i hi => ?_⟩
  obtain ⟨⟨y1, y2⟩, y3⟩ := d2 i (by omega)
  exact (m4 i hi).fl p z d1 y1 y2 y3 (g i (by omega))
def kRD (E : List Nat) (F : List (Nat × Nat)) : Bool := kF E F 813 121 && kR E 102 && kR E 143
set_option maxHeartbeats 200000 in
theorem RD.fl {E : List Nat} {F : List (Nat × Nat)} {X : Nat} {h h' : Hp} (H : RD h X) (p : FL E F X h h') (z : X + 144 ≤ hZ h) (d : kRD E F = true) : RD h' X := by
  unfold kRD at d
  simp only [Bool.and_eq_true] at d
  obtain ⟨⟨d1, d2⟩, d3⟩ := d
  have q4 : ∀ k, gA h' (X + 121 + 22) k = gA h (X + 121 + 22) k := (p.ro z d3).1
  have q3 := (p.ro z d2).1
  unfold RD
  rw [(p.fi z d1).1]
  simp only [q3, q4]
  exact H
def kMG (E : List Nat) (F : List (Nat × Nat)) : Bool := kF E F 806 121 && kF E F 386 111 && kR E 112 && kR E 136 && kR E 108 && kF E F 260 104 && kF E F 261 104
set_option maxHeartbeats 200000 in
theorem MG.fl {E : List Nat} {F : List (Nat × Nat)} {X : Nat} {h h' : Hp} (H : MG h X) (p : FL E F X h h') (z : X + 144 ≤ hZ h) (d : kMG E F = true) : MG h' X := by
  unfold kMG at d
  simp only [Bool.and_eq_true] at d
  obtain ⟨⟨⟨⟨⟨⟨d1, d2⟩, d3⟩, d4⟩, d5⟩, d6⟩, d7⟩ := d
  have q4 : ∀ k, gA h' (X + 121 + 15) k = gA h (X + 121 + 15) k := (p.ro z d4).1
  have q3 := (p.ro z d3).1
  have q5 := (p.ro z d5).1
  unfold MG
  rw [(p.fi z d1).1, (p.fi z d2).1, (p.fi z d6).2.2, (p.fi z d7).2.2]
  simp only [q3, q4, q5]
  exact H
def kCN (E : List Nat) (F : List (Nat × Nat)) : Bool := kF E F 800 121 && kF E F 386 117 && kR E 118 && kR E 134
set_option maxHeartbeats 200000 in
theorem CNv.fl {E : List Nat} {F : List (Nat × Nat)} {X : Nat} {h h' : Hp} (H : CNv h X) (p : FL E F X h h') (z : X + 144 ≤ hZ h) (d : kCN E F = true) : CNv h' X := by
  unfold kCN at d
  simp only [Bool.and_eq_true] at d
  obtain ⟨⟨⟨d1, d2⟩, d3⟩, d4⟩ := d
  have q4 : ∀ k, gA h' (X + 121 + 13) k = gA h (X + 121 + 13) k := (p.ro z d4).1
  have q3 := (p.ro z d3).1
  unfold CNv
  rw [(p.fi z d1).1, (p.fi z d2).1]
  simp only [q3, q4]
  exact H
def kSF (E : List Nat) (F : List (Nat × Nat)) : Bool := kF E F 809 121 && kF E F 386 119 && kR E 120 && kR E 139
set_option maxHeartbeats 200000 in
theorem SF.fl {E : List Nat} {F : List (Nat × Nat)} {X : Nat} {h h' : Hp} (H : SF h X) (p : FL E F X h h') (z : X + 144 ≤ hZ h) (d : kSF E F = true) : SF h' X := by
  unfold kSF at d
  simp only [Bool.and_eq_true] at d
  obtain ⟨⟨⟨d1, d2⟩, d3⟩, d4⟩ := d
  have q4 : ∀ k, gA h' (X + 121 + 18) k = gA h (X + 121 + 18) k := (p.ro z d4).1
  have q3 := (p.ro z d3).1
  unfold SF
  rw [(p.fi z d1).1, (p.fi z d2).1]
  simp only [q3, q4]
  exact H
/-! queries keep the invariant -/
set_option maxHeartbeats 200000 in
theorem JC.q {h h' : Hp} {X : Nat} {c : Nat → Int} (J : JC h X c) (p : FL [] [] X h h') : JC h' X c :=
  ⟨J.x.fl J.b p (by decide +kernel) (by decide +kernel), J.m.fl p J.z (by decide +kernel), J.b.fl p (by decide +kernel) (by decide +kernel), J.tr.fl p J.z (by decide +kernel), J.tp.fl p J.z (by decide +kernel), J.mk.fl p J.z (by decide +kernel) (fun _ _ => rfl), J.rd.fl p J.z (by decide +kernel), J.mg.fl p J.z (by decide +kernel), J.cn.fl p J.z (by decide +kernel), J.sf.fl p J.z (by decide +kernel)⟩
/-- class and reference, one behind the other, answer alike and keep the invariant -/
def OK3 (f g : Hp → Option (Int × Hp)) (h : Hp) (X : Nat) : Prop := ∃ v h1 h2, f h = some (v, h1) ∧ g h1 = some (v, h2) ∧ Inv h2 X
set_option maxHeartbeats 200000 in
theorem ok3 {f g : Hp → Option (Int × Hp)} {h : Hp} {X : Nat} {c : Nat → Int} (I : Inv h X) (J : JC h X c) (o : OK2 f g h X) : OK3 f g h X := by
  obtain ⟨st, r, ⟨h1, e1, e2, e3⟩, o2⟩ := o
  obtain ⟨h2, e4, e5, e6⟩ := o2 h1 e2
  obtain ⟨c0, J0, i1, i2, i3⟩ := I
  have n0 : ¬ sc X X := by unfold sc; omega
  have n1 : ¬ sc X (X + 121) := by unfold sc; omega
  refine ⟨r, h1, h2, e1, e4, c, J.q ((fl_q e2).tr (fl_m e5)), ?_, ?_, ?_⟩
  · rw [e6, e5.i n0 (fun z => by unfold pM at z; omega), e3]
  · rw [e5.j n0, e5.j n1, e2.j n0, e2.j n1]; exact i2
  · rw [e5.j n0, e5.j n1, e2.j n0, e2.j n1]; exact i3
