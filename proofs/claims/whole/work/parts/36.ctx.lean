/-! THE REFERENCE's objects: M + i (written by wip/whole/g36.py) -/
def mT : List (Nat × Nat) := [(12, 0), (21, 4), (21, 4), (22, 240), (20, 900), (21, 1850), (22, 16), (21, 80), (21, 80), (21, 80), (21, 289), (21, 8), (21, 8), (21, 8), (21, 6), (21, 80), (21, 80), (21, 256), (21, 8), (21, 17), (21, 17), (21, 8), (21, 8)]
def mR : List (Nat × Nat) := [(772, 1), (773, 2), (774, 3), (775, 4), (788, 5), (789, 6), (791, 7), (792, 8), (793, 9), (795, 10), (796, 11), (797, 12), (798, 13), (801, 14), (802, 15), (803, 16), (807, 17), (808, 18), (810, 19), (811, 20), (814, 21), (815, 22)]
def MS (h : Hp) (M : Nat) : Prop := (∀ i, i < 23 → hK h (M + i) = mT.getD i (99, 0)) ∧ (∀ q ∈ mR, gR h q.1 M = some (M + q.2))
set_option maxHeartbeats 200000 in
theorem MS.k0 {h : Hp} {M : Nat} (H : MS h M) : hK h M = (12, 0) := H.1 0 (by decide)
set_option maxHeartbeats 200000 in
theorem MS.k1 {h : Hp} {M : Nat} (H : MS h M) : hK h (M + 1) = (21, 4) := H.1 1 (by decide)
set_option maxHeartbeats 200000 in
theorem MS.k2 {h : Hp} {M : Nat} (H : MS h M) : hK h (M + 2) = (21, 4) := H.1 2 (by decide)
set_option maxHeartbeats 200000 in
theorem MS.k3 {h : Hp} {M : Nat} (H : MS h M) : hK h (M + 3) = (22, 240) := H.1 3 (by decide)
set_option maxHeartbeats 200000 in
theorem MS.k4 {h : Hp} {M : Nat} (H : MS h M) : hK h (M + 4) = (20, 900) := H.1 4 (by decide)
set_option maxHeartbeats 200000 in
theorem MS.k5 {h : Hp} {M : Nat} (H : MS h M) : hK h (M + 5) = (21, 1850) := H.1 5 (by decide)
set_option maxHeartbeats 200000 in
theorem MS.k6 {h : Hp} {M : Nat} (H : MS h M) : hK h (M + 6) = (22, 16) := H.1 6 (by decide)
set_option maxHeartbeats 200000 in
theorem MS.k7 {h : Hp} {M : Nat} (H : MS h M) : hK h (M + 7) = (21, 80) := H.1 7 (by decide)
set_option maxHeartbeats 200000 in
theorem MS.k8 {h : Hp} {M : Nat} (H : MS h M) : hK h (M + 8) = (21, 80) := H.1 8 (by decide)
set_option maxHeartbeats 200000 in
theorem MS.k9 {h : Hp} {M : Nat} (H : MS h M) : hK h (M + 9) = (21, 80) := H.1 9 (by decide)
set_option maxHeartbeats 200000 in
theorem MS.k10 {h : Hp} {M : Nat} (H : MS h M) : hK h (M + 10) = (21, 289) := H.1 10 (by decide)
set_option maxHeartbeats 200000 in
theorem MS.k11 {h : Hp} {M : Nat} (H : MS h M) : hK h (M + 11) = (21, 8) := H.1 11 (by decide)
set_option maxHeartbeats 200000 in
theorem MS.k12 {h : Hp} {M : Nat} (H : MS h M) : hK h (M + 12) = (21, 8) := H.1 12 (by decide)
set_option maxHeartbeats 200000 in
theorem MS.k13 {h : Hp} {M : Nat} (H : MS h M) : hK h (M + 13) = (21, 8) := H.1 13 (by decide)
set_option maxHeartbeats 200000 in
theorem MS.k14 {h : Hp} {M : Nat} (H : MS h M) : hK h (M + 14) = (21, 6) := H.1 14 (by decide)
set_option maxHeartbeats 200000 in
theorem MS.k15 {h : Hp} {M : Nat} (H : MS h M) : hK h (M + 15) = (21, 80) := H.1 15 (by decide)
set_option maxHeartbeats 200000 in
theorem MS.k16 {h : Hp} {M : Nat} (H : MS h M) : hK h (M + 16) = (21, 80) := H.1 16 (by decide)
set_option maxHeartbeats 200000 in
theorem MS.k17 {h : Hp} {M : Nat} (H : MS h M) : hK h (M + 17) = (21, 256) := H.1 17 (by decide)
set_option maxHeartbeats 200000 in
theorem MS.k18 {h : Hp} {M : Nat} (H : MS h M) : hK h (M + 18) = (21, 8) := H.1 18 (by decide)
set_option maxHeartbeats 200000 in
theorem MS.k19 {h : Hp} {M : Nat} (H : MS h M) : hK h (M + 19) = (21, 17) := H.1 19 (by decide)
set_option maxHeartbeats 200000 in
theorem MS.k20 {h : Hp} {M : Nat} (H : MS h M) : hK h (M + 20) = (21, 17) := H.1 20 (by decide)
set_option maxHeartbeats 200000 in
theorem MS.k21 {h : Hp} {M : Nat} (H : MS h M) : hK h (M + 21) = (21, 8) := H.1 21 (by decide)
set_option maxHeartbeats 200000 in
theorem MS.k22 {h : Hp} {M : Nat} (H : MS h M) : hK h (M + 22) = (21, 8) := H.1 22 (by decide)
set_option maxHeartbeats 200000 in
theorem MS.r772 {h : Hp} {M : Nat} (H : MS h M) : gR h 772 M = some (M + 1) := H.2 (772, 1) (by decide)
set_option maxHeartbeats 200000 in
theorem MS.r773 {h : Hp} {M : Nat} (H : MS h M) : gR h 773 M = some (M + 2) := H.2 (773, 2) (by decide)
set_option maxHeartbeats 200000 in
theorem MS.r774 {h : Hp} {M : Nat} (H : MS h M) : gR h 774 M = some (M + 3) := H.2 (774, 3) (by decide)
set_option maxHeartbeats 200000 in
theorem MS.r775 {h : Hp} {M : Nat} (H : MS h M) : gR h 775 M = some (M + 4) := H.2 (775, 4) (by decide)
set_option maxHeartbeats 200000 in
theorem MS.r788 {h : Hp} {M : Nat} (H : MS h M) : gR h 788 M = some (M + 5) := H.2 (788, 5) (by decide)
set_option maxHeartbeats 200000 in
theorem MS.r789 {h : Hp} {M : Nat} (H : MS h M) : gR h 789 M = some (M + 6) := H.2 (789, 6) (by decide)
set_option maxHeartbeats 200000 in
theorem MS.r791 {h : Hp} {M : Nat} (H : MS h M) : gR h 791 M = some (M + 7) := H.2 (791, 7) (by decide)
set_option maxHeartbeats 200000 in
theorem MS.r792 {h : Hp} {M : Nat} (H : MS h M) : gR h 792 M = some (M + 8) := H.2 (792, 8) (by decide)
set_option maxHeartbeats 200000 in
theorem MS.r793 {h : Hp} {M : Nat} (H : MS h M) : gR h 793 M = some (M + 9) := H.2 (793, 9) (by decide)
set_option maxHeartbeats 200000 in
theorem MS.r795 {h : Hp} {M : Nat} (H : MS h M) : gR h 795 M = some (M + 10) := H.2 (795, 10) (by decide)
set_option maxHeartbeats 200000 in
theorem MS.r796 {h : Hp} {M : Nat} (H : MS h M) : gR h 796 M = some (M + 11) := H.2 (796, 11) (by decide)
set_option maxHeartbeats 200000 in
theorem MS.r797 {h : Hp} {M : Nat} (H : MS h M) : gR h 797 M = some (M + 12) := H.2 (797, 12) (by decide)
set_option maxHeartbeats 200000 in
theorem MS.r798 {h : Hp} {M : Nat} (H : MS h M) : gR h 798 M = some (M + 13) := H.2 (798, 13) (by decide)
set_option maxHeartbeats 200000 in
theorem MS.r801 {h : Hp} {M : Nat} (H : MS h M) : gR h 801 M = some (M + 14) := H.2 (801, 14) (by decide)
set_option maxHeartbeats 200000 in
theorem MS.r802 {h : Hp} {M : Nat} (H : MS h M) : gR h 802 M = some (M + 15) := H.2 (802, 15) (by decide)
set_option maxHeartbeats 200000 in
theorem MS.r803 {h : Hp} {M : Nat} (H : MS h M) : gR h 803 M = some (M + 16) := H.2 (803, 16) (by decide)
set_option maxHeartbeats 200000 in
theorem MS.r807 {h : Hp} {M : Nat} (H : MS h M) : gR h 807 M = some (M + 17) := H.2 (807, 17) (by decide)
set_option maxHeartbeats 200000 in
theorem MS.r808 {h : Hp} {M : Nat} (H : MS h M) : gR h 808 M = some (M + 18) := H.2 (808, 18) (by decide)
set_option maxHeartbeats 200000 in
theorem MS.r810 {h : Hp} {M : Nat} (H : MS h M) : gR h 810 M = some (M + 19) := H.2 (810, 19) (by decide)
set_option maxHeartbeats 200000 in
theorem MS.r811 {h : Hp} {M : Nat} (H : MS h M) : gR h 811 M = some (M + 20) := H.2 (811, 20) (by decide)
set_option maxHeartbeats 200000 in
theorem MS.r814 {h : Hp} {M : Nat} (H : MS h M) : gR h 814 M = some (M + 21) := H.2 (814, 21) (by decide)
set_option maxHeartbeats 200000 in
theorem MS.r815 {h : Hp} {M : Nat} (H : MS h M) : gR h 815 M = some (M + 22) := H.2 (815, 22) (by decide)
/-! WHAT A QUERY MAY CHANGE: scratch objects sc, and the int fields pf -/
def sc (X a : Nat) : Prop := (X + 81 ≤ a ∧ a ≤ X + 98) ∨ a = X + 100 ∨ a = X + 101 ∨ a = X + 103 ∨ a = X + 106 ∨ a = X + 107 ∨ (X + 114 ≤ a ∧ a ≤ X + 116) ∨ (X + 128 ≤ a ∧ a ≤ X + 133) ∨ a = X + 135 ∨ a = X + 137 ∨ a = X + 138 ∨ a = X + 140 ∨ a = X + 141 ∨ a = X + 142
def QR (pf : Nat → Nat → Prop) (X : Nat) (h h' : Hp) : Prop := hZ h' = hZ h ∧ hK h' = hK h ∧ ∀ a, ¬ sc X a → (∀ f, gJ h' f a = gJ h f a ∧ gR h' f a = gR h f a ∧ (¬ pf f a → gI h' f a = gI h f a)) ∧ (∀ i, gA h' a i = gA h a i ∧ gB h' a i = gB h a i ∧ gC h' a i = gC h a i)
def pX (X : Nat) (f a : Nat) : Prop := (a = X ∧ f = 721) ∨ (a = X + 99 ∧ f = 386)
def pM (X : Nat) (f a : Nat) : Prop := a = X + 121 ∧ (f = 768 ∨ f = 769 ∨ f = 799 ∨ f = 804 ∨ f = 805 ∨ f = 812)
abbrev QX (X : Nat) (h h' : Hp) : Prop := QR (pX X) X h h'
abbrev QM (X : Nat) (h h' : Hp) : Prop := QR (pM X) X h h'
set_option maxHeartbeats 200000 in
theorem QR.rf {pf : Nat → Nat → Prop} {X : Nat} (h : Hp) : QR pf X h h := ⟨rfl, rfl, fun _ _ => ⟨fun _ => ⟨rfl, rfl, fun _ => rfl⟩, fun _ => ⟨rfl, rfl, rfl⟩⟩⟩
set_option maxHeartbeats 200000 in
theorem QR.tr {pf : Nat → Nat → Prop} {X : Nat} {h h1 h2 : Hp} (p : QR pf X h h1) (q : QR pf X h1 h2) : QR pf X h h2 :=
  ⟨q.1.trans p.1, q.2.1.trans p.2.1, fun a w => ⟨fun f => ⟨((q.2.2 a w).1 f).1.trans ((p.2.2 a w).1 f).1, ((q.2.2 a w).1 f).2.1.trans ((p.2.2 a w).1 f).2.1, fun n => (((q.2.2 a w).1 f).2.2 n).trans (((p.2.2 a w).1 f).2.2 n)⟩, fun i => ⟨((q.2.2 a w).2 i).1.trans ((p.2.2 a w).2 i).1, ((q.2.2 a w).2 i).2.1.trans ((p.2.2 a w).2 i).2.1, ((q.2.2 a w).2 i).2.2.trans ((p.2.2 a w).2 i).2.2⟩⟩⟩
set_option maxHeartbeats 200000 in
theorem QR.z {pf : Nat → Nat → Prop} {X : Nat} {h h' : Hp} (p : QR pf X h h') : hZ h' = hZ h := p.1
set_option maxHeartbeats 200000 in
theorem QR.k {pf : Nat → Nat → Prop} {X : Nat} {h h' : Hp} (p : QR pf X h h') : hK h' = hK h := p.2.1
set_option maxHeartbeats 200000 in
theorem QR.ka {pf : Nat → Nat → Prop} {X : Nat} {h h' : Hp} (p : QR pf X h h') {a : Nat} {v : Nat × Nat} (e : hK h a = v) : hK h' a = v := by rw [p.2.1]; exact e
set_option maxHeartbeats 200000 in
theorem QR.j {pf : Nat → Nat → Prop} {X : Nat} {h h' : Hp} (p : QR pf X h h') {f a : Nat} (w : ¬ sc X a) : gJ h' f a = gJ h f a := ((p.2.2 a w).1 f).1
set_option maxHeartbeats 200000 in
theorem QR.r {pf : Nat → Nat → Prop} {X : Nat} {h h' : Hp} (p : QR pf X h h') {f a : Nat} (w : ¬ sc X a) : gR h' f a = gR h f a := ((p.2.2 a w).1 f).2.1
set_option maxHeartbeats 200000 in
theorem QR.i {pf : Nat → Nat → Prop} {X : Nat} {h h' : Hp} (p : QR pf X h h') {f a : Nat} (w : ¬ sc X a) (n : ¬ pf f a) : gI h' f a = gI h f a := ((p.2.2 a w).1 f).2.2 n
set_option maxHeartbeats 200000 in
theorem QR.a {pf : Nat → Nat → Prop} {X : Nat} {h h' : Hp} (p : QR pf X h h') {a i : Nat} (w : ¬ sc X a) : gA h' a i = gA h a i := ((p.2.2 a w).2 i).1
set_option maxHeartbeats 200000 in
theorem QR.b {pf : Nat → Nat → Prop} {X : Nat} {h h' : Hp} (p : QR pf X h h') {a i : Nat} (w : ¬ sc X a) : gB h' a i = gB h a i := ((p.2.2 a w).2 i).2.1
set_option maxHeartbeats 200000 in
theorem QR.c {pf : Nat → Nat → Prop} {X : Nat} {h h' : Hp} (p : QR pf X h h') {a i : Nat} (w : ¬ sc X a) : gC h' a i = gC h a i := ((p.2.2 a w).2 i).2.2
set_option maxHeartbeats 200000 in
theorem QR.af {pf : Nat → Nat → Prop} {X : Nat} {h h' : Hp} (p : QR pf X h h') {a : Nat} (w : ¬ sc X a) : gA h' a = gA h a := funext fun _ => p.a w
set_option maxHeartbeats 200000 in
theorem q_on {pf : Nat → Nat → Prop} {X : Nat} {W : Nat → Prop} {h h' : Hp} (p : On W h h') (m : ∀ a, W a → sc X a) : QR pf X h h' :=
  ⟨p.1, p.2.1, fun a w => ⟨fun f => ⟨p.j (fun z => w (m a z)), p.r (fun z => w (m a z)), fun _ => p.i (fun z => w (m a z))⟩, fun i => ⟨p.a (fun z => w (m a z)), p.b (fun z => w (m a z)), p.c (fun z => w (m a z))⟩⟩⟩
set_option maxHeartbeats 200000 in
theorem q_pI {pf : Nat → Nat → Prop} {X : Nat} (h : Hp) {f a : Nat} {v : Int} (w : pf f a) : QR pf X h (pI h f a v) :=
  ⟨rfl, rfl, fun b hb => ⟨fun f' => ⟨rfl, rfl, fun n => by
    rw [gI_pI]
    by_cases e : f' = f ∧ b = a
    · exact absurd w (e.1 ▸ e.2 ▸ n)
    · rw [if_neg e]⟩, fun _ => ⟨rfl, rfl, rfl⟩⟩⟩
set_option maxHeartbeats 200000 in
theorem q_sA {pf : Nat → Nat → Prop} {X : Nat} (h : Hp) {a : Nat} {i v : Int} (w : sc X a) : QR pf X h (sA h a i v) := q_on (W := fun b => b = a) (on_sA h rfl) (fun b hb => by rw [hb]; exact w)
/-! what a query finds: the class's context, the reference's -/
def SO (X S : Nat) : Prop := (X + 17 ≤ S ∧ S + 27 ≤ X + 76) ∨ X + 144 ≤ S
def LO (X R : Nat) : Prop := (X + 72 ≤ R ∧ R + 4 ≤ X + 76) ∨ X + 144 ≤ R
def CX (h : Hp) (X : Nat) (c : Nat → Int) : Prop := XS h X ∧ WF c ∧ gI h 719 X = c 0 ∧ (∃ S, gR h 717 X = some S ∧ SV h S c ∧ SO X S) ∧ (∃ R, gR h 718 X = some R ∧ LV h R c ∧ LO X R)
def CM (h : Hp) (X : Nat) (c : Nat → Int) : Prop := MS h (X + 121) ∧ gA h (X + 121 + 5) = c ∧ WF c
set_option maxHeartbeats 200000 in
theorem RVa.q {pf : Nat → Nat → Prop} {X : Nat} {h h' : Hp} {a q : Nat} {n : Int} {L : Int → Int} (r : RVa h a q n L) (p : QR pf X h h') (wa : ¬ sc X a) (wq : ¬ sc X q) (n1 : ¬ pf 385 a) (n2 : ¬ pf 386 a) : RVa h' a q n L := by
  obtain ⟨r1, r2, r3, r4, r5, r6, r7, r8, r9, r10, r11⟩ := r
  unfold RVa
  rw [p.k, p.i wa n2, p.i wa n1, p.r wa]
  exact ⟨r1, r2, r3, r4, r5, r6, r7, r8, r9, r10, fun k k0 k8 => by rw [p.a wq]; exact r11 k k0 k8⟩
set_option maxHeartbeats 200000 in
theorem JV.q {pf : Nat → Nat → Prop} {X : Nat} {h h' : Hp} {a : Nat} {c : Nat → Int} {j : Int} (v : JV h a c j) (p : QR pf X h h') (w : ¬ sc X a) (n : ∀ f, ¬ pf f a) : JV h' a c j := by
  unfold JV
  rw [p.i w (n _), p.i w (n _), p.i w (n _), p.i w (n _), p.i w (n _), p.i w (n _), p.i w (n _), p.i w (n _), p.i w (n _), p.i w (n _)]
  exact v
set_option maxHeartbeats 200000 in
theorem SV.q {pf : Nat → Nat → Prop} {X : Nat} {h h' : Hp} {S : Nat} {c : Nat → Int} (v : SV h S c) (p : QR pf X h h') (w : ∀ a, S ≤ a → a < S + 27 → ¬ sc X a) (n : ∀ f a, S ≤ a → a < S + 27 → ¬ pf f a) (w2 : c 2 ≤ 8) : SV h' S c := by
  obtain ⟨v1, v2, v3, v4, v5, v6, v7, v8, v9, v10⟩ := v
  have w0 := w S (by omega) (by omega)
  have n0 := fun f => n f S (by omega) (by omega)
  refine ⟨p.ka v1, by rw [p.r w0]; exact v2, by rw [p.r w0]; exact v3, p.ka v4, p.ka v5, by rw [p.i w0 (n0 _)]; exact v6, by rw [p.i w0 (n0 _)]; exact v7, fun s s0 s8 => ?_, fun j j0 j8 => ?_, fun j j0 j8 => ?_⟩
  · obtain ⟨q1, q2, q3, q4⟩ := v8 s s0 s8
    exact ⟨by rw [p.c (w _ (by omega) (by omega))]; exact q1, q2.q p (w _ (by omega) (by omega)) (w _ (by omega) (by omega)) (n _ _ (by omega) (by omega)) (n _ _ (by omega) (by omega)), p.ka q3, by rw [p.i (w _ (by omega) (by omega)) (n _ _ (by omega) (by omega))]; exact q4⟩
  · obtain ⟨q1, q2⟩ := v9 j j0 j8
    exact ⟨by rw [p.c (w _ (by omega) (by omega))]; exact q1, p.ka q2⟩
  · exact (v10 j j0 j8).q p (w _ (by omega) (by omega)) (fun f => n f _ (by omega) (by omega))
set_option maxHeartbeats 200000 in
theorem LV.q {pf : Nat → Nat → Prop} {X : Nat} {h h' : Hp} {R : Nat} {c : Nat → Int} (v : LV h R c) (p : QR pf X h h') (w : ∀ a, R ≤ a → a < R + 4 → ¬ sc X a) (n : ∀ f a, R ≤ a → a < R + 4 → ¬ pf f a) : LV h' R c := by
  obtain ⟨v1, v2, v3, v4, v5, v6, v7, v8, v9⟩ := v
  have w0 := w R (by omega) (by omega)
  have w1 := w (R + 1) (by omega) (by omega)
  have w2 := w (R + 2) (by omega) (by omega)
  have w3 := w (R + 3) (by omega) (by omega)
  refine ⟨p.ka v1, by rw [p.r w0]; exact v2, by rw [p.r w0]; exact v3, by rw [p.r w0]; exact v4, p.ka v5, p.ka v6, p.ka v7, by rw [p.i w0 (n 67 R (by omega) (by omega))]; exact v8, fun k k0 k8 => ?_⟩
  rw [p.a w1, p.a w2, p.a w3]
  exact v9 k k0 k8
set_option maxHeartbeats 200000 in
theorem SO.w {X S : Nat} (o : SO X S) : ∀ a, S ≤ a → a < S + 27 → ¬ sc X a := fun a h1 h2 => by unfold SO at o; unfold sc; omega
set_option maxHeartbeats 200000 in
theorem LO.w {X R : Nat} (o : LO X R) : ∀ a, R ≤ a → a < R + 4 → ¬ sc X a := fun a h1 h2 => by unfold LO at o; unfold sc; omega
/-- the fields that a query may change are none of a shop's, a law's, nor of the class's static ones -/
def PO (pf : Nat → Nat → Prop) (X : Nat) : Prop := ∀ f a, pf f a → (a = X ∧ f = 721) ∨ (a = X + 99 ∧ f = 386) ∨ a = X + 121
set_option maxHeartbeats 200000 in
theorem po_X {X : Nat} : PO (pX X) X := fun f a h => by unfold pX at h; omega
set_option maxHeartbeats 200000 in
theorem po_M {X : Nat} : PO (pM X) X := fun f a h => by unfold pM at h; omega
set_option maxHeartbeats 200000 in
theorem XS.q {pf : Nat → Nat → Prop} {X : Nat} {h h' : Hp} (H : XS h X) (p : QR pf X h h') (o : PO pf X) : XS h' X := by
  refine ⟨fun i hi => by rw [p.k]; exact H.1 i hi, fun q hq => ?_, fun q hq => ?_, ?_⟩
  · have e : ¬ sc X (X + q.2.1) := by
      have : ∀ q ∈ rT, q.2.1 = 0 ∨ q.2.1 = 2 ∨ q.2.1 = 4 ∨ q.2.1 = 6 ∨ q.2.1 = 8 ∨ q.2.1 = 10 ∨ q.2.1 = 12 ∨ q.2.1 = 44 ∨ q.2.1 = 99 ∨ q.2.1 = 104 ∨ q.2.1 = 111 ∨ q.2.1 = 113 ∨ q.2.1 = 117 ∨ q.2.1 = 119 := by decide
      have := this q hq
      unfold sc
      omega
    rw [p.r e]; exact H.2.1 q hq
  · have e : ¬ sc X (X + q.1) := by
      have : ∀ q ∈ cT, q.1 = 1 ∨ q.1 = 76 ∨ q.1 = 80 := by decide
      have := this q hq
      unfold sc
      omega
    rw [p.c e]; exact H.2.2.1 q hq
  · rw [p.i (show ¬ sc X (X + 99) by unfold sc; omega) (fun z => by have := o _ _ z; omega), p.i (show ¬ sc X (X + 111) by unfold sc; omega) (fun z => by have := o _ _ z; omega), p.i (show ¬ sc X (X + 117) by unfold sc; omega) (fun z => by have := o _ _ z; omega), p.i (show ¬ sc X (X + 119) by unfold sc; omega) (fun z => by have := o _ _ z; omega)]
    exact H.2.2.2
set_option maxHeartbeats 200000 in
theorem MS.q {pf : Nat → Nat → Prop} {X : Nat} {h h' : Hp} (H : MS h (X + 121)) (p : QR pf X h h') : MS h' (X + 121) := by
  refine ⟨fun i hi => by rw [p.k]; exact H.1 i hi, fun q hq => ?_⟩
  rw [p.r (show ¬ sc X (X + 121) by unfold sc; omega)]; exact H.2 q hq
set_option maxHeartbeats 200000 in
theorem CX.q {pf : Nat → Nat → Prop} {X : Nat} {h h' : Hp} {c : Nat → Int} (H : CX h X c) (p : QR pf X h h') (o : PO pf X) : CX h' X c := by
  obtain ⟨h1, h2, h3, ⟨S, s1, s2, s3⟩, R, r1, r2, r3⟩ := H
  have e0 : ¬ sc X X := by unfold sc; omega
  refine ⟨h1.q p o, h2, ?_, ⟨S, ?_, s2.q p s3.w (fun f a q1 q2 z => ?_) h2.nj.2, s3⟩, R, ?_, r2.q p r3.w (fun f a q1 q2 z => ?_), r3⟩
  · rw [p.i e0 (fun z => by have := o _ _ z; omega)]; exact h3
  · rw [p.r e0]; exact s1
  · have := o _ _ z; unfold SO at s3; omega
  · rw [p.r e0]; exact r1
  · have := o _ _ z; unfold LO at r3; omega
set_option maxHeartbeats 200000 in
theorem CM.q {pf : Nat → Nat → Prop} {X : Nat} {h h' : Hp} {c : Nat → Int} (H : CM h X c) (p : QR pf X h h') : CM h' X c :=
  ⟨H.1.q p, by rw [p.af (show ¬ sc X (X + 121 + 5) by unfold sc; omega)]; exact H.2.1, H.2.2⟩
/-! plumbing of the class -/
set_option maxHeartbeats 200000 in
theorem bd2_id {α β : Type} (v : Option (α × β)) : bd2 v (fun a b => some (a, b)) = v := by cases v <;> rfl
set_option maxHeartbeats 200000 in
theorem bd_id {α : Type} (v : Option α) : bd v (fun a => some a) = v := by cases v <;> rfl
set_option maxHeartbeats 200000 in
theorem xIn1 {a b d : Int} (h1 : b ≤ a) (h2 : a ≤ d) : fX11_within a b d = some 1 := by
  unfold fX11_within
  exact iteF (by omega) (iteF (by omega) rfl)
set_option maxHeartbeats 200000 in
theorem xIn0 {a b d : Int} (h : a < b ∨ d < a) : fX11_within a b d = some 0 := by
  unfold fX11_within
  by_cases h1 : a < b
  · exact iteT h1 rfl
  · exact iteF h1 (iteT (by omega) rfl)
set_option maxHeartbeats 200000 in
theorem xTr1 {a : Int} (h1 : 0 ≤ a) (h2 : a < 4) : fX11_isTray a = some 1 := bdg (xIn1 h1 (by omega)) rfl
set_option maxHeartbeats 200000 in
theorem xTr0 {a : Int} (h : a < 0 ∨ 4 ≤ a) : fX11_isTray a = some 0 := bdg (xIn0 (by omega)) rfl
set_option maxHeartbeats 200000 in
theorem xLr1 {a : Int} (h1 : 0 ≤ a) (h2 : a ≤ 26) : fX11_isLetterOrRest a = some 1 := bdg (xIn1 h1 (by omega)) rfl
set_option maxHeartbeats 200000 in
theorem xLr0 {a : Int} (h : a < 0 ∨ 26 < a) : fX11_isLetterOrRest a = some 0 := bdg (xIn0 (by omega)) rfl
set_option maxHeartbeats 200000 in
theorem CX.k {h : Hp} {X : Nat} {c : Nat → Int} (H : CX h X c) : (hK h X).1 = 11 := by rw [H.1.k0]
set_option maxHeartbeats 200000 in
theorem CX.wf {h : Hp} {X : Nat} {c : Nat → Int} (H : CX h X c) : WF c := H.2.1
set_option maxHeartbeats 200000 in
theorem xJr1 {h : Hp} {X : Nat} {c : Nat → Int} {a : Int} (H : CX h X c) (h1 : 0 ≤ a) (h2 : a < c 2) : fX11_isJar h X a = some 1 := by
  obtain ⟨S, s1, s2, s3⟩ := H.2.2.2.1
  have hj := H.wf.nj
  unfold fX11_isJar
  refine gdg H.k (nng s1 (gdg (by rw [s2.1]) ?_))
  rw [s2.2.2.2.2.2.2.1, w32_id (by omega) (by omega)]
  exact bdg (xIn1 h1 (by omega)) rfl
set_option maxHeartbeats 200000 in
theorem xJr0 {h : Hp} {X : Nat} {c : Nat → Int} {a : Int} (H : CX h X c) (h1 : a < 0 ∨ c 2 ≤ a) : fX11_isJar h X a = some 0 := by
  obtain ⟨S, s1, s2, s3⟩ := H.2.2.2.1
  have hj := H.wf.nj
  unfold fX11_isJar
  refine gdg H.k (nng s1 (gdg (by rw [s2.1]) ?_))
  rw [s2.2.2.2.2.2.2.1, w32_id (by omega) (by omega)]
  exact bdg (xIn0 (by omega)) rfl
set_option maxHeartbeats 200000 in
theorem xSn1 {h : Hp} {X : Nat} {c : Nat → Int} {a : Int} (H : CX h X c) (h1 : 0 ≤ a) (h2 : a < c 1) : fX11_isSound h X a = some 1 := by
  obtain ⟨S, s1, s2, s3⟩ := H.2.2.2.1
  have hj := H.wf.ns
  unfold fX11_isSound
  refine gdg H.k (nng s1 (gdg (by rw [s2.1]) ?_))
  rw [s2.2.2.2.2.2.1, w32_id (by omega) (by omega)]
  exact bdg (xIn1 h1 (by omega)) rfl
set_option maxHeartbeats 200000 in
theorem xSn0 {h : Hp} {X : Nat} {c : Nat → Int} {a : Int} (H : CX h X c) (h1 : a < 0 ∨ c 1 ≤ a) : fX11_isSound h X a = some 0 := by
  obtain ⟨S, s1, s2, s3⟩ := H.2.2.2.1
  have hj := H.wf.ns
  unfold fX11_isSound
  refine gdg H.k (nng s1 (gdg (by rw [s2.1]) ?_))
  rw [s2.2.2.2.2.2.1, w32_id (by omega) (by omega)]
  exact bdg (xIn0 (by omega)) rfl
/-- what a query of the class gives: status st, answer r -/
def XR (f : Option (Int × Hp)) (h : Hp) (X : Nat) (st r : Int) : Prop := ∃ h1, f = some (r, h1) ∧ QX X h h1 ∧ gI h1 721 X = st
def MR (f : Option (Int × Hp)) (h : Hp) (X : Nat) (st r : Int) : Prop := ∃ h1, f = some (r, h1) ∧ QM X h h1 ∧ gI h1 768 (X + 121) = st
set_option maxHeartbeats 200000 in
theorem XR.of {f g : Option (Int × Hp)} {h : Hp} {X : Nat} {st r : Int} (e : f = g) (p : XR g h X st r) : XR f h X st r := e ▸ p
set_option maxHeartbeats 200000 in
theorem MR.of {f g : Option (Int × Hp)} {h : Hp} {X : Nat} {st r : Int} (e : f = g) (p : MR g h X st r) : MR f h X st r := e ▸ p
set_option maxHeartbeats 200000 in
theorem xr_re {h h1 : Hp} {X : Nat} {st : Int} (k : (hK h1 X).1 = 11) (q : QX X h h1) (rs : rg st) : XR (fX11_refuse h1 X st) h X st (-1) :=
  ⟨pI h1 721 X st, gdg k (ltg rfl), q.tr (q_pI h1 (Or.inl ⟨rfl, rfl⟩)), gI_pIs rs⟩
set_option maxHeartbeats 200000 in
theorem xr_an {h h1 : Hp} {X : Nat} {v : Int} (k : (hK h1 X).1 = 11) (q : QX X h h1) : XR (fX11_answer h1 X v) h X 0 v :=
  ⟨pI h1 721 X 0, gdg k (ltg rfl), q.tr (q_pI h1 (Or.inl ⟨rfl, rfl⟩)), gI_pIs (rg_lit rfl)⟩
/-! plumbing of the reference: every query writes thrown and status first -/
def m0 (h : Hp) (X : Nat) : Hp := pI (pI h 769 (X + 121) 0) 768 (X + 121) 0
set_option maxHeartbeats 200000 in
theorem m0_q (h : Hp) (X : Nat) : QM X h (m0 h X) := (q_pI h (show pM X 769 (X + 121) from ⟨rfl, by omega⟩)).tr (q_pI _ (show pM X 768 (X + 121) from ⟨rfl, by omega⟩))
set_option maxHeartbeats 200000 in
theorem m0_s (h : Hp) (X : Nat) : gI (m0 h X) 768 (X + 121) = 0 := gI_pIs (rg_lit rfl)
set_option maxHeartbeats 200000 in
theorem MS.k {h : Hp} {M : Nat} (H : MS h M) : (hK h M).1 = 12 := by rw [H.k0]
set_option maxHeartbeats 200000 in
theorem mr_re {h h1 : Hp} {X : Nat} {st : Int} (k : (hK h1 (X + 121)).1 = 12) (q : QM X h h1) (rs : rg st) : MR (fX12_refuse h1 (X + 121) st) h X st (-1) :=
  ⟨pI h1 768 (X + 121) st, gdg k (ltg rfl), q.tr (q_pI h1 ⟨rfl, by omega⟩), gI_pIs rs⟩
set_option maxHeartbeats 200000 in
theorem mr_some {h h1 : Hp} {X : Nat} {st v : Int} (q : QM X h h1) (s : gI h1 768 (X + 121) = st) : MR (some (v, h1)) h X st v := ⟨h1, rfl, q, s⟩
set_option maxHeartbeats 200000 in
theorem rJr1 {c : Nat → Int} {a : Int} (w : WF c) (h1 : 0 ≤ a) (h2 : a < c 2) : fX12_isJarAt c a = some 1 := by
  have hj := w.nj
  have e : w32 (c 2 - 1) = c 2 - 1 := w32_id (by omega) (by omega)
  refine gdg (by omega) (bdg (q := 1) ?_ rfl)
  show fX12_isIn a 0 (w32 (c 2 - 1)) = _
  rw [e]; exact rIn1 h1 (by omega)
set_option maxHeartbeats 200000 in
theorem rJr0 {c : Nat → Int} {a : Int} (w : WF c) (h1 : a < 0 ∨ c 2 ≤ a) : fX12_isJarAt c a = some 0 := by
  have hj := w.nj
  have e : w32 (c 2 - 1) = c 2 - 1 := w32_id (by omega) (by omega)
  refine gdg (by omega) (bdg (q := 0) ?_ rfl)
  show fX12_isIn a 0 (w32 (c 2 - 1)) = _
  rw [e]; exact rIn0 (by omega)
set_option maxHeartbeats 200000 in
theorem rSn1 {c : Nat → Int} {a : Int} (w : WF c) (h1 : 0 ≤ a) (h2 : a < c 1) : fX12_isSoundAt c a = some 1 := by
  have hj := w.ns
  have e : w32 (c 1 - 1) = c 1 - 1 := w32_id (by omega) (by omega)
  refine gdg (by omega) (bdg (q := 1) ?_ rfl)
  show fX12_isIn a 0 (w32 (c 1 - 1)) = _
  rw [e]; exact rIn1 h1 (by omega)
set_option maxHeartbeats 200000 in
theorem rSn0 {c : Nat → Int} {a : Int} (w : WF c) (h1 : a < 0 ∨ c 1 ≤ a) : fX12_isSoundAt c a = some 0 := by
  have hj := w.ns
  have e : w32 (c 1 - 1) = c 1 - 1 := w32_id (by omega) (by omega)
  refine gdg (by omega) (bdg (q := 0) ?_ rfl)
  show fX12_isIn a 0 (w32 (c 1 - 1)) = _
  rw [e]; exact rIn0 (by omega)

