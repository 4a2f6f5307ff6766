/-! STATE: numbers that are letters: couples, beside, third, second (written by wip/whole/g65.py) -/
def glP (h : Hp) (X t : Nat) (lo : Int) (k : Nat) : Bool := decide (lo ≤ gB h (X + 121 + 3) (60 * t + k)) && decide (gB h (X + 121 + 3) (60 * t + k) ≤ 26)
def glB (h : Hp) (X t n : Nat) (lo : Int) : Bool := ab n (glP h X t lo)
set_option maxHeartbeats 200000 in
theorem glP_t {h : Hp} {X t k : Nat} {lo : Int} (q : glP h X t lo k = true) : lo ≤ gB h (X + 121 + 3) (60 * t + k) ∧ gB h (X + 121 + 3) (60 * t + k) ≤ 26 := by
  unfold glP at q
  simp only [Bool.and_eq_true, decide_eq_true_eq] at q
  exact q
set_option maxHeartbeats 200000 in
theorem glP_f {h : Hp} {X t k : Nat} {lo : Int} (q : glP h X t lo k = false) : gB h (X + 121 + 3) (60 * t + k) < lo ∨ 26 < gB h (X + 121 + 3) (60 * t + k) := by
  unfold glP at q
  simp only [Bool.and_eq_false_iff, decide_eq_false_iff_not] at q
  omega
set_option maxHeartbeats 200000 in
theorem glB_t {h : Hp} {X t n k : Nat} {lo : Int} (q : glB h X t n lo = true) (hk : k < n) : lo ≤ gB h (X + 121 + 3) (60 * t + k) ∧ gB h (X + 121 + 3) (60 * t + k) ≤ 26 := glP_t (ab_iff.mp q k hk)
set_option maxHeartbeats 200000 in
theorem xHold {h : Hp} {X t n : Nat} {lo : Int} (T : TRt h X t) (k : (hK h (X + 2 + 2 * t)).1 = 10) (r : gR h 640 (X + 2 + 2 * t) = some (X + 3 + 2 * t)) (k2 : hK h (X + 3 + 2 * t) = (22, 60)) (q : ¬ gA h (X + 121 + 2) t < 0) (hn : (n : Int) ≤ gA h (X + 121 + 2) t) :
    fX10_holdsOnly h (X + 2 + 2 * t) (n : Int) lo 26 = some (if glB h X t n lo then 1 else 0) := by
  have ti := tr_is T q
  unfold fX10_holdsOnly
  refine gdg k ?_
  rw [lt_d, if_pos (by omega)]
  refine (flag (fun fu v s => fX10_holdsOnly_b18 h (X + 2 + 2 * t) (n : Int) lo 26 fu s v) some n (glP h X t lo) (by omega) ?_ ?_ ?_ : _)
  · intro fu i hi
    have e5 : WE ((i : Int) + 1) := we (by omega) (by omega)
    show fX10_holdsOnly_b18 h (X + 2 + 2 * t) (n : Int) lo 26 (fu + 1) 1 (i : Int) = fX10_holdsOnly_b18 h (X + 2 + 2 * t) (n : Int) lo 26 fu _ _
    rw [fX10_holdsOnly_b18.eq_2]
    refine iteF (by omega) (iteT (by omega) (gdg k (nng r (gdg (by rw [k2]) (gdg (by rw [k2]; show 0 ≤ _ ∧ _ < (60 : Int); omega) ?_)))))
    have e9 := ti.2.2.2.2 i (by omega)
    rw [show ((i : Int)).toNat = i from rfl, e9]
    cases g : glP h X t lo i with
    | true =>
      have := glP_t g
      refine bdg (xIn1 this.1 this.2) ?_
      rw [lt_d, e5.e, if_pos rfl]
    | false =>
      have := glP_f g
      refine bdg (xIn0 this) ?_
      rw [lt_d, e5.e, if_neg (by decide)]
  · intro fu i hi
    show fX10_holdsOnly_b18 h (X + 2 + 2 * t) (n : Int) lo 26 (fu + 1) 0 (i : Int) = _
    rw [fX10_holdsOnly_b18.eq_2]
    exact iteT rfl (gdg (by omega) rfl)
  · intro fu
    show fX10_holdsOnly_b18 h (X + 2 + 2 * t) (n : Int) lo 26 (fu + 1) 1 (n : Int) = _
    rw [fX10_holdsOnly_b18.eq_2]
    exact iteF (by omega) (iteF (by omega) (gdg (by omega) rfl))
set_option maxHeartbeats 200000 in
theorem rNum {h' : Hp} {M : Nat} {t i : Int} (ms : MS h' M) (t0 : 0 ≤ t) (t4 : t < 4) (i0 : 0 ≤ i) (i8 : i < 60) : fX12_numberOf h' M t i = some (gB h' (M + 3) (60 * t.toNat + i.toNat)) := by
  have e1 : WE (60 * t) := we (by omega) (by omega)
  have e2 : WE (60 * t + i) := we (by omega) (by omega)
  unfold fX12_numberOf
  rw [e1.e, e2.e, show (60 * t + i).toNat = 60 * t.toNat + i.toNat by omega]
  exact gdg ms.k (nng ms.r774 (gdg (by rw [ms.k3]) (gdg (by rw [ms.k3]; show 0 ≤ _ ∧ _ < (240 : Int); omega) rfl)))
set_option maxHeartbeats 200000 in
theorem rWhy {h h' : Hp} {X n : Nat} {t lo : Int} (ms : MS h' (X + 121)) (e : ∀ q, gB h' (X + 121 + 3) q = gB h (X + 121 + 3) q) (t0 : 0 ≤ t) (t4 : t < 4) (n8 : n ≤ 60) : fX12_whyNoLetters h' (X + 121) t (n : Int) lo = some (if glB h X t.toNat n lo then 0 else 5) := by
  unfold fX12_whyNoLetters
  refine (fke (S := Unit) (fun fu v _ => fX12_whyNoLetters_b3 h' (X + 121) t (n : Int) lo fu v) some n (fun i _ => ab i (glP h X t.toNat lo) = true) (if glB h X t.toNat n lo then 0 else 5) 0 () (by omega) rfl (by omega) ?_ ?_ : _)
  · intro fu i _ hi hI
    have e5 : WE ((i : Int) + 1) := we (by omega) (by omega)
    have rn := rNum (i := (i : Int)) ms t0 t4 (by omega) (by omega)
    rw [e, show ((i : Int)).toNat = i from rfl] at rn
    cases g : glP h X t.toNat lo i with
    | true =>
      have b := glP_t g
      left
      refine ⟨(), ?_, ?_⟩
      · show (ab i (glP h X t.toNat lo) && glP h X t.toNat lo i) = true
        rw [hI, g]; rfl
      · show fX12_whyNoLetters_b3 h' (X + 121) t (n : Int) lo (fu + 1) (i : Int) = fX12_whyNoLetters_b3 h' (X + 121) t (n : Int) lo fu ((i : Int) + 1)
        rw [fX12_whyNoLetters_b3.eq_2]
        refine iteT (by omega) (gdg ms.k (bdg rn (bdg (rIn1 b.1 b.2) (iteF (by omega) ?_))))
        rw [lt_d, e5.e]
    | false =>
      have b := glP_f g
      right
      show fX12_whyNoLetters_b3 h' (X + 121) t (n : Int) lo (fu + 1) (i : Int) = _
      have gf : glB h X t.toNat n lo = false := ab_no hi g
      rw [fX12_whyNoLetters_b3.eq_2, gf]
      exact iteT (by omega) (gdg ms.k (bdg rn (bdg (rIn0 b) (iteT rfl rfl))))
  · intro fu _ hI
    show fX12_whyNoLetters_b3 h' (X + 121) t (n : Int) lo (fu + 1) (n : Int) = _
    have gt : glB h X t.toNat n lo = true := hI
    rw [fX12_whyNoLetters_b3.eq_2, gt]
    exact iteF (by omega) rfl
/-! ROWREASON, in the class -/
set_option maxHeartbeats 200000 in
theorem xRow1 {h : Hp} {X : Nat} {t n most lo : Int} (q : t < 0 ∨ 4 ≤ t) : fX11_rowReason h X t n most lo = some 1 := by
  unfold fX11_rowReason
  exact bdg (xTr0 q) (iteT rfl rfl)
set_option maxHeartbeats 200000 in
theorem xRow3 {h : Hp} {X : Nat} {c : Nat → Int} {t n most lo : Int} (H : CX h X c) (T : TRt h X t.toNat) (t0 : 0 ≤ t) (t4 : t < 4) (q : gA h (X + 121 + 2) t.toNat < 0) : fX11_rowReason h X t n most lo = some 3 := by
  obtain ⟨a1, a2, a3, a4, a5, a6, a7⟩ := H.1.tray t0 t4
  unfold fX11_rowReason
  exact bdg (xTr1 t0 t4) (iteF (by omega) (gdg H.k (nng a1 (gdg a2 (gdg a3 (nng a4 (gdg a5 (bdg (xMis1 T a5 q) (iteF (by omega) rfl)))))))))
set_option maxHeartbeats 200000 in
theorem xRow4 {h : Hp} {X : Nat} {c : Nat → Int} {t n most lo : Int} (H : CX h X c) (T : TRt h X t.toNat) (t0 : 0 ≤ t) (t4 : t < 4) (q : ¬ gA h (X + 121 + 2) t.toNat < 0) (q2 : gA h (X + 121 + 2) t.toNat < n) : fX11_rowReason h X t n most lo = some 4 := by
  obtain ⟨a1, a2, a3, a4, a5, a6, a7⟩ := H.1.tray t0 t4
  have ti := tr_is T q
  unfold fX11_rowReason
  exact bdg (xTr1 t0 t4) (iteF (by omega) (gdg H.k (nng a1 (gdg a2 (gdg a3 (nng a4 (gdg a5 (bdg (xMis0 T a5 q) (iteT rfl (gdg a3 (nng a4 (gdg a5 (iteF (by omega) rfl)))))))))))))
set_option maxHeartbeats 200000 in
theorem xRow5 {h : Hp} {X : Nat} {c : Nat → Int} {t n most lo : Int} (H : CX h X c) (T : TRt h X t.toNat) (t0 : 0 ≤ t) (t4 : t < 4) (q : ¬ gA h (X + 121 + 2) t.toNat < 0) (q2 : ¬ gA h (X + 121 + 2) t.toNat < n) (q3 : ¬ (1 ≤ n ∧ n ≤ most) ∨ ((1 ≤ n ∧ n ≤ most) ∧ glB h X t.toNat n.toNat lo = false)) : fX11_rowReason h X t n most lo = some 5 := by
  obtain ⟨a1, a2, a3, a4, a5, a6, a7⟩ := H.1.tray t0 t4
  have ti := tr_is T q
  unfold fX11_rowReason
  refine bdg (xTr1 t0 t4) (iteF (by omega) (gdg H.k (nng a1 (gdg a2 (gdg a3 (nng a4 (gdg a5 (bdg (xMis0 T a5 q) (iteT rfl (gdg a3 (nng a4 (gdg a5 (iteT (by omega) ?_)))))))))))))
  rcases q3 with q3 | ⟨q3, q4⟩
  · exact bdg (xIn0 (by omega)) (iteT rfl rfl)
  · have hh := xHold (n := n.toNat) (lo := lo) T a5 a7 a6 q (by omega)
    rw [show ((n.toNat : Nat) : Int) = n by omega, q4] at hh
    exact bdg (xIn1 q3.1 q3.2) (iteF (by omega) (gdg a3 (nng a4 (gdg a5 (bdg hh (iteT rfl rfl))))))
set_option maxHeartbeats 200000 in
theorem xRow0 {h : Hp} {X : Nat} {c : Nat → Int} {t n most lo : Int} (H : CX h X c) (T : TRt h X t.toNat) (t0 : 0 ≤ t) (t4 : t < 4) (q : ¬ gA h (X + 121 + 2) t.toNat < 0) (q2 : ¬ gA h (X + 121 + 2) t.toNat < n) (q3 : 1 ≤ n ∧ n ≤ most) (q4 : glB h X t.toNat n.toNat lo = true) : fX11_rowReason h X t n most lo = some 0 := by
  obtain ⟨a1, a2, a3, a4, a5, a6, a7⟩ := H.1.tray t0 t4
  have ti := tr_is T q
  unfold fX11_rowReason
  refine bdg (xTr1 t0 t4) (iteF (by omega) (gdg H.k (nng a1 (gdg a2 (gdg a3 (nng a4 (gdg a5 (bdg (xMis0 T a5 q) (iteT rfl (gdg a3 (nng a4 (gdg a5 (iteT (by omega) ?_)))))))))))))
  have hh := xHold (n := n.toNat) (lo := lo) T a5 a7 a6 q (by omega)
  rw [show ((n.toNat : Nat) : Int) = n by omega, q4, if_pos rfl] at hh
  exact bdg (xIn1 q3.1 q3.2) (iteF (by omega) (gdg a3 (nng a4 (gdg a5 (bdg hh (iteF (by omega) rfl))))))
/-! COUPLES: how many couples give a letter -/
def ccR (c : Nat → Int) (a g : Int) (n : Nat) : Int := sm n (fun b => if mixS c a ((b : Int) + 1) = g then 1 else 0)
def ccS (c : Nat → Int) (g : Int) (m : Nat) : Int := sm m (fun a => ccR c ((a : Int) + 1) g 26)
set_option maxHeartbeats 200000 in
theorem ccR_bd (c : Nat → Int) (a g : Int) (n : Nat) : 0 ≤ ccR c a g n ∧ ccR c a g n ≤ n := by
  have := sm_bd (n := n) (f := fun b => if mixS c a ((b : Int) + 1) = g then 1 else 0) (a := 0) (b := 1) (fun k _ => by
    show 0 ≤ (if mixS c a ((k : Int) + 1) = g then (1 : Int) else 0) ∧ (if mixS c a ((k : Int) + 1) = g then (1 : Int) else 0) ≤ 1
    split <;> omega)
  unfold ccR
  omega
set_option maxHeartbeats 200000 in
theorem ccS_bd (c : Nat → Int) (g : Int) (m : Nat) : 0 ≤ ccS c g m ∧ ccS c g m ≤ 26 * m := by
  have := sm_bd (n := m) (f := fun a => ccR c ((a : Int) + 1) g 26) (a := 0) (b := 26) (fun k _ => ccR_bd c ((k : Int) + 1) g 26)
  unfold ccS
  omega
def ppS (f : Nat → Int) : Nat → Int
  | 0 => 1
  | k + 1 => w64 (ppS f k * f k)
set_option maxHeartbeats 200000 in
theorem ppS_congr {f g : Nat → Int} {n : Nat} (e : ∀ k, k < n → f k = g k) : ppS f n = ppS g n := by
  induction n with
  | zero => rfl
  | succ n ih => show w64 (ppS f n * f n) = w64 (ppS g n * g n); rw [ih (fun k hk => e k (by omega)), e n (by omega)]
set_option maxHeartbeats 200000 in
/-- the inner loop of the class's count -/
theorem xCC1 {h : Hp} {X : Nat} {c : Nat → Int} {a : Int} (H : CX h X c) (a0 : 1 ≤ a) (a8 : a ≤ 26) (f : Nat → Int) (hf : ∀ g, g < 27 → 0 ≤ f g ∧ f g ≤ 650) (e : ∀ g, g < 27 → gA h (X + 101) g = f g) (k23 : Hp → Int → Option Hp) :
    ∃ t : Hp, ((On (fun b => b = X + 101) h t ∧ CX t X c) ∧ ∀ g, g < 27 → gA t (X + 101) g = f g + ccR c a (g : Int) 26) ∧ fX11_countCouples_b31 X k23 FU h a 1 = k23 t (a + 1) := by
  have w := H.wf
  have key := fk (S := Hp) (T := Hp) (fun fu v u => fX11_countCouples_b31 X k23 fu u a (v + 1)) (fun t => k23 t (a + 1)) 26 (fun i u => (On (fun b => b = X + 101) h u ∧ CX u X c) ∧ ∀ g, g < 27 → gA u (X + 101) g = f g + ccR c a (g : Int) i) (fun t => (On (fun b => b = X + 101) h t ∧ CX t X c) ∧ ∀ g, g < 27 → gA t (X + 101) g = f g + ccR c a (g : Int) 26) 0 h (by omega) ⟨⟨On.rf h, H⟩, fun g hg => by rw [e g hg]; exact (Int.add_zero _).symm⟩ (by omega)
    (fun fu i u hi hI => by
      obtain ⟨⟨p1, p2⟩, p3⟩ := hI
      have e5 : WE ((i : Int) + 1 + 1) := we (by omega) (by omega)
      obtain ⟨R, r1, r2, r3⟩ := p2.law
      have mb := mixS_bd w (a := a) (b := (i : Int) + 1) (by omega) (by omega) (by omega) (by omega)
      have kc : hK u (X + 101) = (21, 27) := p2.1.k101
      obtain ⟨g0, eg⟩ := i2n mb.1
      have v0 := p3 g0 (by omega)
      have b1 := hf g0 (by omega)
      have b2 := ccR_bd c a (g0 : Int) i
      have ew : WE (gA u (X + 101) g0 + 1) := we (by omega) (by omega)
      have qq : QX X u (sA u (X + 101) (g0 : Int) (gA u (X + 101) g0 + 1)) := q_sA u (by unfold sc; omega)
      left
      refine ⟨sA u (X + 101) (g0 : Int) (gA u (X + 101) g0 + 1), ⟨⟨p1.tr (on_sA u rfl), p2.q qq po_X⟩, fun g hg => ?_⟩, ?_⟩
      · rw [gA_sA]
        have es : ccR c a (g : Int) (i + 1) = ccR c a (g : Int) i + (if mixS c a ((i : Int) + 1) = (g : Int) then 1 else 0) := rfl
        rw [es, eg]
        by_cases y : g = g0
        · rw [if_pos ⟨rfl, by omega⟩, ew.e, v0, y, if_pos rfl]; omega
        · rw [if_neg (fun z => y (by have := z.2; omega)), p3 g hg, if_neg (by omega)]; omega
      · show fX11_countCouples_b31 X k23 (fu + 1) u a ((i : Int) + 1) = fX11_countCouples_b31 X k23 fu (sA u (X + 101) (g0 : Int) (gA u (X + 101) g0 + 1)) a ((i : Int) + 1 + 1)
        rw [fX11_countCouples_b31.eq_2]
        refine iteT (by omega) (gdg p2.k (nng p2.1.r712 (nng r1 (gdg r2 (bdg (xMix r3 w) ?_)))))
        rw [eg]
        refine gdg (by rw [kc]) (gdg (by rw [kc]; show 0 ≤ _ ∧ _ < (27 : Int); omega) (gdg (by rw [kc]; show 0 ≤ _ ∧ _ < (27 : Int); omega) ?_))
        rw [show ((g0 : Int)).toNat = g0 from rfl, ew.e, lt_d, lt_d, e5.e])
    (fun fu u hI => by
      refine ⟨u, hI, ?_⟩
      have ea : WE (a + 1) := we (by omega) (by omega)
      show fX11_countCouples_b31 X k23 (fu + 1) u a (((26 : Nat) : Int) + 1) = _
      rw [fX11_countCouples_b31.eq_2]
      refine iteF (by omega) ?_
      rw [lt_d, ea.e])
  exact key
set_option maxHeartbeats 200000 in
theorem xCC {h : Hp} {X : Nat} {c : Nat → Int} (H : CX h X c) : ∃ t : Hp, ((On (fun b => b = X + 101) h t ∧ CX t X c) ∧ ∀ g, g < 27 → gA t (X + 101) g = ccS c (g : Int) 26) ∧ fX11_countCouples h X = some t := by
  obtain ⟨t0, ⟨⟨u1, u2⟩, u3⟩, u4⟩ := fk (S := Hp) (T := Hp) (fun fu v u => fX11_countCouples_b2 X fu u v) (fun t => fX11_countCouples_b23 X FU t 1) 27 (fun i u => (On (fun b => b = X + 101) h u ∧ CX u X c) ∧ ∀ g, g < i → gA u (X + 101) g = 0) (fun t => (On (fun b => b = X + 101) h t ∧ CX t X c) ∧ ∀ g, g < 27 → gA t (X + 101) g = 0) 0 h (by omega) ⟨⟨On.rf h, H⟩, fun g hg => absurd hg (by omega)⟩ (by omega)
    (fun fu i u hi hI => by
      obtain ⟨⟨p1, p2⟩, p3⟩ := hI
      have e5 : WE ((i : Int) + 1) := we (by omega) (by omega)
      have kc : hK u (X + 101) = (21, 27) := p2.1.k101
      have qq : QX X u (sA u (X + 101) (i : Int) 0) := q_sA u (by unfold sc; omega)
      left
      refine ⟨sA u (X + 101) (i : Int) 0, ⟨⟨p1.tr (on_sA u rfl), p2.q qq po_X⟩, fun g hg => ?_⟩, ?_⟩
      · rw [gA_sA]
        by_cases y : g = i
        · rw [if_pos ⟨rfl, by omega⟩, w32_id (by omega) (by omega)]
        · rw [if_neg (fun z => y (by have := z.2; omega))]
          exact p3 g (by omega)
      · show fX11_countCouples_b2 X (fu + 1) u (i : Int) = fX11_countCouples_b2 X fu (sA u (X + 101) (i : Int) 0) ((i : Int) + 1)
        rw [fX11_countCouples_b2.eq_2]
        refine iteT (by omega) (gdg p2.k (nng p2.1.r712 (gdg (by rw [kc]) (gdg (by rw [kc]; show 0 ≤ _ ∧ _ < (27 : Int); omega) ?_))))
        rw [lt_d, lt_d, e5.e])
    (fun fu u hI => by
      refine ⟨u, hI, ?_⟩
      show fX11_countCouples_b2 X (fu + 1) u ((27 : Nat) : Int) = _
      rw [fX11_countCouples_b2.eq_2]
      exact iteF (by omega) rfl)
  obtain ⟨t, ⟨⟨w1, w2⟩, w3⟩, w4⟩ := fk (S := Hp) (T := Hp) (fun fu v u => fX11_countCouples_b23 X fu u (v + 1)) some 26 (fun i u => (On (fun b => b = X + 101) h u ∧ CX u X c) ∧ ∀ g, g < 27 → gA u (X + 101) g = ccS c (g : Int) i) (fun t => (On (fun b => b = X + 101) h t ∧ CX t X c) ∧ ∀ g, g < 27 → gA t (X + 101) g = ccS c (g : Int) 26) 0 t0 (by omega) ⟨⟨u1, u2⟩, u3⟩ (by omega)
    (fun fu i u hi hI => by
      obtain ⟨⟨p1, p2⟩, p3⟩ := hI
      obtain ⟨t', ⟨⟨y1, y2⟩, y3⟩, y4⟩ := xCC1 (a := (i : Int) + 1) p2 (by omega) (by omega) (fun g => ccS c (g : Int) i) (fun g hg => by have := ccS_bd c (g : Int) i; show 0 ≤ ccS c (g : Int) i ∧ ccS c (g : Int) i ≤ 650; omega) p3 (fX11_countCouples_b23 X fu)
      left
      refine ⟨t', ⟨⟨p1.tr y1, y2⟩, y3⟩, ?_⟩
      show fX11_countCouples_b23 X (fu + 1) u ((i : Int) + 1) = fX11_countCouples_b23 X fu t' ((i : Int) + 1 + 1)
      rw [fX11_countCouples_b23.eq_2]
      exact iteT (by omega) y4)
    (fun fu u hI => by
      refine ⟨u, hI, ?_⟩
      show fX11_countCouples_b23 X (fu + 1) u (((26 : Nat) : Int) + 1) = _
      rw [fX11_countCouples_b23.eq_2]
      exact iteF (by omega) rfl)
  exact ⟨t, ⟨⟨w1, w2⟩, w3⟩, Eq.trans u4 w4⟩
set_option maxHeartbeats 200000 in
/-- the reference's two inner loops -/
theorem rCC1 {h : Hp} {M : Nat} {c : Nat → Int} {t n v3 v5 v6 a g : Int} (ms : MS h M) (hc : gA h (M + 5) = c) (w : WF c) (rn : fX12_numberOf h M t v5 = some g) (g0 : 0 ≤ g) (g8 : g ≤ 26) (b6 : 0 ≤ v6 ∧ v6 ≤ 1000) (a0 : 1 ≤ a) (a8 : a ≤ 26) (k104 : Hp → Int → Int → Option (Int × Hp)) (k116 : Hp → Int → Int → Int → Int → Option (Int × Hp)) :
    fX12_couples_b126 M t n k104 k116 FU h v3 v5 v6 a 1 = k116 h v3 v5 (v6 + ccR c a g 26) (a + 1) := by
  have eg : WE g := we (by omega) (by omega)
  have := fg (S := Int) (fun fu v s => fX12_couples_b126 M t n k104 k116 fu h v3 v5 s a (v + 1)) (fun s => k116 h v3 v5 s (a + 1)) 26 (fun i => v6 + ccR c a g i) (by omega)
    (fun fu i hi => by
      have e5 : WE ((i : Int) + 1 + 1) := we (by omega) (by omega)
      have b := ccR_bd c a g i
      have es : ccR c a g (i + 1) = ccR c a g i + (if mixS c a ((i : Int) + 1) = g then 1 else 0) := rfl
      show fX12_couples_b126 M t n k104 k116 (fu + 1) h v3 v5 (v6 + ccR c a g i) a ((i : Int) + 1) = fX12_couples_b126 M t n k104 k116 fu h v3 v5 (v6 + ccR c a g (i + 1)) a ((i : Int) + 1 + 1)
      rw [fX12_couples_b126.eq_2, es]
      refine iteT (by omega) (gdg ms.k (nng ms.r788 (gdg ms.k5 ?_)))
      rw [hc]
      refine bdg (rMix w) (bdg rn ?_)
      rw [eg.e, lt_d, lt_d, e5.e, ← Int.add_assoc, w32_id (x := v6 + ccR c a g i + (if mixS c a ((i : Int) + 1) = g then 1 else 0)) (by split <;> omega) (by split <;> omega)])
    (fun fu => by
      have ea : WE (a + 1) := we (by omega) (by omega)
      show fX12_couples_b126 M t n k104 k116 (fu + 1) h v3 v5 (v6 + ccR c a g 26) a (((26 : Nat) : Int) + 1) = _
      rw [fX12_couples_b126.eq_2]
      refine iteF (by omega) ?_
      rw [lt_d, ea.e]) 0 (by omega)
  have e0 : v6 + ccR c a g 0 = v6 := Int.add_zero _
  rw [e0] at this
  exact this
set_option maxHeartbeats 200000 in
theorem rCC {h : Hp} {M : Nat} {c : Nat → Int} {t n v3 v5 g : Int} (ms : MS h M) (hc : gA h (M + 5) = c) (w : WF c) (rn : fX12_numberOf h M t v5 = some g) (g0 : 0 ≤ g) (g8 : g ≤ 26) (b5 : 0 ≤ v5 ∧ v5 ≤ 1000) (k104 : Hp → Int → Int → Option (Int × Hp)) :
    fX12_couples_b116 M t n k104 FU h v3 v5 0 1 = k104 h (w64 (v3 * ccS c g 26)) (v5 + 1) := by
  have := fg (S := Int) (fun fu v s => fX12_couples_b116 M t n k104 fu h v3 v5 s (v + 1)) (fun s => k104 h (w64 (v3 * s)) (v5 + 1)) 26 (fun i => ccS c g i) (by omega)
    (fun fu i hi => by
      have b := ccS_bd c g i
      have es : ccS c g (i + 1) = ccS c g i + ccR c ((i : Int) + 1) g 26 := rfl
      show fX12_couples_b116 M t n k104 (fu + 1) h v3 v5 (ccS c g i) ((i : Int) + 1) = fX12_couples_b116 M t n k104 fu h v3 v5 (ccS c g (i + 1)) ((i : Int) + 1 + 1)
      rw [fX12_couples_b116.eq_2, es]
      exact iteT (by omega) (rCC1 ms hc w rn g0 g8 (by omega) (by omega) (by omega) k104 _))
    (fun fu => by
      have e5 : WE (v5 + 1) := we (by omega) (by omega)
      show fX12_couples_b116 M t n k104 (fu + 1) h v3 v5 (ccS c g 26) (((26 : Nat) : Int) + 1) = _
      rw [fX12_couples_b116.eq_2]
      refine iteF (by omega) ?_
      rw [lt_d, lt_d, e5.e]) 0 (by omega)
  exact this
