/-! STATE: third, second, feed (written by wip/whole/g67.py) -/
def T3 (a b t : Int) : Prop := (0 ≤ a ∧ a < 4) ∧ (0 ≤ b ∧ b < 4) ∧ (0 ≤ t ∧ t < 4)
def thM (h : Hp) (X : Nat) (a b t : Int) : Prop := ¬ gA h (X + 121 + 2) a.toNat < 0 ∧ ¬ gA h (X + 121 + 2) b.toNat < 0 ∧ ¬ gA h (X + 121 + 2) t.toNat < 0
def thL (h : Hp) (X : Nat) (a b t n : Int) : Prop := n ≤ gA h (X + 121 + 2) a.toNat ∧ n ≤ gA h (X + 121 + 2) b.toNat ∧ n ≤ gA h (X + 121 + 2) t.toNat
def thG (h : Hp) (X : Nat) (a b n : Int) : Prop := (1 ≤ n ∧ n ≤ 16) ∧ glB h X a.toNat n.toNat 1 = true ∧ glB h X b.toNat n.toNat 1 = true
set_option maxHeartbeats 200000 in
/-- THREEREASON, in the class: what it answers -/
theorem xTh1 {h : Hp} {X : Nat} {a b t n : Int} (q : ¬ T3 a b t) : fX11_threeReason h X a b t n = some 1 := by
  unfold T3 at q
  unfold fX11_threeReason
  by_cases q1 : 0 ≤ a ∧ a < 4
  · by_cases q2 : 0 ≤ b ∧ b < 4
    · exact bdg (xTr1 q1.1 q1.2) (iteF (by omega) (bdg (xTr1 q2.1 q2.2) (iteF (by omega) (bdg (xTr0 (by omega)) (iteT rfl rfl)))))
    · exact bdg (xTr1 q1.1 q1.2) (iteF (by omega) (bdg (xTr0 (by omega)) (iteT rfl rfl)))
  · exact bdg (xTr0 (by omega)) (iteT rfl rfl)
set_option maxHeartbeats 200000 in
theorem xTh3 {h : Hp} {X : Nat} {c : Nat → Int} {a b t n : Int} (H : CX h X c) (TT : TR h X) (q : T3 a b t) (m : ¬ thM h X a b t) : fX11_threeReason h X a b t n = some 3 := by
  obtain ⟨q1, q2, q3⟩ := q
  unfold thM at m
  obtain ⟨a1, a2, a3, a4, a5, a6, a7⟩ := H.1.tray q1.1 q1.2
  obtain ⟨b1, b2, b3, b4, b5, b6, b7⟩ := H.1.tray q2.1 q2.2
  obtain ⟨c1, c2, c3, c4, c5, c6, c7⟩ := H.1.tray q3.1 q3.2
  have Ta := TT a.toNat (by omega)
  have Tb := TT b.toNat (by omega)
  have Tc := TT t.toNat (by omega)
  unfold fX11_threeReason
  refine bdg (xTr1 q1.1 q1.2) (iteF (by omega) (bdg (xTr1 q2.1 q2.2) (iteF (by omega) (bdg (xTr1 q3.1 q3.2) (iteF (by omega) (gdg H.k (nng a1 (gdg a2 (gdg a3 (nng a4 (gdg a5 ?_)))))))))))
  by_cases m1 : gA h (X + 121 + 2) a.toNat < 0
  · exact bdg (xMis1 Ta a5 m1) (iteF (by omega) rfl)
  · refine bdg (xMis0 Ta a5 m1) (iteT rfl (gdg b3 (nng b4 (gdg b5 ?_))))
    by_cases m2 : gA h (X + 121 + 2) b.toNat < 0
    · exact bdg (xMis1 Tb b5 m2) (iteF (by omega) rfl)
    · exact bdg (xMis0 Tb b5 m2) (iteT rfl (gdg c3 (nng c4 (gdg c5 (bdg (xMis1 Tc c5 (Classical.byContradiction fun m3 => m ⟨m1, m2, m3⟩)) (iteF (by omega) rfl))))))
set_option maxHeartbeats 200000 in
theorem xThK {h : Hp} {X : Nat} {c : Nat → Int} {a b t n : Int} (H : CX h X c) (TT : TR h X) (q : T3 a b t) (m : thM h X a b t) (v : Int)
    (e4 : ¬ thL h X a b t n → v = 4) (e0 : thL h X a b t n → (bd (fX11_rowReason h X a n 16 1) fun r43 => if r43 = 0 then (bd (fX11_rowReason h X b n 16 1) fun r46 => some r46) else some r43) = some v) : fX11_threeReason h X a b t n = some v := by
  obtain ⟨q1, q2, q3⟩ := q
  obtain ⟨m1, m2, m3⟩ := m
  unfold thL at e4 e0
  obtain ⟨a1, a2, a3, a4, a5, a6, a7⟩ := H.1.tray q1.1 q1.2
  obtain ⟨b1, b2, b3, b4, b5, b6, b7⟩ := H.1.tray q2.1 q2.2
  obtain ⟨c1, c2, c3, c4, c5, c6, c7⟩ := H.1.tray q3.1 q3.2
  have Ta := TT a.toNat (by omega)
  have Tb := TT b.toNat (by omega)
  have Tc := TT t.toNat (by omega)
  have ta := tr_is Ta m1
  have tb := tr_is Tb m2
  have tc := tr_is Tc m3
  unfold fX11_threeReason
  refine bdg (xTr1 q1.1 q1.2) (iteF (by omega) (bdg (xTr1 q2.1 q2.2) (iteF (by omega) (bdg (xTr1 q3.1 q3.2) (iteF (by omega) (gdg H.k (nng a1 (gdg a2 (gdg a3 (nng a4 (gdg a5 (bdg (xMis0 Ta a5 m1) (iteT rfl (gdg b3 (nng b4 (gdg b5 (bdg (xMis0 Tb b5 m2) (iteT rfl (gdg c3 (nng c4 (gdg c5 (bdg (xMis0 Tc c5 m3) (iteT rfl (gdg a3 (nng a4 (gdg a5 ?_))))))))))))))))))))))))))
  by_cases l1 : n ≤ gA h (X + 121 + 2) a.toNat
  · refine iteT (by omega) (gdg b3 (nng b4 (gdg b5 ?_)))
    by_cases l2 : n ≤ gA h (X + 121 + 2) b.toNat
    · refine iteT (by omega) (gdg c3 (nng c4 (gdg c5 ?_)))
      by_cases l3 : n ≤ gA h (X + 121 + 2) t.toNat
      · exact iteT (by omega) (e0 ⟨l1, l2, l3⟩)
      · rw [e4 (fun z => l3 z.2.2)]
        exact iteF (by omega) rfl
    · rw [e4 (fun z => l2 z.2.1)]
      exact iteF (by omega) rfl
  · rw [e4 (fun z => l1 z.1)]
    exact iteF (by omega) rfl
set_option maxHeartbeats 200000 in
theorem xTh4 {h : Hp} {X : Nat} {c : Nat → Int} {a b t n : Int} (H : CX h X c) (TT : TR h X) (q : T3 a b t) (m : thM h X a b t) (l : ¬ thL h X a b t n) : fX11_threeReason h X a b t n = some 4 :=
  xThK H TT q m 4 (fun _ => rfl) (fun z => absurd z l)
set_option maxHeartbeats 200000 in
theorem xTh5 {h : Hp} {X : Nat} {c : Nat → Int} {a b t n : Int} (H : CX h X c) (TT : TR h X) (q : T3 a b t) (m : thM h X a b t) (l : thL h X a b t n) (g : ¬ thG h X a b n) : fX11_threeReason h X a b t n = some 5 := by
  refine xThK H TT q m 5 (fun z => absurd l z) (fun _ => ?_)
  obtain ⟨q1, q2, q3⟩ := q
  obtain ⟨m1, m2, m3⟩ := m
  obtain ⟨l1, l2, l3⟩ := l
  unfold thG at g
  have Ta := TT a.toNat (by omega)
  have Tb := TT b.toNat (by omega)
  by_cases g1 : 1 ≤ n ∧ n ≤ 16
  · cases g2 : glB h X a.toNat n.toNat 1 with
    | false => exact bdg (xRow5 H Ta q1.1 q1.2 m1 (by omega) (Or.inr ⟨g1, g2⟩)) (iteF (by omega) rfl)
    | true =>
      cases g3 : glB h X b.toNat n.toNat 1 with
      | false => exact bdg (xRow0 H Ta q1.1 q1.2 m1 (by omega) g1 g2) (iteT rfl (bdg (xRow5 H Tb q2.1 q2.2 m2 (by omega) (Or.inr ⟨g1, g3⟩)) rfl))
      | true => exact absurd ⟨g1, g2, g3⟩ g
  · exact bdg (xRow5 H Ta q1.1 q1.2 m1 (by omega) (Or.inl g1)) (iteF (by omega) rfl)
set_option maxHeartbeats 200000 in
theorem xTh0 {h : Hp} {X : Nat} {c : Nat → Int} {a b t n : Int} (H : CX h X c) (TT : TR h X) (q : T3 a b t) (m : thM h X a b t) (l : thL h X a b t n) (g : thG h X a b n) : fX11_threeReason h X a b t n = some 0 := by
  refine xThK H TT q m 0 (fun z => absurd l z) (fun _ => ?_)
  obtain ⟨q1, q2, q3⟩ := q
  obtain ⟨m1, m2, m3⟩ := m
  obtain ⟨l1, l2, l3⟩ := l
  obtain ⟨g1, g2, g3⟩ := g
  exact bdg (xRow0 H (TT a.toNat (by omega)) q1.1 q1.2 m1 (by omega) g1 g2) (iteT rfl (bdg (xRow0 H (TT b.toNat (by omega)) q2.1 q2.2 m2 (by omega) g1 g3) rfl))
/-! READS, in the reference -/
set_option maxHeartbeats 200000 in
theorem rTh1 {h : Hp} {M : Nat} {a b t n : Int} (k : (hK h M).1 = 12) (q : ¬ T3 a b t) : fX12_reads h M a b t n = some (1, h) := by
  unfold T3 at q
  unfold fX12_reads
  refine gdg k ?_
  by_cases q1 : 0 ≤ a ∧ a < 4
  · by_cases q2 : 0 ≤ b ∧ b < 4
    · exact bdg (rTr1 q1.1 q1.2) (iteF (by omega) (bdg (rTr1 q2.1 q2.2) (iteF (by omega) (bdg (rTr0 (by omega)) (iteT rfl rfl)))))
    · exact bdg (rTr1 q1.1 q1.2) (iteF (by omega) (bdg (rTr0 (by omega)) (iteT rfl rfl)))
  · exact bdg (rTr0 (by omega)) (iteT rfl rfl)
set_option maxHeartbeats 200000 in
theorem rThK {h h' : Hp} {X : Nat} {a b t n : Int} (ms : MS h' (X + 121)) (em : ∀ u, gA h' (X + 121 + 2) u = gA h (X + 121 + 2) u) (q : T3 a b t) (v : Int × Hp) (e3 : ¬ thM h X a b t → v = (3, h')) (e4 : thM h X a b t → ¬ thL h X a b t n → v = (4, h'))
    (e0 : thM h X a b t → thL h X a b t n → (bd (fX12_isIn n 1 16) fun r25 => if r25 = 0 then some (5, h') else bd (fX12_whyNoLetters h' (X + 121) a n 1) fun r28 => if 0 < r28 then some (5, h') else bd (fX12_whyNoLetters h' (X + 121) b n 1) fun r31 => if 0 < r31 then some (5, h') else fX12_reads_b130 (X + 121) a b t n FU h' 0) = some v) :
    fX12_reads h' (X + 121) a b t n = some v := by
  obtain ⟨q1, q2, q3⟩ := q
  have k2 := ms.k2
  have ka : inA a (hK h' (X + 121 + 2)).2 := by rw [k2]; exact q1
  have kb : inA b (hK h' (X + 121 + 2)).2 := by rw [k2]; exact q2
  have kt : inA t (hK h' (X + 121 + 2)).2 := by rw [k2]; exact q3
  unfold fX12_reads
  refine gdg ms.k (bdg (rTr1 q1.1 q1.2) (iteF (by omega) (bdg (rTr1 q2.1 q2.2) (iteF (by omega) (bdg (rTr1 q3.1 q3.2) (iteF (by omega) (nng ms.r773 (gdg (by rw [k2]) (gdg ka ?_)))))))))
  rw [em]
  by_cases m1 : gA h (X + 121 + 2) a.toNat < 0
  · rw [e3 (fun z => z.1 m1)]; exact iteT m1 rfl
  · refine iteF m1 (gdg kb ?_)
    rw [em]
    by_cases m2 : gA h (X + 121 + 2) b.toNat < 0
    · rw [e3 (fun z => z.2.1 m2)]; exact iteT m2 rfl
    · refine iteF m2 (gdg kt ?_)
      rw [em]
      by_cases m3 : gA h (X + 121 + 2) t.toNat < 0
      · rw [e3 (fun z => z.2.2 m3)]; exact iteT m3 rfl
      · have mm : thM h X a b t := ⟨m1, m2, m3⟩
        refine iteF m3 (gdg ka ?_)
        by_cases l1 : gA h (X + 121 + 2) a.toNat < n
        · rw [e4 mm (fun z => by have := z.1; omega)]; exact iteT l1 rfl
        · refine iteF l1 (gdg kb ?_)
          by_cases l2 : gA h (X + 121 + 2) b.toNat < n
          · rw [e4 mm (fun z => by have := z.2.1; omega)]; exact iteT l2 rfl
          · refine iteF l2 (gdg kt ?_)
            by_cases l3 : gA h (X + 121 + 2) t.toNat < n
            · rw [e4 mm (fun z => by have := z.2.2; omega)]; exact iteT l3 rfl
            · exact iteF l3 (e0 mm ⟨by omega, by omega, by omega⟩)
set_option maxHeartbeats 200000 in
theorem rTh5 {h h' : Hp} {X : Nat} {a b t n : Int} (ms : MS h' (X + 121)) (em : ∀ u, gA h' (X + 121 + 2) u = gA h (X + 121 + 2) u) (eb : ∀ u, gB h' (X + 121 + 3) u = gB h (X + 121 + 3) u) (q : T3 a b t) (m : thM h X a b t) (l : thL h X a b t n) (n60 : n ≤ 60) (g : ¬ thG h X a b n) : fX12_reads h' (X + 121) a b t n = some (5, h') := by
  refine rThK ms em q (5, h') (fun z => absurd m z) (fun _ z => absurd l z) (fun _ _ => ?_)
  obtain ⟨q1, q2, q3⟩ := q
  unfold thG at g
  by_cases g1 : 1 ≤ n ∧ n ≤ 16
  · refine bdg (rIn1 g1.1 g1.2) (iteF (by omega) ?_)
    have r1 := rWhy (n := n.toNat) (lo := 1) ms eb q1.1 q1.2 (by omega)
    have r2 := rWhy (n := n.toNat) (lo := 1) ms eb q2.1 q2.2 (by omega)
    rw [show ((n.toNat : Nat) : Int) = n by omega] at r1 r2
    cases g2 : glB h X a.toNat n.toNat 1 with
    | false =>
      rw [g2, if_neg (by decide)] at r1
      exact bdg r1 (iteT (by omega) rfl)
    | true =>
      rw [g2, if_pos rfl] at r1
      refine bdg r1 (iteF (by omega) ?_)
      cases g3 : glB h X b.toNat n.toNat 1 with
      | false =>
        rw [g3, if_neg (by decide)] at r2
        exact bdg r2 (iteT (by omega) rfl)
      | true => exact absurd ⟨g1, g2, g3⟩ g
  · exact bdg (rIn0 (by omega)) (iteT rfl rfl)
set_option maxHeartbeats 200000 in
theorem rTh0 {h h' : Hp} {X m : Nat} {a b t : Int} (ms : MS h' (X + 121)) (em : ∀ u, gA h' (X + 121 + 2) u = gA h (X + 121 + 2) u) (eb : ∀ u, gB h' (X + 121 + 3) u = gB h (X + 121 + 3) u) (q : T3 a b t) (mm : thM h X a b t) (l : thL h X a b t (m : Int)) (g : thG h X a b (m : Int)) :
    ∃ h'', (On (fun x => x = X + 121 + 8 ∨ x = X + 121 + 9) h' h'' ∧ (∀ k, k < m → gA h'' (X + 121 + 8) k = gB h (X + 121 + 3) (60 * a.toNat + k)) ∧ (∀ k, k < m → gA h'' (X + 121 + 9) k = gB h (X + 121 + 3) (60 * b.toNat + k))) ∧ fX12_reads h' (X + 121) a b t (m : Int) = some (0, h'') := by
  have q' := q
  obtain ⟨q1, q2, q3⟩ := q
  have g' := g
  obtain ⟨g1, g2, g3⟩ := g
  have r1 := rWhy (n := m) (lo := 1) ms eb q1.1 q1.2 (by omega)
  have r2 := rWhy (n := m) (lo := 1) ms eb q2.1 q2.2 (by omega)
  have g2 : glB h X a.toNat m 1 = true := g2
  have g3 : glB h X b.toNat m 1 = true := g3
  rw [g2, if_pos rfl] at r1
  rw [g3, if_pos rfl] at r2
  obtain ⟨h'', w1, w2⟩ := fk (S := Hp) (T := Hp) (fun fu v u => fX12_reads_b130 (X + 121) a b t (m : Int) fu u v) (fun u => some (0, u)) m (fun i u => On (fun x => x = X + 121 + 8 ∨ x = X + 121 + 9) h' u ∧ (∀ k, k < i → gA u (X + 121 + 8) k = gB h (X + 121 + 3) (60 * a.toNat + k)) ∧ (∀ k, k < i → gA u (X + 121 + 9) k = gB h (X + 121 + 3) (60 * b.toNat + k))) (fun u => On (fun x => x = X + 121 + 8 ∨ x = X + 121 + 9) h' u ∧ (∀ k, k < m → gA u (X + 121 + 8) k = gB h (X + 121 + 3) (60 * a.toNat + k)) ∧ (∀ k, k < m → gA u (X + 121 + 9) k = gB h (X + 121 + 3) (60 * b.toNat + k))) 0 h' (by omega) ⟨On.rf _, fun k hk => absurd hk (by omega), fun k hk => absurd hk (by omega)⟩ (by omega)
    (fun fu i u hi hI => by
      obtain ⟨p1, p2, p3⟩ := hI
      have e5 : WE ((i : Int) + 1) := we (by omega) (by omega)
      have mu := ms.on p1 (by omega)
      have n1 := rNum (i := (i : Int)) mu q1.1 q1.2 (by omega) (by omega)
      rw [p1.b (by omega), eb, show ((i : Int)).toNat = i from rfl] at n1
      have b1 := glB_t g2 hi
      have b2 := glB_t g3 hi
      have w1 : WE (gB h (X + 121 + 3) (60 * a.toNat + i)) := we (by omega) (by omega)
      have w2 : WE (gB h (X + 121 + 3) (60 * b.toNat + i)) := we (by omega) (by omega)
      have mv : MS (sA u (X + 121 + 8) (i : Int) (gB h (X + 121 + 3) (60 * a.toNat + i))) (X + 121) := mu
      have n2 := rNum (i := (i : Int)) mv q2.1 q2.2 (by omega) (by omega)
      rw [gB_sA, p1.b (by omega), eb, show ((i : Int)).toNat = i from rfl] at n2
      left
      refine ⟨sA (sA u (X + 121 + 8) (i : Int) (gB h (X + 121 + 3) (60 * a.toNat + i))) (X + 121 + 9) (i : Int) (gB h (X + 121 + 3) (60 * b.toNat + i)), ⟨(p1.tr (on_sA u (Or.inl rfl))).tr (on_sA _ (Or.inr rfl)), fun k hk => ?_, fun k hk => ?_⟩, ?_⟩
      · rw [gA_sA, if_neg (by omega), gA_sA]
        by_cases y : k = i
        · rw [if_pos ⟨rfl, by omega⟩, w1.e, y]
        · rw [if_neg (fun z => y (by have := z.2; omega))]; exact p2 k (by omega)
      · rw [gA_sA]
        by_cases y : k = i
        · rw [if_pos ⟨rfl, by omega⟩, w2.e, y]
        · rw [if_neg (fun z => y (by have := z.2; omega)), gA_sA, if_neg (by omega)]; exact p3 k (by omega)
      · show fX12_reads_b130 (X + 121) a b t (m : Int) (fu + 1) u (i : Int) = fX12_reads_b130 (X + 121) a b t (m : Int) fu (sA (sA u (X + 121 + 8) (i : Int) (gB h (X + 121 + 3) (60 * a.toNat + i))) (X + 121 + 9) (i : Int) (gB h (X + 121 + 3) (60 * b.toNat + i))) ((i : Int) + 1)
        rw [fX12_reads_b130.eq_2]
        refine iteT (by omega) (gdg mu.k (nng mu.r792 (bdg n1 (gdg (by rw [mu.k8]) (gdg (by rw [mu.k8]; show 0 ≤ _ ∧ _ < (80 : Int); omega) ?_)))))
        rw [lt_d, w1.e]
        refine nng mv.r793 (bdg n2 (gdg (by rw [mv.k9]) (gdg (by rw [mv.k9]; show 0 ≤ _ ∧ _ < (80 : Int); omega) ?_)))
        rw [lt_d, lt_d, w2.e, e5.e])
    (fun fu u hI => by
      refine ⟨u, hI, ?_⟩
      show fX12_reads_b130 (X + 121) a b t (m : Int) (fu + 1) u (m : Int) = _
      rw [fX12_reads_b130.eq_2]
      exact iteF (by omega) rfl)
  refine ⟨h'', w1, rThK ms em q' (0, h'') (fun z => absurd mm z) (fun _ z => absurd l z) (fun _ _ => ?_)⟩
  exact bdg (rIn1 g1.1 g1.2) (iteF (by omega) (bdg r1 (iteF (by omega) (bdg r2 (iteF (by omega) w2)))))
set_option maxHeartbeats 200000 in
theorem t3_f : ∀ x : Fin 27, ∀ y : Fin 27, 1 ≤ x.val → 1 ≤ y.val → 1 ≤ (x.val + y.val + 50) % 26 + 1 := by intro x y _ _; omega
def thV (x y : Int) : Int := (x + y - 2) % 26 + 1
def seV (x y : Int) : Int := (y - x + 26) % 26 + 1
set_option maxHeartbeats 200000 in
theorem thV_bd (x y : Int) : 1 ≤ thV x y ∧ thV x y ≤ 26 := by unfold thV; omega
set_option maxHeartbeats 200000 in
theorem seV_bd (x y : Int) : 1 ≤ seV x y ∧ seV x y ≤ 26 := by unfold seV; omega
set_option maxHeartbeats 200000 in
theorem xThV {x y : Int} (x0 : 1 ≤ x) (x8 : x ≤ 26) (y0 : 1 ≤ y) (y8 : y ≤ 26) : fX11_thirdOf x y = some (thV x y) := by
  unfold fX11_thirdOf
  have b := thV_bd x y
  rw [w64_id (x := x + y) (by omega) (by omega), w64_id (x := x + y - 2) (by omega) (by omega), lrm_i (by omega) (by omega) (by omega) (by omega)]
  exact congrArg some (w64_id (by unfold thV at b; omega) (by unfold thV at b; omega))
set_option maxHeartbeats 200000 in
theorem xSeV {x y : Int} (x0 : 1 ≤ x) (x8 : x ≤ 26) (y0 : 1 ≤ y) (y8 : y ≤ 26) : fX11_secondOf x y = some (seV x y) := by
  unfold fX11_secondOf
  have b := seV_bd x y
  rw [w64_id (x := y - x) (by omega) (by omega), w64_id (x := y - x + 26) (by omega) (by omega), lrm_i (by omega) (by omega) (by omega) (by omega)]
  exact congrArg some (w64_id (by unfold seV at b; omega) (by unfold seV at b; omega))
set_option maxHeartbeats 200000 in
theorem rThV {x y : Int} (x0 : 1 ≤ x) (x8 : x ≤ 26) (y0 : 1 ≤ y) (y8 : y ≤ 26) : w32 (irm (w32 (w32 (x + y) - 2)) 26 + 1) = thV x y := by
  have b := thV_bd x y
  rw [w32_id (x := x + y) (by omega) (by omega), w32_id (x := x + y - 2) (by omega) (by omega), irm_i (by omega) (by omega) (by omega) (by omega)]
  exact w32_id (by unfold thV at b; omega) (by unfold thV at b; omega)
set_option maxHeartbeats 200000 in
theorem rSeV {x y : Int} (x0 : 1 ≤ x) (x8 : x ≤ 26) (y0 : 1 ≤ y) (y8 : y ≤ 26) : w32 (irm (w32 (w32 (y - x) + 26)) 26 + 1) = seV x y := by
  have b := seV_bd x y
  rw [w32_id (x := y - x) (by omega) (by omega), w32_id (x := y - x + 26) (by omega) (by omega), irm_i (by omega) (by omega) (by omega) (by omega)]
  exact w32_id (by unfold seV at b; omega) (by unfold seV at b; omega)

set_option maxHeartbeats 200000 in
theorem ok_third {h : Hp} {X : Nat} {a b t n : Int} (I : Inv h X) : OK3 (fun h => fX11_third h X a b t n) (fun h => fX12_third h (X + 121) a b t n) h X := by
  obtain ⟨c, J, i1, i2, i3⟩ := id I
  have H := J.x
  have G := J.m
  by_cases q : T3 a b t
  · by_cases m : thM h X a b t
    · by_cases l : thL h X a b t n
      · have n60 : n ≤ 60 := by
          have := l.1
          have := (tr_is (J.tr a.toNat (by have := q.1; omega)) m.1).1
          omega
        by_cases g : thG h X a b n
        · obtain ⟨q1, q2, q3⟩ := id q
          obtain ⟨m1, m2, m3⟩ := id m
          obtain ⟨l1, l2, l3⟩ := id l
          obtain ⟨g1, g2, g3⟩ := id g
          obtain ⟨k, rfl⟩ := i2n (show 0 ≤ n by omega)
          have g2 : glB h X a.toNat k 1 = true := g2
          have g3 : glB h X b.toNat k 1 = true := g3
          obtain ⟨a1, a2, a3, a4, a5, a6, a7⟩ := H.1.tray q1.1 q1.2
          obtain ⟨b1, b2, b3, b4, b5, b6, b7⟩ := H.1.tray q2.1 q2.2
          obtain ⟨d1, d2, d3, d4, d5, d6, d7⟩ := H.1.tray q3.1 q3.2
          have ta := tr_is (J.tr a.toNat (by omega)) m1
          have tb := tr_is (J.tr b.toNat (by omega)) m2
          have tc := tr_is (J.tr t.toNat (by omega)) m3
          obtain ⟨t', ⟨o1, c1⟩, e1⟩ := fk (S := Hp) (T := Hp) (fun fu v s => fX11_third_b26 X a b t (k : Int) fu s v) (fun s => some (1, pI s 721 X 0)) k (fun i s => On (fun x => x = X + 3 + 2 * t.toNat) h s ∧ ∀ p, p < 60 → gB s (X + 3 + 2 * t.toNat) p = if p < i then thV (gB h (X + 121 + 3) (60 * a.toNat + p)) (gB h (X + 121 + 3) (60 * b.toNat + p)) else gB h (X + 3 + 2 * t.toNat) p) (fun s => On (fun x => x = X + 3 + 2 * t.toNat) h s ∧ ∀ p, p < 60 → gB s (X + 3 + 2 * t.toNat) p = if p < k then thV (gB h (X + 121 + 3) (60 * a.toNat + p)) (gB h (X + 121 + 3) (60 * b.toNat + p)) else gB h (X + 3 + 2 * t.toNat) p) 0 h (by omega) ⟨On.rf h, fun p _ => by rw [if_neg (by omega)]⟩ (by omega)
            (fun fu i s hi hI => by
              obtain ⟨p1, p2⟩ := hI
              have e5 : WE ((i : Int) + 1) := we (by omega) (by omega)
              have x1 := glB_t g2 hi
              have x2 := glB_t g3 hi
              have kx : (hK s X).1 = 11 := by rw [p1.k]; exact H.k
              have gt : ∀ u, u < 4 → gB s (X + 3 + 2 * u) i = gB h (X + 3 + 2 * u) i := fun u hu => by
                by_cases y : u = t.toNat
                · rw [y, p2 i (by omega), if_neg (by omega)]
                · exact p1.b (by omega)
              have xa := xGet (h := s) (X := X) (t := a.toNat) (p := (i : Int)) (by rw [p1.k]; exact a5) (by rw [p1.r (by omega)]; exact a7) (p1.ka a6) (by omega) (by rw [p1.i (by omega)]; omega) (by omega)
              have xb := xGet (h := s) (X := X) (t := b.toNat) (p := (i : Int)) (by rw [p1.k]; exact b5) (by rw [p1.r (by omega)]; exact b7) (p1.ka b6) (by omega) (by rw [p1.i (by omega)]; omega) (by omega)
              rw [show ((i : Int)).toNat = i from rfl, gt _ (by omega), ta.2.2.2.2 i (by omega)] at xa
              rw [show ((i : Int)).toNat = i from rfl, gt _ (by omega), tb.2.2.2.2 i (by omega)] at xb
              have vb := thV_bd (gB h (X + 121 + 3) (60 * a.toNat + i)) (gB h (X + 121 + 3) (60 * b.toNat + i))
              have xp := xPut (h := s) (X := X) (t := t.toNat) (p := (i : Int)) (v := thV (gB h (X + 121 + 3) (60 * a.toNat + i)) (gB h (X + 121 + 3) (60 * b.toNat + i))) (by rw [p1.k]; exact d5) (by rw [p1.r (by omega)]; exact d7) (p1.ka d6) (by omega) (by rw [p1.i (by omega)]; omega) (by omega)
              rw [cut_l (by omega) (by omega)] at xp
              left
              refine ⟨sB s (X + 3 + 2 * t.toNat) (i : Int) (thV (gB h (X + 121 + 3) (60 * a.toNat + i)) (gB h (X + 121 + 3) (60 * b.toNat + i))), ⟨p1.tr (on_sB s rfl), fun p hp => ?_⟩, ?_⟩
              · rw [gB_sB]
                by_cases y : p = i
                · rw [if_pos ⟨rfl, by omega⟩, if_pos (by omega), w64_id (by omega) (by omega), y]
                · rw [if_neg (fun z => y (by have := z.2; omega)), p2 p hp]
                  by_cases y2 : p < i
                  · rw [if_pos y2, if_pos (by omega)]
                  · rw [if_neg y2, if_neg (by omega)]
              · show fX11_third_b26 X a b t (k : Int) (fu + 1) s (i : Int) = fX11_third_b26 X a b t (k : Int) fu (sB s (X + 3 + 2 * t.toNat) (i : Int) (thV (gB h (X + 121 + 3) (60 * a.toNat + i)) (gB h (X + 121 + 3) (60 * b.toNat + i)))) ((i : Int) + 1)
                rw [fX11_third_b26.eq_2]
                refine iteT (by omega) (gdg kx (nng (by rw [p1.r (by omega)]; exact a1) (gdg (by rw [p1.k]; exact a2) (gdg (by rw [p1.k]; exact d3) (nng (by rw [p1.c (by omega)]; exact d4) (gdg (by rw [p1.k]; exact a3) (nng (by rw [p1.c (by omega)]; exact a4) (gdg (by rw [p1.k]; exact a5) (bdg xa (gdg (by rw [p1.k]; exact b3) (nng (by rw [p1.c (by omega)]; exact b4) (gdg (by rw [p1.k]; exact b5) (bdg xb (bdg (xThV x1.1 x1.2 x2.1 x2.2) (gdg (by rw [p1.k]; exact d5) (bdg xp ?_))))))))))))))))
                rw [lt_d, e5.e])
            (fun fu s hI => by
              obtain ⟨p1, p2⟩ := hI
              have kx : (hK s X).1 = 11 := by rw [p1.k]; exact H.k
              refine ⟨s, ⟨p1, p2⟩, ?_⟩
              show fX11_third_b26 X a b t (k : Int) (fu + 1) s (k : Int) = _
              rw [fX11_third_b26.eq_2]
              refine iteF (by omega) (gdg kx ?_)
              unfold fX11_allow
              exact bd2g (gdg kx rfl) rfl)
          have e2 : fX11_third h X a b t (k : Int) = some (1, pI t' 721 X 0) := by
            unfold fX11_third
            exact gdg H.k (bdg (xTh0 H J.tr q m l g) (iteT rfl e1))
          have p1 : FL [3, 5, 7, 9] [] X h (pI t' 721 X 0) := by
            refine (fl_on o1 (fun b hb => Or.inr ⟨3 + 2 * t.toNat, ?_, by omega⟩)).tr (fl_q (q_pI t' (Or.inl ⟨rfl, rfl⟩)))
            have t5 : t.toNat = 0 ∨ t.toNat = 1 ∨ t.toNat = 2 ∨ t.toNat = 3 := by omega
            rcases t5 with z | z | z | z <;> rw [z] <;> decide
          have G1 := G.fl p1 J.z (by decide +kernel)
          have em : ∀ i, gA (pI t' 721 X 0) (X + 121 + 2) i = gA h (X + 121 + 2) i := fun i => by rw [gA_pI, o1.a (by omega)]
          have eb : ∀ i, gB (pI t' 721 X 0) (X + 121 + 3) i = gB h (X + 121 + 3) i := fun i => by rw [gB_pI, o1.b (by omega)]
          have iv := fun h3 h4 => inv_bring (h3 := h3) (h4 := h4) (n := k) (v := fun p => thV (gB h (X + 121 + 3) (60 * a.toNat + p)) (gB h (X + 121 + 3) (60 * b.toNat + p))) J i2 i3 (show t.toNat < 4 by omega) (by omega) (QR.rf h) o1 c1
          generalize pI t' 721 X 0 = h1 at e2 G1 em eb iv
          obtain ⟨ms, hc, -⟩ := G1
          have ms1 : MS (pI h1 769 (X + 121) 0) (X + 121) := ms
          obtain ⟨h2, ⟨w1, w2, w3⟩, w4⟩ := rTh0 (h := h) (h' := pI h1 769 (X + 121) 0) ms1 em eb q m l g
          have q2' : QM X h1 (pI h2 768 (X + 121) 0) := ((q_pI h1 (show pM X 769 (X + 121) from ⟨rfl, by omega⟩)).tr (q_on w1 (fun b hb => by unfold sc; omega))).tr (q_pI h2 ⟨rfl, by omega⟩)
          have z0 : gI (pI h2 768 (X + 121) 0) 768 (X + 121) = 0 := gI_pIs (rg_lit rfl)
          have ms2 : MS (pI h2 768 (X + 121) 0) (X + 121) := ms.q q2'
          have k8 : ∀ i, i < k → gA (pI h2 768 (X + 121) 0) (X + 121 + 8) i = gB h (X + 121 + 3) (60 * a.toNat + i) := w2
          have k9 : ∀ i, i < k → gA (pI h2 768 (X + 121) 0) (X + 121 + 9) i = gB h (X + 121 + 3) (60 * b.toNat + i) := w3
          have kh2 : (hK h2 (X + 121)).1 = 12 := ms2.k
          generalize eh3 : pI h2 768 (X + 121) 0 = h3 at q2' z0 ms2 k8 k9
          obtain ⟨h4, ⟨o4, c4⟩, e4⟩ := rFiT (fun fu s i => fX12_third_b21 (X + 121) a b t (k : Int) fu s i) (h := h3) (M := X + 121) (n := k) (t := t) (r := 1) (fun p => thV (gB h (X + 121 + 3) (60 * a.toNat + p)) (gB h (X + 121 + 3) (60 * b.toNat + p))) ms2 (fun i hi => by have z := thV_bd (gB h (X + 121 + 3) (60 * a.toNat + i)) (gB h (X + 121 + 3) (60 * b.toNat + i)); exact ⟨by omega, z.2⟩) q3.1 q3.2 (by omega)
            (fun fu s i hi os => by
              have mu := ms2.on os (by omega)
              have z8 : gI s 768 (X + 121) = 0 := by rw [os.i (by omega)]; exact z0
              have e5 : WE ((i : Int) + 1) := we (by omega) (by omega)
              have x1 := glB_t g2 hi
              have x2 := glB_t g3 hi
              rw [fX12_third_b21.eq_2]
              refine iteT (by omega) (gdg mu.k (iteT z8 (nng mu.r792 (gdg (by rw [mu.k8]) (gdg (by rw [mu.k8]; show 0 ≤ _ ∧ _ < (80 : Int); omega) (nng mu.r793 (gdg (by rw [mu.k9]) (gdg (by rw [mu.k9]; show 0 ≤ _ ∧ _ < (80 : Int); omega) ?_))))))))
              rw [os.a (by omega), os.a (by omega), show ((i : Int)).toNat = i from rfl, k8 i hi, k9 i hi, rThV x1.1 x1.2 x2.1 x2.2]
              simp only [lt_d, e5.e])
            (fun fu s os => by
              have mu := ms2.on os (by omega)
              have z8 : gI s 768 (X + 121) = 0 := by rw [os.i (by omega)]; exact z0
              rw [fX12_third_b21.eq_2]
              refine iteF (by omega) ?_
              unfold fX12_third_b70
              rw [z8, if_pos rfl]
              exact gdg mu.k rfl)
          refine ⟨1, h1, h4, e2, ?_, iv h3 h4 q2' z0 o4 c4⟩
          show fX12_third h1 (X + 121) a b t (k : Int) = _
          unfold fX12_third
          refine gdg ms.k (ltg (bd2g w4 (gdg kh2 ?_)))
          rw [lt_d, eh3]
          exact e4
        · refine ok3 I J ⟨5, 0, ?_, fun h1 p => ?_⟩
          · show XR (fX11_third h X a b t n) h X _ _
            unfold fX11_third
            exact XR.of (gdg H.k (bdg (xTh5 H J.tr q m l g) (iteF (by omega) (bd2_id _)))) (xr_de H.k (QR.rf h) (rg_lit rfl))
          · obtain ⟨ms, hc, -⟩ := G.q p
            have em : ∀ u, gA (pI h1 769 (X + 121) 0) (X + 121 + 2) u = gA h (X + 121 + 2) u := fun u => p.a (by unfold sc; omega)
            have eb : ∀ u, gB (pI h1 769 (X + 121) 0) (X + 121 + 3) u = gB h (X + 121 + 3) u := fun u => p.b (by unfold sc; omega)
            have ms1 : MS (pI h1 769 (X + 121) 0) (X + 121) := ms
            have z0 : gI (pI (pI h1 769 (X + 121) 0) 768 (X + 121) 5) 768 (X + 121) = 5 := gI_pIs (rg_lit rfl)
            show MR (fX12_third h1 (X + 121) a b t n) h1 X _ _
            unfold fX12_third
            refine MR.of ?_ (mr_st (st := 5) (rg_lit rfl))
            refine gdg ms.k (ltg (bd2g (rTh5 ms1 em eb q m l n60 g) (gdg ms.k ?_)))
            rw [lt_d]
            show fX12_third_b21 (X + 121) a b t n (999999 + 1) (pI (pI h1 769 (X + 121) 0) 768 (X + 121) 5) 0 = _
            rw [fX12_third_b21.eq_2, z0]
            have eb70 : fX12_third_b70 (X + 121) a b t n (pI (pI h1 769 (X + 121) 0) 768 (X + 121) 5) = some (0, pI (pI h1 769 (X + 121) 0) 768 (X + 121) 5) := by
              unfold fX12_third_b70
              rw [z0]
              exact gdg ms.k rfl
            by_cases y : 0 < n
            · exact iteT y (gdg ms.k (iteF (by omega) eb70))
            · exact iteF y eb70
      · refine ok3 I J ⟨4, 0, ?_, fun h1 p => ?_⟩
        · show XR (fX11_third h X a b t n) h X _ _
          unfold fX11_third
          exact XR.of (gdg H.k (bdg (xTh4 H J.tr q m l) (iteF (by omega) (bd2_id _)))) (xr_de H.k (QR.rf h) (rg_lit rfl))
        · obtain ⟨ms, hc, -⟩ := G.q p
          have em : ∀ u, gA (pI h1 769 (X + 121) 0) (X + 121 + 2) u = gA h (X + 121 + 2) u := fun u => p.a (by unfold sc; omega)
          have eb : ∀ u, gB (pI h1 769 (X + 121) 0) (X + 121 + 3) u = gB h (X + 121 + 3) u := fun u => p.b (by unfold sc; omega)
          have ms1 : MS (pI h1 769 (X + 121) 0) (X + 121) := ms
          have z0 : gI (pI (pI h1 769 (X + 121) 0) 768 (X + 121) 4) 768 (X + 121) = 4 := gI_pIs (rg_lit rfl)
          show MR (fX12_third h1 (X + 121) a b t n) h1 X _ _
          unfold fX12_third
          refine MR.of ?_ (mr_st (st := 4) (rg_lit rfl))
          refine gdg ms.k (ltg (bd2g (rThK ms1 em q (4, _) (fun z => absurd m z) (fun _ _ => rfl) (fun _ z => absurd z l)) (gdg ms.k ?_)))
          rw [lt_d]
          show fX12_third_b21 (X + 121) a b t n (999999 + 1) (pI (pI h1 769 (X + 121) 0) 768 (X + 121) 4) 0 = _
          rw [fX12_third_b21.eq_2, z0]
          have eb70 : fX12_third_b70 (X + 121) a b t n (pI (pI h1 769 (X + 121) 0) 768 (X + 121) 4) = some (0, pI (pI h1 769 (X + 121) 0) 768 (X + 121) 4) := by
            unfold fX12_third_b70
            rw [z0]
            exact gdg ms.k rfl
          by_cases y : 0 < n
          · exact iteT y (gdg ms.k (iteF (by omega) eb70))
          · exact iteF y eb70
    · refine ok3 I J ⟨3, 0, ?_, fun h1 p => ?_⟩
      · show XR (fX11_third h X a b t n) h X _ _
        unfold fX11_third
        exact XR.of (gdg H.k (bdg (xTh3 H J.tr q m) (iteF (by omega) (bd2_id _)))) (xr_de H.k (QR.rf h) (rg_lit rfl))
      · obtain ⟨ms, hc, -⟩ := G.q p
        have em : ∀ u, gA (pI h1 769 (X + 121) 0) (X + 121 + 2) u = gA h (X + 121 + 2) u := fun u => p.a (by unfold sc; omega)
        have eb : ∀ u, gB (pI h1 769 (X + 121) 0) (X + 121 + 3) u = gB h (X + 121 + 3) u := fun u => p.b (by unfold sc; omega)
        have ms1 : MS (pI h1 769 (X + 121) 0) (X + 121) := ms
        have z0 : gI (pI (pI h1 769 (X + 121) 0) 768 (X + 121) 3) 768 (X + 121) = 3 := gI_pIs (rg_lit rfl)
        show MR (fX12_third h1 (X + 121) a b t n) h1 X _ _
        unfold fX12_third
        refine MR.of ?_ (mr_st (st := 3) (rg_lit rfl))
        refine gdg ms.k (ltg (bd2g (rThK ms1 em q (3, _) (fun _ => rfl) (fun z => absurd z m) (fun z => absurd z m)) (gdg ms.k ?_)))
        rw [lt_d]
        show fX12_third_b21 (X + 121) a b t n (999999 + 1) (pI (pI h1 769 (X + 121) 0) 768 (X + 121) 3) 0 = _
        rw [fX12_third_b21.eq_2, z0]
        have eb70 : fX12_third_b70 (X + 121) a b t n (pI (pI h1 769 (X + 121) 0) 768 (X + 121) 3) = some (0, pI (pI h1 769 (X + 121) 0) 768 (X + 121) 3) := by
          unfold fX12_third_b70
          rw [z0]
          exact gdg ms.k rfl
        by_cases y : 0 < n
        · exact iteT y (gdg ms.k (iteF (by omega) eb70))
        · exact iteF y eb70
  · refine ok3 I J ⟨1, 0, ?_, fun h1 p => ?_⟩
    · show XR (fX11_third h X a b t n) h X _ _
      unfold fX11_third
      exact XR.of (gdg H.k (bdg (xTh1 q) (iteF (by omega) (bd2_id _)))) (xr_de H.k (QR.rf h) (rg_lit rfl))
    · obtain ⟨ms, hc, -⟩ := G.q p
      have em : ∀ u, gA (pI h1 769 (X + 121) 0) (X + 121 + 2) u = gA h (X + 121 + 2) u := fun u => p.a (by unfold sc; omega)
      have eb : ∀ u, gB (pI h1 769 (X + 121) 0) (X + 121 + 3) u = gB h (X + 121 + 3) u := fun u => p.b (by unfold sc; omega)
      have ms1 : MS (pI h1 769 (X + 121) 0) (X + 121) := ms
      have z0 : gI (pI (pI h1 769 (X + 121) 0) 768 (X + 121) 1) 768 (X + 121) = 1 := gI_pIs (rg_lit rfl)
      show MR (fX12_third h1 (X + 121) a b t n) h1 X _ _
      unfold fX12_third
      refine MR.of ?_ (mr_st (st := 1) (rg_lit rfl))
      refine gdg ms.k (ltg (bd2g (rTh1 ms1.k q) (gdg ms.k ?_)))
      rw [lt_d]
      show fX12_third_b21 (X + 121) a b t n (999999 + 1) (pI (pI h1 769 (X + 121) 0) 768 (X + 121) 1) 0 = _
      rw [fX12_third_b21.eq_2, z0]
      have eb70 : fX12_third_b70 (X + 121) a b t n (pI (pI h1 769 (X + 121) 0) 768 (X + 121) 1) = some (0, pI (pI h1 769 (X + 121) 0) 768 (X + 121) 1) := by
        unfold fX12_third_b70
        rw [z0]
        exact gdg ms.k rfl
      by_cases y : 0 < n
      · exact iteT y (gdg ms.k (iteF (by omega) eb70))
      · exact iteF y eb70

set_option maxHeartbeats 200000 in
theorem ok_second {h : Hp} {X : Nat} {a b t n : Int} (I : Inv h X) : OK3 (fun h => fX11_second h X a b t n) (fun h => fX12_second h (X + 121) a b t n) h X := by
  obtain ⟨c, J, i1, i2, i3⟩ := id I
  have H := J.x
  have G := J.m
  by_cases q : T3 a b t
  · by_cases m : thM h X a b t
    · by_cases l : thL h X a b t n
      · have n60 : n ≤ 60 := by
          have := l.1
          have := (tr_is (J.tr a.toNat (by have := q.1; omega)) m.1).1
          omega
        by_cases g : thG h X a b n
        · obtain ⟨q1, q2, q3⟩ := id q
          obtain ⟨m1, m2, m3⟩ := id m
          obtain ⟨l1, l2, l3⟩ := id l
          obtain ⟨g1, g2, g3⟩ := id g
          obtain ⟨k, rfl⟩ := i2n (show 0 ≤ n by omega)
          have g2 : glB h X a.toNat k 1 = true := g2
          have g3 : glB h X b.toNat k 1 = true := g3
          obtain ⟨a1, a2, a3, a4, a5, a6, a7⟩ := H.1.tray q1.1 q1.2
          obtain ⟨b1, b2, b3, b4, b5, b6, b7⟩ := H.1.tray q2.1 q2.2
          obtain ⟨d1, d2, d3, d4, d5, d6, d7⟩ := H.1.tray q3.1 q3.2
          have ta := tr_is (J.tr a.toNat (by omega)) m1
          have tb := tr_is (J.tr b.toNat (by omega)) m2
          have tc := tr_is (J.tr t.toNat (by omega)) m3
          obtain ⟨t', ⟨o1, c1⟩, e1⟩ := fk (S := Hp) (T := Hp) (fun fu v s => fX11_second_b26 X a b t (k : Int) fu s v) (fun s => some (1, pI s 721 X 0)) k (fun i s => On (fun x => x = X + 3 + 2 * t.toNat) h s ∧ ∀ p, p < 60 → gB s (X + 3 + 2 * t.toNat) p = if p < i then seV (gB h (X + 121 + 3) (60 * a.toNat + p)) (gB h (X + 121 + 3) (60 * b.toNat + p)) else gB h (X + 3 + 2 * t.toNat) p) (fun s => On (fun x => x = X + 3 + 2 * t.toNat) h s ∧ ∀ p, p < 60 → gB s (X + 3 + 2 * t.toNat) p = if p < k then seV (gB h (X + 121 + 3) (60 * a.toNat + p)) (gB h (X + 121 + 3) (60 * b.toNat + p)) else gB h (X + 3 + 2 * t.toNat) p) 0 h (by omega) ⟨On.rf h, fun p _ => by rw [if_neg (by omega)]⟩ (by omega)
            (fun fu i s hi hI => by
              obtain ⟨p1, p2⟩ := hI
              have e5 : WE ((i : Int) + 1) := we (by omega) (by omega)
              have x1 := glB_t g2 hi
              have x2 := glB_t g3 hi
              have kx : (hK s X).1 = 11 := by rw [p1.k]; exact H.k
              have gt : ∀ u, u < 4 → gB s (X + 3 + 2 * u) i = gB h (X + 3 + 2 * u) i := fun u hu => by
                by_cases y : u = t.toNat
                · rw [y, p2 i (by omega), if_neg (by omega)]
                · exact p1.b (by omega)
              have xa := xGet (h := s) (X := X) (t := a.toNat) (p := (i : Int)) (by rw [p1.k]; exact a5) (by rw [p1.r (by omega)]; exact a7) (p1.ka a6) (by omega) (by rw [p1.i (by omega)]; omega) (by omega)
              have xb := xGet (h := s) (X := X) (t := b.toNat) (p := (i : Int)) (by rw [p1.k]; exact b5) (by rw [p1.r (by omega)]; exact b7) (p1.ka b6) (by omega) (by rw [p1.i (by omega)]; omega) (by omega)
              rw [show ((i : Int)).toNat = i from rfl, gt _ (by omega), ta.2.2.2.2 i (by omega)] at xa
              rw [show ((i : Int)).toNat = i from rfl, gt _ (by omega), tb.2.2.2.2 i (by omega)] at xb
              have vb := seV_bd (gB h (X + 121 + 3) (60 * a.toNat + i)) (gB h (X + 121 + 3) (60 * b.toNat + i))
              have xp := xPut (h := s) (X := X) (t := t.toNat) (p := (i : Int)) (v := seV (gB h (X + 121 + 3) (60 * a.toNat + i)) (gB h (X + 121 + 3) (60 * b.toNat + i))) (by rw [p1.k]; exact d5) (by rw [p1.r (by omega)]; exact d7) (p1.ka d6) (by omega) (by rw [p1.i (by omega)]; omega) (by omega)
              rw [cut_l (by omega) (by omega)] at xp
              left
              refine ⟨sB s (X + 3 + 2 * t.toNat) (i : Int) (seV (gB h (X + 121 + 3) (60 * a.toNat + i)) (gB h (X + 121 + 3) (60 * b.toNat + i))), ⟨p1.tr (on_sB s rfl), fun p hp => ?_⟩, ?_⟩
              · rw [gB_sB]
                by_cases y : p = i
                · rw [if_pos ⟨rfl, by omega⟩, if_pos (by omega), w64_id (by omega) (by omega), y]
                · rw [if_neg (fun z => y (by have := z.2; omega)), p2 p hp]
                  by_cases y2 : p < i
                  · rw [if_pos y2, if_pos (by omega)]
                  · rw [if_neg y2, if_neg (by omega)]
              · show fX11_second_b26 X a b t (k : Int) (fu + 1) s (i : Int) = fX11_second_b26 X a b t (k : Int) fu (sB s (X + 3 + 2 * t.toNat) (i : Int) (seV (gB h (X + 121 + 3) (60 * a.toNat + i)) (gB h (X + 121 + 3) (60 * b.toNat + i)))) ((i : Int) + 1)
                rw [fX11_second_b26.eq_2]
                refine iteT (by omega) (gdg kx (nng (by rw [p1.r (by omega)]; exact a1) (gdg (by rw [p1.k]; exact a2) (gdg (by rw [p1.k]; exact d3) (nng (by rw [p1.c (by omega)]; exact d4) (gdg (by rw [p1.k]; exact a3) (nng (by rw [p1.c (by omega)]; exact a4) (gdg (by rw [p1.k]; exact a5) (bdg xa (gdg (by rw [p1.k]; exact b3) (nng (by rw [p1.c (by omega)]; exact b4) (gdg (by rw [p1.k]; exact b5) (bdg xb (bdg (xSeV x1.1 x1.2 x2.1 x2.2) (gdg (by rw [p1.k]; exact d5) (bdg xp ?_))))))))))))))))
                rw [lt_d, e5.e])
            (fun fu s hI => by
              obtain ⟨p1, p2⟩ := hI
              have kx : (hK s X).1 = 11 := by rw [p1.k]; exact H.k
              refine ⟨s, ⟨p1, p2⟩, ?_⟩
              show fX11_second_b26 X a b t (k : Int) (fu + 1) s (k : Int) = _
              rw [fX11_second_b26.eq_2]
              refine iteF (by omega) (gdg kx ?_)
              unfold fX11_allow
              exact bd2g (gdg kx rfl) rfl)
          have e2 : fX11_second h X a b t (k : Int) = some (1, pI t' 721 X 0) := by
            unfold fX11_second
            exact gdg H.k (bdg (xTh0 H J.tr q m l g) (iteT rfl e1))
          have p1 : FL [3, 5, 7, 9] [] X h (pI t' 721 X 0) := by
            refine (fl_on o1 (fun b hb => Or.inr ⟨3 + 2 * t.toNat, ?_, by omega⟩)).tr (fl_q (q_pI t' (Or.inl ⟨rfl, rfl⟩)))
            have t5 : t.toNat = 0 ∨ t.toNat = 1 ∨ t.toNat = 2 ∨ t.toNat = 3 := by omega
            rcases t5 with z | z | z | z <;> rw [z] <;> decide
          have G1 := G.fl p1 J.z (by decide +kernel)
          have em : ∀ i, gA (pI t' 721 X 0) (X + 121 + 2) i = gA h (X + 121 + 2) i := fun i => by rw [gA_pI, o1.a (by omega)]
          have eb : ∀ i, gB (pI t' 721 X 0) (X + 121 + 3) i = gB h (X + 121 + 3) i := fun i => by rw [gB_pI, o1.b (by omega)]
          have iv := fun h3 h4 => inv_bring (h3 := h3) (h4 := h4) (n := k) (v := fun p => seV (gB h (X + 121 + 3) (60 * a.toNat + p)) (gB h (X + 121 + 3) (60 * b.toNat + p))) J i2 i3 (show t.toNat < 4 by omega) (by omega) (QR.rf h) o1 c1
          generalize pI t' 721 X 0 = h1 at e2 G1 em eb iv
          obtain ⟨ms, hc, -⟩ := G1
          have ms1 : MS (pI h1 769 (X + 121) 0) (X + 121) := ms
          obtain ⟨h2, ⟨w1, w2, w3⟩, w4⟩ := rTh0 (h := h) (h' := pI h1 769 (X + 121) 0) ms1 em eb q m l g
          have q2' : QM X h1 (pI h2 768 (X + 121) 0) := ((q_pI h1 (show pM X 769 (X + 121) from ⟨rfl, by omega⟩)).tr (q_on w1 (fun b hb => by unfold sc; omega))).tr (q_pI h2 ⟨rfl, by omega⟩)
          have z0 : gI (pI h2 768 (X + 121) 0) 768 (X + 121) = 0 := gI_pIs (rg_lit rfl)
          have ms2 : MS (pI h2 768 (X + 121) 0) (X + 121) := ms.q q2'
          have k8 : ∀ i, i < k → gA (pI h2 768 (X + 121) 0) (X + 121 + 8) i = gB h (X + 121 + 3) (60 * a.toNat + i) := w2
          have k9 : ∀ i, i < k → gA (pI h2 768 (X + 121) 0) (X + 121 + 9) i = gB h (X + 121 + 3) (60 * b.toNat + i) := w3
          have kh2 : (hK h2 (X + 121)).1 = 12 := ms2.k
          generalize eh3 : pI h2 768 (X + 121) 0 = h3 at q2' z0 ms2 k8 k9
          obtain ⟨h4, ⟨o4, c4⟩, e4⟩ := rFiT (fun fu s i => fX12_second_b21 (X + 121) a b t (k : Int) fu s i) (h := h3) (M := X + 121) (n := k) (t := t) (r := 1) (fun p => seV (gB h (X + 121 + 3) (60 * a.toNat + p)) (gB h (X + 121 + 3) (60 * b.toNat + p))) ms2 (fun i hi => by have z := seV_bd (gB h (X + 121 + 3) (60 * a.toNat + i)) (gB h (X + 121 + 3) (60 * b.toNat + i)); exact ⟨by omega, z.2⟩) q3.1 q3.2 (by omega)
            (fun fu s i hi os => by
              have mu := ms2.on os (by omega)
              have z8 : gI s 768 (X + 121) = 0 := by rw [os.i (by omega)]; exact z0
              have e5 : WE ((i : Int) + 1) := we (by omega) (by omega)
              have x1 := glB_t g2 hi
              have x2 := glB_t g3 hi
              rw [fX12_second_b21.eq_2]
              refine iteT (by omega) (gdg mu.k (iteT z8 (nng mu.r793 (gdg (by rw [mu.k9]) (gdg (by rw [mu.k9]; show 0 ≤ _ ∧ _ < (80 : Int); omega) (nng mu.r792 (gdg (by rw [mu.k8]) (gdg (by rw [mu.k8]; show 0 ≤ _ ∧ _ < (80 : Int); omega) ?_))))))))
              rw [os.a (by omega), os.a (by omega), show ((i : Int)).toNat = i from rfl, k8 i hi, k9 i hi, rSeV x1.1 x1.2 x2.1 x2.2]
              simp only [lt_d, e5.e])
            (fun fu s os => by
              have mu := ms2.on os (by omega)
              have z8 : gI s 768 (X + 121) = 0 := by rw [os.i (by omega)]; exact z0
              rw [fX12_second_b21.eq_2]
              refine iteF (by omega) ?_
              unfold fX12_second_b71
              rw [z8, if_pos rfl]
              exact gdg mu.k rfl)
          refine ⟨1, h1, h4, e2, ?_, iv h3 h4 q2' z0 o4 c4⟩
          show fX12_second h1 (X + 121) a b t (k : Int) = _
          unfold fX12_second
          refine gdg ms.k (ltg (bd2g w4 (gdg kh2 ?_)))
          rw [lt_d, eh3]
          exact e4
        · refine ok3 I J ⟨5, 0, ?_, fun h1 p => ?_⟩
          · show XR (fX11_second h X a b t n) h X _ _
            unfold fX11_second
            exact XR.of (gdg H.k (bdg (xTh5 H J.tr q m l g) (iteF (by omega) (bd2_id _)))) (xr_de H.k (QR.rf h) (rg_lit rfl))
          · obtain ⟨ms, hc, -⟩ := G.q p
            have em : ∀ u, gA (pI h1 769 (X + 121) 0) (X + 121 + 2) u = gA h (X + 121 + 2) u := fun u => p.a (by unfold sc; omega)
            have eb : ∀ u, gB (pI h1 769 (X + 121) 0) (X + 121 + 3) u = gB h (X + 121 + 3) u := fun u => p.b (by unfold sc; omega)
            have ms1 : MS (pI h1 769 (X + 121) 0) (X + 121) := ms
            have z0 : gI (pI (pI h1 769 (X + 121) 0) 768 (X + 121) 5) 768 (X + 121) = 5 := gI_pIs (rg_lit rfl)
            show MR (fX12_second h1 (X + 121) a b t n) h1 X _ _
            unfold fX12_second
            refine MR.of ?_ (mr_st (st := 5) (rg_lit rfl))
            refine gdg ms.k (ltg (bd2g (rTh5 ms1 em eb q m l n60 g) (gdg ms.k ?_)))
            rw [lt_d]
            show fX12_second_b21 (X + 121) a b t n (999999 + 1) (pI (pI h1 769 (X + 121) 0) 768 (X + 121) 5) 0 = _
            rw [fX12_second_b21.eq_2, z0]
            have eb70 : fX12_second_b71 (X + 121) a b t n (pI (pI h1 769 (X + 121) 0) 768 (X + 121) 5) = some (0, pI (pI h1 769 (X + 121) 0) 768 (X + 121) 5) := by
              unfold fX12_second_b71
              rw [z0]
              exact gdg ms.k rfl
            by_cases y : 0 < n
            · exact iteT y (gdg ms.k (iteF (by omega) eb70))
            · exact iteF y eb70
      · refine ok3 I J ⟨4, 0, ?_, fun h1 p => ?_⟩
        · show XR (fX11_second h X a b t n) h X _ _
          unfold fX11_second
          exact XR.of (gdg H.k (bdg (xTh4 H J.tr q m l) (iteF (by omega) (bd2_id _)))) (xr_de H.k (QR.rf h) (rg_lit rfl))
        · obtain ⟨ms, hc, -⟩ := G.q p
          have em : ∀ u, gA (pI h1 769 (X + 121) 0) (X + 121 + 2) u = gA h (X + 121 + 2) u := fun u => p.a (by unfold sc; omega)
          have eb : ∀ u, gB (pI h1 769 (X + 121) 0) (X + 121 + 3) u = gB h (X + 121 + 3) u := fun u => p.b (by unfold sc; omega)
          have ms1 : MS (pI h1 769 (X + 121) 0) (X + 121) := ms
          have z0 : gI (pI (pI h1 769 (X + 121) 0) 768 (X + 121) 4) 768 (X + 121) = 4 := gI_pIs (rg_lit rfl)
          show MR (fX12_second h1 (X + 121) a b t n) h1 X _ _
          unfold fX12_second
          refine MR.of ?_ (mr_st (st := 4) (rg_lit rfl))
          refine gdg ms.k (ltg (bd2g (rThK ms1 em q (4, _) (fun z => absurd m z) (fun _ _ => rfl) (fun _ z => absurd z l)) (gdg ms.k ?_)))
          rw [lt_d]
          show fX12_second_b21 (X + 121) a b t n (999999 + 1) (pI (pI h1 769 (X + 121) 0) 768 (X + 121) 4) 0 = _
          rw [fX12_second_b21.eq_2, z0]
          have eb70 : fX12_second_b71 (X + 121) a b t n (pI (pI h1 769 (X + 121) 0) 768 (X + 121) 4) = some (0, pI (pI h1 769 (X + 121) 0) 768 (X + 121) 4) := by
            unfold fX12_second_b71
            rw [z0]
            exact gdg ms.k rfl
          by_cases y : 0 < n
          · exact iteT y (gdg ms.k (iteF (by omega) eb70))
          · exact iteF y eb70
    · refine ok3 I J ⟨3, 0, ?_, fun h1 p => ?_⟩
      · show XR (fX11_second h X a b t n) h X _ _
        unfold fX11_second
        exact XR.of (gdg H.k (bdg (xTh3 H J.tr q m) (iteF (by omega) (bd2_id _)))) (xr_de H.k (QR.rf h) (rg_lit rfl))
      · obtain ⟨ms, hc, -⟩ := G.q p
        have em : ∀ u, gA (pI h1 769 (X + 121) 0) (X + 121 + 2) u = gA h (X + 121 + 2) u := fun u => p.a (by unfold sc; omega)
        have eb : ∀ u, gB (pI h1 769 (X + 121) 0) (X + 121 + 3) u = gB h (X + 121 + 3) u := fun u => p.b (by unfold sc; omega)
        have ms1 : MS (pI h1 769 (X + 121) 0) (X + 121) := ms
        have z0 : gI (pI (pI h1 769 (X + 121) 0) 768 (X + 121) 3) 768 (X + 121) = 3 := gI_pIs (rg_lit rfl)
        show MR (fX12_second h1 (X + 121) a b t n) h1 X _ _
        unfold fX12_second
        refine MR.of ?_ (mr_st (st := 3) (rg_lit rfl))
        refine gdg ms.k (ltg (bd2g (rThK ms1 em q (3, _) (fun _ => rfl) (fun z => absurd z m) (fun z => absurd z m)) (gdg ms.k ?_)))
        rw [lt_d]
        show fX12_second_b21 (X + 121) a b t n (999999 + 1) (pI (pI h1 769 (X + 121) 0) 768 (X + 121) 3) 0 = _
        rw [fX12_second_b21.eq_2, z0]
        have eb70 : fX12_second_b71 (X + 121) a b t n (pI (pI h1 769 (X + 121) 0) 768 (X + 121) 3) = some (0, pI (pI h1 769 (X + 121) 0) 768 (X + 121) 3) := by
          unfold fX12_second_b71
          rw [z0]
          exact gdg ms.k rfl
        by_cases y : 0 < n
        · exact iteT y (gdg ms.k (iteF (by omega) eb70))
        · exact iteF y eb70
  · refine ok3 I J ⟨1, 0, ?_, fun h1 p => ?_⟩
    · show XR (fX11_second h X a b t n) h X _ _
      unfold fX11_second
      exact XR.of (gdg H.k (bdg (xTh1 q) (iteF (by omega) (bd2_id _)))) (xr_de H.k (QR.rf h) (rg_lit rfl))
    · obtain ⟨ms, hc, -⟩ := G.q p
      have em : ∀ u, gA (pI h1 769 (X + 121) 0) (X + 121 + 2) u = gA h (X + 121 + 2) u := fun u => p.a (by unfold sc; omega)
      have eb : ∀ u, gB (pI h1 769 (X + 121) 0) (X + 121 + 3) u = gB h (X + 121 + 3) u := fun u => p.b (by unfold sc; omega)
      have ms1 : MS (pI h1 769 (X + 121) 0) (X + 121) := ms
      have z0 : gI (pI (pI h1 769 (X + 121) 0) 768 (X + 121) 1) 768 (X + 121) = 1 := gI_pIs (rg_lit rfl)
      show MR (fX12_second h1 (X + 121) a b t n) h1 X _ _
      unfold fX12_second
      refine MR.of ?_ (mr_st (st := 1) (rg_lit rfl))
      refine gdg ms.k (ltg (bd2g (rTh1 ms1.k q) (gdg ms.k ?_)))
      rw [lt_d]
      show fX12_second_b21 (X + 121) a b t n (999999 + 1) (pI (pI h1 769 (X + 121) 0) 768 (X + 121) 1) 0 = _
      rw [fX12_second_b21.eq_2, z0]
      have eb70 : fX12_second_b71 (X + 121) a b t n (pI (pI h1 769 (X + 121) 0) 768 (X + 121) 1) = some (0, pI (pI h1 769 (X + 121) 0) 768 (X + 121) 1) := by
        unfold fX12_second_b71
        rw [z0]
        exact gdg ms.k rfl
      by_cases y : 0 < n
      · exact iteT y (gdg ms.k (iteF (by omega) eb70))
      · exact iteF y eb70
