/-! MERGED ROWS, in the reference: the call -/
def ownP (c : Nat → Int) (A m j : Nat) : Bool := A.testBit j && ownR c A m j
def ownL (c : Nat → Int) (A m k : Nat) : List Nat := (List.range k).filter (ownP c A m)
def gtN (l : List Nat) (k : Nat) : Nat := l.getD k 0
set_option maxHeartbeats 200000 in
theorem gtN_l {p s : List Nat} {k : Nat} (h : k < p.length) : gtN (p ++ s) k = gtN p k := by
  unfold gtN
  simp [List.getD_eq_getElem?_getD, List.getElem?_append_left h]
set_option maxHeartbeats 200000 in
theorem gtN_r {p : List Nat} {a : Nat} : gtN (p ++ [a]) p.length = a := by
  unfold gtN
  simp [List.getD_eq_getElem?_getD]
set_option maxHeartbeats 200000 in
theorem gtN_mem {l : List Nat} {k : Nat} (h : k < l.length) : gtN l k ∈ l := by
  unfold gtN
  rw [List.getD_eq_getElem?_getD, List.getElem?_eq_getElem h]
  exact List.getElem_mem h
set_option maxHeartbeats 200000 in
theorem ownL_s (c : Nat → Int) (A m k : Nat) : ownL c A m (k + 1) = if ownP c A m k then ownL c A m k ++ [k] else ownL c A m k := by
  unfold ownL
  rw [List.range_succ, List.filter_append]
  cases q : ownP c A m k with
  | true => simp [q]
  | false => simp [q]
set_option maxHeartbeats 200000 in
theorem ownL_len (c : Nat → Int) (A m k : Nat) : ((ownL c A m k).length : Int) ≤ bcN k A := by
  induction k with
  | zero => exact Int.le_refl _
  | succ k ih =>
    have e : bcN (k + 1) A = bcN k A + (if A.testBit k then 1 else 0) := rfl
    rw [ownL_s, e]
    cases q : A.testBit k with
    | true =>
      rw [if_pos rfl]
      split
      · rw [List.length_append]; show (((ownL c A m k).length + 1 : Nat) : Int) ≤ _; omega
      · omega
    | false =>
      have : ownP c A m k = false := by unfold ownP; rw [q]; rfl
      rw [this]
      exact Int.le_trans ih (by show _ ≤ bcN k A + 0; omega)
set_option maxHeartbeats 200000 in
theorem bcN_mono {A k m : Nat} (h : k ≤ m) : bcN k A ≤ bcN m A := by
  induction m with
  | zero => rw [show k = 0 by omega]; exact Int.le_refl _
  | succ m ih =>
    by_cases q : k = m + 1
    · rw [q]; exact Int.le_refl _
    · have e : bcN (m + 1) A = bcN m A + (if A.testBit m then 1 else 0) := rfl
      have := ih (by omega)
      rw [e]
      split <;> omega
set_option maxHeartbeats 200000 in
theorem ownL_mem {c : Nat → Int} {A m k j : Nat} (h : j ∈ ownL c A m k) : j < k ∧ A.testBit j = true ∧ ownR c A m j = true := by
  unfold ownL at h
  rw [List.mem_filter] at h
  have h2 := h.2
  unfold ownP at h2
  rw [Bool.and_eq_true] at h2
  exact ⟨List.mem_range.mp h.1, h2.1, h2.2⟩
def ptZ (c : Nat → Int) (l : List Nat) (i : Nat) : Nat := (hN c (gtN l i : Int)).toNat
def ptL (c : Nat → Int) (l : List Nat) (i : Nat) : Int → Int := hL c (gtN l i : Int)
def ptO (c : Nat → Int) (l : List Nat) (a b : Nat) : Nat := if a < l.length then (lapS c (gtN l a : Int) (gtN l b : Int)).toNat else 0
set_option maxHeartbeats 200000 in
theorem ptT {c : Nat → Int} {l : List Nat} (w : WF c) (n6 : l.length ≤ 6) (hm : ∀ j ∈ l, j < (c 2).toNat ∧ 0 < hN c (j : Int)) : PTs c l.length (gtN l) (ptZ c l) (ptL c l) (ptO c l) := by
  have nj := w.nj
  refine ⟨n6, fun i hi => ?_, fun a b hb => ?_⟩
  · obtain ⟨h1, h2⟩ := hm _ (gtN_mem hi)
    have b := hN_bd w (j := (gtN l i : Int)) (by omega) (by omega)
    unfold ptZ
    exact ⟨by omega, by omega, by omega, by omega, fun _ => rfl⟩
  · unfold ptO
    have h4 := lapR_bd (hN c (gtN l a : Int)) (hL c (gtN l a : Int)) (hN c (gtN l b : Int)) (hL c (gtN l b : Int))
    have e : lapS c (gtN l a : Int) (gtN l b : Int) = lapR (hN c (gtN l a : Int)) (hL c (gtN l a : Int)) (hN c (gtN l b : Int)) (hL c (gtN l b : Int)) := rfl
    rw [← e] at h4
    split <;> omega
set_option maxHeartbeats 200000 in
theorem ownL_ok {c : Nat → Int} {A : Nat} (w : WF c) (bA : bcu A ≤ 6) : (ownL c A (c 2).toNat (c 2).toNat).length ≤ 6 ∧ ∀ j ∈ ownL c A (c 2).toNat (c 2).toNat, j < (c 2).toNat ∧ 0 < hN c (j : Int) := by
  have nj := w.nj
  have h1 := ownL_len c A (c 2).toNat (c 2).toNat
  have h2 := bcN_mono (A := A) (show (c 2).toNat ≤ 8 by omega)
  have h3 := bcu_le A
  refine ⟨by omega, fun j hj => ?_⟩
  obtain ⟨j1, j2, j3⟩ := ownL_mem hj
  refine ⟨j1, ?_⟩
  unfold ownR at j3
  rw [Bool.and_eq_true] at j3
  exact of_decide_eq_true j3.1
set_option maxHeartbeats 200000 in
theorem rOwL {h : Hp} {X A : Nat} {c : Nat → Int} (G : CM h X c) (hA : A < 256) (bA : bcu A ≤ 6) (e804 : gI h 804 (X + 121) = 0) :
    ∃ t : Hp, (QM X h t ∧ gI t 768 (X + 121) = gI h 768 (X + 121) ∧ gI t 804 (X + 121) = ((ownL c A (c 2).toNat (c 2).toNat).length : Int) ∧ ∀ k, k < (ownL c A (c 2).toNat (c 2).toNat).length → gA t (X + 121 + 14) k = (gtN (ownL c A (c 2).toNat (c 2).toNat) k : Int)) ∧
      fX12_merged_b46 (X + 121) (A : Int) FU h 0 = (lt (α := Hp) (pI t 805 (X + 121) (-1)) fun h6 => bd (fX12_mergeFrom 12 h6 (X + 121) 0 (-1) 0) fun h9 => gd ((hK h9 (X + 121)).1 = 12) <| lt (α := Hp) (pI h9 806 (X + 121) (gI h9 805 (X + 121))) fun h11 => fX12_merged_b124 (X + 121) (A : Int) FU h11 0) := by
  have w := G.2.2
  have nj := w.nj
  have b8 := bcu_le A
  exact fk (S := Hp) (T := Hp) (fun fu i t => fX12_merged_b46 (X + 121) (A : Int) fu t i) (fun t => lt (α := Hp) (pI t 805 (X + 121) (-1)) fun h6 => bd (fX12_mergeFrom 12 h6 (X + 121) 0 (-1) 0) fun h9 => gd ((hK h9 (X + 121)).1 = 12) <| lt (α := Hp) (pI h9 806 (X + 121) (gI h9 805 (X + 121))) fun h11 => fX12_merged_b124 (X + 121) (A : Int) FU h11 0) (c 2).toNat
    (fun i t => QM X h t ∧ gI t 768 (X + 121) = gI h 768 (X + 121) ∧ gI t 804 (X + 121) = ((ownL c A (c 2).toNat i).length : Int) ∧ ∀ k, k < (ownL c A (c 2).toNat i).length → gA t (X + 121 + 14) k = (gtN (ownL c A (c 2).toNat i) k : Int)) (fun t => QM X h t ∧ gI t 768 (X + 121) = gI h 768 (X + 121) ∧ gI t 804 (X + 121) = ((ownL c A (c 2).toNat (c 2).toNat).length : Int) ∧ ∀ k, k < (ownL c A (c 2).toNat (c 2).toNat).length → gA t (X + 121 + 14) k = (gtN (ownL c A (c 2).toNat (c 2).toNat) k : Int)) 0 h (by omega) ⟨QR.rf h, rfl, e804, fun k hk => absurd hk (by show ¬ k < 0; omega)⟩ (by omega)
    (fun fu i t hi hI => by
      obtain ⟨p1, p2, p3, p4⟩ := hI
      have e5 : WE ((i : Int) + 1) := we (by omega) (by omega)
      obtain ⟨mt, hc, -⟩ := G.q p1
      have l2 : inA 2 (hK t (X + 121 + 5)).2 := by rw [mt.k5]; show 0 ≤ (2 : Int) ∧ (2 : Int) < 1850; omega
      have ih := rHas (s := A) (k := i) (by omega) (by omega)
      have io := rOwn (c := c) (A := A) (j := i) w hA hi
      have e96 : ∀ t', fX12_merged_b96 (X + 121) (A : Int) (fX12_merged_b46 (X + 121) (A : Int) fu) t' (i : Int) = fX12_merged_b46 (X + 121) (A : Int) fu t' ((i : Int) + 1) := fun t' => by rw [fX12_merged_b96, lt_d, e5.e]
      have step := ownL_s c A (c 2).toNat i
      have sn := ownL_len c A (c 2).toNat (i + 1)
      have sm := bcN_mono (A := A) (show i + 1 ≤ 8 by omega)
      left
      cases y1 : A.testBit i with
      | false =>
        have : ownP c A (c 2).toNat i = false := by unfold ownP; rw [y1]; rfl
        rw [this] at step
        have step : ownL c A (c 2).toNat (i + 1) = ownL c A (c 2).toNat i := step
        rw [y1] at ih
        refine ⟨t, ⟨p1, p2, by rw [step]; exact p3, by rw [step]; exact p4⟩, ?_⟩
        show fX12_merged_b46 (X + 121) (A : Int) (fu + 1) t (i : Int) = _
        rw [fX12_merged_b46.eq_2]
        refine gdg mt.k (nng mt.r788 (gdg (by rw [mt.k5]) (gdg l2 ?_)))
        rw [hc]
        exact iteT (by show (i : Int) < c 2; omega) (bdg ih (iteT rfl (e96 t)))
      | true =>
        rw [y1] at ih
        have n1 : ¬ b01 true = 0 := by decide
        cases y2 : ownR c A (c 2).toNat i with
        | false =>
          have : ownP c A (c 2).toNat i = false := by unfold ownP; rw [y1, y2]; rfl
          rw [this] at step
          have step : ownL c A (c 2).toNat (i + 1) = ownL c A (c 2).toNat i := step
          rw [y2] at io
          refine ⟨t, ⟨p1, p2, by rw [step]; exact p3, by rw [step]; exact p4⟩, ?_⟩
          show fX12_merged_b46 (X + 121) (A : Int) (fu + 1) t (i : Int) = _
          rw [fX12_merged_b46.eq_2]
          refine gdg mt.k (nng mt.r788 (gdg (by rw [mt.k5]) (gdg l2 ?_)))
          rw [hc]
          exact iteT (by show (i : Int) < c 2; omega) (bdg ih (iteF n1 (gdg mt.k5 (bdg io (iteT rfl (e96 t))))))
        | true =>
          have : ownP c A (c 2).toNat i = true := by unfold ownP; rw [y1, y2]; rfl
          rw [this, if_pos rfl] at step
          rw [y2] at io
          have ln : (ownL c A (c 2).toNat (i + 1)).length = (ownL c A (c 2).toNat i).length + 1 := by rw [step, List.length_append]; rfl
          have e6 : WE (((ownL c A (c 2).toNat i).length : Int) + 1) := we (by omega) (by omega)
          have rr : rg (i : Int) := by unfold rg; omega
          refine ⟨pI (sA t (X + 121 + 14) ((ownL c A (c 2).toNat i).length : Int) (i : Int)) 804 (X + 121) (((ownL c A (c 2).toNat i).length : Int) + 1), ⟨(p1.tr (q_sA t (by unfold sc; omega))).tr (q_pI _ ⟨rfl, by omega⟩), ?_, ?_, fun k hk => ?_⟩, ?_⟩
          · rw [gI_n (by omega), gI_sA]; exact p2
          · rw [gI_pIs (by unfold rg; omega), ln]; omega
          · rw [gA_pI, gA_sA, step]
            by_cases y : k = (ownL c A (c 2).toNat i).length
            · rw [if_pos ⟨rfl, by omega⟩, w32_of rr, y, gtN_r]
            · rw [if_neg (fun zz => y (by have := zz.2; omega)), gtN_l (by omega)]
              exact p4 k (by omega)
          · show fX12_merged_b46 (X + 121) (A : Int) (fu + 1) t (i : Int) = _
            rw [fX12_merged_b46.eq_2]
            refine gdg mt.k (nng mt.r788 (gdg (by rw [mt.k5]) (gdg l2 ?_)))
            rw [hc, p3]
            refine iteT (by show (i : Int) < c 2; omega) (bdg ih (iteF n1 (gdg mt.k5 (bdg io (iteF n1 (nng mt.r801 (gdg (by rw [mt.k14]) (gdg (by rw [mt.k14]; show 0 ≤ _ ∧ _ < (6 : Int); omega) ?_))))))))
            rw [lt_d, gI_sA, p3, e6.e, lt_d]
            exact e96 _)
    (fun fu t hI => by
      obtain ⟨p1, p2, p3, p4⟩ := hI
      obtain ⟨mt, hc, -⟩ := G.q p1
      have l2 : inA 2 (hK t (X + 121 + 5)).2 := by rw [mt.k5]; show 0 ≤ (2 : Int) ∧ (2 : Int) < 1850; omega
      refine ⟨t, ⟨p1, p2, p3, p4⟩, ?_⟩
      show fX12_merged_b46 (X + 121) (A : Int) (fu + 1) t ((c 2).toNat : Int) = _
      rw [fX12_merged_b46.eq_2]
      refine gdg mt.k (nng mt.r788 (gdg (by rw [mt.k5]) (gdg l2 ?_)))
      rw [hc]
      exact iteF (by show ¬ _ < c 2; omega) rfl)
set_option maxHeartbeats 200000 in
/-- the reference's row is kept -/
theorem rMgC {h : Hp} {X m : Nat} (H : MS h (X + 121)) (z : X + 144 ≤ hZ h) (m8 : m ≤ 72) (e : gI h 805 (X + 121) = (m : Int)) (n : Int) :
    ∃ t : Hp, (FL [136] [] X h t ∧ (∀ f a, gI t f a = gI h f a) ∧ ∀ k, k < m → gA t (X + 121 + 15) k = gA h (X + 121 + 16) k) ∧ fX12_merged_b124 (X + 121) n FU h 0 = some ((m : Int), t) := by
  exact fk (S := Hp) (T := Hp) (fun fu i t => fX12_merged_b124 (X + 121) n fu t i) (fun t => some ((m : Int), t)) m
    (fun i t => FL [136] [] X h t ∧ (∀ f a, gI t f a = gI h f a) ∧ (∀ k, gA t (X + 121 + 16) k = gA h (X + 121 + 16) k) ∧ ∀ k, k < i → gA t (X + 121 + 15) k = gA h (X + 121 + 16) k) (fun t => FL [136] [] X h t ∧ (∀ f a, gI t f a = gI h f a) ∧ ∀ k, k < m → gA t (X + 121 + 15) k = gA h (X + 121 + 16) k) 0 h (by omega) ⟨FL.rf h, fun _ _ => rfl, fun _ => rfl, fun k hk => absurd hk (by omega)⟩ (by omega)
    (fun fu i t hi hI => by
      obtain ⟨p1, p2, p3, p4⟩ := hI
      have e5 : WE ((i : Int) + 1) := we (by omega) (by omega)
      have mt := H.fl p1 z (by decide +kernel)
      have e7 := p2 805 (X + 121)
      left
      refine ⟨sA t (X + 121 + 15) (i : Int) (gA t (X + 121 + 16) i), ⟨p1.tr (fl_sA t 136 rfl (by decide)), fun f a => by rw [gI_sA]; exact p2 f a, fun k => ?_, fun k hk => ?_⟩, ?_⟩
      · rw [gA_sA, if_neg (by omega)]; exact p3 k
      · rw [gA_sA]
        by_cases y : k = i
        · have rr : rg (gA t (X + 121 + 16) i) := ti_rg _
          rw [if_pos ⟨rfl, by omega⟩, w32_of rr, p3, y]
        · rw [if_neg (fun zz => y (by have := zz.2; omega))]; exact p4 k (by omega)
      · show fX12_merged_b124 (X + 121) n (fu + 1) t (i : Int) = fX12_merged_b124 (X + 121) n fu (sA t (X + 121 + 15) (i : Int) (gA t (X + 121 + 16) i)) ((i : Int) + 1)
        rw [fX12_merged_b124.eq_2, e7, e]
        refine gdg mt.k (iteT (by omega) (nng mt.r802 (nng mt.r803 (gdg (by rw [mt.k16]) (gdg (by rw [mt.k16]; show 0 ≤ _ ∧ _ < (80 : Int); omega) (gdg (by rw [mt.k15]) (gdg (by rw [mt.k15]; show 0 ≤ _ ∧ _ < (80 : Int); omega) ?_)))))))
        rw [lt_d, lt_d, e5.e]
        rfl)
    (fun fu t hI => by
      obtain ⟨p1, p2, p3, p4⟩ := hI
      have mt := H.fl p1 z (by decide +kernel)
      have e7 := p2 805 (X + 121)
      refine ⟨t, ⟨p1, p2, p4⟩, ?_⟩
      show fX12_merged_b124 (X + 121) n (fu + 1) t (m : Int) = _
      rw [fX12_merged_b124.eq_2, e7, e]
      exact gdg mt.k (iteF (by omega) rfl))
set_option maxHeartbeats 200000 in
/-- the reference answers with the least word -/
theorem rMrg {h : Hp} {X A : Nat} {c : Nat → Int} {w : List Int} {l : List Nat} (G : CM h X c) (z : X + 144 ≤ hZ h) (q : okSet c (A : Int)) (hA : A < 256) (bA : bcu A ≤ 6) (el : ownL c A (c 2).toNat (c 2).toNat = l)
    (hw : mgf l.length (ptZ c l) (ptL c l) (ptO c l) l.length 0 l.length [] none = some w) (wl : w.length ≤ 72) :
    ∃ t : Hp, (FL [136] [(806, 121)] X h t ∧ gI t 806 (X + 121) = (w.length : Int) ∧ gI t 768 (X + 121) = 0 ∧ gI t 721 X = gI h 721 X ∧ ∀ k, k < w.length → gA t (X + 121 + 15) k = gtL w k) ∧ fX12_merged h (X + 121) (A : Int) = some ((w.length : Int), t) := by
  have ms := G.1
  have wf := G.2.2
  have qz : QM X h (pI (m0 h X) 804 (X + 121) 0) := (m0_q h X).tr (q_pI _ ⟨rfl, by omega⟩)
  obtain ⟨t1, ⟨y1, y2, y3, y4⟩, y5⟩ := rOwL (G.q qz) hA bA (gI_pIs (rg_lit rfl))
  obtain ⟨n6, hm⟩ := ownL_ok (A := A) wf bA
  rw [el] at y3 y4 n6 hm
  have T := ptT wf n6 hm
  have q2 : QM X h (pI t1 805 (X + 121) (-1)) := (qz.tr y1).tr (q_pI _ ⟨rfl, by omega⟩)
  obtain ⟨t2, ⟨z1, z2⟩, z3⟩ := rMF (X := X) T l.length (11 - l.length) (pI t1 805 (X + 121) (-1)) 0 l.length [] none (G.q q2) (by rw [gI_n (by omega)]; exact y3) (fun i hi => y4 i hi) (by rw [show bcu 0 = 0 by decide]; omega) (Nat.pow_pos (by omega)) (by show 0 ≤ _; omega) (fun k hk => absurd hk (by show ¬ k < 0; omega)) ⟨fun _ => gI_pIs (rg_lit rfl), fun v hv => by cases hv⟩
  have z3 : fX12_mergeFrom (l.length + (11 - l.length) + 1) (pI t1 805 (X + 121) (-1)) (X + 121) 0 (lcd l.length (gtN l) l.length) 0 = some t2 := z3
  rw [show l.length + (11 - l.length) + 1 = 12 by omega, show lcd l.length (gtN l) l.length = -1 by unfold lcd; rw [if_neg (by omega)]] at z3
  rw [hw] at z2
  obtain ⟨b1, b2⟩ := z2.2 w rfl
  have q3 : QM X h t2 := q2.tr z1.1
  have zr : X + 144 ≤ hZ t2 := by rw [q3.z]; exact z
  have pr : FL [] [(806, 121)] X t2 (pI t2 806 (X + 121) (w.length : Int)) := fl_pI t2 121 rfl (by decide)
  have G3 := (G.q q3).fl pr zr (by decide +kernel)
  obtain ⟨t3, ⟨w1, w2, w3⟩, w4⟩ := rMgC (h := pI t2 806 (X + 121) (w.length : Int)) (m := w.length) G3.1 zr wl (by rw [gI_n (by omega)]; exact b1) (A : Int)
  refine ⟨t3, ⟨((fl_m q3).tr (pr.mono (by decide) (by decide))).tr (w1.mono (by decide) (by decide)), ?_, ?_, ?_, fun k hk => ?_⟩, ?_⟩
  · rw [w2]; exact gI_pIs (by unfold rg; omega)
  · rw [w2, gI_n (by omega), z1.2.1, gI_n (by omega), y2, gI_n (by omega)]; exact m0_s h X
  · rw [w2, gI_n (by omega), q3.i (by unfold sc; omega) (fun z => by unfold pM at z; omega)]
  · rw [w3 k hk, gA_pI]; exact b2 k hk
  · have l2 : hK h (X + 121 + 5) = (21, 1850) := ms.k5
    have bc := rBits (s := A) (by omega)
    have bl := bcu_le A
    unfold fX12_merged
    refine gdg ms.k (ltg (ltg (nng (q := X + 121 + 5) ms.r788 (gdg l2 (bdg (q := 1) ?_ (iteF (by omega) (bdg bc (iteT (by omega) (ltg ?_)))))))))
    · show fX12_areJars (gA h (X + 121 + 5)) (A : Int) = some 1
      rw [G.2.1]; exact rSet1 wf q
    · refine Eq.trans y5 (ltg (bdg z3 (gdg (G.q q3).1.k ?_)))
      rw [b1, lt_d]
      exact w4
