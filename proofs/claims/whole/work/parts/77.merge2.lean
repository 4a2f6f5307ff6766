/-! MERGED ROWS, in the reference: the search -/
def BSt (h : Hp) (X : Nat) (b : Option (List Int)) : Prop :=
  (b = none → gI h 805 (X + 121) = -1) ∧ ∀ w, b = some w → gI h 805 (X + 121) = (w.length : Int) ∧ ∀ k, k < w.length → gA h (X + 121 + 16) k = gtL w k
def BFt (A : Nat → Int) (w : List Int) : Prop := ∀ k, k < w.length → A k = gtL w k
/-- what the parts are: the jar, the size, the letters, the laps -/
def PTs (c : Nat → Int) (n : Nat) (P : Nat → Nat) (sz : Nat → Nat) (L : Nat → Int → Int) (ov : Nat → Nat → Nat) : Prop :=
  n ≤ 6 ∧ (∀ i, i < n → P i < 8 ∧ (sz i : Int) = hN c (P i : Int) ∧ 0 < sz i ∧ sz i ≤ 12 ∧ ∀ k, L i k = hL c (P i : Int) k) ∧ ∀ l j, j < n → (ov l j : Int) = if l < n then lapS c (P l : Int) (P j : Int) else 0
set_option maxHeartbeats 200000 in
theorem PTs.ov {c : Nat → Int} {n : Nat} {P : Nat → Nat} {sz : Nat → Nat} {L : Nat → Int → Int} {ov : Nat → Nat → Nat} (T : PTs c n P sz L ov) {l j : Nat} (hj : j < n) : ov l j < sz j := by
  have h1 := T.2.2 l j hj
  obtain ⟨-, h2, h3, -⟩ := T.2.1 j hj
  by_cases q : l < n
  · rw [if_pos q] at h1
    have h4 := lapR_bd (hN c (P l : Int)) (hL c (P l : Int)) (hN c (P j : Int)) (hL c (P j : Int))
    have e : lapS c (P l : Int) (P j : Int) = lapR (hN c (P l : Int)) (hL c (P l : Int)) (hN c (P j : Int)) (hL c (P j : Int)) := rfl
    rw [← e] at h4
    omega
  · rw [if_neg q] at h1; omega
def MGQ (h t : Hp) (X m : Nat) : Prop := QM X h t ∧ gI t 768 (X + 121) = gI h 768 (X + 121) ∧ gI t 804 (X + 121) = gI h 804 (X + 121) ∧ (∀ k, gA t (X + 121 + 14) k = gA h (X + 121 + 14) k) ∧ ∀ k, k < m → gA t (X + 121 + 7) k = gA h (X + 121 + 7) k
set_option maxHeartbeats 200000 in
theorem MGQ.rf (h : Hp) (X m : Nat) : MGQ h h X m := ⟨QR.rf h, rfl, rfl, fun _ => rfl, fun _ _ => rfl⟩
set_option maxHeartbeats 200000 in
theorem MGQ.tr {h h1 h2 : Hp} {X m m' : Nat} (p : MGQ h h1 X m) (q : MGQ h1 h2 X m') (l : m ≤ m') : MGQ h h2 X m :=
  ⟨p.1.tr q.1, q.2.1.trans p.2.1, q.2.2.1.trans p.2.2.1, fun k => (q.2.2.2.1 k).trans (p.2.2.2.1 k), fun k hk => (q.2.2.2.2 k (by omega)).trans (p.2.2.2.2 k hk)⟩
set_option maxHeartbeats 200000 in
theorem gtL_drop {p : List Int} {i : Nat} (h : i < p.length) : p.drop i = gtL p i :: p.drop (i + 1) := by
  unfold gtL
  rw [List.drop_eq_getElem_cons h]
  simp [List.getD_eq_getElem?_getD, h]
set_option maxHeartbeats 200000 in
theorem rLess {h : Hp} {X : Nat} {v p : List Int} (H : MS h (X + 121)) (e1 : gI h 805 (X + 121) = (v.length : Int)) (e2 : ∀ k, k < v.length → gA h (X + 121 + 16) k = gtL v k) (e3 : BFt (gA h (X + 121 + 7)) p) (l1 : p.length ≤ 72) : fX12_isLess h (X + 121) (p.length : Int) = some (b01 (bet p v)) := by
  unfold fX12_isLess
  rw [e1]
  unfold bet
  by_cases q : p.length = v.length
  · rw [if_pos q]
    refine gdg H.k (iteT (by omega) ?_)
    obtain ⟨t, t1, t2⟩ := fk (S := Unit) (T := Int) (fun fu i _ => fX12_isLess_b24 h (X + 121) (p.length : Int) fu i) some p.length (fun i _ => lxB p v = lxB (p.drop i) (v.drop i)) (fun t => t = b01 (lxB p v)) 0 () (by omega) (by rw [List.drop_zero, List.drop_zero]) (by omega)
      (fun fu i _ hi hI => by
        have e5 : WE ((i : Int) + 1) := we (by omega) (by omega)
        have g1 := e3 i hi
        have g2 := e2 i (by omega)
        rw [gtL_drop hi, gtL_drop (show i < v.length by omega), lxB_c] at hI
        by_cases y : gtL p i = gtL v i
        · left
          rw [if_pos y] at hI
          refine ⟨(), hI, ?_⟩
          show fX12_isLess_b24 h (X + 121) (p.length : Int) (fu + 1) (i : Int) = fX12_isLess_b24 h (X + 121) (p.length : Int) fu ((i : Int) + 1)
          rw [fX12_isLess_b24.eq_2]
          refine iteT (by omega) (gdg H.k (nng H.r791 (gdg (by rw [H.k7]) (gdg (by rw [H.k7]; show 0 ≤ _ ∧ _ < (80 : Int); omega) (nng H.r803 (gdg (by rw [H.k16]) (gdg (by rw [H.k16]; show 0 ≤ _ ∧ _ < (80 : Int); omega) (iteT ?_ ?_))))))))
          · rw [show ((i : Int)).toNat = i from rfl, g1, g2, y]
          · rw [lt_d, e5.e]
        · right
          rw [if_neg y] at hI
          refine ⟨b01 (lxB p v), rfl, ?_⟩
          show fX12_isLess_b24 h (X + 121) (p.length : Int) (fu + 1) (i : Int) = _
          rw [fX12_isLess_b24.eq_2]
          refine iteT (by omega) (gdg H.k (nng H.r791 (gdg (by rw [H.k7]) (gdg (by rw [H.k7]; show 0 ≤ _ ∧ _ < (80 : Int); omega) (nng H.r803 (gdg (by rw [H.k16]) (gdg (by rw [H.k16]; show 0 ≤ _ ∧ _ < (80 : Int); omega) (iteF ?_ (gdg (by rw [H.k7]; show 0 ≤ _ ∧ _ < (80 : Int); omega) (gdg (by rw [H.k16]; show 0 ≤ _ ∧ _ < (80 : Int); omega) ?_))))))))))
          · rw [show ((i : Int)).toNat = i from rfl, g1, g2]; exact y
          · rw [show ((i : Int)).toNat = i from rfl, g1, g2, hI]
            unfold b01
            by_cases z : gtL p i < gtL v i
            · rw [if_pos z, decide_eq_true z, if_pos rfl]
            · rw [if_neg z, decide_eq_false z]; rfl)
      (fun fu _ hI => by
        refine ⟨b01 (lxB p v), rfl, ?_⟩
        show fX12_isLess_b24 h (X + 121) (p.length : Int) (fu + 1) (p.length : Int) = _
        rw [fX12_isLess_b24.eq_2]
        refine iteF (by omega) ?_
        rw [hI, List.drop_of_length_le (Nat.le_refl _), lxB]
        rfl)
    rw [← t1]; exact t2
  · rw [if_neg q]
    refine gdg H.k (iteF (by omega) ?_)
    unfold b01
    by_cases z : p.length < v.length
    · rw [if_pos (by omega), decide_eq_true z, if_pos rfl]
    · rw [if_neg (by omega), decide_eq_false z]; rfl
set_option maxHeartbeats 200000 in
theorem rRec {h : Hp} {X : Nat} {p : List Int} (H : MS h (X + 121)) (e3 : BFt (gA h (X + 121 + 7)) p) (l1 : p.length ≤ 72) (rcf : Hp → Int → Int → Int → Option Hp) (a1 a2 : Int) :
    ∃ t : Hp, (MGQ h t X p.length ∧ BSt t X (some p)) ∧ fX12_mergeFrom_b28 (X + 121) rcf a1 a2 (p.length : Int) h = some t := by
  unfold fX12_mergeFrom_b28
  have q0 : QM X h (pI h 805 (X + 121) (p.length : Int)) := q_pI h ⟨rfl, by omega⟩
  obtain ⟨t, ⟨t1, t2, t3⟩, t4⟩ := fk (S := Hp) (T := Hp) (fun fu i t => fX12_mergeFrom_b36 (X + 121) rcf a1 a2 (p.length : Int) fu t i) some p.length
    (fun i t => MGQ h t X p.length ∧ gI t 805 (X + 121) = (p.length : Int) ∧ ∀ k, k < i → gA t (X + 121 + 16) k = gtL p k) (fun t => MGQ h t X p.length ∧ gI t 805 (X + 121) = (p.length : Int) ∧ ∀ k, k < p.length → gA t (X + 121 + 16) k = gtL p k) 0 (pI h 805 (X + 121) (p.length : Int)) (by omega) ⟨⟨q0, gI_n (by omega), gI_n (by omega), fun _ => rfl, fun _ _ => rfl⟩, gI_pIs (by unfold rg; omega), fun k hk => absurd hk (by omega)⟩ (by omega)
    (fun fu i t hi hI => by
      obtain ⟨p1, p2, p3⟩ := hI
      have e5 : WE ((i : Int) + 1) := we (by omega) (by omega)
      have mt := H.q p1.1
      have g1 : gA t (X + 121 + 7) i = gtL p i := (p1.2.2.2.2 i hi).trans (e3 i hi)
      have rr : rg (gtL p i) := by rw [← g1]; exact ti_rg _
      left
      refine ⟨sA t (X + 121 + 16) (i : Int) (gtL p i), ⟨p1.tr (m' := p.length) ⟨q_sA t (by unfold sc; omega), rfl, rfl, fun k => ?_, fun k hk => ?_⟩ (Nat.le_refl _), p2, fun k hk => ?_⟩, ?_⟩
      · rw [gA_sA, if_neg (by omega)]
      · rw [gA_sA, if_neg (by omega)]
      · rw [gA_sA]
        by_cases y : k = i
        · rw [if_pos ⟨rfl, by omega⟩, w32_of rr, y]
        · rw [if_neg (fun zz => y (by have := zz.2; omega))]; exact p3 k (by omega)
      · show fX12_mergeFrom_b36 (X + 121) rcf a1 a2 (p.length : Int) (fu + 1) t (i : Int) = fX12_mergeFrom_b36 (X + 121) rcf a1 a2 (p.length : Int) fu (sA t (X + 121 + 16) (i : Int) (gtL p i)) ((i : Int) + 1)
        rw [fX12_mergeFrom_b36.eq_2]
        refine iteT (by omega) (gdg mt.k (nng mt.r803 (nng mt.r791 (gdg (by rw [mt.k7]) (gdg (by rw [mt.k7]; show 0 ≤ _ ∧ _ < (80 : Int); omega) (gdg (by rw [mt.k16]) (gdg (by rw [mt.k16]; show 0 ≤ _ ∧ _ < (80 : Int); omega) ?_)))))))
        rw [lt_d, lt_d, e5.e, show ((i : Int)).toNat = i from rfl, g1])
    (fun fu t hI => by
      refine ⟨t, hI, ?_⟩
      show fX12_mergeFrom_b36 (X + 121) rcf a1 a2 (p.length : Int) (fu + 1) t (p.length : Int) = _
      rw [fX12_mergeFrom_b36.eq_2]
      exact iteF (by omega) rfl)
  refine ⟨t, ⟨t1, fun z => by (cases z), fun w hw => ?_⟩, gdg H.k (ltg t4)⟩
  cases hw
  exact ⟨t2, t3⟩
set_option maxHeartbeats 200000 in
theorem rSgm {h : Hp} {X n i l : Nat} {c : Nat → Int} {P : Nat → Nat} {sz : Nat → Nat} {L : Nat → Int → Int} {ov : Nat → Nat → Nat} {p : List Int} (T : PTs c n P sz L ov) (G : CM h X c) (hi : i < n) (e3 : BFt (gA h (X + 121 + 7)) p) (l1 : p.length ≤ 60) (rcf : Hp → Int → Int → Int → Option Hp) (a1 a2 : Int) (k66 : Hp → Int → Option Hp) :
    ∃ t : Hp, (MGQ h t X p.length ∧ (∀ f a, gI t f a = gI h f a) ∧ (∀ k, gA t (X + 121 + 16) k = gA h (X + 121 + 16) k) ∧ BFt (gA t (X + 121 + 7)) (p ++ sgm sz L i (ov l i))) ∧
      fX12_mergeFrom_b117 (X + 121) rcf a1 a2 (p.length : Int) k66 FU h (i : Int) (P i : Int) (ov l i : Int) (ov l i : Int) = (bd (rcf t (bor a1 (shl 1 (i : Int))) (P i : Int) ((p ++ sgm sz L i (ov l i)).length : Int)) fun h12 => fX12_mergeFrom_b177 (X + 121) rcf a1 a2 (p.length : Int) k66 h12 (i : Int)) := by
  have w := G.2.2
  have o8 := T.ov (l := l) hi
  obtain ⟨P8, s1, s2, s3, s4⟩ := T.2.1 i hi
  have en := rNow w (j := (P i : Int)) (by omega) (by omega)
  have len : (p ++ sgm sz L i (ov l i)).length = p.length + (sz i - ov l i) := by rw [List.length_append, sgm_len]
  generalize ov l i = o at o8 len
  exact fk (S := Hp) (T := Hp) (fun fu v t => fX12_mergeFrom_b117 (X + 121) rcf a1 a2 (p.length : Int) k66 fu t (i : Int) (P i : Int) (o : Int) v) (fun t => bd (rcf t (bor a1 (shl 1 (i : Int))) (P i : Int) ((p ++ sgm sz L i o).length : Int)) fun h12 => fX12_mergeFrom_b177 (X + 121) rcf a1 a2 (p.length : Int) k66 h12 (i : Int)) (sz i)
    (fun v t => o ≤ v ∧ MGQ h t X p.length ∧ (∀ f a, gI t f a = gI h f a) ∧ (∀ k, gA t (X + 121 + 16) k = gA h (X + 121 + 16) k) ∧ ∀ k, k < p.length + (v - o) → gA t (X + 121 + 7) k = gtL (p ++ sgm sz L i o) k) (fun t => MGQ h t X p.length ∧ (∀ f a, gI t f a = gI h f a) ∧ (∀ k, gA t (X + 121 + 16) k = gA h (X + 121 + 16) k) ∧ BFt (gA t (X + 121 + 7)) (p ++ sgm sz L i o)) o h (by omega) ⟨Nat.le_refl _, MGQ.rf h X _, fun _ _ => rfl, fun _ => rfl, fun k hk => by rw [gtL_l (by omega)]; exact e3 k (by omega)⟩ (by omega)
    (fun fu v t hv hI => by
      · obtain ⟨ov0, p1, p2, p3, p4⟩ := hI
        have e5 : WE ((v : Int) + 1) := we (by omega) (by omega)
        have e6 : WE ((p.length : Int) + (v : Int)) := we (by omega) (by omega)
        have e7 : WE ((p.length : Int) + (v : Int) - (o : Int)) := we (by omega) (by omega)
        obtain ⟨mt, hc, -⟩ := G.q p1.1
        have el := rLet w (j := (P i : Int)) (k := (v : Int)) (by omega) (by omega) (by omega) (by omega)
        have lb := hL_bd (k := (v : Int)) w (j := (P i : Int)) (by omega) (by omega)
        have rr : rg (hL c (P i : Int) (v : Int)) := by unfold rg; omega
        left
        refine ⟨sA t (X + 121 + 7) ((p.length : Int) + (v : Int) - (o : Int)) (hL c (P i : Int) (v : Int)), ⟨by omega, p1.tr (m' := p.length) ⟨q_sA t (by unfold sc; omega), rfl, rfl, fun k => ?_, fun k hk => ?_⟩ (Nat.le_refl _), fun f a => by rw [gI_sA]; exact p2 f a, fun k => ?_, fun k hk => ?_⟩, ?_⟩
        · rw [gA_sA, if_neg (by omega)]
        · rw [gA_sA, if_neg (by omega)]
        · rw [gA_sA, if_neg (by omega)]; exact p3 k
        · rw [gA_sA]
          by_cases y : k = p.length + (v - o)
          · rw [if_pos ⟨rfl, by omega⟩, w32_of rr, y, gtL_r, sgm_gt (by omega), show o + (v - o) = v by omega]
            exact (s4 _).symm
          · rw [if_neg (fun zz => y (by have := zz.2; omega))]; exact p4 k (by omega)
        · show fX12_mergeFrom_b117 (X + 121) rcf a1 a2 (p.length : Int) k66 (fu + 1) t (i : Int) (P i : Int) (o : Int) (v : Int) = fX12_mergeFrom_b117 (X + 121) rcf a1 a2 (p.length : Int) k66 fu (sA t (X + 121 + 7) ((p.length : Int) + (v : Int) - (o : Int)) (hL c (P i : Int) (v : Int))) (i : Int) (P i : Int) (o : Int) ((v : Int) + 1)
          rw [fX12_mergeFrom_b117.eq_2]
          refine gdg mt.k (nng mt.r788 (gdg mt.k5 ?_))
          rw [hc]
          refine bdg en (iteT (by omega) (nng mt.r791 (gdg mt.k5 (bdg el (gdg (by rw [mt.k7]) ?_)))))
          rw [e6.e, e7.e]
          refine gdg (by rw [mt.k7]; show 0 ≤ _ ∧ _ < (80 : Int); omega) ?_
          rw [lt_d, lt_d, e5.e])
    (fun fu t hI => by
      obtain ⟨-, p1, p2, p3, p4⟩ := hI
      have e6 : WE ((p.length : Int) + hN c (P i : Int)) := we (by omega) (by omega)
      have e7 : WE ((p.length : Int) + hN c (P i : Int) - (o : Int)) := we (by omega) (by omega)
      obtain ⟨mt, hc, -⟩ := G.q p1.1
      refine ⟨t, ⟨p1, p2, p3, fun k hk => p4 k (by omega)⟩, ?_⟩
      show fX12_mergeFrom_b117 (X + 121) rcf a1 a2 (p.length : Int) k66 (fu + 1) t (i : Int) (P i : Int) (o : Int) (sz i : Int) = _
      rw [fX12_mergeFrom_b117.eq_2]
      refine gdg mt.k (nng mt.r788 (gdg mt.k5 ?_))
      rw [hc]
      refine bdg en (iteF (by omega) (gdg mt.k5 (bdg en ?_)))
      rw [e6.e, e7.e, show (p.length : Int) + hN c (P i : Int) - (o : Int) = ((p ++ sgm sz L i o).length : Int) by omega])
