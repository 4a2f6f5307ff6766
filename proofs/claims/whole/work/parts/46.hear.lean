/-! HEARING more than one jar; rows of several jars -/
def VW (h : Hp) (X : Nat) (c : Nat → Int) (j : Int) : Prop := ∃ q, RVa h (X + 81 + 2 * j.toNat) q (hN c j) (hL c j) ∧ ¬ (X + 81 ≤ q ∧ q ≤ X + 98) ∧ ¬ sc X q
set_option maxHeartbeats 200000 in
theorem VW.v {h : Hp} {X : Nat} {c : Nat → Int} {j : Int} (v : VW h X c j) : RV h (X + 81 + 2 * j.toNat) (hN c j) (hL c j) := by
  obtain ⟨q, r, -⟩ := v; exact r.v
set_option maxHeartbeats 200000 in
theorem VW.k {h : Hp} {X : Nat} {c : Nat → Int} {j : Int} (v : VW h X c j) : (hK h (X + 81 + 2 * j.toNat)).1 = 6 := v.v.k
set_option maxHeartbeats 200000 in
theorem VW.on {W : Nat → Prop} {h h' : Hp} {X : Nat} {c : Nat → Int} {j : Int} (v : VW h X c j) (p : On W h h') (w1 : ¬ W (X + 81 + 2 * j.toNat)) (w2 : ∀ a, W a → sc X a) : VW h' X c j := by
  obtain ⟨q, r, n1, n2⟩ := v
  exact ⟨q, r.on p w1 (fun z => n2 (w2 q z)), n1, n2⟩
set_option maxHeartbeats 200000 in
theorem CX.hearV {h : Hp} {X : Nat} {c : Nat → Int} {k : Int} (H : CX h X c) (q : okJ c k) :
    ∃ h', fX11_hear h X k = some (X + 81 + 2 * k.toNat, h') ∧ QX X h h' ∧ CX h' X c ∧ VW h' X c k ∧ (∀ j, 0 ≤ j → j < 8 → VW h X c j → VW h' X c j) ∧ On (fun b => b = X + 81 + 2 * k.toNat) h h' := by
  have k8 := nj_lt H.wf q
  have k0 := q.1
  obtain ⟨h', S, e1, e2, e3, e4, e5⟩ := H.hear q.1 q.2
  have wj := (H.wf.wj k0 k8).2.2.2.2.2.2.2.2
  have qv : QX X h h' := q_view q.1 k8 e2
  have nq : ¬ (X + 81 ≤ S + 4 + 3 * (c (204 + k).toNat).toNat ∧ S + 4 + 3 * (c (204 + k).toNat).toNat ≤ X + 98) := by unfold SO at e4; omega
  have nv : VW h' X c k := ⟨_, e3, nq, e4.w _ (by omega) (by omega)⟩
  refine ⟨h', e1, qv, H.q qv po_X, nv, fun j j0 j8 v => ?_, e2⟩
  by_cases z : j = k
  · rw [z]; exact nv
  · exact v.on e2 (by omega) (fun a ha => by rw [ha]; unfold sc; omega)
set_option maxHeartbeats 200000 in
theorem CX.kk {h h' : Hp} {X : Nat} {c : Nat → Int} (_ : CX h X c) (G : CX h' X c) : (hK h' X).1 = 11 := G.k
/-! sets of sounds -/
set_option maxHeartbeats 200000 in
theorem bs_and (n : Nat) (p q : Nat → Bool) : bs n p &&& bs n q = bs n (fun k => p k && q k) := by
  apply Nat.eq_of_testBit_eq
  intro k
  rw [Nat.testBit_and, bs_tb, bs_tb, bs_tb]
  cases decide (k < n) <;> cases p k <;> cases q k <;> rfl
set_option maxHeartbeats 200000 in
theorem bs_all (n : Nat) : bs n (fun _ => true) = 2 ^ n - 1 := by
  induction n with
  | zero => rfl
  | succ n ih =>
    have := Nat.pow_pos (a := 2) (n := n) (by omega)
    show bs n (fun _ => true) + 2 ^ n = 2 ^ (n + 1) - 1
    rw [ih, Nat.pow_succ]; omega
set_option maxHeartbeats 200000 in
theorem xAllS {h : Hp} {S : Nat} {c : Nat → Int} (v : SV h S c) (w : WF c) : fX7_allSounds h S = some ((bs (c 1).toNat (fun _ => true) : Nat) : Int) := by
  have hj := w.ns
  have p : 2 ^ (c 1).toNat ≤ 2 ^ 8 := Nat.pow_le_pow_right (by omega) (by omega)
  have p0 := Nat.pow_pos (a := 2) (n := (c 1).toNat) (by omega)
  unfold fX7_allSounds
  rw [v.2.2.2.2.2.1, shl_n hj.1 hj.2, bs_all]
  generalize 2 ^ (c 1).toNat = N at p p0 ⊢
  rw [w32_id (by omega) (by omega)]
  refine gdg (by rw [v.1]) ?_
  congr 1
  omega
/-- what is HEARD of j stands in sound s -/
def siJ (c : Nat → Int) (j s : Nat) : Bool := siB (hN c (j : Int)) (hL c (j : Int)) (c (4 + (s : Int)).toNat) (sL c (s : Int))
set_option maxHeartbeats 200000 in
theorem SV.snd {h : Hp} {S : Nat} {c : Nat → Int} {s : Int} (v : SV h S c) (w : WF c) (s0 : 0 ≤ s) (s8 : s < c 1) :
    (hK h S).1 = 7 ∧ gR h 448 S = some (S + 1) ∧ (hK h (S + 1)).1 = 26 ∧ inA s (hK h (S + 1)).2 ∧ gC h (S + 1) s.toNat = some (S + 3 + 3 * s.toNat) ∧ RVa h (S + 3 + 3 * s.toNat) (S + 4 + 3 * s.toNat) (c (4 + s).toNat) (sL c s) ∧ gI h 450 S = c 1 := by
  obtain ⟨v1, v2, v3, v4, v5, v6, v7, v8, v9, v10⟩ := v
  have hj := w.ns
  obtain ⟨c1, c2, c3, c4⟩ := v8 s s0 (by omega)
  exact ⟨by rw [v1], v2, by rw [v4], by rw [v4]; show 0 ≤ _ ∧ _ < (8 : Int); omega, c1, c2, v6⟩
set_option maxHeartbeats 200000 in
theorem xSw {h : Hp} {S a : Nat} {c : Nat → Int} {n : Int} {L : Int → Int} (v : SV h S c) (w : WF c) (r : RV h a n L) : fX7_soundsWith h S a = some ((bs (c 1).toNat (fun s => siB n L (c (4 + (s : Int)).toNat) (sL c (s : Int))) : Nat) : Int) := by
  have hj := w.ns
  have kS : (hK h S).1 = 7 := by rw [v.1]
  have v6 : gI h 450 S = c 1 := v.2.2.2.2.2.1
  unfold fX7_soundsWith
  have := fg (S := Int) (fun fu v t => fX7_soundsWith_b4 h S a fu t v) some (c 1).toNat (fun i => ((bs i (fun s => siB n L (c (4 + (s : Int)).toNat) (sL c (s : Int))) : Nat) : Int)) (by omega) ?_ ?_ 0 (by omega)
  · exact this
  · intro fu i hi
    have e5 : WE ((i : Int) + 1) := we (by omega) (by omega)
    obtain ⟨f1, f2, f3, f4, f5, f6, f7⟩ := v.snd w (s := (i : Int)) (by omega) (by omega)
    show fX7_soundsWith_b4 h S a (fu + 1) _ (i : Int) = fX7_soundsWith_b4 h S a fu _ _
    rw [fX7_soundsWith_b4.eq_2, v6]
    refine gdg kS (iteT (by omega) (nng f2 (gdg f3 (gdg f4 (nng f5 (gdg r.k (bdg (xStI r f6.v) ?_)))))))
    by_cases q : siB n L (c (4 + (i : Int)).toNat) (sL c (i : Int)) = true
    · rw [if_pos q]
      refine iteF (by omega) ?_
      rw [lt_d, fX7_soundsWith_b31, lt_d, e5.e, bor_set (p := fun s => siB n L (c (4 + (s : Int)).toNat) (sL c (s : Int))) (by omega) q]
    · rw [if_neg q]
      refine iteT rfl ?_
      rw [fX7_soundsWith_b31, lt_d, e5.e, bs_no (p := fun s => siB n L (c (4 + (s : Int)).toNat) (sL c (s : Int))) (by simpa using q)]
  · intro fu
    show fX7_soundsWith_b4 h S a (fu + 1) _ ((c 1).toNat : Int) = _
    rw [fX7_soundsWith_b4.eq_2, v6]
    exact gdg kS (iteF (by omega) rfl)
/-- FITS of the first i jars of a set -/
def fitP (c : Nat → Int) (set i : Nat) (s : Nat) : Bool := ab i (fun j => !set.testBit j || siJ c j s)
def fitS (c : Nat → Int) (set : Nat) : Nat := bs (c 1).toNat (fitP c set (c 2).toNat)
set_option maxHeartbeats 200000 in
theorem fitP_s (c : Nat → Int) (set i : Nat) : fitP c set (i + 1) = fun s => fitP c set i s && (!set.testBit i || siJ c i s) := rfl
set_option maxHeartbeats 200000 in
/-- the reference's FITS -/
theorem rFits {c : Nat → Int} {set : Nat} (w : WF c) (hs : set < 2147483648) : fX12_fitsOf c (set : Int) = some (fitS c set : Nat) := by
  have hj := w.nj
  have hs1 := w.ns
  unfold fX12_fitsOf fitS
  have := fg (S := Int) (fun fu v t => fX12_fitsOf_b4 c (set : Int) fu t v) some (c 1).toNat (fun i => ((bs i (fitP c set (c 2).toNat) : Nat) : Int)) (by omega) ?_ ?_ 0 (by omega)
  · exact this
  · intro fu i hi
    have e5 : WE ((i : Int) + 1) := we (by omega) (by omega)
    have hl := bs_lt i (fitP c set (c 2).toNat)
    have hl2 : 2 ^ i ≤ 2 ^ 8 := Nat.pow_le_pow_right (by omega) (by omega)
    show fX12_fitsOf_b4 c (set : Int) (fu + 1) ((bs i (fitP c set (c 2).toNat) : Nat) : Int) (i : Int) = fX12_fitsOf_b4 c (set : Int) fu _ _
    rw [fX12_fitsOf_b4.eq_2]
    refine gdg (by omega) (iteT (show (i : Int) < c 1 by omega) ?_)
    generalize hB : bs i (fitP c set (c 2).toNat) = B at hl ⊢
    -- the inner loop over the jars
    have inner := fg (S := Int) (fun fu2 v t => fX12_fitsOf_b20 c (set : Int) (fX12_fitsOf_b4 c (set : Int) fu) fu2 (B : Int) (i : Int) t v) (fun t => if t = 0 then fX12_fitsOf_b4 c (set : Int) fu (B : Int) ((i : Int) + 1) else fX12_fitsOf_b4 c (set : Int) fu (bor (B : Int) (shl 1 (i : Int))) ((i : Int) + 1)) (c 2).toNat (fun j => b01 (fitP c set j i)) (by omega)
      (fun fu2 j hj' => by
        have e6 : WE ((j : Int) + 1) := we (by omega) (by omega)
        have ep : fitP c set (j + 1) i = (fitP c set j i && (!set.testBit j || siJ c j i)) := rfl
        have en : siJ c j i = (hN c (j : Int) == 0 || decide (0 < plS c (j : Int) (i : Int))) := rfl
        show fX12_fitsOf_b20 c (set : Int) _ (fu2 + 1) (B : Int) (i : Int) (b01 (fitP c set j i)) (j : Int) = fX12_fitsOf_b20 c (set : Int) _ fu2 (B : Int) (i : Int) (b01 (fitP c set (j + 1) i)) ((j : Int) + 1)
        rw [ep, fX12_fitsOf_b20.eq_2]
        refine gdg (by omega) (iteT (show (j : Int) < c 2 by omega) ?_)
        by_cases q0 : fitP c set j i = true
        · rw [q0]
          refine iteF (by unfold b01; simp) (bdg (rHas hs (by omega)) ?_)
          by_cases q1 : set.testBit j = true
          · refine iteF (by rw [q1]; unfold b01; simp) (bdg (rNow w (by omega) (by omega)) ?_)
            by_cases q2 : hN c (j : Int) = 0
            · refine iteT q2 ?_
              rw [fX12_fitsOf_b64, fX12_fitsOf_b69, lt_d, e6.e, en]
              simp [q2, b01]
            · refine iteF q2 (bdg (rPl w (by omega) (by omega) (by omega) (by omega)) ?_)
              by_cases q3 : 0 < plS c (j : Int) (i : Int)
              · refine iteT q3 ?_
                rw [fX12_fitsOf_b64, fX12_fitsOf_b69, lt_d, e6.e, en]
                simp [q3, b01]
              · refine iteF q3 ?_
                rw [fX12_fitsOf_b68, fX12_fitsOf_b69, lt_d, e6.e, en]
                simp [q1, q2, q3, b01]
          · have q1 : set.testBit j = false := by simpa using q1
            refine iteT (by rw [q1]; rfl) ?_
            rw [fX12_fitsOf_b64, fX12_fitsOf_b69, lt_d, e6.e, q1]
            simp [b01]
        · have q0 : fitP c set j i = false := by simpa using q0
          rw [q0]
          refine iteT rfl ?_
          rw [fX12_fitsOf_b68, fX12_fitsOf_b69, lt_d, e6.e]
          rfl)
      (fun fu2 => by
        show fX12_fitsOf_b20 c (set : Int) _ (fu2 + 1) (B : Int) (i : Int) (b01 (fitP c set (c 2).toNat i)) ((c 2).toNat : Int) = (if b01 (fitP c set (c 2).toNat i) = 0 then fX12_fitsOf_b4 c (set : Int) fu (B : Int) ((i : Int) + 1) else fX12_fitsOf_b4 c (set : Int) fu (bor (B : Int) (shl 1 (i : Int))) ((i : Int) + 1))
        rw [fX12_fitsOf_b20.eq_2]
        refine gdg (by omega) (iteF (show ¬ ((c 2).toNat : Int) < c 2 by omega) ?_)
        have e90 : ∀ v, fX12_fitsOf_b90 c (set : Int) (fX12_fitsOf_b4 c (set : Int) fu) (i : Int) v (B : Int) = fX12_fitsOf_b4 c (set : Int) fu (bor (B : Int) v) ((i : Int) + 1) := fun v => by rw [fX12_fitsOf_b90, lt_d, lt_d, e5.e]
        rw [e90, e90, bor_0 (by omega)]) 0 (by omega)
    refine Eq.trans inner ?_
    show (if b01 (fitP c set (c 2).toNat i) = 0 then fX12_fitsOf_b4 c (set : Int) fu (B : Int) ((i : Int) + 1) else fX12_fitsOf_b4 c (set : Int) fu (bor (B : Int) (shl 1 (i : Int))) ((i : Int) + 1)) = _
    by_cases q : fitP c set (c 2).toNat i = true
    · rw [if_neg (by rw [q]; unfold b01; simp), ← hB, bor_set (by omega) q]
    · have q : fitP c set (c 2).toNat i = false := by simpa using q
      rw [if_pos (by rw [q]; rfl), ← hB, bs_no q]
  · intro fu
    show fX12_fitsOf_b4 c (set : Int) (fu + 1) _ ((c 1).toNat : Int) = _
    rw [fX12_fitsOf_b4.eq_2]
    exact gdg (by omega) (iteF (show ¬ ((c 1).toNat : Int) < c 1 by omega) rfl)
