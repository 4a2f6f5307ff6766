/-! MERGED ROWS, in the class: the rows come together -/
def VLs (h : Hp) (X : Nat) (c : Nat → Int) (l : List Nat) : Prop := ∀ j, j ∈ l → VS h X c j
set_option maxHeartbeats 200000 in
theorem own_st {c : Nat → Int} {A m : Nat} (w : WF c) (m8 : m < 8) : ownL c A (m + 1) (m + 1) = if A.testBit m then addL c (ownL c A m m) m else ownL c A m m := by
  cases a : A.testBit m with
  | true => rw [if_pos rfl]; exact own_1 w m8 a (own_top w m (by omega))
  | false => exact own_0 a
set_option maxHeartbeats 200000 in
theorem addL_mem {c : Nat → Int} {l : List Nat} {j p : Nat} (h : p ∈ addL c l j) : p ∈ l ∨ p = j := by
  unfold addL at h
  by_cases q : l.any (fun p => oB c j p) = true
  · rw [if_pos q] at h; exact Or.inl h
  · rw [if_neg q, List.mem_append] at h
    rcases h with h | h
    · exact Or.inl (List.mem_filter.mp h).1
    · split at h
      · exact Or.inr (by simpa using h)
      · exact absurd h (by simp)
set_option maxHeartbeats 200000 in
theorem PA.on {W : Nat → Prop} {h t : Hp} {X : Nat} {l : List Nat} (p : PA h X l) (o : On W h t) (n1 : ¬ W (X + 104)) (n2 : ¬ W (X + 105)) : PA t X l := ⟨(o.i n1).trans p.1, fun k hk => (o.c n2).trans (p.2 k hk)⟩
set_option maxHeartbeats 200000 in
theorem xRws {h : Hp} {X A : Nat} {c : Nat → Int} (H : CX h X c) (b : CB h X) (hA : A < 256) (bA : bcu A ≤ 6) (pa : PA h X []) :
    ∃ t : Hp, (FL [105] [(263, 104)] X h t ∧ FL E7 F5 X h t ∧ CX t X c ∧ PA t X (ownL c A (c 2).toNat (c 2).toNat) ∧ VLs t X c (ownL c A (c 2).toNat (c 2).toNat)) ∧
      fX11_merged_b38 X (A : Int) FU h 0 = (nn (gR t 715 X) fun q5 => gd ((hK t q5).1 = 4) <| bd (fX4_mergeAll t q5) fun h9 => gd ((hK h9 X).1 = 11) <| nn (gR h9 715 X) fun q11 => gd ((hK h9 q11).1 = 4) <| nn (gR h9 264 q11) fun q13 => gd ((hK h9 q13).1 = 6) <| bd2 (fX11_answer h9 X (gI h9 386 q13)) fun r15 h17 => some (r15, h17)) := by
  have w := H.wf
  have nj := w.nj
  have z := b.1
  have b8 := bcu_le A
  exact fk (S := Hp) (T := Hp) (fun fu i t => fX11_merged_b38 X (A : Int) fu t i) (fun t => nn (gR t 715 X) fun q5 => gd ((hK t q5).1 = 4) <| bd (fX4_mergeAll t q5) fun h9 => gd ((hK h9 X).1 = 11) <| nn (gR h9 715 X) fun q11 => gd ((hK h9 q11).1 = 4) <| nn (gR h9 264 q11) fun q13 => gd ((hK h9 q13).1 = 6) <| bd2 (fX11_answer h9 X (gI h9 386 q13)) fun r15 h17 => some (r15, h17)) (c 2).toNat
    (fun i t => FL [105] [(263, 104)] X h t ∧ FL E7 F5 X h t ∧ CX t X c ∧ PA t X (ownL c A i i) ∧ VLs t X c (ownL c A i i)) (fun t => FL [105] [(263, 104)] X h t ∧ FL E7 F5 X h t ∧ CX t X c ∧ PA t X (ownL c A (c 2).toNat (c 2).toNat) ∧ VLs t X c (ownL c A (c 2).toNat (c 2).toNat)) 0 h (by omega) ⟨FL.rf h, FL.rf h, H, pa, fun j hj => absurd hj (by show ¬ j ∈ []; simp)⟩ (by omega)
    (fun fu i t hi hI => by
      obtain ⟨p0, p1, p2, p3, p4⟩ := hI
      have e5 : WE ((i : Int) + 1) := we (by omega) (by omega)
      obtain ⟨S, f1, f2, f3, f4, f5, f6⟩ := p2.shop
      have step := own_st (c := c) (A := A) w (show i < 8 by omega)
      have sn := ownL_len c A (i + 1) (i + 1)
      have sn0 := ownL_len c A i i
      have sm := bcN_mono (A := A) (show i + 1 ≤ 8 by omega)
      have sm0 := bcN_mono (A := A) (show i ≤ 8 by omega)
      have ib : fX11_isIn (A : Int) (i : Int) = some (b01 (A.testBit i)) := xIsIn (by omega) (by omega)
      have e69 : ∀ t', fX11_merged_b69 X (A : Int) (fX11_merged_b38 X (A : Int) fu) t' (i : Int) = fX11_merged_b38 X (A : Int) fu t' ((i : Int) + 1) := fun t' => by rw [fX11_merged_b69, lt_d, e5.e]
      left
      cases a : A.testBit i with
      | false =>
        rw [a] at ib step
        have step : ownL c A (i + 1) (i + 1) = ownL c A i i := step
        refine ⟨t, ⟨p0, p1, p2, by rw [step]; exact p3, by rw [step]; exact p4⟩, ?_⟩
        show fX11_merged_b38 X (A : Int) (fu + 1) t (i : Int) = _
        rw [fX11_merged_b38.eq_2]
        exact gdg p2.k (nng f1 (gdg f2 (iteT (by omega) (bdg ib (iteT rfl (e69 t))))))
      | true =>
        rw [a, if_pos rfl] at step
        rw [a] at ib
        obtain ⟨t1, y1, y2, y3, y4, y5, y6⟩ := p2.hearS hi
        have zt : X + 144 ≤ hZ t := Nat.le_trans z p1.1
        have z1 : X + 144 ≤ hZ t1 := by rw [y2.z]; exact zt
        have pa1 : PA t1 X (ownL c A i i) := p3.on y6 (by omega) (by omega)
        have lm : ∀ j, j ∈ ownL c A i i → j < 8 ∧ VS t1 X c j := fun j hj => by
          have := (ownL_mem hj).1
          exact ⟨by omega, y5 j (by omega) (p4 j hj)⟩
        obtain ⟨t2, ⟨x0, x1, x2⟩, x3⟩ := xAd4 y3.1 z1 (show (ownL c A i i).length ≤ 6 by omega) (fun k hk => lm _ (gtN_mem hk)) (show i < 8 by omega) y4 pa1 (by rw [← step]; omega)
        have pf : FL E7 F5 X h t2 := (p1.tr (fl_q y2)).tr x1.1
        refine ⟨t2, ⟨(p0.tr (fl_q y2)).tr x0, pf, H.fl b pf (by decide +kernel) (by decide +kernel), by rw [step]; exact x2, fun j hj => ?_⟩, ?_⟩
        · rw [step] at hj
          rcases addL_mem hj with hj | hj
          · exact (lm j hj).2.me (lm j hj).1 x1
          · rw [hj]; exact y4.me (by omega) x1
        · show fX11_merged_b38 X (A : Int) (fu + 1) t (i : Int) = _
          rw [fX11_merged_b38.eq_2]
          exact gdg p2.k (nng f1 (gdg f2 (iteT (by omega) (bdg ib (iteF (by decide) (nng p2.1.r715 (bd2g y1 (gdg (by rw [y3.1.k104]) (bdg x3 (e69 t2))))))))))
      )
    (fun fu t hI => by
      obtain ⟨p0, p1, p2, p3, p4⟩ := hI
      obtain ⟨S, f1, f2, f3, f4, f5, f6⟩ := p2.shop
      refine ⟨t, ⟨p0, p1, p2, p3, p4⟩, ?_⟩
      show fX11_merged_b38 X (A : Int) (fu + 1) t ((c 2).toNat : Int) = _
      rw [fX11_merged_b38.eq_2]
      exact gdg p2.k (nng f1 (gdg f2 (iteF (by omega) rfl))))
