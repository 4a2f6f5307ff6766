/-! MERGED ROWS, in the class: all letters -/
def YZ (t : Hp) (X Y Z : Nat) : Prop := gR t 260 (X + 104) = some Y ∧ gR t 261 (X + 104) = some Z ∧ ((Y = X + 109 ∧ Z = X + 110) ∨ (Y = X + 110 ∧ Z = X + 109))
def BR (t : Hp) (X : Nat) (o : List Int) : Prop := gI t 386 (X + 111) = (o.length : Int) ∧ ∀ k, k < o.length → gA t (X + 112) k = gtL o k
set_option maxHeartbeats 200000 in
theorem xAdR {h : Hp} {X Y : Nat} {c : Nat → Int} {l os : List Nat} {o : List Int} {x : Int} (m : MT h X c l) (op : OpS h X Y os) (hY : Y = X + 109 ∨ Y = X + 110) (b : BR h X o) (o72 : o.length < 72) (rx : rg x) :
    ∃ t : Hp, (ME X h t ∧ MT t X c l ∧ OpS t X Y os ∧ (∀ f a, gR t f a = gR h f a) ∧ BR t X (o ++ [x]) ∧ ∀ f a, ¬ (f = 386 ∧ a = X + 111) → gI t f a = gI h f a) ∧ fX6_add h (X + 111) x = some t := by
  have H := m.1.1
  have k6 : (hK h (X + 111)).1 = 6 := by rw [H.k111]
  have k12 : (hK h (X + 112)).1 = 21 := by rw [H.k112]
  have xa := xAdd (h := h) (v := x) k6 H.r384_111 k12 (N := 72) (by rw [H.k112]; rfl) H.2.2.2.2.1 b.1 (by omega) (by omega) (by omega)
  have me1 : ME X h (pI (sA h (X + 112) (o.length : Int) x) 386 (X + 111) ((o.length : Int) + 1)) := (me_sA h 112 rfl (by decide) (by omega)).tr (me_pI _ 111 rfl (by decide) (by omega))
  have io : ∀ f a, ¬ (f = 386 ∧ a = X + 111) → gI (pI (sA h (X + 112) (o.length : Int) x) 386 (X + 111) ((o.length : Int) + 1)) f a = gI h f a := fun f a n => by rw [gI_pI, if_neg n, gI_sA]
  have ao : ∀ a, a ≠ X + 112 → ∀ k, gA (pI (sA h (X + 112) (o.length : Int) x) 386 (X + 111) ((o.length : Int) + 1)) a k = gA h a k := fun a n k => by rw [gA_pI, gA_sA, if_neg (fun zz => n zz.1)]
  have ln : (o ++ [x]).length = o.length + 1 := by rw [List.length_append]; rfl
  refine ⟨_, ⟨me1, m.me me1 (io _ _ (by omega)) (fun _ => rfl) (ao _ (by omega)) (ao _ (by omega)), ⟨by rw [io _ _ (by omega)]; exact op.1, fun k hk => by rw [ao _ (by omega)]; exact op.2.1 k hk, fun s hs => by rw [ao _ (by omega)]; exact op.2.2.1 s hs, op.2.2.2.1, op.2.2.2.2⟩, fun _ _ => rfl, ⟨by rw [gI_pIs (by unfold rg; omega), ln]; omega, fun k hk => ?_⟩, io⟩, xa⟩
  rw [gA_pI, gA_sA]
  by_cases y : k = o.length
  · rw [if_pos ⟨rfl, by omega⟩, w32_of rx, y]
    have := gtL_r0 (p := o) (s := [x])
    rw [this]; rfl
  · rw [if_neg (fun zz => y (by have := zz.2; omega)), gtL_l (by omega)]
    exact b.2 k (by omega)
set_option maxHeartbeats 200000 in
theorem ltr_bd {t : Hp} {X s : Nat} {c : Nat → Int} {l : List Nat} {left : Int} (m : MT t X c l) (k : okT l s) : 0 ≤ ltr c l s left ∧ ltr c l s left ≤ 26 := by
  have nj := m.1.2.2.1.nj
  have := (m.1.2.2.2.2.1 _ (gtN_mem k.1)).1
  exact hL_bd m.1.2.2.1 (by omega) (by omega)
set_option maxHeartbeats 1000000 in
theorem xAll {h : Hp} {X Y Z m : Nat} {c : Nat → Int} {l os : List Nat} (M : MT h X c l) (yz : YZ h X Y Z) (op : OpS h X Y os) (b : BR h X []) (J : JW c l m m [] os) (m72 : m ≤ 72) :
    ∃ t : Hp, (∃ o Y' Z', ME X h t ∧ MT t X c l ∧ YZ t X Y' Z' ∧ OpS t X Y' [] ∧ BR t X o ∧ (∀ f a, f ≠ 262 → f ≠ 386 → gI t f a = gI h f a) ∧ o.length = m ∧ C0 c l o ∧ ∀ w, C0 c l w → m ≤ w.length → bet w o = false) ∧ fX4_mergeAll_b22 (X + 104) FU h (m : Int) = some t := by
  have rb : ∀ u a, 0 ≤ rsC c l u a := fun u a => (rsC_bd M.1 u a).1
  have key := fk (S := Hp × List Int × List Nat × Nat × Nat) (T := Hp) (fun fu i s => fX4_mergeAll_b22 (X + 104) fu s.1 ((m : Int) - i)) some m
    (fun i s => ME X h s.1 ∧ MT s.1 X c l ∧ YZ s.1 X s.2.2.2.1 s.2.2.2.2 ∧ OpS s.1 X s.2.2.2.1 s.2.2.1 ∧ BR s.1 X s.2.1 ∧ (∀ f a, f ≠ 262 → f ≠ 386 → gI s.1 f a = gI h f a) ∧ JW c l m (m - i) s.2.1 s.2.2.1)
    (fun t => ∃ o Y' Z', ME X h t ∧ MT t X c l ∧ YZ t X Y' Z' ∧ OpS t X Y' [] ∧ BR t X o ∧ (∀ f a, f ≠ 262 → f ≠ 386 → gI t f a = gI h f a) ∧ o.length = m ∧ C0 c l o ∧ ∀ w, C0 c l w → m ≤ w.length → bet w o = false) 0 (h, [], os, Y, Z) (by omega) ⟨ME.rf h, M, yz, op, b, fun _ _ _ _ => rfl, J⟩ (by omega)
    (fun fu i s hi hI => by
      obtain ⟨t, o, os, Y, Z⟩ := s
      obtain ⟨p1, p2, p3, p4, p5, p6, p7⟩ := hI
      have p1 : ME X h t := p1
      have p2 : MT t X c l := p2
      have p3 : YZ t X Y Z := p3
      have p4 : OpS t X Y os := p4
      have p5 : BR t X o := p5
      have p6 : ∀ f a, f ≠ 262 → f ≠ 386 → gI t f a = gI h f a := p6
      have p7 : JW c l m (m - i) o os := p7
      obtain ⟨left, hl⟩ : ∃ left, m - i = left + 1 := ⟨m - i - 1, by omega⟩
      rw [hl] at p7
      have el : (m : Int) - (i : Int) = ((left + 1 : Nat) : Int) := by omega
      have ol := p7.1
      have okA : ∀ s, s ∈ os → okT l s := fun s hs => (p7.2.1 s hs).1
      have hY : Y = X + 109 ∨ Y = X + 110 := by have := p3.2.2; omega
      have ll := xLL p2 p3.1 hY p4 okA (left := ((left + 1 : Nat) : Int)) (by omega)
      have js := jw_step p2.1.six p2.1.B (fun s hs => (ltr_bd p2 (okA s hs)).2) p7
      have rx : rg (leaL c l os ((left + 1 : Nat) : Int) os.length) := by
        have h1 := mnO_le (a := 26) (g := fun _ => true) (f := fun k => ltr c l (gtN os k) ((left + 1 : Nat) : Int)) os.length
        have h2 := mnO_is (a := 26) (g := fun _ => true) (f := fun k => ltr c l (gtN os k) ((left + 1 : Nat) : Int)) os.length
        have e : leaL c l os ((left + 1 : Nat) : Int) os.length = mnO 26 (fun _ => true) (fun k => ltr c l (gtN os k) ((left + 1 : Nat) : Int)) os.length := rfl
        rw [← e] at h1 h2
        unfold rg
        rcases h2 with h2 | ⟨k, k1, _, k3⟩
        · omega
        · have := ltr_bd (left := ((left + 1 : Nat) : Int)) p2 (okA _ (gtN_mem k1))
          omega
      generalize leaL c l os ((left + 1 : Nat) : Int) os.length = x at ll js rx
      obtain ⟨t1, ⟨a1, a2, a3, a4, a5, a6⟩, a7⟩ := xAdR p2 p4 hY p5 (by omega) rx
      obtain ⟨t2, ⟨b1, b2, b3, b4, b5, b6, b7⟩, b8⟩ := xFw (a1 := x) (left := ((left + 1 : Nat) : Int)) a2 (by rw [a4]; exact p3.1) (by rw [a4]; exact p3.2.1) p3.2.2 a3 okA (by omega)
      have e5 : WE (((left + 1 : Nat) : Int) + (-1)) := we (by omega) (by omega)
      have H := p2.1.1
      left
      refine ⟨(t2, o ++ [x], flw c l os x ((left + 1 : Nat) : Int) os.length, Z, Y), ⟨(p1.tr a1).tr b1, b2, ⟨b3, b4, p3.2.2.elim (fun q => Or.inr ⟨q.2, q.1⟩) (fun q => Or.inl ⟨q.2, q.1⟩)⟩, b5, ⟨by rw [b6 _ _ (by omega)]; exact a5.1, fun k hk => (b7 k).trans (a5.2 k hk)⟩, fun f a n1 n2 => by rw [b6 f a (fun z => n1 z.1), a6 f a (fun z => n2 z.1)]; exact p6 f a n1 n2, by rw [show m - (i + 1) = left by omega]; exact js⟩, ?_⟩
      show fX4_mergeAll_b22 (X + 104) (fu + 1) t ((m : Int) - (i : Int)) = fX4_mergeAll_b22 (X + 104) fu t2 ((m : Int) - ((i : Int) + 1))
      rw [el, fX4_mergeAll_b22.eq_2]
      refine iteT (by omega) (gdg p2.1.k (bdg ll (nng H.r264 (gdg (by rw [H.k111]) (bdg a7 (gdg a2.1.k (bdg b8 ?_)))))))
      rw [e5.e, lt_d, show ((left + 1 : Nat) : Int) + -1 = (m : Int) - ((i : Int) + 1) by omega])
    (fun fu s hI => by
      obtain ⟨t, o, os, Y, Z⟩ := s
      obtain ⟨p1, p2, p3, p4, p5, p6, p7⟩ := hI
      have p7 : JW c l m (m - m) o os := p7
      rw [Nat.sub_self] at p7
      obtain ⟨z1, z2, z3⟩ := jw_z p7 rb
      have p4 : OpS t X Y os := p4
      rw [z1] at p4
      refine ⟨t, ⟨o, Y, Z, p1, p2, p3, p4, p5, p6, by have := p7.1; omega, z2, z3⟩, ?_⟩
      show fX4_mergeAll_b22 (X + 104) (fu + 1) t ((m : Int) - (m : Int)) = _
      rw [fX4_mergeAll_b22.eq_2]
      exact iteF (by omega) rfl)
  have e0 : (m : Int) - ((0 : Nat) : Int) = (m : Int) := by omega
  rw [e0] at key
  exact key
