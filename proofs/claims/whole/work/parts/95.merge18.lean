/-! MERGED ROWS, in the class: mergeAll -/
set_option maxHeartbeats 1000000 in
theorem xMgA {h : Hp} {X Y Z : Nat} {c : Nat → Int} {l : List Nat} (m : MW h X c l) (yz : YZ h X Y Z) (z8 : ∀ s, s < 384 → gA h (X + 108) s = 0) :
    ∃ t : Hp, (∃ o Y' Z', ME X h t ∧ YZ t X Y' Z' ∧ (∀ s, s < 384 → gA t (X + 108) s = 0) ∧ BR t X o ∧ o.length ≤ 72 ∧ C0 c l o ∧ ∀ w, C0 c l w → bet w o = false) ∧ fX4_mergeAll h (X + 104) = some t := by
  have n6 := m.six
  obtain ⟨t1, ⟨a1, a2⟩, a3⟩ := xOvs m
  have m1 := m.on a1 (fun a ha => Or.inl ha)
  obtain ⟨t2, ⟨b1, b2⟩, b3⟩ := xRst m1 a2
  have m2 := m1.on b1 (fun a ha => Or.inr ha)
  have M2 : MT t2 X c l := ⟨m2, fun a b h1 h2 h3 => by rw [b1.a (by omega)]; exact a2 a b h1 h2 h3, b2⟩
  have r60 : gR t2 260 (X + 104) = some Y := by rw [b1.r (by omega), a1.r (by omega)]; exact yz.1
  have r61 : gR t2 261 (X + 104) = some Z := by rw [b1.r (by omega), a1.r (by omega)]; exact yz.2.1
  have hY : Y = X + 109 ∨ Y = X + 110 := by have := yz.2.2; omega
  obtain ⟨t3, ⟨c1, c2⟩, c3⟩ := xOpF M2 r60 hY (fun s hs => by rw [b1.a (by omega), a1.a (by omega)]; exact z8 s hs)
  have M3 := M2.mo c1
  have H3 := M3.1.1
  have me4 : ME X t3 (pI t3 386 (X + 111) 0) := me_pI t3 111 rfl (by decide) (by omega)
  have M4 : MT (pI t3 386 (X + 111) 0) X c l := M3.me me4 (gI_n (by omega)) (fun _ => rfl) (fun _ => rfl) (fun _ => rfl)
  have o4 : OpS (pI t3 386 (X + 111) 0) X Y (nxL c l 0 l.length l.length []) := ⟨by rw [gI_n (by omega)]; exact c2.1, c2.2⟩
  have yz4 : YZ (pI t3 386 (X + 111) 0) X Y Z := ⟨by show gR t3 260 (X + 104) = some Y; rw [c1.2.2.1]; exact r60, by show gR t3 261 (X + 104) = some Z; rw [c1.2.2.1]; exact r61, yz.2.2⟩
  obtain ⟨n, n1, n2, n3⟩ := jw_0 (c := c) n6 m.B
  obtain ⟨t5, ⟨o, Y', Z', d1, d2, d3, d4, d5, d6, d7, d8, d9⟩, d10⟩ := xAll M4 yz4 o4 ⟨gI_pIs (rg_lit rfl), fun k hk => absurd hk (by show ¬ k < 0; omega)⟩ n3 n2
  have b0 : bcu 0 = 0 := by decide
  have e0 : rsC c l 0 l.length = rsF l.length (ptZ c l) (ptO c l) l.length 0 l.length := by unfold rsC; rw [b0, Nat.sub_zero]
  have lo := (rsF_c (L := ptL c l) n6 m.B l.length 0 l.length (pw6 n6).1 (by omega)).1
  have me1 : ME X h t1 := ⟨fl_on a1 (fun a ha => Or.inr ⟨106, by decide, ha⟩), fun a na => sm_on a1 (fun z => na (by have z : a = X + 106 := z; omega))⟩
  have me2 : ME X t1 t2 := ⟨fl_on b1 (fun a ha => Or.inr ⟨107, by decide, ha⟩), fun a na => sm_on b1 (fun z => na (by have z : a = X + 107 := z; omega))⟩
  refine ⟨t5, ⟨o, Y', Z', ((((me1.tr me2).tr c1.1).tr me4).tr d1), d3, fun s hs => by rw [d4.2.2.1 s hs]; simp, d5, by omega, d8, fun w hw => d9 w hw (by have := lo w hw; rw [← e0, ← n1] at this; omega)⟩, ?_⟩
  unfold fX4_mergeAll
  refine gdg m.k (bdg a3 (gdg m1.k (bdg b3 (gdg m2.k (bd2g c3 (gdg M3.1.k (nng H3.r264 (gdg (by rw [H3.k111]) (bdg (q := pI t3 386 (X + 111) 0) ?_ ?_)))))))))
  · unfold fX6_clear
    exact gdg (by rw [H3.k111]) (ltg rfl)
  · rw [← n1]; exact d10
