/-! MERGED ROWS: the call -/
set_option maxHeartbeats 2000000 in
theorem ok_merged {h : Hp} {X : Nat} {a : Int} (I : Inv h X) : OK3 (fun h => fX11_merged h X a) (fun h => fX12_merged h (X + 121) a) h X := by
  obtain ⟨c, J, i1, i2, i3⟩ := id I
  have H := J.x
  have G := J.m
  have w := H.wf
  have nj := w.nj
  have pw := pw8 w
  by_cases q : okSet c a
  · obtain ⟨A, hA⟩ : ∃ A : Nat, a = (A : Int) := ⟨a.toNat, by have := q.1; omega⟩
    subst hA
    have A8 : A < 256 := by have := q.2; omega
    have bl := bcu_le A
    have xb : fJ6_bitCount_0f7a4 (A : Int) = some (bcN 8 A) := by rw [xBits (by omega), bcN_lt (n := 8) (by omega) (by omega)]
    by_cases q2 : bcN 8 A ≤ 6
    · have Hc : FL E7 F5 X h (pI h 263 (X + 104) 0) := fl_pI h 104 rfl (by decide)
      have H1 := H.fl J.b Hc (by decide +kernel) (by decide +kernel)
      have b1 := J.b.fl Hc (by decide +kernel) (by decide +kernel)
      obtain ⟨t0, ⟨f0, f1, f2, f3, f4⟩, f5⟩ := xRws (A := A) H1 b1 A8 (by omega) ⟨gI_pIs (rg_lit rfl), fun k hk => absurd hk (by show ¬ k < 0; omega)⟩
      have p0 : FL E7 F5 X h t0 := Hc.tr f1
      obtain ⟨n6, hm⟩ := ownL_ok (A := A) w (show bcu A ≤ 6 by omega)
      generalize el : ownL c A (c 2).toNat (c 2).toNat = l at f3 f4 n6 hm
      sorry
    · refine ok3 I J ⟨5, -1, ?_, fun h1 p => ?_⟩
      · show XR (fX11_merged h X (A : Int)) h X _ _
        unfold fX11_merged
        exact XR.of (gdg H.k (bdg (xSet1 H q) (iteF (by omega) (bdg xb (iteF q2 (bd2_id _)))))) (xr_re H.k (QR.rf h) (rg_lit rfl))
      · obtain ⟨ms, hc, -⟩ := G.q p
        show MR (fX12_merged h1 (X + 121) (A : Int)) h1 X _ _
        unfold fX12_merged
        refine MR.of (gdg ms.k (ltg (ltg (nng (q := X + 121 + 5) ms.r788 (gdg (show hK h1 (X + 121 + 5) = (21, 1850) from ms.k5) (bdg (q := 1) ?_ (iteF (by omega) (bdg (rBits (by omega)) (iteF q2 (bd2_id _))))))))))  (mr_m0r ms (rg_lit rfl))
        show fX12_areJars (gA h1 (X + 121 + 5)) (A : Int) = some 1
        rw [hc]; exact rSet1 w q
  · refine ok3 I J ⟨2, -1, ?_, fun h1 p => ?_⟩
    · show XR (fX11_merged h X a) h X _ _
      unfold fX11_merged
      exact XR.of (gdg H.k (bdg (xSet0 H q) (iteT rfl (bd2_id _)))) (xr_re H.k (QR.rf h) (rg_lit rfl))
    · obtain ⟨ms, hc, -⟩ := G.q p
      show MR (fX12_merged h1 (X + 121) a) h1 X _ _
      unfold fX12_merged
      refine MR.of (gdg ms.k (ltg (ltg (nng (q := X + 121 + 5) ms.r788 (gdg (show hK h1 (X + 121 + 5) = (21, 1850) from ms.k5) (bdg (q := 0) ?_ (iteT rfl (bd2_id _)))))))) (mr_m0r ms (rg_lit rfl))
      show fX12_areJars (gA h1 (X + 121 + 5)) a = some 0
      rw [hc]; exact rSet0 w q
