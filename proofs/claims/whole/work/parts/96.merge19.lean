/-! MERGED ROWS: the call -/
set_option maxHeartbeats 2000000 in
theorem ok_merged {h : Hp} {X : Nat} {a : Int} (I : Inv h X) : OK3 (fun h => fX11_merged h X a) (fun h => fX12_merged h (X + 121) a) h X := by
  obtain ⟨c, J, i1, i2, i3⟩ := id I
  have H := J.x
  have G := J.m
  have w := H.wf
  have nj := w.nj
  have pw := pw8 w
  by_cases q : okSet c a
  · obtain ⟨A, hA⟩ : ∃ A : Nat, a = (A : Int) := ⟨a.toNat, by have := q.1; omega⟩
    subst hA
    have A8 : A < 256 := by have := q.2; omega
    have bl := bcu_le A
    have xb : fJ6_bitCount_0f7a4 (A : Int) = some (bcN 8 A) := by rw [xBits (by omega), bcN_lt (n := 8) (by omega) (by omega)]
    by_cases q2 : bcN 8 A ≤ 6
    · have Hc : FL E7 F5 X h (pI h 263 (X + 104) 0) := fl_pI h 104 rfl (by decide)
      have H1 := H.fl J.b Hc (by decide +kernel) (by decide +kernel)
      have b1 := J.b.fl Hc (by decide +kernel) (by decide +kernel)
      obtain ⟨t0, ⟨f0, f1, f2, f3, f4⟩, f5⟩ := xRws (A := A) H1 b1 A8 (by omega) ⟨gI_pIs (rg_lit rfl), fun k hk => absurd hk (by show ¬ k < 0; omega)⟩
      have p0 : FL E7 F5 X h t0 := Hc.tr f1
      obtain ⟨n6, hm⟩ := ownL_ok (A := A) w (show bcu A ≤ 6 by omega)
      generalize el : ownL c A (c 2).toNat (c 2).toNat = l at f3 f4 n6 hm
      have zt : X + 144 ≤ hZ t0 := Nat.le_trans J.z p0.1
      have f0t : FL [105] [(263, 104)] X h t0 := (fl_pI h 104 rfl (by decide)).tr f0
      obtain ⟨-, -, -, mz, mr⟩ := J.mg
      have g60 := (f0t.fi J.z (f := 260) (i := 104) (by decide +kernel)).2.2
      have g61 := (f0t.fi J.z (f := 261) (i := 104) (by decide +kernel)).2.2
      obtain ⟨Y, Z, yz⟩ : ∃ Y Z, YZ t0 X Y Z := by
        rcases mr with ⟨m1, m2⟩ | ⟨m1, m2⟩
        · exact ⟨_, _, g60.trans m1, g61.trans m2, Or.inl ⟨rfl, rfl⟩⟩
        · exact ⟨_, _, g60.trans m1, g61.trans m2, Or.inr ⟨rfl, rfl⟩⟩
      have z8 : ∀ s, s < 384 → gA t0 (X + 108) s = 0 := fun s hs => ((f0t.ro J.z (i := 108) (by decide +kernel)).1 s).trans (mz s hs)
      obtain ⟨t5, ⟨o, Y', Z', d1, d2, d3, d4, d5, d6, d7⟩, d8⟩ := xMgA ⟨f2.1, zt, w, n6, hm, f3, f4⟩ yz z8
      have hw := mgf_is d6 d7
      have p5 : FL E7 F5 X h t5 := p0.tr d1.1
      have H5 := H.1.fl p5 J.z (by decide +kernel)
      have k5 : (hK t5 X).1 = 11 := by rw [H5.k0]
      have e1 : fX11_merged h X (A : Int) = some ((o.length : Int), pI t5 721 X 0) := by
        unfold fX11_merged
        refine gdg H.k (bdg (xSet1 H q) (iteF (by omega) (bdg xb (iteT q2 (nng H.1.r715 (gdg (by rw [H.1.k104]) (bdg (q := pI h 263 (X + 104) 0) ?_ ?_)))))))
        · unfold fX4_clear
          exact gdg (by rw [H.1.k104]) (ltg rfl)
        · refine Eq.trans f5 (nng f2.1.r715 (gdg (by rw [f2.1.k104]) (bdg d8 (gdg k5 (nng H5.r715 (gdg (by rw [H5.k104]) (nng H5.r264 (gdg (by rw [H5.k111]) ?_))))))))
          rw [d4.1]
          unfold fX11_answer
          exact bd2g (gdg k5 rfl) rfl
      have p1 : FL E7 F5 X h (pI t5 721 X 0) := p5.tr (fl_q (q_pI t5 (Or.inl ⟨rfl, rfl⟩)))
      have x1 : gI (pI t5 721 X 0) 721 X = 0 := gI_pIs (rg_lit rfl)
      have x2 : gI (pI t5 721 X 0) 386 (X + 111) = (o.length : Int) := by rw [gI_n (by omega)]; exact d4.1
      have x3 : ∀ k, k < o.length → gA (pI t5 721 X 0) (X + 112) k = gtL o k := d4.2
      have x4 : ∀ s, s < 384 → gA (pI t5 721 X 0) (X + 108) s = 0 := d3
      have x5 : YZ (pI t5 721 X 0) X Y' Z' := d2
      have G1 := G.fl p1 J.z (by decide +kernel)
      generalize pI t5 721 X 0 = h1 at e1 p1 x1 x2 x3 x4 x5 G1
      have z1 : X + 144 ≤ hZ h1 := Nat.le_trans J.z p1.1
      obtain ⟨r2, ⟨w1, w2, w3, w4, w5⟩, e2⟩ := rMrg G1 z1 q A8 (show bcu A ≤ 6 by omega) el hw d5
      have p : FL [105, 106, 107, 108, 109, 110, 112, 136] [(260, 104), (261, 104), (262, 104), (263, 104), (386, 111), (806, 121)] X h r2 := (p1.mono (by decide) (by decide)).tr (w1.mono (by decide) (by decide))
      have s7 : gI r2 721 X = 0 := w4.trans x1
      refine ⟨_, h1, r2, e1, e2, c, ⟨J.x.fl J.b p (by decide +kernel) (by decide +kernel), J.m.fl p J.z (by decide +kernel), J.b.fl p (by decide +kernel) (by decide +kernel), J.tr.fl p J.z (by decide +kernel), J.tp.fl p J.z (by decide +kernel), J.mk.fl p J.z (by decide +kernel) (fun _ _ => rfl), J.rd.fl p J.z (by decide +kernel), ⟨by rw [w2]; omega, by rw [w2, (w1.fi z1 (f := 386) (i := 111) (by decide +kernel)).1]; exact x2, fun k hk => ?_, fun s hs => ((w1.ro z1 (i := 108) (by decide +kernel)).1 s).trans (x4 s hs), ?_⟩, J.cn.fl p J.z (by decide +kernel), J.sf.fl p J.z (by decide +kernel)⟩, s7.trans w3.symm, ?_, ?_⟩
      · rw [w2] at hk
        rw [(w1.ro z1 (i := 112) (by decide +kernel)).1, x3 k (by omega)]
        exact (w5 k (by omega)).symm
      · have h60 := (w1.fi z1 (f := 260) (i := 104) (by decide +kernel)).2.2
        have h61 := (w1.fi z1 (f := 261) (i := 104) (by decide +kernel)).2.2
        obtain ⟨y1, y2, y3⟩ := x5
        rcases y3 with ⟨m1, m2⟩ | ⟨m1, m2⟩
        · rw [m1] at y1; rw [m2] at y2
          exact Or.inl ⟨h60.trans y1, h61.trans y2⟩
        · rw [m1] at y1; rw [m2] at y2
          exact Or.inr ⟨h60.trans y1, h61.trans y2⟩
      · rw [(p.f0 J.z (f := 722) (by decide +kernel)).2.1, (p.fi J.z (f := 770) (i := 121) (by decide +kernel)).2.1]; exact i2
      · rw [(p.f0 J.z (f := 723) (by decide +kernel)).2.1, (p.fi J.z (f := 771) (i := 121) (by decide +kernel)).2.1]; exact i3
    · refine ok3 I J ⟨5, -1, ?_, fun h1 p => ?_⟩
      · show XR (fX11_merged h X (A : Int)) h X _ _
        unfold fX11_merged
        exact XR.of (gdg H.k (bdg (xSet1 H q) (iteF (by omega) (bdg xb (iteF q2 (bd2_id _)))))) (xr_re H.k (QR.rf h) (rg_lit rfl))
      · obtain ⟨ms, hc, -⟩ := G.q p
        show MR (fX12_merged h1 (X + 121) (A : Int)) h1 X _ _
        unfold fX12_merged
        refine MR.of (gdg ms.k (ltg (ltg (nng (q := X + 121 + 5) ms.r788 (gdg (show hK h1 (X + 121 + 5) = (21, 1850) from ms.k5) (bdg (q := 1) ?_ (iteF (by omega) (bdg (rBits (by omega)) (iteF q2 (bd2_id _))))))))))  (mr_m0r ms (rg_lit rfl))
        show fX12_areJars (gA h1 (X + 121 + 5)) (A : Int) = some 1
        rw [hc]; exact rSet1 w q
  · refine ok3 I J ⟨2, -1, ?_, fun h1 p => ?_⟩
    · show XR (fX11_merged h X a) h X _ _
      unfold fX11_merged
      exact XR.of (gdg H.k (bdg (xSet0 H q) (iteT rfl (bd2_id _)))) (xr_re H.k (QR.rf h) (rg_lit rfl))
    · obtain ⟨ms, hc, -⟩ := G.q p
      show MR (fX12_merged h1 (X + 121) a) h1 X _ _
      unfold fX12_merged
      refine MR.of (gdg ms.k (ltg (ltg (nng (q := X + 121 + 5) ms.r788 (gdg (show hK h1 (X + 121 + 5) = (21, 1850) from ms.k5) (bdg (q := 0) ?_ (iteT rfl (bd2_id _)))))))) (mr_m0r ms (rg_lit rfl))
      show fX12_areJars (gA h1 (X + 121 + 5)) a = some 0
      rw [hc]; exact rSet0 w q
