/-! SHOP -/
def FSH : List (Nat × Nat) := [(577, 10), (578, 10), (579, 10), (580, 10), (581, 10), (582, 10), (583, 10), (517, 12), (776, 121), (777, 121), (780, 121), (781, 121), (782, 121), (783, 121), (784, 121), (785, 121), (786, 121), (787, 121), (794, 121), (717, 0), (718, 0), (719, 0), (778, 121), (779, 121), (813, 121)]
def ESH : List Nat := [13, 14, 15, 16, 102, 126, 127]
def ECX : List Nat := [13, 14, 15, 16, 102]
def FCX : List (Nat × Nat) := [(577, 10), (578, 10), (579, 10), (580, 10), (581, 10), (582, 10), (583, 10), (517, 12), (717, 0), (718, 0), (719, 0)]
def FCY : List (Nat × Nat) := [(717, 0), (718, 0), (719, 0)]
def ERX : List Nat := [126, 127]
def FRX : List (Nat × Nat) := [(776, 121), (777, 121), (780, 121), (781, 121), (782, 121), (783, 121), (784, 121), (785, 121), (786, 121), (787, 121), (794, 121), (778, 121), (779, 121), (813, 121)]
def FRW : List (Nat × Nat) := [(776, 121), (777, 121), (780, 121), (781, 121), (782, 121), (783, 121), (784, 121), (785, 121), (786, 121), (787, 121), (794, 121), (778, 121), (779, 121)]
set_option maxHeartbeats 200000 in
theorem fr_fl {E : List Nat} {F : List (Nat × Nat)} {X i : Nat} {h h' : Hp} (p : Fr (fun _ _ => False) (fun a => a = X + i) h h') (m : i ∈ E) : FL E F X h h' :=
  ⟨Nat.le_of_eq p.z.symm, fun _ _ => ⟨by rw [p.k], fun _ n2 => ⟨fun _ _ _ _ => ⟨p.i (fun z => z), p.j (fun z => z), p.r (fun z => z)⟩, fun _ => ⟨p.a (n2 i m), p.b (n2 i m), p.c (n2 i m)⟩⟩⟩⟩
set_option maxHeartbeats 200000 in
theorem isWell0 {M : Nat} {m : Hp} (k : (hK m M).1 = 12) (b : gI m 780 M = 0) : fX12_isWell m M = some (1, pI (pI m 778 M 0) 779 M (-1)) := by
  unfold fX12_isWell
  rw [b]
  refine gdg k (ltg (iteT (by rw [gI_n (by omega)]; exact b) ?_))
  unfold fX12_isWell_b24
  exact gdg k (ltg (gdg k (iteT (by rw [gI_n (by omega), gI_n (by omega)]; exact b) (rfl))))
set_option maxHeartbeats 200000 in
theorem isWell1 {M : Nat} {m : Hp} {f p : Int} (k : (hK m M).1 = 12) (b : gI m 780 M = f) (f0 : ¬ f = 0) (bp : gI m 781 M = p) : fX12_isWell m M = some (0, pI (pI (pI m 778 M f) 779 M p) 768 M 10) := by
  have e1 : gI (pI m 778 M f) 780 M = f := by rw [gI_n (by omega)]; exact b
  have e2 : gI (pI m 778 M f) 781 M = p := by rw [gI_n (by omega)]; exact bp
  unfold fX12_isWell
  rw [b]
  refine gdg k (ltg ?_)
  rw [e1, e2]
  refine iteF f0 ?_
  unfold fX12_isWell_b24
  refine gdg k (ltg (gdg k (iteF (by rw [gI_n (by omega), e1]; exact f0) (?_))))
  unfold fX12_no
  exact bd2g (gdg k (ltg rfl)) (iteT rfl (rfl))
set_option maxHeartbeats 200000 in
theorem bk_eq {c c' : Nat → Int} (e : ∀ k, 370 ≤ k → k < 1480 → c' k = c k) : ∀ i, i < 3 → bk c' i = bk c i := fun i hi => by
  funext k
  unfold bk
  by_cases q : k < 370
  · rw [if_pos q, if_pos q, e _ (by omega) (by omega)]
  · rw [if_neg q, if_neg q]
set_option maxHeartbeats 200000 in
theorem inv_tp {h : Hp} {X : Nat} (u : gI h 776 (X + 121) = 0) (u2 : gI h 577 (X + 10) = 0) (f : gI h 578 (X + 10) = gI h 778 (X + 121)) (p : gI h 579 (X + 10) = gI h 779 (X + 121)) : TP h X := by
  unfold TP
  rw [u, u2]
  exact ⟨by omega, rfl, fun k hk => absurd hk (by omega), f, p⟩
set_option maxHeartbeats 1000000 in
theorem ok_shop {h : Hp} {X : Nat} {n : Int} (I : Inv h X) : OK3 (fun h => fX11_shop h X n) (fun h => fX12_shop h (X + 121) n) h X := by
  obtain ⟨c, J, i1, i2, i3⟩ := id I
  have H := J.x
  have G := J.m
  have w := H.wf
  obtain ⟨tp1, tp2, tp3, tp4, tp5⟩ := J.tp
  obtain ⟨u, eu⟩ := i2n tp1.1
  rw [eu] at tp1 tp2 tp3
  have k9 : (hK h (X + 10)).1 = 9 := by rw [H.1.k10]
  by_cases q : 0 ≤ n ∧ n ≤ (u : Int)
  · obtain ⟨L, rfl⟩ := i2n q.1
    obtain ⟨T, hTd⟩ : ∃ T, T = gA h (X + 11) := ⟨_, rfl⟩
    have hT : ∀ i, i < L → gA h (X + 11) i = T i ∧ -128 ≤ T i ∧ T i ≤ 127 := fun i hi => by
      rw [hTd]
      exact ⟨rfl, (tp3 i (by omega)).2⟩
    have kT : ∀ i, i < L → gA h (X + 121 + 4) i = T i := fun i hi => by rw [hTd]; exact (tp3 i (by omega)).1.symm
    obtain ⟨t0, h1, m9, c1, hz1, -, -, -, P0, -, er, -⟩ := shop_read (a1 := (L : Int)) (m := h) J.z H.1 tp2 q.2 (by omega) hT G.1 eu kT
    obtain ⟨HX1, -, Rd1, -⟩ := P0
    clear m9
    obtain ⟨S, hS⟩ : ∃ S, S = hZ h := ⟨_, rfl⟩
    rw [← hS] at Rd1 er hz1
    have X1 := Rd1.1
    have z0 := J.z
    have z1 : X + 144 ≤ hZ h1 := by omega
    have k17 : (hK (pI h1 577 (X + 10) 0) X).1 = 11 := by rw [hK_pI, X1.k0]
    have fl1 := c1.fl
    have eh0 : fX9_empty h1 (X + 10) = some (pI h1 577 (X + 10) 0) := by
      unfold fX9_empty
      exact gdg (by rw [X1.k10]) rfl
    have ehf : fX9_hasFault (pI h1 577 (X + 10) 0) (X + 10) = some (if gI h1 578 (X + 10) = 0 then 0 else 1) := by
      unfold fX9_hasFault
      rw [gI_n (by omega)]
      exact gdg (by rw [hK_pI, X1.k10]) rfl
    have pre : ∀ x, (if (if gI h1 578 (X + 10) = 0 then (0 : Int) else 1) = 0 then (lt (α := Hp) (pR (pI h1 577 (X + 10) 0) 717 X S) fun h24 => lt (α := Nat) (hZ h24) fun q25 => lt (α := Hp) (nw h24 1 0) fun h26 => bd (fX1_init h26 q25) fun h30 => gd ((hK h30 X).1 = 11) <| lt (α := Hp) (pR h30 718 X q25) fun h32 => lt (α := Hp) (pI h32 719 X 0) fun h33 => fX11_shop_b79 X (L : Int) FU h33 31 292 0) else bd2 (fX11_refuse (pI h1 577 (X + 10) 0) X 10) fun r34 h36 => some (r34, h36)) = x → fX11_shop h X (L : Int) = x := fun x hx => by
      unfold fX11_shop
      refine gdg H.k (nng H.1.r705 (gdg k9 (?_)))
      rw [tp2]
      exact bdg (xIn_1 q.1 q.2) (iteF (by omega) (nng H.1.r706 (gdg (by rw [H.1.k12]) (bd2g er (gdg (by rw [X1.k0]) (nng X1.r705 (gdg (by rw [X1.k10]) (bdg eh0 (gdg k17 (nng (by rw [gR_pI]; exact X1.r705) (gdg (by rw [hK_pI, X1.k10]) (bdg ehf (hx)))))))))))))
    by_cases f0 : gI h1 578 (X + 10) = 0
    · -- a shop
      have f17 : FL ECX FCX X h1 (pR (pI h1 577 (X + 10) 0) 717 X S) := (fl_pI h1 10 rfl (by decide)).tr (fl_pR _ 0 rfl (by decide))
      have hz24 : hZ (pR (pI h1 577 (X + 10) 0) 717 X S) = S + 27 := by rw [hZ_pR, hZ_pI]; omega
      have v577 : gI (pR (pI h1 577 (X + 10) 0) 717 X S) 577 (X + 10) = 0 := by rw [gI_pR]; exact gI_pIs (rg_lit rfl)
      have v578 : gI (pR (pI h1 577 (X + 10) 0) 717 X S) 578 (X + 10) = 0 := by rw [gI_pR, gI_n (by omega)]; exact f0
      have v579 : gI (pR (pI h1 577 (X + 10) 0) 717 X S) 579 (X + 10) = -1 := by
        rw [gI_pR, gI_n (by omega), HX1.2.2.2.2.2.1]
        exact HX1.2.2.2.2.2.2.1 (HX1.2.2.2.2.1.symm.trans f0)
      have v717 : gR (pR (pI h1 577 (X + 10) 0) 717 X S) 717 X = some S := gR_s
      have kk24 : ∀ a, hK (pR (pI h1 577 (X + 10) 0) 717 X S) a = hK h1 a := fun _ => rfl
      have lw := fun {c : Nat → Int} (c3 : c 3 = 0) => mk_law hz24 c3
      have lwz := mk_lawZ hz24
      have fl30 : FL [102] FCY X (pR (pI h1 577 (X + 10) 0) 717 X S) (mkH' (S + 27) (pR (pI h1 577 (X + 10) 0) 717 X S) mkL_6) := mk_fl hz24 _
      have el : fX1_init (nw (pR (pI h1 577 (X + 10) 0) 717 X S) 1 0) (S + 27) = some (mkH' (S + 27) (pR (pI h1 577 (X + 10) 0) 717 X S) mkL_6) := mkL__t0 hz24
      have sm30 := fun {a : Nat} (ha : a < S + 27) => mk_s hz24 mkL_6 ha
      generalize hh24 : pR (pI h1 577 (X + 10) 0) 717 X S = h24 at *
      generalize mkH' (S + 27) h24 mkL_6 = h30 at *
      have k30 : (hK h30 X).1 = 11 := by rw [(sm30 (a := X) (by omega)).1, kk24, X1.k0]
      have f33 : FL [102] FCY X h30 (pI (pR h30 718 X (S + 27)) 719 X 0) := (fl_pR h30 0 rfl (by decide)).tr (fl_pI _ 0 rfl (by decide))
      have v718 : gR (pI (pR h30 718 X (S + 27)) 719 X 0) 718 X = some (S + 27) := by rw [gR_pI]; exact gR_s
      have v719 : gI (pI (pR h30 718 X (S + 27)) 719 X 0) 719 X = 0 := gI_pIs (rg_lit rfl)
      have v717' : gR (pI (pR h30 718 X (S + 27)) 719 X 0) 717 X = some S := by rw [gR_pI, gR_n (by omega), (sm30 (a := X) (by omega)).r]; exact v717
      have kk33 : ∀ a, hK (pI (pR h30 718 X (S + 27)) 719 X 0) a = hK h30 a := fun _ => rfl
      have z33 : hZ (pI (pR h30 718 X (S + 27)) 719 X 0) = hZ h30 := rfl
      generalize hh33 : pI (pR h30 718 X (S + 27)) 719 X 0 = h33 at *
      have z24 : X + 144 ≤ hZ h24 := by omega
      have z30 : X + 144 ≤ hZ h30 := by omega
      have X33 : XS h33 X := ((X1.fl f17 z1 (by decide +kernel)).fl fl30 z24 (by decide +kernel)).fl f33 z30 (by decide +kernel)
      have kS33 : (hK h33 S).1 = 7 := by rw [kk33, (sm30 (a := S) (by omega)).1, kk24, Rd1.2.2.2.1]
      obtain ⟨h34, fb, vb, eb⟩ := xBrk (n := (L : Int)) 8 0 FU h33 (by omega) (show 8 < 1000000 by omega) (by omega) X33 v717' kS33 (by omega) (fun k hk => absurd hk (by omega))
      have fb' : FL [102] [] X h33 h34 := fr_fl fb (by decide)
      have fq : FL [102] [] X h34 (pI h34 721 X 0) := fl_q (q_pI h34 (Or.inl ⟨rfl, rfl⟩))
      have ecl : fX11_shop h X (L : Int) = some (gI h34 451 S, pI h34 721 X 0) := by
        refine pre _ ?_
        rw [if_pos f0]
        refine iteT rfl (ltg (ltzg hz24 (ltg (bdg el (gdg k30 (ltg (ltg (?_))))))))
        rw [hh33]
        exact eb
      have v451 : gI h34 451 S = gI h1 451 S := by rw [fb.i (fun z => z), ← hh33, gI_n (by omega), gI_pR, (sm30 (a := S) (by omega)).i, ← hh24, gI_pR, gI_n (by omega)]
      have flB : FL [102] [] X h33 (pI h34 721 X 0) := fb'.tr fq
      have flA : FL [102] FCY X h24 (pI h34 721 X 0) := (fl30.tr f33).tr (flB.mono (by decide) (by decide))
      have flR : FL [102] FCY X h30 (pI h34 721 X 0) := f33.tr (flB.mono (by decide) (by decide))
      have a721 : gI (pI h34 721 X 0) 721 X = 0 := gI_pIs (rg_lit rfl)
      have zf : hZ (pI h34 721 X 0) = S + 31 := by rw [hZ_pI, fb.z, z33, lwz]
      have vb' : ∀ k, k < 8 → gA (pI h34 721 X 0) (X + 102) k = 0 := vb
      clear pre eb vb fb
      generalize hhf : pI h34 721 X 0 = hf at *
      have flh : FL ECX FCX X h hf := ((fl1.mono (by decide) (by decide)).tr f17).tr (flA.mono (by decide) (by decide))
      have fl1f : FL ECX FCX X h1 hf := f17.tr (flA.mono (by decide) (by decide))
      have zf' : X + 144 ≤ hZ hf := by omega
      have z33' : X + 144 ≤ hZ h33 := by omega
      -- the reference
      have MSf : MS hf (X + 121) := G.1.fl flh J.z (by decide +kernel)
      have MS0 : MS (m0 hf X) (X + 121) := MSf
      have ku : gI (m0 hf X) 776 (X + 121) = (u : Int) := by
        show gI (pI (pI hf 769 (X + 121) 0) 768 (X + 121) 0) 776 (X + 121) = _
        rw [gI_n (by omega), gI_n (by omega), (flh.fi J.z (f := 776) (i := 121) (by decide +kernel)).1]; exact eu
      have kT' : ∀ i, i < L → gA (m0 hf X) (X + 121 + 4) i = T i := fun i hi => by
        show gA hf (X + 121 + 4) i = T i
        rw [show X + 121 + 4 = X + 125 from rfl, (flh.ro J.z (i := 125) (by decide +kernel)).1]; exact kT i hi
      obtain ⟨t, h1', m', -, -, gr, row, u0, P, kk0, er', erf⟩ := shop_read (a1 := (L : Int)) J.z H.1 tp2 q.2 (by omega) hT MS0 ku kT'
      have eh1 : h1 = h1' := by
        have := er.symm.trans er'
        injection this with e
        exact congrArg Prod.snd e
      subst eh1
      clear er er'
      obtain ⟨HX', K', Rd', Gd⟩ := P
      rw [← hS] at Rd' Gd
      have tf0 : tkF t = 0 := HX'.2.2.2.2.1.symm.trans f0
      obtain ⟨ns, nj, nS, nJ, Gd'⟩ := Gd tf0
      have bad0 : gI m' 780 (X + 121) = 0 := K'.2.2.2.2.1.trans tf0
      have ew := isWell0 K'.k bad0
      have MSw : MS (pI (pI m' 778 (X + 121) 0) 779 (X + 121) (-1)) (X + 121) := K'.1.1
      obtain ⟨m2, ft, rowt, et⟩ := rTake (M := X + 121) (a1 := (L : Int)) 370 0 FU (pI (pI m' 778 (X + 121) 0) 779 (X + 121) (-1)) (by omega) (show 370 < 1000000 by omega) (by omega) MSw
      have erfin : fX12_shop hf (X + 121) (L : Int) = some (gA m2 (X + 121 + 5) 2, pI m2 813 (X + 121) 0) := by
        unfold fX12_shop
        refine gdg MSf.k (ltg (ltg (erf.trans ?_)))
        unfold fX12_shop_b129
        exact gdg K'.k (bd2g ew (iteF (by omega) (et)))
      have cc : ∀ k, gA (pI m2 813 (X + 121) 0) (X + 121 + 5) k = if k < 370 then gA m' (X + 121 + 5) (1480 + k) else gA m' (X + 121 + 5) k := fun k => by
        rw [gA_pI, rowt]
        by_cases y : k < 370
        · rw [if_pos ⟨Nat.zero_le _, y⟩, if_pos y]; rfl
        · rw [if_neg (fun w => y w.2), if_neg y]; rfl
      have E : ∀ f a, a ≠ X + 121 → gI (pI m2 813 (X + 121) 0) f a = gI hf f a := fun f a ha => by
        rw [gI_n (Or.inr ha), ft.i (fun z => z), gI_n (Or.inr ha), gI_n (Or.inr ha), gr.i (fun z => ha z.1)]
        show gI (pI (pI hf 769 (X + 121) 0) 768 (X + 121) 0) f a = _
        rw [gI_n (Or.inr ha), gI_n (Or.inr ha)]
      have ER : ∀ f a, a ≠ X + 121 → gR (pI m2 813 (X + 121) 0) f a = gR hf f a := fun f a ha => by
        rw [gR_pI, ft.r (fun z => z), gR_pI, gR_pI, gr.r (fun z => ha z.1)]
        rfl
      have y768 : gI (pI m2 813 (X + 121) 0) 768 (X + 121) = 0 := by
        rw [gI_n (by omega), ft.i (fun z => z), gI_n (by omega), gI_n (by omega), gr.i (by omega)]; exact m0_s hf X
      have y776 : gI (pI m2 813 (X + 121) 0) 776 (X + 121) = 0 := by
        rw [gI_n (by omega), ft.i (fun z => z), gI_n (by omega), gI_n (by omega)]; exact u0
      have y778 : gI (pI m2 813 (X + 121) 0) 778 (X + 121) = 0 := by
        rw [gI_n (by omega), ft.i (fun z => z), gI_n (by omega)]; exact gI_pIs (rg_lit rfl)
      have y779 : gI (pI m2 813 (X + 121) 0) 779 (X + 121) = -1 := by
        rw [gI_n (by omega), ft.i (fun z => z)]; exact gI_pIs (rg_lit rfl)
      have y813 : gI (pI m2 813 (X + 121) 0) 813 (X + 121) = 0 := gI_pIs (rg_lit rfl)
      have flr : FL ERX FRX X hf (pI m2 813 (X + 121) 0) := (((((fl_m (m0_q hf X)).tr ((gr_fl gr).mono (by decide) (by decide))).tr (fl_pI m' 121 rfl (by decide))).tr (fl_pI _ 121 rfl (by decide))).tr (fr_fl (i := 126) ft (by decide))).tr (fl_pI m2 121 rfl (by decide))
      have zfin : hZ hf ≤ hZ (pI m2 813 (X + 121) 0) := flr.1
      have m2v : gA m2 (X + 121 + 5) 2 = gA (pI m2 813 (X + 121) 0) (X + 121 + 5) 2 := rfl
      rw [m2v] at erfin
      generalize hmf : pI m2 813 (X + 121) 0 = mf at *
      clear ew et erf hmf MSw ft rowt m2v
      have p : FL ESH FSH X h mf := (flh.mono (by decide) (by decide)).tr (flr.mono (by decide) (by decide))
      have p1 : FL ESH FSH X h1 mf := (fl1f.mono (by decide) (by decide)).tr (flr.mono (by decide) (by decide))
      have p30 : FL ESH FSH X h30 mf := (flR.mono (by decide) (by decide)).tr (flr.mono (by decide) (by decide))
      generalize ec' : gA mf (X + 121 + 5) = c' at cc
      have ce : ∀ k, k < 370 → c' k = tzD (X + 121) m' k := fun k hk => by rw [cc, if_pos hk]; rfl
      obtain ⟨sv, wf, c00, c02⟩ := good_sv Gd' Rd'.2.2.2 ce
      have c03 : c' 3 = 0 := (ce 3 (by omega)).trans Gd'.1.2.2.2.2.2.2.2
      have e451 : gI h1 451 S = (nj : Int) := Gd'.1.2.1
      have rowc : ∀ k, 370 ≤ k → k < 1480 → c' k = c k := fun k k1 k2 => by
        rw [cc, if_neg (by omega), row k k2]
        show gA hf (X + 126) k = _
        rw [(flh.ro J.z (i := 126) (by decide +kernel)).1]
        exact congrFun G.2.1 k
      have t717 : gR mf 717 X = some S := by rw [ER _ _ (by omega), (flB.f0 z33' (f := 717) (by decide +kernel)).2.2]; exact v717'
      have t718 : gR mf 718 X = some (S + 27) := by rw [ER _ _ (by omega), (flB.f0 z33' (f := 718) (by decide +kernel)).2.2]; exact v718
      have t719 : gI mf 719 X = c' 0 := by rw [E _ _ (by omega), (flB.f0 z33' (f := 719) (by decide +kernel)).1, c00]; exact v719
      have x577 : gI mf 577 (X + 10) = 0 := by rw [E _ _ (by omega), (flA.fi z24 (f := 577) (i := 10) (by decide +kernel)).1]; exact v577
      have x578 : gI mf 578 (X + 10) = 0 := by rw [E _ _ (by omega), (flA.fi z24 (f := 578) (i := 10) (by decide +kernel)).1]; exact v578
      have x579 : gI mf 579 (X + 10) = -1 := by rw [E _ _ (by omega), (flA.fi z24 (f := 579) (i := 10) (by decide +kernel)).1]; exact v579
      have svf : SV mf S c' := sv.fl p1 z1 (by decide +kernel) (Or.inr (by omega)) (by omega) wf
      have lvf : LV mf (S + 27) c' := (lw c03).fl p30 z30 (by decide +kernel) (Or.inr (by omega)) (by omega)
      refine ⟨gI h34 451 S, hf, mf, ecl, erfin.trans (by rw [ec', c02, v451, e451]), c', ⟨⟨H.1.fl p J.z (by decide +kernel), wf, t719, ⟨S, t717, svf, Or.inr (by omega)⟩, S + 27, t718, lvf, Or.inr (by omega)⟩, ⟨G.1.fl p J.z (by decide +kernel), ec', wf⟩, ⟨by omega, fun S' z => by rw [t717] at z; cases z; omega, fun R' z => by rw [t718] at z; cases z; omega⟩, J.tr.fl p J.z (by decide +kernel), inv_tp y776 x577 (x578.trans y778.symm) (x579.trans y779.symm), J.mk.fl p J.z (by decide +kernel) (bk_eq rowc), ⟨Or.inl y813, fun j hj => ?_⟩, J.mg.fl p J.z (by decide +kernel), J.cn.fl p J.z (by decide +kernel), J.sf.fl p J.z (by decide +kernel)⟩, ?_, ?_, ?_⟩
      · rw [y813, if_pos rfl, (flr.ro zf' (i := 102) (by decide +kernel)).1]; exact vb' j hj
      · rw [E _ _ (by omega), a721, y768]
      · rw [(p.f0 J.z (f := 722) (by decide +kernel)).2.1, (p.fi J.z (f := 770) (i := 121) (by decide +kernel)).2.1]; exact i2
      · rw [(p.f0 J.z (f := 723) (by decide +kernel)).2.1, (p.fi J.z (f := 771) (i := 121) (by decide +kernel)).2.1]; exact i3
    · -- a fault
      have ecl : fX11_shop h X (L : Int) = some (-1, pI (pI h1 577 (X + 10) 0) 721 X 10) := by
        refine pre _ ?_
        rw [if_neg f0]
        refine iteF (by omega) ?_
        unfold fX11_refuse
        exact bd2g (gdg k17 rfl) rfl
      have flh : FL [13, 14, 15, 16] FCX X h (pI (pI h1 577 (X + 10) 0) 721 X 10) := ((fl1.mono (by decide) (by decide)).tr (fl_pI h1 10 rfl (by decide))).tr (fl_q (q_pI _ (Or.inl ⟨rfl, rfl⟩)))
      have a721 : gI (pI (pI h1 577 (X + 10) 0) 721 X 10) 721 X = 10 := gI_pIs (rg_lit rfl)
      have v577 : gI (pI (pI h1 577 (X + 10) 0) 721 X 10) 577 (X + 10) = 0 := by rw [gI_n (by omega)]; exact gI_pIs (rg_lit rfl)
      have v578 : gI (pI (pI h1 577 (X + 10) 0) 721 X 10) 578 (X + 10) = gI h1 578 (X + 10) := by rw [gI_n (by omega), gI_n (by omega)]
      have v579 : gI (pI (pI h1 577 (X + 10) 0) 721 X 10) 579 (X + 10) = gI h1 579 (X + 10) := by rw [gI_n (by omega), gI_n (by omega)]
      have v719 : gI (pI (pI h1 577 (X + 10) 0) 721 X 10) 719 X = gI h 719 X := by rw [gI_n (by omega), gI_n (by omega), ((c1.2 X (by omega)).2.1 719 (by omega)).1]
      have v717 : ∀ f, gR (pI (pI h1 577 (X + 10) 0) 721 X 10) f X = gR h f X := fun f => by rw [gR_pI, gR_pI, ((c1.2 X (by omega)).2.1 f (by omega)).2.2]
      clear pre
      generalize hhf : pI (pI h1 577 (X + 10) 0) 721 X 10 = hf at *
      have zf' : X + 144 ≤ hZ hf := Nat.le_trans J.z flh.1
      have MSf : MS hf (X + 121) := G.1.fl flh J.z (by decide +kernel)
      have MS0 : MS (m0 hf X) (X + 121) := MSf
      have ku : gI (m0 hf X) 776 (X + 121) = (u : Int) := by
        show gI (pI (pI hf 769 (X + 121) 0) 768 (X + 121) 0) 776 (X + 121) = _
        rw [gI_n (by omega), gI_n (by omega), (flh.fi J.z (f := 776) (i := 121) (by decide +kernel)).1]; exact eu
      have kT' : ∀ i, i < L → gA (m0 hf X) (X + 121 + 4) i = T i := fun i hi => by
        show gA hf (X + 121 + 4) i = T i
        rw [show X + 121 + 4 = X + 125 from rfl, (flh.ro J.z (i := 125) (by decide +kernel)).1]; exact kT i hi
      obtain ⟨t, h1', m', -, -, gr, row, u0, P, kk0, er', erf⟩ := shop_read (a1 := (L : Int)) J.z H.1 tp2 q.2 (by omega) hT MS0 ku kT'
      have eh1 : h1 = h1' := by
        have := er.symm.trans er'
        injection this with e
        exact congrArg Prod.snd e
      subst eh1
      clear er er'
      obtain ⟨HX', K', -, -⟩ := P
      have tf : gI h1 578 (X + 10) = tkF t := HX'.2.2.2.2.1
      have tp : gI h1 579 (X + 10) = tkP t := HX'.2.2.2.2.2.1
      have tf0 : ¬ tkF t = 0 := fun z => f0 (tf.trans z)
      have bad0 : gI m' 780 (X + 121) = tkF t := K'.2.2.2.2.1
      have badp : gI m' 781 (X + 121) = tkP t := K'.2.2.2.2.2.1 tf0
      have ew := isWell1 K'.k bad0 tf0 badp
      have rf : rg (tkF t) := by rw [← tf]; exact gI_rg
      have rp : rg (tkP t) := by rw [← tp]; exact gI_rg
      have erfin : fX12_shop hf (X + 121) (L : Int) = some (-1, pI (pI (pI m' 778 (X + 121) (tkF t)) 779 (X + 121) (tkP t)) 768 (X + 121) 10) := by
        unfold fX12_shop
        refine gdg MSf.k (ltg (ltg (erf.trans ?_)))
        unfold fX12_shop_b129
        exact gdg K'.k (bd2g ew (iteT rfl (rfl)))
      have E : ∀ f a, a ≠ X + 121 → gI (pI (pI (pI m' 778 (X + 121) (tkF t)) 779 (X + 121) (tkP t)) 768 (X + 121) 10) f a = gI hf f a := fun f a ha => by
        rw [gI_n (Or.inr ha), gI_n (Or.inr ha), gI_n (Or.inr ha), gr.i (fun z => ha z.1)]
        show gI (pI (pI hf 769 (X + 121) 0) 768 (X + 121) 0) f a = _
        rw [gI_n (Or.inr ha), gI_n (Or.inr ha)]
      have ER : ∀ f a, a ≠ X + 121 → gR (pI (pI (pI m' 778 (X + 121) (tkF t)) 779 (X + 121) (tkP t)) 768 (X + 121) 10) f a = gR hf f a := fun f a ha => by
        rw [gR_pI, gR_pI, gR_pI, gr.r (fun z => ha z.1)]
        rfl
      have y768 : gI (pI (pI (pI m' 778 (X + 121) (tkF t)) 779 (X + 121) (tkP t)) 768 (X + 121) 10) 768 (X + 121) = 10 := gI_pIs (rg_lit rfl)
      have y776 : gI (pI (pI (pI m' 778 (X + 121) (tkF t)) 779 (X + 121) (tkP t)) 768 (X + 121) 10) 776 (X + 121) = 0 := by
        rw [gI_n (by omega), gI_n (by omega), gI_n (by omega)]; exact u0
      have y778 : gI (pI (pI (pI m' 778 (X + 121) (tkF t)) 779 (X + 121) (tkP t)) 768 (X + 121) 10) 778 (X + 121) = tkF t := by
        rw [gI_n (by omega), gI_n (by omega)]; exact gI_pIs rf
      have y779 : gI (pI (pI (pI m' 778 (X + 121) (tkF t)) 779 (X + 121) (tkP t)) 768 (X + 121) 10) 779 (X + 121) = tkP t := by
        rw [gI_n (by omega)]; exact gI_pIs rp
      have flr : FL ERX FRW X hf (pI (pI (pI m' 778 (X + 121) (tkF t)) 779 (X + 121) (tkP t)) 768 (X + 121) 10) := ((((fl_m (m0_q hf X)).tr ((gr_fl gr).mono (by decide) (by decide))).tr (fl_pI m' 121 rfl (by decide))).tr (fl_pI _ 121 rfl (by decide))).tr (fl_m (q_pI _ ⟨rfl, by omega⟩))
      have cc : ∀ k, k < 1480 → gA (pI (pI (pI m' 778 (X + 121) (tkF t)) 779 (X + 121) (tkP t)) 768 (X + 121) 10) (X + 121 + 5) k = c k := fun k hk => by
        rw [gA_pI, gA_pI, gA_pI, row k hk]
        show gA hf (X + 126) k = _
        rw [(flh.ro J.z (i := 126) (by decide +kernel)).1]
        exact congrFun G.2.1 k
      generalize pI (pI (pI m' 778 (X + 121) (tkF t)) 779 (X + 121) (tkP t)) 768 (X + 121) 10 = mf at *
      clear ew erf
      have p : FL ESH FSH X h mf := (flh.mono (by decide) (by decide)).tr (flr.mono (by decide) (by decide))
      generalize ec' : gA mf (X + 121 + 5) = c' at cc
      obtain ⟨h2, h3, h4, ⟨S0, s1, s2, s3⟩, R0, r1, r2, r3⟩ := H
      have ag : AgS c c' := ⟨cc 1 (by omega), cc 2 (by omega), fun k _ k8 => cc k (by omega)⟩
      have al : AgL c c' := ⟨cc 3 (by omega), fun k _ k8 => cc k (by omega)⟩
      have wf : WF c' := w.ag ag al (by rw [cc 0 (by omega)]; exact w.day)
      have t717 : gR mf 717 X = some S0 := by rw [ER _ _ (by omega), v717]; exact s1
      have t718 : gR mf 718 X = some R0 := by rw [ER _ _ (by omega), v717]; exact r1
      have t719 : gI mf 719 X = c' 0 := by rw [E _ _ (by omega), v719, cc 0 (by omega)]; exact h4
      have sv : SV mf S0 c' := (s2.fl p J.z (by decide +kernel) s3 (J.b.2.1 S0 s1) w).ag w ag
      have lv : LV mf R0 c' := (r2.fl p J.z (by decide +kernel) r3 (J.b.2.2 R0 r1)).ag w al
      have zS : S0 + 27 ≤ hZ mf := Nat.le_trans (J.b.2.1 S0 s1) p.1
      have zR : R0 + 4 ≤ hZ mf := Nat.le_trans (J.b.2.2 R0 r1) p.1
      have x577 : gI mf 577 (X + 10) = 0 := by rw [E _ _ (by omega)]; exact v577
      have x578 : gI mf 578 (X + 10) = tkF t := by rw [E _ _ (by omega), v578]; exact tf
      have x579 : gI mf 579 (X + 10) = tkP t := by rw [E _ _ (by omega), v579]; exact tp
      have flhR : FL [13, 14, 15, 16, 126, 127] (FCX ++ FRW) X h mf := (flh.mono (by decide) (by decide)).tr (flr.mono (by decide) (by decide))
      have rd : RD mf X := J.rd.fl flhR J.z (by decide +kernel)
      refine ⟨-1, hf, mf, ecl, erfin, c', ⟨⟨h2.fl p J.z (by decide +kernel), wf, t719, ⟨S0, t717, sv, s3⟩, R0, t718, lv, r3⟩, ⟨G.1.fl p J.z (by decide +kernel), ec', wf⟩, ⟨Nat.le_trans zf' flr.1, fun S' z => by rw [t717] at z; cases z; exact zS, fun R' z => by rw [t718] at z; cases z; exact zR⟩, J.tr.fl p J.z (by decide +kernel), inv_tp y776 x577 (x578.trans y778.symm) (x579.trans y779.symm), J.mk.fl p J.z (by decide +kernel) (bk_eq (fun k _ k2 => cc k k2)), rd, J.mg.fl p J.z (by decide +kernel), J.cn.fl p J.z (by decide +kernel), J.sf.fl p J.z (by decide +kernel)⟩, ?_, ?_, ?_⟩
      · rw [E _ _ (by omega), a721, y768]
      · rw [(p.f0 J.z (f := 722) (by decide +kernel)).2.1, (p.fi J.z (f := 770) (i := 121) (by decide +kernel)).2.1]; exact i2
      · rw [(p.f0 J.z (f := 723) (by decide +kernel)).2.1, (p.fi J.z (f := 771) (i := 121) (by decide +kernel)).2.1]; exact i3
  · -- a number that can't be
    refine ok3 I J ⟨5, -1, ?_, fun h1 p => ?_⟩
    · show XR (fX11_shop h X n) h X _ _
      have wi : fX11_within n 0 (gI h 577 (X + 10)) = some 0 := by rw [tp2]; exact xIn_0 q
      unfold fX11_shop
      exact XR.of (gdg H.k (nng H.1.r705 (gdg k9 (bdg wi (iteT rfl (bd2_id _)))))) (xr_re H.k (QR.rf h) (rg_lit rfl))
    · obtain ⟨ms, hc, -⟩ := G.q p
      have n1 : ¬ sc X (X + 121) := by unfold sc; omega
      have y1 : gI (pI (pI h1 769 (X + 121) 0) 768 (X + 121) 0) 776 (X + 121) = (u : Int) := by rw [gI_n (by omega), gI_n (by omega), p.i n1 (fun y => by unfold pX at y; omega)]; exact eu
      show MR (fX12_shop h1 (X + 121) n) h1 X _ _
      have eno : fX12_no (pI (pI h1 769 (X + 121) 0) 768 (X + 121) 0) (X + 121) 5 = some (0, pI (pI (pI h1 769 (X + 121) 0) 768 (X + 121) 0) 768 (X + 121) 5) := by
        unfold fX12_no
        exact gdg ms.k rfl
      have eop : fX12_opens (pI (pI h1 769 (X + 121) 0) 768 (X + 121) 0) (X + 121) n 900 = some (0, pI (pI (pI h1 769 (X + 121) 0) 768 (X + 121) 0) 768 (X + 121) 5) := by
        unfold fX12_opens
        rw [y1]
        by_cases n0 : n < 0
        · exact iteT n0 (gdg ms.k (bd2g eno (rfl)))
        · exact iteF n0 (gdg ms.k (iteF (by omega) (bd2g eno (rfl))))
      unfold fX12_shop
      exact MR.of (gdg ms.k (ltg (ltg (bd2g eop (iteT rfl (rfl)))))) (mr_st2 (rg_lit rfl))
