/-! SHELF: the order, the reference (written by wip/whole/g71.py) -/
/-- how many are opened -/
def shM (A : Nat) : Nat := (bcN 8 A).toNat
set_option maxHeartbeats 200000 in
theorem shM_e (A : Nat) : (shM A : Int) = bcN 8 A ∧ shM A ≤ 8 := by
  have := bcN_bd 8 A
  unfold shM
  omega
set_option maxHeartbeats 200000 in
/-- the order, in the class -/
theorem xShO {h : Hp} {X S A : Nat} {c : Nat → Int} (H : XS h X) (z : X + 144 ≤ hZ h) (v : SV h S c) (so : SO X S) (zS : S + 27 ≤ hZ h) (w : WF c) (hA : A = flA c) (n0 : gI h 386 (X + 119) = 0) (g : ∀ x, x < 256 → Sub x A → gA h (X + 116) x = shR c A x) :
    ∃ t : Hp, (FL [120] [(386, 119)] X h t ∧ gI t 386 (X + 119) = (shM A : Int) ∧ ∀ k, k < shM A → gA t (X + 120) k = (shJ c A (stS c A k) : Int)) ∧ fX5_findShelf_b79 (X + 113) S (c 0) FU h (A : Int) 0 0 = some (shR c A 0, t) := by
  have A8 : A < 256 := by rw [hA]; exact flA_lt w
  obtain ⟨m1, m2⟩ := shM_e A
  have g0 : gA h (X + 116) 0 = shR c A 0 := g 0 (by omega) (fun j hj => by rw [Nat.zero_testBit] at hj; cases hj)
  exact fk (S := Hp × Int) (T := Hp) (fun fu i u => fX5_findShelf_b79 (X + 113) S (c 0) fu u.1 (A : Int) u.2 i) (fun t => some (shR c A 0, t)) (shM A)
    (fun i u => FL [120] [(386, 119)] X h u.1 ∧ gI u.1 386 (X + 119) = (i : Int) ∧ (∀ k, k < i → gA u.1 (X + 120) k = (shJ c A (stS c A k) : Int)) ∧ (∀ x, gA u.1 (X + 116) x = gA h (X + 116) x) ∧ u.2 = (stS c A i : Int)) _ 0 (h, 0) (by omega) ⟨FL.rf h, n0, fun k hk => absurd hk (by omega), fun _ => rfl, rfl⟩ (by omega)
    (fun fu i u hi hI => by
      obtain ⟨u, v4⟩ := u
      obtain ⟨p1, p2, p3, p4, p5⟩ := hI
      have p1 : FL [120] [(386, 119)] X h u := p1
      have p2 : gI u 386 (X + 119) = (i : Int) := p2
      have p3 : ∀ k, k < i → gA u (X + 120) k = (shJ c A (stS c A k) : Int) := p3
      have p4 : ∀ x, gA u (X + 116) x = gA h (X + 116) x := p4
      have p5 : v4 = (stS c A i : Int) := p5
      have e5 : WE ((i : Int) + 1) := we (by omega) (by omega)
      have Hu : XS u X := H.fl p1 z (by decide +kernel)
      have vu : SV u S c := v.fl p1 z (by decide +kernel) so zS w
      obtain ⟨s1, s2, s3⟩ := stS_ok w A8 i (by omega)
      obtain ⟨ne, es⟩ := stS_ne (k := i) w A8 (by omega)
      have sj := shJ_ok w A8 s1 s2 ne
      have bo := xBO Hu vu w hA s1 (fun x _ h2 h3 => by rw [p4]; exact g x h2 h3) s2
      rw [if_neg ne] at bo
      have k119 : (hK u (X + 119)).1 = 6 := by rw [Hu.k119]
      have k120 : (hK u (X + 120)).1 = 21 := by rw [Hu.k120]
      have xa := xAdd (h := u) (v := (shJ c A (stS c A i) : Int)) k119 Hu.r384_119 k120 (N := 8) (by rw [Hu.k120]; rfl) Hu.2.2.2.2.2.2 p2 (by omega) (by omega) (by omega)
      left
      refine ⟨(pI (sA u (X + 120) (i : Int) (shJ c A (stS c A i) : Int)) 386 (X + 119) ((i : Int) + 1), (stS c A (i + 1) : Int)), ⟨(p1.tr (fl_sA u 120 rfl (by decide))).tr (fl_pI _ 119 rfl (by decide)), ?_, fun k hk => ?_, fun x => ?_, rfl⟩, ?_⟩
      · show gI (pI (sA u (X + 120) (i : Int) (shJ c A (stS c A i) : Int)) 386 (X + 119) ((i : Int) + 1)) 386 (X + 119) = ((i + 1 : Nat) : Int)
        rw [gI_pIs (by unfold rg; omega)]; omega
      · show gA (sA u (X + 120) (i : Int) (shJ c A (stS c A i) : Int)) (X + 120) k = _
        rw [gA_sA]
        by_cases y : k = i
        · rw [if_pos ⟨rfl, by omega⟩, w32_id (by omega) (by omega), y]
        · rw [if_neg (fun zz => y (by have := zz.2; omega))]
          exact p3 k (by omega)
      · show gA (sA u (X + 120) (i : Int) (shJ c A (stS c A i) : Int)) (X + 116) x = _
        rw [gA_sA, if_neg (by omega)]
        exact p4 x
      · show fX5_findShelf_b79 (X + 113) S (c 0) (fu + 1) u (A : Int) v4 (i : Int) = fX5_findShelf_b79 (X + 113) S (c 0) fu (pI (sA u (X + 120) (i : Int) (shJ c A (stS c A i) : Int)) 386 (X + 119) ((i : Int) + 1)) (A : Int) (stS c A (i + 1) : Int) ((i : Int) + 1)
        rw [fX5_findShelf_b79.eq_2, p5, es]
        refine iteT (by omega) (iteF (by omega) (gdg (by rw [Hu.k113]) (bdg bo (iteF (by omega) (nng Hu.r324 (gdg k119 (bdg xa ?_)))))))
        rw [lt_d, bor_or s1 sj.1, fX5_findShelf_b127, lt_d, e5.e])
    (fun fu u hI => by
      obtain ⟨u, v4⟩ := u
      obtain ⟨p1, p2, p3, p4, p5⟩ := hI
      have p1 : FL [120] [(386, 119)] X h u := p1
      have p4 : ∀ x, gA u (X + 116) x = gA h (X + 116) x := p4
      have p5 : v4 = (stS c A (shM A) : Int) := p5
      have Hu : XS u X := H.fl p1 z (by decide +kernel)
      have ee := stS_end (k := shM A) w A8 m1
      rw [ee] at p5
      refine ⟨u, ⟨p1, p2, p3⟩, ?_⟩
      show fX5_findShelf_b79 (X + 113) S (c 0) (fu + 1) u (A : Int) v4 (shM A : Int) = _
      rw [fX5_findShelf_b79.eq_2, p5]
      have k113 : (hK u (X + 113)).1 = 5 := by rw [Hu.k113]
      have k116 : (hK u (X + 116)).1 = 21 := by rw [Hu.k116]
      have l0 : inA 0 (hK u (X + 116)).2 := by rw [Hu.k116]; show 0 ≤ (0 : Int) ∧ (0 : Int) < 256; omega
      have ev : (some (gA u (X + 116) ((0 : Int).toNat), u) : Option (Int × Hp)) = some (shR c A 0, u) := by
        rw [show ((0 : Int)).toNat = 0 from rfl, p4, g0]
      by_cases y : shM A < 8
      · exact iteT (by omega) (iteT rfl (gdg k113 (nng Hu.r322 (gdg k116 (gdg l0 ev)))))
      · exact iteF (by omega) (gdg k113 (nng Hu.r322 (gdg k116 (gdg l0 ev)))))
/-! the reference -/
set_option maxHeartbeats 200000 in
theorem rWO {c : Nat → Int} {j d : Int} (w : WF c) (j0 : 0 ≤ j) (j8 : j < 8) (d0 : 0 ≤ d) (d8 : d < 1000000) : fX12_worthOn c j d = some (wS c j d) := by
  have e1 : WE (172 + j) := we (by omega) (by omega)
  have wb := wS_bd (d := d) w j0 j8
  unfold fX12_worthOn
  rw [e1.e]
  refine gdg (by omega) (bdg (rLeft (w.wj j0 j8) j0 j8 d0 d8) ?_)
  exact congrArg some (w32_id (show -2147483648 ≤ wS c j d by omega) (show wS c j d < 2147483648 by omega))
set_option maxHeartbeats 200000 in
/-- one set of the table -/
theorem rShI {h : Hp} {M A s : Nat} {c : Nat → Int} (ms : MS h M) (hc : gA h (M + 5) = c) (w : WF c) (hA : A < 256) (hs : s < 256) (g0 : gA h (M + 17) s = 0) (g : ∀ x, s < x → x < 256 → gA h (M + 17) x = shR c A x) (k68 : Hp → Int → Int → Option (Int × Hp)) :
    ∃ t : Hp, (On (fun b => b = M + 17) h t ∧ gA t (M + 17) s = shR c A s ∧ ∀ x, x ≠ s → gA t (M + 17) x = gA h (M + 17) x) ∧ fX12_shelf_b81 M k68 FU h (A : Int) (s : Int) 0 = k68 t (A : Int) ((s : Int) - 1) := by
  have wd := w.day
  have bb := bcN_bd 8 s
  rw [shR_eq hs]
  exact fk (S := Hp) (T := Hp) (fun fu i u => fX12_shelf_b81 M k68 fu u (A : Int) (s : Int) i) (fun t => k68 t (A : Int) ((s : Int) - 1)) 8
    (fun i u => On (fun b => b = M + 17) h u ∧ gA u (M + 17) s = mz i (shV c (shR c A) A s) ∧ ∀ x, x ≠ s → gA u (M + 17) x = gA h (M + 17) x) _ 0 h (by omega) ⟨On.rf h, g0, fun _ _ => rfl⟩ (by omega)
    (fun fu i u hi hI => by
      obtain ⟨p1, p2, p3⟩ := hI
      have e5 : WE ((i : Int) + 1) := we (by omega) (by omega)
      have e6 : WE (c 0 + bcN 8 s) := we (by omega) (by omega)
      have mu := ms.on p1 (by omega)
      have hcu : gA u (M + 5) = c := by rw [p1.af (by omega)]; exact hc
      have ib := inB_r (j := i) hA hs (by omega)
      have m0 := mz_ge (n := i) (f := shV c (shR c A) A s)
      have em : mz (i + 1) (shV c (shR c A) A s) = max (mz i (shV c (shR c A) A s)) (shV c (shR c A) A s i) := rfl
      have e141 : ∀ t, fX12_shelf_b141 M k68 (fX12_shelf_b81 M k68 fu) t (A : Int) (s : Int) (i : Int) = fX12_shelf_b81 M k68 fu t (A : Int) (s : Int) ((i : Int) + 1) := fun t => by rw [fX12_shelf_b141, lt_d, e5.e]
      left
      cases q : inB A s i with
      | false =>
        rw [q] at ib
        refine ⟨u, ⟨p1, ?_, p3⟩, ?_⟩
        · rw [p2, em, shV_out q]; omega
        · show fX12_shelf_b81 M k68 (fu + 1) u (A : Int) (s : Int) (i : Int) = fX12_shelf_b81 M k68 fu u (A : Int) (s : Int) ((i : Int) + 1)
          rw [fX12_shelf_b81.eq_2]
          refine iteT (by omega) (bdg ib (iteT rfl ?_))
          exact e141 _
      | true =>
        rw [q] at ib
        have nb : s.testBit i = false := by
          unfold inB at q
          rw [Bool.and_eq_true] at q
          cases z : s.testBit i with
          | false => rfl
          | true => have := q.2; rw [z] at this; cases this
        have gt := or2_gt nb
        have or8 := or2_lt hs (show i < 8 by omega)
        have ge : gA u (M + 17) (s ||| 2 ^ i) = shR c A (s ||| 2 ^ i) := by rw [p3 _ (by omega)]; exact g _ gt or8
        have vb := shV_bd w (A := A) (s := s) (show i < 8 by omega)
        have mb := mz_le (n := i) (f := shV c (shR c A) A s) (v := 305316) (by omega) (fun j hj => (shV_bd w (A := A) (s := s) (show j < 8 by omega)).2)
        have k17 : hK u (M + 17) = (21, 256) := mu.k17
        have ev : w32 (wS c (i : Int) (c 0 + bcN 8 s) + gA u (M + 17) (s ||| 2 ^ i)) = shV c (shR c A) A s i := by
          rw [ge, ← shV_in q]
          exact w32_id (by omega) (by omega)
        refine ⟨sA u (M + 17) (s : Int) (mz (i + 1) (shV c (shR c A) A s)), ⟨p1.tr (on_sA u rfl), ?_, fun x hx => ?_⟩, ?_⟩
        · rw [gA_sA, if_pos ⟨rfl, by omega⟩, em, w32_id (by omega) (by omega)]
        · rw [gA_sA, if_neg (fun zz => hx (by have := zz.2; omega))]
          exact p3 x hx
        · show fX12_shelf_b81 M k68 (fu + 1) u (A : Int) (s : Int) (i : Int) = fX12_shelf_b81 M k68 fu (sA u (M + 17) (s : Int) (mz (i + 1) (shV c (shR c A) A s))) (A : Int) (s : Int) ((i : Int) + 1)
          rw [fX12_shelf_b81.eq_2]
          refine iteT (by omega) (bdg ib (iteF (by unfold b01; rw [if_pos rfl]; omega) (gdg mu.k (nng mu.r807 (gdg (by rw [k17]) (gdg (by rw [k17]; show 0 ≤ _ ∧ _ < (256 : Int); omega) (nng mu.r788 (gdg (by rw [mu.k5]) (gdg (by rw [mu.k5]; show 0 ≤ (0 : Int) ∧ (0 : Int) < 1850; omega) (bdg (rBits (by omega)) (gdg mu.k5 ?_)))))))))))
          rw [hcu, show ((0 : Int)).toNat = 0 from rfl, e6.e]
          refine bdg (rWO w (by omega) (by omega) (by omega) (by omega)) ?_
          rw [bor_or hs (by omega)]
          refine gdg (by rw [k17]; show 0 ≤ _ ∧ _ < (256 : Int); omega) (gdg (by rw [k17]; show 0 ≤ _ ∧ _ < (256 : Int); omega) ?_)
          rw [lt_d, show (((s ||| 2 ^ i : Nat) : Int)).toNat = s ||| 2 ^ i from rfl, show ((s : Int)).toNat = s from rfl, ev, p2, ← em]
          exact e141 _)
    (fun fu u hI => by
      have e5 : WE ((s : Int) + (-1)) := we (by omega) (by omega)
      refine ⟨u, hI, ?_⟩
      show fX12_shelf_b81 M k68 (fu + 1) u (A : Int) (s : Int) ((8 : Nat) : Int) = _
      rw [fX12_shelf_b81.eq_2]
      refine iteF (by omega) ?_
      rw [lt_d, e5.e, show (s : Int) + (-1) = (s : Int) - 1 by omega])
set_option maxHeartbeats 200000 in
/-- the table -/
theorem rShT {h : Hp} {M A : Nat} {c : Nat → Int} (ms : MS h M) (hc : gA h (M + 5) = c) (w : WF c) (hA : A < 256) :
    ∃ t : Hp, (On (fun b => b = M + 17) h t ∧ ∀ x, x < 256 → gA t (M + 17) x = shR c A x) ∧ fX12_shelf_b68 M FU h (A : Int) 255 = fX12_shelf_b160 M FU (pI t 809 M 0) (A : Int) 0 := by
  have key := fk (S := Hp) (T := Hp) (fun fu i u => fX12_shelf_b68 M fu u (A : Int) (255 - i)) (fun t => fX12_shelf_b160 M FU (pI t 809 M 0) (A : Int) 0) 256
    (fun i u => On (fun b => b = M + 17) h u ∧ ∀ x, 256 - i ≤ x → x < 256 → gA u (M + 17) x = shR c A x) (fun t => On (fun b => b = M + 17) h t ∧ ∀ x, x < 256 → gA t (M + 17) x = shR c A x) 0 h (by omega) ⟨On.rf h, fun x h1 h2 => absurd h2 (by omega)⟩ (by omega)
    (fun fu i u hi hI => by
      obtain ⟨p1, p2⟩ := hI
      have mu := ms.on p1 (by omega)
      have ea : 255 - (i : Int) = ((255 - i : Nat) : Int) := by omega
      have k17 : hK u (M + 17) = (21, 256) := mu.k17
      have o1 : On (fun b => b = M + 17) h (sA u (M + 17) ((255 - i : Nat) : Int) 0) := p1.tr (on_sA u rfl)
      obtain ⟨t, ⟨y1, y2, y3⟩, y4⟩ := rShI (h := sA u (M + 17) ((255 - i : Nat) : Int) 0) (s := 255 - i) (ms.on o1 (by omega)) (by rw [o1.af (by omega)]; exact hc) w hA (by omega) (by rw [gA_sA, if_pos ⟨rfl, by omega⟩, w32_id (by omega) (by omega)]) (fun x h1 h2 => by
        rw [gA_sA, if_neg (fun zz => by have := zz.2; omega)]
        exact p2 x (by omega) h2) (fX12_shelf_b68 M fu)
      left
      refine ⟨t, ⟨o1.tr y1, fun x h1 h2 => ?_⟩, ?_⟩
      · by_cases y : x = 255 - i
        · rw [y]; exact y2
        · rw [y3 x y, gA_sA, if_neg (fun zz => y (by have := zz.2; omega))]
          exact p2 x (by omega) h2
      · show fX12_shelf_b68 M (fu + 1) u (A : Int) (255 - (i : Int)) = fX12_shelf_b68 M fu t (A : Int) (255 - ((i : Int) + 1))
        rw [fX12_shelf_b68.eq_2, ea]
        refine iteF (by omega) (gdg mu.k (nng mu.r807 (gdg (by rw [k17]) (gdg (by rw [k17]; show 0 ≤ _ ∧ _ < (256 : Int); omega) ?_))))
        rw [lt_d, y4, show ((255 - i : Nat) : Int) - 1 = 255 - ((i : Int) + 1) by omega])
    (fun fu u hI => by
      obtain ⟨p1, p2⟩ := hI
      have mu := ms.on p1 (by omega)
      refine ⟨u, ⟨p1, fun x h2 => p2 x (by omega) h2⟩, ?_⟩
      show fX12_shelf_b68 M (fu + 1) u (A : Int) (255 - ((256 : Nat) : Int)) = _
      rw [fX12_shelf_b68.eq_2]
      exact iteT (by omega) (gdg mu.k (by rw [lt_d])))
  exact key
set_option maxHeartbeats 200000 in
/-- the next one -/
theorem rShF {h : Hp} {M A s n : Nat} {c : Nat → Int} (ms : MS h M) (hc : gA h (M + 5) = c) (w : WF c) (hA : A < 256) (hs : s < 256) (sb : Sub s A) (ne : s ≠ A) (g : ∀ x, x < 256 → gA h (M + 17) x = shR c A x) (h9 : gI h 809 M = (n : Int)) (n8 : n < 8) (k160 : Hp → Int → Int → Option (Int × Hp)) :
    fX12_shelf_b167 M k160 FU h (A : Int) (s : Int) 0 = k160 (pI (sA h (M + 18) (n : Int) (shJ c A s : Int)) 809 M ((n : Int) + 1)) (A : Int) ((s ||| 2 ^ shJ c A s : Nat) : Int) := by
  have wd := w.day
  have bb := bcN_bd 8 s
  have e6 : WE (c 0 + bcN 8 s) := we (by omega) (by omega)
  have sj := shJ_ok w hA hs sb ne
  have k17 : hK h (M + 17) = (21, 256) := ms.k17
  have k18 : hK h (M + 18) = (21, 8) := ms.k18
  have body : ∀ (fu i : Nat), i < 8 → inB A s i = true → fX12_shelf_b167 M k160 (fu + 1) h (A : Int) (s : Int) (i : Int) = if shV c (shR c A) A s i = shR c A s then k160 (pI (sA h (M + 18) (n : Int) (i : Int)) 809 M ((n : Int) + 1)) (A : Int) ((s ||| 2 ^ i : Nat) : Int) else fX12_shelf_b215 M k160 (fX12_shelf_b167 M k160 fu) h (A : Int) (s : Int) (i : Int) := by
    intro fu i hi q
    have ib := inB_r (j := i) hA hs hi
    rw [q] at ib
    have or8 := or2_lt hs hi
    have vb := shV_bd w (A := A) (s := s) hi
    have ev : w32 (wS c (i : Int) (c 0 + bcN 8 s) + gA h (M + 17) (s ||| 2 ^ i)) = shV c (shR c A) A s i := by
      rw [g _ or8, ← shV_in q]
      exact w32_id (by omega) (by omega)
    rw [fX12_shelf_b167.eq_2]
    refine bdg ib (iteF (by unfold b01; rw [if_pos rfl]; omega) (gdg ms.k (nng ms.r788 (gdg (by rw [ms.k5]) (gdg (by rw [ms.k5]; show 0 ≤ (0 : Int) ∧ (0 : Int) < 1850; omega) (bdg (rBits (by omega)) (gdg ms.k5 ?_)))))))
    rw [hc, show ((0 : Int)).toNat = 0 from rfl, e6.e]
    refine bdg (rWO w (by omega) (by omega) (by omega) (by omega)) (nng ms.r807 (gdg (by rw [k17]) ?_))
    rw [bor_or hs hi]
    refine gdg (by rw [k17]; show 0 ≤ _ ∧ _ < (256 : Int); omega) (gdg (by rw [k17]; show 0 ≤ _ ∧ _ < (256 : Int); omega) ?_)
    rw [show (((s ||| 2 ^ i : Nat) : Int)).toNat = s ||| 2 ^ i from rfl, show ((s : Int)).toNat = s from rfl, ev, g s hs]
    by_cases y : shV c (shR c A) A s i = shR c A s
    · refine Eq.trans ?_ (if_pos y).symm
      have e7 : WE ((n : Int) + 1) := we (by omega) (by omega)
      have z9 : gI (sA h (M + 18) (n : Int) (i : Int)) 809 M = (n : Int) := h9
      refine iteT y (nng ms.r808 (gdg (by rw [k18]) (gdg (by rw [k18, h9]; show 0 ≤ _ ∧ _ < (8 : Int); omega) ?_)))
      rw [h9, lt_d, z9, e7.e, lt_d, lt_d]
    · refine Eq.trans ?_ (if_neg y).symm
      exact iteF y rfl
  refine (fke (S := Unit) (fun fu i _ => fX12_shelf_b167 M k160 fu h (A : Int) (s : Int) i) (fun (v : Option (Int × Hp)) => v) (shJ c A s) (fun _ _ => True) _ 0 () (by omega) trivial (by omega) ?_ ?_ : _)
  · intro fu i _ hi _
    have e5 : WE ((i : Int) + 1) := we (by omega) (by omega)
    have np := (fsN_s 8 (shP c A s)).2.1 i hi
    left
    refine ⟨(), trivial, ?_⟩
    show fX12_shelf_b167 M k160 (fu + 1) h (A : Int) (s : Int) (i : Int) = fX12_shelf_b167 M k160 fu h (A : Int) (s : Int) ((i : Int) + 1)
    have e215 : fX12_shelf_b215 M k160 (fX12_shelf_b167 M k160 fu) h (A : Int) (s : Int) (i : Int) = fX12_shelf_b167 M k160 fu h (A : Int) (s : Int) ((i : Int) + 1) := by rw [fX12_shelf_b215, lt_d, e5.e]
    cases q : inB A s i with
    | false =>
      have ib := inB_r (j := i) hA hs (by omega)
      rw [q] at ib
      rw [fX12_shelf_b167.eq_2]
      exact bdg ib (iteT rfl e215)
    | true =>
      rw [body fu i (by omega) q]
      unfold shP at np
      rw [q, Bool.true_and] at np
      rw [if_neg (of_decide_eq_false np)]
      exact e215
  · intro fu _ _
    obtain ⟨n1, n2, n3⟩ := shP_in sj.2
    show fX12_shelf_b167 M k160 (fu + 1) h (A : Int) (s : Int) (shJ c A s : Int) = _
    rw [body fu _ sj.1 (by unfold inB; rw [n1, n2]; rfl), if_pos n3]
set_option maxHeartbeats 200000 in
/-- the order, in the reference -/
theorem rShO {h : Hp} {X A : Nat} {c : Nat → Int} (ms : MS h (X + 121)) (z : X + 144 ≤ hZ h) (hc : gA h (X + 121 + 5) = c) (w : WF c) (hA : A < 256) (h9 : gI h 809 (X + 121) = 0) (g : ∀ x, x < 256 → gA h (X + 121 + 17) x = shR c A x) :
    ∃ t : Hp, (FL [139] [(809, 121)] X h t ∧ gI t 768 (X + 121) = gI h 768 (X + 121) ∧ gI t 721 X = gI h 721 X ∧ gI t 809 (X + 121) = (shM A : Int) ∧ ∀ k, k < shM A → gA t (X + 121 + 18) k = (shJ c A (stS c A k) : Int)) ∧ fX12_shelf_b160 (X + 121) FU h (A : Int) 0 = some (shR c A 0, t) := by
  obtain ⟨m1, m2⟩ := shM_e A
  exact fk (S := Hp × Int) (T := Hp) (fun fu i u => fX12_shelf_b160 (X + 121) fu u.1 (A : Int) u.2) (fun t => some (shR c A 0, t)) (shM A)
    (fun i u => (FL [139] [(809, 121)] X h u.1 ∧ gI u.1 768 (X + 121) = gI h 768 (X + 121) ∧ gI u.1 721 X = gI h 721 X ∧ gI u.1 809 (X + 121) = (i : Int) ∧ ∀ k, k < i → gA u.1 (X + 121 + 18) k = (shJ c A (stS c A k) : Int)) ∧ (∀ x, gA u.1 (X + 121 + 17) x = gA h (X + 121 + 17) x) ∧ u.2 = (stS c A i : Int)) _ 0 (h, 0) (by omega) ⟨⟨FL.rf h, rfl, rfl, h9, fun k hk => absurd hk (by omega)⟩, fun _ => rfl, rfl⟩ (by omega)
    (fun fu i u hi hI => by
      obtain ⟨u, v4⟩ := u
      obtain ⟨⟨p1, p6, p7, p2, p3⟩, p4, p5⟩ := hI
      have p1 : FL [139] [(809, 121)] X h u := p1
      have p6 : gI u 768 (X + 121) = gI h 768 (X + 121) := p6
      have p7 : gI u 721 X = gI h 721 X := p7
      have p2 : gI u 809 (X + 121) = (i : Int) := p2
      have p3 : ∀ k, k < i → gA u (X + 121 + 18) k = (shJ c A (stS c A k) : Int) := p3
      have p4 : ∀ x, gA u (X + 121 + 17) x = gA h (X + 121 + 17) x := p4
      have p5 : v4 = (stS c A i : Int) := p5
      have mu := ms.fl p1 z (by decide +kernel)
      have hcu : gA u (X + 121 + 5) = c := by rw [← hc]; exact funext (p1.ro z (i := 126) (by decide +kernel)).1
      obtain ⟨s1, s2, s3⟩ := stS_ok w hA i (by omega)
      obtain ⟨ne, es⟩ := stS_ne (k := i) w hA (by omega)
      have sj := shJ_ok w hA s1 s2 ne
      have rf := rShF (n := i) mu hcu w hA s1 s2 ne (fun x h2 => by rw [p4]; exact g x h2) p2 (by omega) (fX12_shelf_b160 (X + 121) fu)
      left
      refine ⟨(pI (sA u (X + 121 + 18) (i : Int) (shJ c A (stS c A i) : Int)) 809 (X + 121) ((i : Int) + 1), (stS c A (i + 1) : Int)), ⟨⟨(p1.tr (fl_sA u 139 rfl (by decide))).tr (fl_pI _ 121 rfl (by decide)), ?_, ?_, ?_, fun k hk => ?_⟩, fun x => ?_, rfl⟩, ?_⟩
      · show gI (pI (sA u (X + 121 + 18) (i : Int) (shJ c A (stS c A i) : Int)) 809 (X + 121) ((i : Int) + 1)) 768 (X + 121) = _
        rw [gI_n (by omega), gI_sA]; exact p6
      · show gI (pI (sA u (X + 121 + 18) (i : Int) (shJ c A (stS c A i) : Int)) 809 (X + 121) ((i : Int) + 1)) 721 X = _
        rw [gI_n (by omega), gI_sA]; exact p7
      · show gI (pI (sA u (X + 121 + 18) (i : Int) (shJ c A (stS c A i) : Int)) 809 (X + 121) ((i : Int) + 1)) 809 (X + 121) = ((i + 1 : Nat) : Int)
        rw [gI_pIs (by unfold rg; omega)]; omega
      · show gA (sA u (X + 121 + 18) (i : Int) (shJ c A (stS c A i) : Int)) (X + 121 + 18) k = _
        rw [gA_sA]
        by_cases y : k = i
        · rw [if_pos ⟨rfl, by omega⟩, w32_id (by omega) (by omega), y]
        · rw [if_neg (fun zz => y (by have := zz.2; omega))]
          exact p3 k (by omega)
      · show gA (sA u (X + 121 + 18) (i : Int) (shJ c A (stS c A i) : Int)) (X + 121 + 17) x = _
        rw [gA_sA, if_neg (by omega)]
        exact p4 x
      · show fX12_shelf_b160 (X + 121) (fu + 1) u (A : Int) v4 = fX12_shelf_b160 (X + 121) fu (pI (sA u (X + 121 + 18) (i : Int) (shJ c A (stS c A i) : Int)) 809 (X + 121) ((i : Int) + 1)) (A : Int) (stS c A (i + 1) : Int)
        rw [fX12_shelf_b160.eq_2, p5, es]
        exact iteF (by omega) rf)
    (fun fu u hI => by
      obtain ⟨u, v4⟩ := u
      obtain ⟨q, p4, p5⟩ := hI
      have p1 : FL [139] [(809, 121)] X h u := q.1
      have p4 : ∀ x, gA u (X + 121 + 17) x = gA h (X + 121 + 17) x := p4
      have p5 : v4 = (stS c A (shM A) : Int) := p5
      have mu := ms.fl p1 z (by decide +kernel)
      have ee := stS_end (k := shM A) w hA m1
      rw [ee] at p5
      refine ⟨u, q, ?_⟩
      show fX12_shelf_b160 (X + 121) (fu + 1) u (A : Int) v4 = _
      rw [fX12_shelf_b160.eq_2, p5]
      refine iteT rfl (gdg mu.k (nng mu.r807 (gdg (by rw [mu.k17]) (gdg (by rw [mu.k17]; show 0 ≤ (0 : Int) ∧ (0 : Int) < 256; omega) ?_))))
      rw [show ((0 : Int)).toNat = 0 from rfl, p4, g 0 (by omega)])
set_option maxHeartbeats 200000 in
/-- which jars are filled, in the reference -/
theorem rShA {h : Hp} {M : Nat} {c : Nat → Int} (ms : MS h M) (hc : gA h (M + 5) = c) (w : WF c) :
    fX12_shelf_b14 M FU h 0 0 = if flA c = 0 then fX12_refuse h M 8 else fX12_shelf_b68 M FU h (flA c : Int) 255 := by
  have nj := w.nj
  have l2 : inA 2 (hK h (M + 5)).2 := by rw [ms.k5]; show 0 ≤ (2 : Int) ∧ (2 : Int) < 1850; omega
  have := fg (S := Int) (fun fu v s => fX12_shelf_b14 M fu h s v) (fun s => if flA c = 0 then fX12_refuse h M 8 else fX12_shelf_b68 M FU h (flA c : Int) 255) (c 2).toNat (fun i => ((bs i (flB c) : Nat) : Int)) (by omega)
    (fun fu i hi => by
      have e5 : WE ((i : Int) + 1) := we (by omega) (by omega)
      have e6 : WE (188 + (i : Int)) := we (by omega) (by omega)
      have wj := (w.wj (j := (i : Int)) (by omega) (by omega)).2.2.2.2.2.2.1
      have bl : bs i (flB c) < 2147483648 := Nat.lt_of_lt_of_le (bs_lt i (flB c)) (show 2 ^ i ≤ 2 ^ 31 from Nat.pow_le_pow_right (by omega) (by omega))
      have e45 : ∀ a b, fX12_shelf_b45 M (fX12_shelf_b14 M fu) h (i : Int) a b = fX12_shelf_b14 M fu h (bor b a) ((i : Int) + 1) := fun a b => by rw [fX12_shelf_b45, lt_d, lt_d, e5.e]
      show fX12_shelf_b14 M (fu + 1) h _ (i : Int) = fX12_shelf_b14 M fu h _ ((i : Int) + 1)
      rw [fX12_shelf_b14.eq_2]
      refine gdg ms.k (nng ms.r788 (gdg (by rw [ms.k5]) (gdg l2 ?_)))
      rw [hc, e6.e, show ((2 : Int)).toNat = 2 from rfl]
      refine iteT (by omega) (gdg (by rw [ms.k5]; show 0 ≤ _ ∧ _ < (1850 : Int); omega) ?_)
      by_cases q : c (188 + (i : Int)).toNat = 0
      · refine iteF (by omega) ?_
        rw [e45, bor_0 bl, bs_no (p := flB c) (by simp [flB, q])]
      · refine iteT (by omega) ?_
        rw [e45, bor_set (p := flB c) (by omega) (by simp [flB, q])])
    (fun fu => by
      show fX12_shelf_b14 M (fu + 1) h _ ((c 2).toNat : Int) = _
      rw [fX12_shelf_b14.eq_2]
      refine gdg ms.k (nng ms.r788 (gdg (by rw [ms.k5]) (gdg l2 ?_)))
      rw [hc, show ((2 : Int)).toNat = 2 from rfl]
      refine iteF (by omega) ?_
      show (if (flA c : Int) = 0 then (bd2 (fX12_refuse h M 8) fun r7 h9 => some (r7, h9)) else fX12_shelf_b68 M FU h (flA c : Int) 255) = _
      by_cases q : flA c = 0
      · rw [if_pos q, if_pos (by omega)]
        exact bd2_id _
      · rw [if_neg q, if_neg (by omega)]) 0 (by omega)
  exact this
set_option maxHeartbeats 1000000 in
theorem ok_shelf {h : Hp} {X : Nat} (I : Inv h X) : OK3 (fun h => fX11_shelf h X) (fun h => fX12_shelf h (X + 121)) h X := by
  obtain ⟨c, J, i1, i2, i3⟩ := id I
  have H := J.x
  have G := J.m
  have w := H.wf
  obtain ⟨S, u1, u2, u3, u4, u5, u6⟩ := H.shop
  have A8 := flA_lt w
  have xf := xFil u3 w
  by_cases q : flA c = 0
  · refine ok3 I J ⟨8, -1, ?_, fun h1 p => ?_⟩
    · show XR (fX11_shelf h X) h X _ _
      unfold fX11_shelf
      have q' : ((bs (c 2).toNat (flB c) : Nat) : Int) = 0 := by
        have : ((flA c : Nat) : Int) = 0 := by omega
        exact this
      rw [q'] at xf
      exact XR.of (gdg H.k (nng u1 (gdg u2 (bdg xf (iteT rfl (bd2_id _)))))) (xr_re H.k (QR.rf h) (rg_lit rfl))
    · obtain ⟨ms, hc, -⟩ := G.q p
      show MR (fX12_shelf h1 (X + 121)) h1 X _ _
      unfold fX12_shelf
      refine MR.of (gdg ms.k (ltg (ltg ?_))) (mr_m0r ms (rg_lit rfl))
      have := rShA (h := pI (pI h1 769 (X + 121) 0) 768 (X + 121) 0) (M := X + 121) ms hc w
      rw [if_pos q] at this
      exact this
  · generalize eA : flA c = A at q A8
    have eA := eA.symm
    have xf : fX7_filledJars h S = some ((A : Nat) : Int) := by rw [eA]; exact xf
    obtain ⟨t, ⟨t1, t2⟩, t3⟩ := xShG H.1 u3 u6 w eA
    have qx : QX X h t := q_on t1 (fun b hb => by rw [hb]; unfold sc; omega)
    have zt : X + 144 ≤ hZ t := by rw [t1.z]; exact J.z
    have zS : S + 27 ≤ hZ t := by rw [t1.z]; exact J.b.2.1 S u1
    have Ht := H.1.q qx po_X
    have vt : SV t S c := u3.on t1 (fun a h1 h2 y => by unfold SO at u6; omega) w.nj.2
    have pc : FL [] [(386, 119)] X t (pI t 386 (X + 119) 0) := fl_pI t 119 rfl (by decide)
    have H7 := Ht.fl pc zt (by decide +kernel)
    have v7 := vt.fl pc zt (by decide +kernel) u6 zS w
    obtain ⟨t9, ⟨o1, o2, o3⟩, o4⟩ := xShO H7 zt v7 u6 zS w eA (gI_pIs (rg_lit rfl)) (fun x h1 h2 => t2 x h1 h2)
    have p1a : FL [120] [(386, 119)] X h t9 := ((fl_q qx).tr (pc.mono (by decide) (by decide))).tr o1
    have H9 := H.1.fl p1a J.z (by decide +kernel)
    have k9 : (hK t9 X).1 = 11 := by rw [H9.k0]
    have e1 : fX11_shelf h X = some (shR c A 0, pI t9 721 X 0) := by
      unfold fX11_shelf
      refine gdg H.k (nng u1 (gdg u2 (bdg xf (iteF (by omega) (nng H.1.r716 (gdg (by rw [H.1.k113]) (bd2g (a := shR c A 0) (b := t9) ?_ (gdg k9 ?_))))))))
      · rw [H.2.2.1]
        unfold fX5_findShelf
        refine gdg u2 (bdg xf ?_)
        rw [t3]
        refine gdg (by rw [Ht.k113]) (nng Ht.r324 (gdg (by rw [Ht.k119]) (bdg (q := pI t 386 (X + 119) 0) ?_ o4)))
        unfold fX6_clear
        exact gdg (by rw [Ht.k119]) (ltg rfl)
      · unfold fX11_answer
        exact bd2g (gdg k9 rfl) rfl
    have p1 : FL [120] [(386, 119)] X h (pI t9 721 X 0) := p1a.tr (fl_q (q_pI t9 (Or.inl ⟨rfl, rfl⟩)))
    have x1 : gI (pI t9 721 X 0) 721 X = 0 := gI_pIs (rg_lit rfl)
    have x2 : gI (pI t9 721 X 0) 386 (X + 119) = (shM A : Int) := by rw [gI_n (by omega)]; exact o2
    have x3 : ∀ k, k < shM A → gA (pI t9 721 X 0) (X + 120) k = (shJ c A (stS c A k) : Int) := o3
    have G1 := G.fl p1 J.z (by decide +kernel)
    generalize pI t9 721 X 0 = h1 at e1 p1 x1 x2 x3 G1
    have z1 : X + 144 ≤ hZ h1 := Nat.le_trans J.z p1.1
    have G2 := G1.q (m0_q h1 X)
    obtain ⟨r1, ⟨y1, y2⟩, y3⟩ := rShT (h := m0 h1 X) (A := A) G2.1 G2.2.1 w A8
    have qm : QM X h1 r1 := (m0_q h1 X).tr (q_on y1 (fun b hb => by rw [hb]; unfold sc; omega))
    have zr : X + 144 ≤ hZ r1 := by rw [qm.z]; exact z1
    have pr : FL [] [(809, 121)] X r1 (pI r1 809 (X + 121) 0) := fl_pI r1 121 rfl (by decide)
    have G3 := (G1.q qm).fl pr zr (by decide +kernel)
    obtain ⟨r2, ⟨w1, w2, w3, w4, w5⟩, w6⟩ := rShO (h := pI r1 809 (X + 121) 0) (A := A) G3.1 zr G3.2.1 w A8 (gI_pIs (rg_lit rfl)) (fun x hx => y2 x hx)
    have p2 : FL [139] [(809, 121)] X h1 r2 := ((fl_m qm).tr (pr.mono (by decide) (by decide))).tr w1
    have p : FL [120, 139] [(386, 119), (809, 121)] X h r2 := (p1.mono (by decide) (by decide)).tr (p2.mono (by decide) (by decide))
    have s8 : gI r2 768 (X + 121) = 0 := by rw [w2, gI_n (by omega), y1.i (by omega)]; exact m0_s h1 X
    have s7 : gI r2 721 X = 0 := by rw [w3, gI_n (by omega), qm.i (by unfold sc; omega) (fun z => by unfold pM at z; omega)]; exact x1
    have e2 : fX12_shelf h1 (X + 121) = some (shR c A 0, r2) := by
      unfold fX12_shelf
      refine gdg G1.1.k ?_
      rw [lt_d, lt_d]
      show fX12_shelf_b14 (X + 121) FU (m0 h1 X) 0 0 = _
      rw [rShA G2.1 G2.2.1 w, ← eA, if_neg q, y3]
      exact w6
    obtain ⟨m1, m2⟩ := shM_e A
    have f386 := (p2.fi z1 (f := 386) (i := 119) (by decide +kernel)).1
    have r120 := (p2.ro z1 (i := 120) (by decide +kernel)).1
    refine ⟨_, h1, r2, e1, e2, c, ⟨J.x.fl J.b p (by decide +kernel) (by decide +kernel), J.m.fl p J.z (by decide +kernel), J.b.fl p (by decide +kernel) (by decide +kernel), J.tr.fl p J.z (by decide +kernel), J.tp.fl p J.z (by decide +kernel), J.mk.fl p J.z (by decide +kernel) (fun _ _ => rfl), J.rd.fl p J.z (by decide +kernel), J.mg.fl p J.z (by decide +kernel), J.cn.fl p J.z (by decide +kernel), ⟨by rw [w4]; omega, by rw [w4, f386]; exact x2, fun k hk => by rw [w4] at hk; rw [r120, x3 k (by omega)]; exact (w5 k (by omega)).symm⟩⟩, s7.trans s8.symm, ?_, ?_⟩
    · rw [(p.f0 J.z (f := 722) (by decide +kernel)).2.1, (p.fi J.z (f := 770) (i := 121) (by decide +kernel)).2.1]; exact i2
    · rw [(p.f0 J.z (f := 723) (by decide +kernel)).2.1, (p.fi J.z (f := 771) (i := 121) (by decide +kernel)).2.1]; exact i3
