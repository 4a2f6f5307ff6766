/-! CHAINS: the spec: lk j is the set of jars that j may be followed by -/
def bcu (u : Nat) : Nat := (bcN 8 u).toNat
set_option maxHeartbeats 200000 in
theorem bcu_le (u : Nat) : (bcu u : Int) = bcN 8 u ∧ bcu u ≤ 8 := by
  have := bcN_bd 8 u
  unfold bcu
  omega
set_option maxHeartbeats 200000 in
theorem bcu_or {u j : Nat} (hj : j < 8) (h : u.testBit j = false) : bcu (u ||| 2 ^ j) = bcu u + 1 := by
  have h1 := bcN_or hj h
  have h2 := bcu_le u
  have h3 := bcu_le (u ||| 2 ^ j)
  omega
def chF (lk : Nat → Nat) : Nat → Nat → Nat → Int
  | 0, _, _ => 0
  | d + 1, u, f => mz 8 (fun j => if inB f u j then 1 + chF lk d (u ||| 2 ^ j) (lk j) else 0)
def chM (lk : Nat → Nat) (u f : Nat) : Int := chF lk (8 - bcu u) u f
def chW (lk : Nat → Nat) (u j : Nat) : Int := 1 + chM lk (u ||| 2 ^ j) (lk j)
def chV (lk : Nat → Nat) (u f j : Nat) : Int := if inB f u j then chW lk u j else 0
set_option maxHeartbeats 200000 in
theorem chF_bd (lk : Nat → Nat) (d u f : Nat) : 0 ≤ chF lk d u f ∧ chF lk d u f ≤ d := by
  induction d generalizing u f with
  | zero => exact ⟨Int.le_refl _, Int.le_refl _⟩
  | succ d ih =>
    refine ⟨mz_ge.1, mz_le (by omega) (fun j _ => ?_)⟩
    show (if inB f u j then 1 + chF lk d (u ||| 2 ^ j) (lk j) else 0) ≤ _
    split
    · have := ih (u ||| 2 ^ j) (lk j); omega
    · omega
set_option maxHeartbeats 200000 in
theorem chM_bd (lk : Nat → Nat) (u f : Nat) : 0 ≤ chM lk u f ∧ chM lk u f ≤ 8 - bcu u ∧ chM lk u f ≤ 8 := by
  have h1 := chF_bd lk (8 - bcu u) u f
  have h2 := bcu_le u
  unfold chM
  omega
set_option maxHeartbeats 200000 in
theorem inB_t {f u j : Nat} (h : inB f u j = true) : f.testBit j = true ∧ u.testBit j = false := by
  unfold inB at h
  rw [Bool.and_eq_true] at h
  refine ⟨h.1, ?_⟩
  cases q : u.testBit j with
  | false => rfl
  | true => have := h.2; rw [q] at this; cases this
set_option maxHeartbeats 200000 in
theorem inB_8 {f u j : Nat} (hf : f < 256) (h : inB f u j = true) : j < 8 := tb8 hf (inB_t h).1
set_option maxHeartbeats 200000 in
theorem chM_eq {lk : Nat → Nat} {u f : Nat} (hf : f < 256) : chM lk u f = mz 8 (chV lk u f) := by
  have b := bcu_le u
  by_cases e : bcu u = 8
  · have no : ∀ j, inB f u j = false := fun j => by
      cases q : inB f u j with
      | false => rfl
      | true =>
        have h1 := bcu_or (inB_8 hf q) (inB_t q).2
        have h2 := bcu_le (u ||| 2 ^ j)
        omega
    have z : mz 8 (chV lk u f) ≤ 0 := mz_le (by omega) (fun j _ => by unfold chV; rw [no j]; exact Int.le_refl _)
    have z2 := (mz_ge (n := 8) (f := chV lk u f)).1
    have z3 := chM_bd lk u f
    omega
  · obtain ⟨d, hd⟩ : ∃ d, 8 - bcu u = d + 1 := ⟨8 - bcu u - 1, by omega⟩
    have e1 : chM lk u f = chF lk (d + 1) u f := by unfold chM; rw [hd]
    rw [e1]
    refine mz_congr (fun j hj => ?_)
    show (if inB f u j then 1 + chF lk d (u ||| 2 ^ j) (lk j) else 0) = chV lk u f j
    unfold chV
    cases q : inB f u j with
    | false => rfl
    | true =>
      have h1 := bcu_or hj (inB_t q).2
      rw [if_pos rfl, if_pos rfl]
      unfold chW chM
      rw [h1, show 8 - (bcu u + 1) = d by omega]
set_option maxHeartbeats 200000 in
theorem chW_bd (lk : Nat → Nat) (u j : Nat) : 1 ≤ chW lk u j ∧ chW lk u j ≤ 9 := by
  have := chM_bd lk (u ||| 2 ^ j) (lk j)
  unfold chW
  omega
set_option maxHeartbeats 200000 in
theorem chV_bd (lk : Nat → Nat) (u f j : Nat) : 0 ≤ chV lk u f j ∧ chV lk u f j ≤ 9 := by
  have := chW_bd lk u j
  unfold chV
  split <;> omega
set_option maxHeartbeats 200000 in
theorem chV_in {lk : Nat → Nat} {u f j : Nat} (h : inB f u j = true) : chV lk u f j = chW lk u j := by unfold chV; rw [if_pos h]
set_option maxHeartbeats 200000 in
theorem chV_out {lk : Nat → Nat} {u f j : Nat} (h : inB f u j = false) : chV lk u f j = 0 := by unfold chV; rw [h]; rfl
def chP (lk : Nat → Nat) (u f j : Nat) : Bool := inB f u j && decide (chW lk u j = chM lk u f)
def chB (lk : Nat → Nat) (u f : Nat) : Nat := fsN 8 (chP lk u f)
/-- the first best of those below n -/
def FstB (lk : Nat → Nat) (u f n j : Nat) : Prop := j < n ∧ inB f u j = true ∧ chW lk u j = mz n (chV lk u f) ∧ ∀ k, k < j → inB f u k = true → chW lk u k < chW lk u j
set_option maxHeartbeats 200000 in
theorem chB_of {lk : Nat → Nat} {u f j : Nat} (hf : f < 256) (h : FstB lk u f 8 j) : chB lk u f = j := by
  obtain ⟨h1, h2, h3, h4⟩ := h
  rw [← chM_eq hf] at h3
  refine fsN_is h1 (by unfold chP; rw [h2, decide_eq_true h3]; rfl) (fun k hk => ?_)
  unfold chP
  cases q : inB f u k with
  | false => rfl
  | true =>
    have := h4 k hk q
    rw [decide_eq_false (show ¬ chW lk u k = chM lk u f by omega)]; rfl
set_option maxHeartbeats 200000 in
theorem chB_ok {lk : Nat → Nat} {u f : Nat} (hf : f < 256) (h : 0 < chM lk u f) : chB lk u f < 8 ∧ inB f u (chB lk u f) = true ∧ chW lk u (chB lk u f) = chM lk u f := by
  have ex : ∃ j, j < 8 ∧ chP lk u f j = true := by
    rcases mz_is (n := 8) (f := chV lk u f) with z | ⟨j, z1, z2⟩
    · rw [← chM_eq hf] at z; omega
    · rw [← chM_eq hf] at z2
      refine ⟨j, z1, ?_⟩
      cases q : inB f u j with
      | false => rw [chV_out q] at z2; omega
      | true =>
        rw [chV_in q] at z2
        unfold chP
        rw [q, decide_eq_true z2]; rfl
  obtain ⟨j, hj, hp⟩ := ex
  have l := fsN_lt hj hp
  have p := (fsN_s 8 (chP lk u f)).2.2 l
  unfold chP at p
  rw [Bool.and_eq_true] at p
  exact ⟨l, p.1, of_decide_eq_true p.2⟩
set_option maxHeartbeats 200000 in
theorem chM_0 {lk : Nat → Nat} {u f : Nat} (hf : f < 256) (h : ∀ j, inB f u j = false) : chM lk u f = 0 := by
  have z : mz 8 (chV lk u f) ≤ 0 := mz_le (by omega) (fun j _ => by rw [chV_out (h j)]; exact Int.le_refl _)
  have z3 := chM_bd lk u f
  have := chM_eq (lk := lk) (u := u) hf
  omega
set_option maxHeartbeats 200000 in
/-- the first best, one more asked -/
theorem fst_no {lk : Nat → Nat} {u f n j : Nat} (h : FstB lk u f n j) (q : chV lk u f n ≤ mz n (chV lk u f)) : FstB lk u f (n + 1) j := by
  obtain ⟨h1, h2, h3, h4⟩ := h
  refine ⟨by omega, h2, ?_, h4⟩
  have e : mz (n + 1) (chV lk u f) = max (mz n (chV lk u f)) (chV lk u f n) := rfl
  rw [e]; omega
set_option maxHeartbeats 200000 in
theorem fst_yes {lk : Nat → Nat} {u f n : Nat} (hi : inB f u n = true) (q : mz n (chV lk u f) < chW lk u n) : FstB lk u f (n + 1) n := by
  refine ⟨by omega, hi, ?_, fun k hk hb => ?_⟩
  · have e : mz (n + 1) (chV lk u f) = max (mz n (chV lk u f)) (chV lk u f n) := rfl
    rw [e, chV_in hi]; omega
  · have := (mz_ge (n := n) (f := chV lk u f)).2 k hk
    rw [chV_in hb] at this
    omega
/-- the order: the k-th jar from a set and links -/
def chK (lk : Nat → Nat) : Nat → Nat → Nat → Nat
  | 0, u, f => chB lk u f
  | k + 1, u, f => chK lk k (u ||| 2 ^ chB lk u f) (lk (chB lk u f))
def chU (lk : Nat → Nat) (f0 : Nat) : Nat → Nat × Nat
  | 0 => (0, f0)
  | k + 1 => ((chU lk f0 k).1 ||| 2 ^ chB lk (chU lk f0 k).1 (chU lk f0 k).2, lk (chB lk (chU lk f0 k).1 (chU lk f0 k).2))
set_option maxHeartbeats 200000 in
theorem chK_U (lk : Nat → Nat) (f0 : Nat) (i : Nat) : ∀ k, chK lk k (chU lk f0 i).1 (chU lk f0 i).2 = chB lk (chU lk f0 (i + k)).1 (chU lk f0 (i + k)).2 := by
  intro k
  induction k generalizing i with
  | zero => rfl
  | succ k ih =>
    show chK lk k ((chU lk f0 i).1 ||| 2 ^ chB lk (chU lk f0 i).1 (chU lk f0 i).2) (lk (chB lk (chU lk f0 i).1 (chU lk f0 i).2)) = _
    have := ih (i + 1)
    rw [show i + (k + 1) = i + 1 + k by omega]
    exact this
set_option maxHeartbeats 200000 in
/-- all that stands on the way: sets within A -/
theorem chU_ok {lk : Nat → Nat} {A : Nat} (hA : A < 256) (hl : ∀ j, lk j < 256 ∧ Sub (lk j) A) : ∀ k : Nat, (k : Int) ≤ chM lk 0 A → (chU lk A k).1 < 256 ∧ (chU lk A k).2 < 256 ∧ Sub (chU lk A k).1 A ∧ Sub (chU lk A k).2 A ∧ bcu (chU lk A k).1 = k ∧ chM lk (chU lk A k).1 (chU lk A k).2 = chM lk 0 A - k := by
  intro k
  induction k with
  | zero =>
    intro _
    refine ⟨by show 0 < 256; omega, hA, fun j hj => ?_, fun j hj => hj, by show bcu 0 = 0; decide, by show chM lk 0 A = _; omega⟩
    have : (0 : Nat).testBit j = true := hj
    rw [Nat.zero_testBit] at this; cases this
  | succ k ih =>
    intro hk
    obtain ⟨h1, h2, h3, h4, h5, h6⟩ := ih (by omega)
    obtain ⟨b1, b2, b3⟩ := chB_ok (lk := lk) (u := (chU lk A k).1) h2 (by omega)
    obtain ⟨n1, n2⟩ := inB_t b2
    show (chU lk A k).1 ||| 2 ^ chB lk (chU lk A k).1 (chU lk A k).2 < 256 ∧ lk (chB lk (chU lk A k).1 (chU lk A k).2) < 256 ∧ Sub ((chU lk A k).1 ||| 2 ^ chB lk (chU lk A k).1 (chU lk A k).2) A ∧ Sub (lk (chB lk (chU lk A k).1 (chU lk A k).2)) A ∧ bcu ((chU lk A k).1 ||| 2 ^ chB lk (chU lk A k).1 (chU lk A k).2) = k + 1 ∧ chM lk ((chU lk A k).1 ||| 2 ^ chB lk (chU lk A k).1 (chU lk A k).2) (lk (chB lk (chU lk A k).1 (chU lk A k).2)) = _
    refine ⟨or2_lt h1 b1, (hl _).1, h3.or (h4 _ n1), (hl _).2, by rw [bcu_or b1 n2, h5], ?_⟩
    have : chW lk (chU lk A k).1 (chB lk (chU lk A k).1 (chU lk A k).2) = 1 + chM lk ((chU lk A k).1 ||| 2 ^ chB lk (chU lk A k).1 (chU lk A k).2) (lk (chB lk (chU lk A k).1 (chU lk A k).2)) := rfl
    omega
/-! CHAINS, in the class: the best that may follow -/
set_option maxHeartbeats 200000 in
theorem xLW {h : Hp} {X u j : Nat} {v : Int} (H : XS h X) (hu : u < 256) (hj : j < 8) (e : gA h (X + 115) ((u ||| 2 ^ j) * 8 + j) = v) : fX5_lengthWith h (X + 113) (u : Int) (j : Int) = some v := by
  have o8 := or2_lt hu hj
  have k115 := H.k115
  have e1 : WE (((u ||| 2 ^ j : Nat) : Int) * 8) := we (by omega) (by omega)
  have e2 : WE (((u ||| 2 ^ j : Nat) : Int) * 8 + (j : Int)) := we (by omega) (by omega)
  unfold fX5_lengthWith
  rw [bor_or hu hj, e1.e, e2.e]
  refine gdg (by rw [H.k113]) (nng H.r321 (gdg (by rw [k115]) (gdg (by rw [k115]; show 0 ≤ _ ∧ _ < (2048 : Int); omega) ?_)))
  rw [show (((u ||| 2 ^ j : Nat) : Int) * 8 + (j : Int)).toNat = (u ||| 2 ^ j) * 8 + j by omega, e]
set_option maxHeartbeats 200000 in
theorem xBL {h : Hp} {X u f : Nat} {lk : Nat → Nat} (H : XS h X) (hu : u < 256) (hf : f < 256) (g : ∀ j, j < 8 → inB f u j = true → gA h (X + 115) ((u ||| 2 ^ j) * 8 + j) = chW lk u j) :
    fX5_bestLink h (X + 113) (u : Int) (f : Int) = some (if chM lk u f = 0 then -1 else (chB lk u f : Int)) := by
  have k113 : (hK h (X + 113)).1 = 5 := by rw [H.k113]
  have al := anN_le f u
  unfold fX5_bestLink
  rw [lt_d, anN_e hf hu]
  by_cases z : anN f u = 0
  · have sb := (anN_0 hf hu).mp z
    have m0 : chM lk u f = 0 := chM_0 hf (fun j => by
      unfold inB
      cases q : f.testBit j with
      | false => rfl
      | true => rw [sb j q]; rfl)
    rw [if_pos m0, z]
    show fX5_bestLink_b15 h (X + 113) (u : Int) (f : Int) (999999 + 1) _ _ _ _ = _
    rw [fX5_bestLink_b15.eq_2]
    exact iteT rfl rfl
  · obtain ⟨t, ht, e⟩ := fk (S := Int × Int) (T := Int) (fun fu i s => fX5_bestLink_b15 h (X + 113) (u : Int) (f : Int) fu (anN f u : Int) s.1 s.2 i) some 8
      (fun i s => ((∀ k, k < i → inB f u k = false) ∧ s = (-1, 0)) ∨ (∃ j, FstB lk u f i j ∧ s = ((j : Int), mz i (chV lk u f))))
      (fun t => t = if chM lk u f = 0 then -1 else (chB lk u f : Int)) 0 ((-1 : Int), (0 : Int)) (by omega) (Or.inl ⟨fun k hk => absurd hk (by omega), rfl⟩) (by omega)
      (fun fu i s hi hI => by
        have e5 : WE ((i : Int) + 1) := we (by omega) (by omega)
        have ib : fX11_isIn (anN f u : Int) (i : Int) = some (b01 (inB f u i)) := by
          have := inB_b (j := i) hf hu hi
          rw [anN_e hf hu] at this
          exact this
        have e60 : ∀ a b, fX5_bestLink_b60 h (X + 113) (u : Int) (f : Int) (fX5_bestLink_b15 h (X + 113) (u : Int) (f : Int) fu) (anN f u : Int) a b (i : Int) = fX5_bestLink_b15 h (X + 113) (u : Int) (f : Int) fu (anN f u : Int) a b ((i : Int) + 1) := fun a b => by rw [fX5_bestLink_b60, lt_d, e5.e]
        left
        cases q : inB f u i with
        | false =>
          rw [q] at ib
          refine ⟨s, ?_, ?_⟩
          · rcases hI with ⟨h1, h2⟩ | ⟨j, h1, h2⟩
            · refine Or.inl ⟨fun k hk => ?_, h2⟩
              rcases Nat.lt_succ_iff_lt_or_eq.mp hk with y | y
              · exact h1 k y
              · rw [y]; exact q
            · have m0 := (mz_ge (n := i) (f := chV lk u f)).1
              have em : mz (i + 1) (chV lk u f) = mz i (chV lk u f) := by
                show max (mz i (chV lk u f)) (chV lk u f i) = _
                rw [chV_out q]; omega
              exact Or.inr ⟨j, fst_no h1 (by rw [chV_out q]; exact m0), by rw [em]; exact h2⟩
          · show fX5_bestLink_b15 h (X + 113) (u : Int) (f : Int) (fu + 1) (anN f u : Int) s.1 s.2 (i : Int) = fX5_bestLink_b15 h (X + 113) (u : Int) (f : Int) fu (anN f u : Int) s.1 s.2 ((i : Int) + 1)
            rw [fX5_bestLink_b15.eq_2]
            refine iteF (by omega) (iteT (by omega) (bdg ib (iteT rfl ?_)))
            exact e60 _ _
        | true =>
          rw [q] at ib
          have lw := xLW H hu hi (g i hi q)
          have wb := chW_bd lk u i
          have em : mz (i + 1) (chV lk u f) = max (mz i (chV lk u f)) (chW lk u i) := by
            show max (mz i (chV lk u f)) (chV lk u f i) = _
            rw [chV_in q]
          by_cases y : chW lk u i ≤ s.2
          · rcases hI with ⟨h1, h2⟩ | ⟨j, h1, h2⟩
            · rw [h2] at y
              have y : chW lk u i ≤ 0 := y
              omega
            · have y2 : chW lk u i ≤ mz i (chV lk u f) := by rw [h2] at y; exact y
              refine ⟨s, Or.inr ⟨j, fst_no h1 (by rw [chV_in q]; exact y2), by rw [em, show max (mz i (chV lk u f)) (chW lk u i) = mz i (chV lk u f) by omega]; exact h2⟩, ?_⟩
              show fX5_bestLink_b15 h (X + 113) (u : Int) (f : Int) (fu + 1) (anN f u : Int) s.1 s.2 (i : Int) = fX5_bestLink_b15 h (X + 113) (u : Int) (f : Int) fu (anN f u : Int) s.1 s.2 ((i : Int) + 1)
              rw [fX5_bestLink_b15.eq_2]
              refine iteF (by omega) (iteT (by omega) (bdg ib (iteF (by unfold b01; rw [if_pos rfl]; omega) (gdg k113 (bdg lw (iteT y ?_))))))
              exact e60 _ _
          · have y2 : mz i (chV lk u f) < chW lk u i := by
              rcases hI with ⟨h1, h2⟩ | ⟨j, h1, h2⟩
              · have := mz_le (n := i) (f := chV lk u f) (v := 0) (by omega) (fun k hk => by rw [chV_out (h1 k hk)]; exact Int.le_refl _)
                omega
              · rw [h2] at y
                have y : ¬ chW lk u i ≤ mz i (chV lk u f) := y
                omega
            refine ⟨((i : Int), chW lk u i), Or.inr ⟨i, fst_yes q y2, by rw [em, show max (mz i (chV lk u f)) (chW lk u i) = chW lk u i by omega]⟩, ?_⟩
            show fX5_bestLink_b15 h (X + 113) (u : Int) (f : Int) (fu + 1) (anN f u : Int) s.1 s.2 (i : Int) = fX5_bestLink_b15 h (X + 113) (u : Int) (f : Int) fu (anN f u : Int) (i : Int) (chW lk u i) ((i : Int) + 1)
            rw [fX5_bestLink_b15.eq_2]
            refine iteF (by omega) (iteT (by omega) (bdg ib (iteF (by unfold b01; rw [if_pos rfl]; omega) (gdg k113 (bdg lw (iteF y (bdg lw ?_)))))))
            exact e60 _ _)
      (fun fu s hI => by
        refine ⟨s.1, ?_, ?_⟩
        · rcases hI with ⟨h1, h2⟩ | ⟨j, h1, h2⟩
          · have m0 : chM lk u f = 0 := chM_0 hf (fun j => by
              cases q : inB f u j with
              | false => rfl
              | true => rw [h1 j (inB_8 hf q)] at q; cases q)
            rw [if_pos m0, h2]
          · have e := chM_eq (lk := lk) (u := u) hf
            have wb := chW_bd lk u j
            rw [if_neg (by rw [e, ← h1.2.2.1]; omega), chB_of hf h1, h2]
        · show fX5_bestLink_b15 h (X + 113) (u : Int) (f : Int) (fu + 1) (anN f u : Int) s.1 s.2 ((8 : Nat) : Int) = _
          rw [fX5_bestLink_b15.eq_2]
          exact iteF (by omega) (iteF (by omega) rfl))
    rw [← ht]
    exact e
