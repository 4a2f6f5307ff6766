/-! MERGED ROWS, in the class: the rests -/
set_option maxHeartbeats 200000 in
theorem ex_d : ∀ n : Fin 7, ∀ u : Fin 64, u.val < 2 ^ n.val → bcu u.val < n.val → ∃ j : Fin 7, j.val < n.val ∧ u.val.testBit j.val = false := by decide +kernel
set_option maxHeartbeats 200000 in
theorem ex_no {n u : Nat} (hn : n ≤ 6) (hu : u < 2 ^ n) (h : bcu u < n) : ∃ j, j < n ∧ u.testBit j = false := by
  have := pw6 hn
  obtain ⟨j, j1, j2⟩ := ex_d ⟨n, by omega⟩ ⟨u, by omega⟩ hu h
  exact ⟨j.val, j1, j2⟩
set_option maxHeartbeats 200000 in
theorem Cmp_len {n : Nat} {sz : Nat → Nat} {L : Nat → Int → Int} {ov : Nat → Nat → Nat} (h : ∀ l j, j < n → ov l j < sz j ∧ sz j ≤ 12) : ∀ d u l r, Cmp n sz L ov d u l r → r.length ≤ 12 * d := by
  intro d
  induction d with
  | zero => intro u l r hr; have hr : r = [] := hr; rw [hr]; exact Nat.zero_le _
  | succ d ih =>
    intro u l r hr
    obtain ⟨j, j1, j2, r', j3, j4⟩ := hr
    have := ih _ _ _ j4
    have := h l j j1
    rw [j3, List.length_append, sgm_len]
    omega
set_option maxHeartbeats 200000 in
theorem rsF_c {n : Nat} {sz : Nat → Nat} {L : Nat → Int → Int} {ov : Nat → Nat → Nat} (n6 : n ≤ 6) (h : ∀ l j, j < n → ov l j < sz j ∧ sz j ≤ 12) : ∀ d u l, u < 2 ^ n → bcu u + d = n → (∀ r, Cmp n sz L ov d u l r → rsF n sz ov d u l ≤ (r.length : Int)) ∧ ∃ r, Cmp n sz L ov d u l r ∧ (r.length : Int) = rsF n sz ov d u l := by
  intro d
  induction d with
  | zero => intro u l _ _; exact ⟨fun r _ => by show (0 : Int) ≤ _; omega, [], rfl, rfl⟩
  | succ d ih =>
    intro u l hu hb
    have h1 := mnO_le (a := 1000000) (g := fun j => !u.testBit j) (f := fun j => (sz j : Int) - (ov l j : Int) + rsF n sz ov d (u ||| 2 ^ j) j) n
    have h2 := mnO_is (a := 1000000) (g := fun j => !u.testBit j) (f := fun j => (sz j : Int) - (ov l j : Int) + rsF n sz ov d (u ||| 2 ^ j) j) n
    have e : rsF n sz ov (d + 1) u l = mnO 1000000 (fun j => !u.testBit j) (fun j => (sz j : Int) - (ov l j : Int) + rsF n sz ov d (u ||| 2 ^ j) j) n := rfl
    have nx : ∀ j, j < n → u.testBit j = false → u ||| 2 ^ j < 2 ^ n ∧ bcu (u ||| 2 ^ j) + d = n := fun j hj q => ⟨Nat.or_lt_two_pow hu (Nat.pow_lt_pow_right (by omega) hj), by rw [bcu_or (by omega) q]; omega⟩
    rw [e]
    constructor
    · intro r hr
      obtain ⟨j, j1, j2, r', j3, j4⟩ := hr
      obtain ⟨n1, n2⟩ := nx j j1 j2
      have a := (ih _ j n1 n2).1 r' j4
      have b := h1.2 j j1 (by show (!u.testBit j) = true; rw [j2]; rfl)
      have b : mnO 1000000 (fun j => !u.testBit j) (fun j => (sz j : Int) - (ov l j : Int) + rsF n sz ov d (u ||| 2 ^ j) j) n ≤ (sz j : Int) - (ov l j : Int) + rsF n sz ov d (u ||| 2 ^ j) j := b
      have := h l j j1
      rw [j3, List.length_append, sgm_len]
      omega
    · rcases h2 with h2 | ⟨k, k1, k2, k3⟩
      · obtain ⟨j, j1, j2⟩ := ex_no n6 hu (by omega)
        obtain ⟨n1, n2⟩ := nx j j1 j2
        obtain ⟨r', a1, a2⟩ := (ih _ j n1 n2).2
        have := Cmp_len (L := L) h _ _ _ _ a1
        have b := h1.2 j j1 (by show (!u.testBit j) = true; rw [j2]; rfl)
        have b : mnO 1000000 (fun j => !u.testBit j) (fun j => (sz j : Int) - (ov l j : Int) + rsF n sz ov d (u ||| 2 ^ j) j) n ≤ (sz j : Int) - (ov l j : Int) + rsF n sz ov d (u ||| 2 ^ j) j := b
        have := h l j j1
        omega
      · have k2 : (!u.testBit k) = true := k2
        have k2 : u.testBit k = false := by simpa using k2
        obtain ⟨n1, n2⟩ := nx k k1 k2
        obtain ⟨r', a1, a2⟩ := (ih _ k n1 n2).2
        have := h l k k1
        refine ⟨sgm sz L k (ov l k) ++ r', ⟨k, k1, k2, r', rfl, a1⟩, ?_⟩
        rw [k3, List.length_append, sgm_len]
        show ((sz k - ov l k + r'.length : Nat) : Int) = (sz k : Int) - (ov l k : Int) + rsF n sz ov d (u ||| 2 ^ k) k
        omega
/-- the length that follows, in the list's world -/
def rsC (c : Nat → Int) (l : List Nat) (u a : Nat) : Int := rsF l.length (ptZ c l) (ptO c l) (l.length - bcu u) u a
set_option maxHeartbeats 200000 in
theorem MW.B {t : Hp} {X : Nat} {c : Nat → Int} {l : List Nat} (m : MW t X c l) : ∀ a j, j < l.length → ptO c l a j < ptZ c l j ∧ ptZ c l j ≤ 12 := fun _ j hj => ⟨m.T.ov hj, (m.T.2.1 j hj).2.2.2.1⟩
set_option maxHeartbeats 200000 in
theorem rsC_bd {t : Hp} {X : Nat} {c : Nat → Int} {l : List Nat} (m : MW t X c l) (u a : Nat) : 0 ≤ rsC c l u a ∧ rsC c l u a ≤ 1000000 := rsF_bd m.B _ _ _
set_option maxHeartbeats 200000 in
theorem pw_or {n u j : Nat} (hu : u < 2 ^ n) (hj : j < n) : u ||| 2 ^ j < 2 ^ n := Nat.or_lt_two_pow hu (Nat.pow_lt_pow_right (by omega) hj)
def sRW (c : Nat → Int) (l : List Nat) (u a j : Nat) : Int := (ptZ c l j : Int) - (ptO c l a j : Int) + rsC c l (u ||| 2 ^ j) j
set_option maxHeartbeats 200000 in
theorem xSW {u j : Nat} (hu : u < 64) (hj : j < 6) : fX4_stateWith (u : Int) (j : Int) = some (((u ||| 2 ^ j : Nat) : Int) * 6 + (j : Int)) := by
  have o8 := or2_lt (s := u) (j := j) (by omega) (by omega)
  have e1 : WE (((u ||| 2 ^ j : Nat) : Int) * 6) := we (by omega) (by omega)
  have e2 : WE (((u ||| 2 ^ j : Nat) : Int) * 6 + (j : Int)) := we (by omega) (by omega)
  unfold fX4_stateWith
  rw [bor_or (by omega) (by omega), e1.e, e2.e]
set_option maxHeartbeats 200000 in
theorem xRW {t : Hp} {X u a j : Nat} {c : Nat → Int} {l : List Nat} (m : MW t X c l) (o : OvT t X c l) (hu : u < 2 ^ l.length) (ha : a < l.length) (hj : j < l.length) (ne : a ≠ j) (g : gA t (X + 107) ((u ||| 2 ^ j) * 6 + j) = rsC c l (u ||| 2 ^ j) j) :
    fX4_restWith t (X + 104) (u : Int) (a : Int) (j : Int) = some (sRW c l u a j) := by
  have n6 := m.six
  have p6 := pw6 n6
  have q6 := pw_or hu hj
  have H := m.1
  have b := m.B a j hj
  have rb := rsC_bd m (u ||| 2 ^ j) j
  have e1 : WE ((a : Int) * 6) := we (by omega) (by omega)
  have e2 : WE ((a : Int) * 6 + (j : Int)) := we (by omega) (by omega)
  have e3 : WE ((ptZ c l j : Int) - (ptO c l a j : Int)) := we (by omega) (by omega)
  have e4 : WE ((ptZ c l j : Int) - (ptO c l a j : Int) + rsC c l (u ||| 2 ^ j) j) := we (by omega) (by omega)
  have sz := (m.T.2.1 j hj).2.1
  have go := o a j ha hj ne
  have mv := m.v hj
  unfold fX4_restWith
  refine gdg m.k (nng (r256 H) (gdg (by rw [H.k105]) (gdg (by rw [H.k105]; show 0 ≤ _ ∧ _ < (6 : Int); omega) (nng (m.p hj) (gdg mv.k (nng (r257 H) (gdg (by rw [H.k106]) ?_)))))))
  rw [e1.e, e2.e]
  refine gdg (by rw [H.k106]; show 0 ≤ _ ∧ _ < (36 : Int); omega) (nng (r258 H) (bdg (xSW (by omega) (by omega)) (gdg (by rw [H.k107]) (gdg (by rw [H.k107]; show 0 ≤ _ ∧ _ < (384 : Int); omega) ?_))))
  rw [show ((j : Int)).toNat = j from rfl, mv.z, ← sz, show ((a : Int) * 6 + (j : Int)).toNat = a * 6 + j by omega, go, e3.e, show (((u ||| 2 ^ j : Nat) : Int) * 6 + (j : Int)).toNat = (u ||| 2 ^ j) * 6 + j by omega, g, e4.e]
  rfl
