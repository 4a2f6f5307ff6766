/-! NAMES THAT WERE TOLD: a table of (start, length) -/
def tzSm (T : Nat → Int) (t : TkS) (q : Nat × Nat) : Bool := decide (tkK t = 1 ∧ tkE t - tkS t = q.2 ∧ ∀ i, i < q.2 → T (tkS t + i) = T (q.1 + i))
set_option maxHeartbeats 200000 in
theorem tzSm_1 {T : Nat → Int} {t : TkS} {q : Nat × Nat} (h : tzSm T t q = true) : tkK t = 1 ∧ tkE t - tkS t = q.2 ∧ ∀ i, i < q.2 → T (tkS t + i) = T (q.1 + i) := of_decide_eq_true h
set_option maxHeartbeats 200000 in
theorem tzSm_0 {T : Nat → Int} {t : TkS} {q : Nat × Nat} (h : ¬ (tkK t = 1 ∧ tkE t - tkS t = q.2 ∧ ∀ i, i < q.2 → T (tkS t + i) = T (q.1 + i))) : tzSm T t q = false := decide_eq_false h
def tzFd (p : Nat → Bool) : Nat → Nat → Int
  | 0, _ => -1
  | n + 1, i => if p i = true then (i : Int) else tzFd p n (i + 1)
set_option maxHeartbeats 200000 in
theorem tzFd_bd {p : Nat → Bool} : ∀ n i, tzFd p n i = -1 ∨ ((i : Int) ≤ tzFd p n i ∧ tzFd p n i < ((i + n : Nat) : Int)) := by
  intro n
  induction n with
  | zero => intro i; exact Or.inl rfl
  | succ n ih =>
    intro i
    show (if p i = true then (i : Int) else tzFd p n (i + 1)) = -1 ∨ _ ≤ (if p i = true then (i : Int) else tzFd p n (i + 1)) ∧ (if p i = true then (i : Int) else tzFd p n (i + 1)) < _
    split
    · exact Or.inr ⟨Int.le_refl _, by omega⟩
    · rcases ih (i + 1) with h | ⟨h1, h2⟩
      · exact Or.inl h
      · exact Or.inr ⟨by omega, by omega⟩
abbrev NmT : Type := Nat → Nat × Nat
def tzFn (T : Nat → Int) (t : TkS) (nm : NmT) (n : Nat) : Int := tzFd (fun k => tzSm T t (nm k)) n 0
set_option maxHeartbeats 200000 in
theorem tzFn_bd {T : Nat → Int} {t : TkS} {nm : NmT} {n : Nat} : tzFn T t nm n = -1 ∨ (0 ≤ tzFn T t nm n ∧ tzFn T t nm n < (n : Int)) := by
  have := tzFd_bd (p := fun k => tzSm T t (nm k)) n 0
  unfold tzFn
  rcases this with h | ⟨h1, h2⟩
  · exact Or.inl h
  · exact Or.inr ⟨by omega, by omega⟩
/-- the table is good: within the text, small letters, eight at most -/
def tzG (L : Nat) (T : Nat → Int) (nm : NmT) (n : Nat) : Prop := ∀ k, k < n → (nm k).1 + (nm k).2 ≤ L ∧ (nm k).2 ≤ 8 ∧ ∀ i, i < (nm k).2 → 97 ≤ T ((nm k).1 + i) ∧ T ((nm k).1 + i) ≤ 122
/-- the class's two rows tell the table; the reference's words do -/
def tzNX (h : Hp) (a b : Nat) (nm : NmT) (n : Nat) : Prop := ∀ k, k < n → gA h a k = ((nm k).1 : Int) ∧ gA h b k = ((nm k).2 : Int)
def tzNM (M : Nat) (T : Nat → Int) (m : Hp) (o : Nat) (nm : NmT) (n : Nat) : Prop := ∀ k, k < n → gB m (M + 6) (o + k) = tzC T (nm k).1 (nm k).2
set_option maxHeartbeats 200000 in
theorem tzx_wo_n (h : Hp) (X : Nat) (a b : Int) : fX9_isWordOf_b34 h (X + 10) a b = some 0 := by
  unfold fX9_isWordOf_b34 fX9_isWordOf_b35
  show fX9_isWordOf_b39 h (X + 10) a b (999999 + 1) 0 0 = _
  rw [fX9_isWordOf_b39.eq_2]
  exact iteT rfl (gdg (Or.inl rfl) rfl)
set_option maxHeartbeats 200000 in
theorem tzx_wo_l {X L : Nat} {T : Nat → Int} {t : TkS} {h : Hp} {a b : Nat} (H : tzXt X L T t h) (k1 : tkK t = 1) (el : tkE t - tkS t = b) (ab : a + b ≤ L) : ∀ n i fu, b - i ≤ n → n + 1 < fu → i ≤ b → (∀ j, j < i → T (tkS t + j) = T (a + j)) →
    fX9_isWordOf_b39 h (X + 10) (a : Int) (b : Int) fu 1 (i : Int) = some (tzB (tzSm T t (a, b))) := by
  have o := H.ok
  have h9 := H.l
  have o1 := o.1
  have o2 := o.2.1
  have fin : ∀ i fu, ¬ i < b → i ≤ b → (∀ j, j < i → T (tkS t + j) = T (a + j)) → fX9_isWordOf_b39 h (X + 10) (a : Int) (b : Int) (fu + 1) 1 (i : Int) = some (tzB (tzSm T t (a, b))) := by
    intro i fu h1 h2 h3
    rw [show tzSm T t (a, b) = true from decide_eq_true ⟨k1, el, fun j hj => h3 j (by have : j < b := hj; omega)⟩, fX9_isWordOf_b39.eq_2]
    exact iteF (by omega) (iteF (by omega) (gdg (Or.inr rfl) rfl))
  intro n
  induction n with
  | zero =>
    intro i fu h1 h2 h3 h4
    obtain ⟨fu, rfl⟩ : ∃ k, fu = k + 1 := ⟨fu - 1, by omega⟩
    exact fin i fu (by omega) h3 h4
  | succ n ih =>
    intro i fu h1 h2 h3 h4
    obtain ⟨fu, rfl⟩ : ∃ k, fu = k + 1 := ⟨fu - 1, by omega⟩
    by_cases z : i < b
    · have ea := tzx_ltA (k := i) H (by omega)
      rw [if_pos (show tkS t + i < L by omega)] at ea
      have y := H.1.2.2.2.2.2 (tkS t + i) (by omega)
      have y2 := H.1.2.2.2.2.2 (a + i) (by omega)
      have e0 : WE ((a : Int) + (i : Int)) := we (by omega) (by omega)
      have e1 : WE ((i : Int) + 1) := we (by omega) (by omega)
      have eA : gA h (X + 11) ((a : Int) + (i : Int)).toNat = T (a + i) := by rw [show ((a : Int) + (i : Int)).toNat = a + i by omega]; exact y2.1
      have e2 : WE (T (a + i) - 97) := we (by omega) (by omega)
      have e3 : WE (T (a + i) - 97 + 1) := we (by omega) (by omega)
      rw [fX9_isWordOf_b39.eq_2, e0.e, e1.e]
      refine iteF (by omega) (iteT (by omega) (gdg H.k (bdg ea (nng H.1.2.1 (gdg (by rw [H.1.2.2.1]) (gdg (by rw [H.1.2.2.1]; show 0 ≤ _ ∧ _ < (900 : Int); omega) ?_))))))
      rw [eA, e2.e, e3.e, lt_d, lt_d]
      by_cases q : T (tkS t + i) = T (a + i)
      · rw [if_pos (show T (tkS t + i) - 96 = T (a + i) - 97 + 1 by omega)]
        exact ih (i + 1) fu (by omega) (by omega) (by omega) (fun j hj => by
          by_cases y3 : j = i
          · rw [y3]; exact q
          · exact h4 j (by omega))
      · rw [if_neg (show ¬ T (tkS t + i) - 96 = T (a + i) - 97 + 1 by omega), tzSm_0 (fun y3 => q (y3.2.2 i z))]
        obtain ⟨fu, rfl⟩ : ∃ k, fu = k + 1 := ⟨fu - 1, by omega⟩
        rw [fX9_isWordOf_b39.eq_2]
        exact iteT rfl (gdg (Or.inl rfl) rfl)
    · exact fin i fu z h3 h4
set_option maxHeartbeats 200000 in
theorem tzx_wo {X L : Nat} {T : Nat → Int} {t : TkS} {h : Hp} {a b : Nat} (H : tzXt X L T t h) (ab : a + b ≤ L) : fX9_isWordOf h (X + 10) (a : Int) (b : Int) = some (tzB (tzSm T t (a, b))) := by
  have h9 := H.l
  have e0 : WE ((a : Int) + (b : Int)) := we (by omega) (by omega)
  unfold fX9_isWordOf
  rw [H.2.1, e0.e, H.1.2.2.2.2.1]
  refine gdg H.k ?_
  by_cases q : tkK t = 1
  · refine iteT q (bdg (tzx_size H) ?_)
    by_cases q2 : tkE t - tkS t = b
    · refine iteT (by rw [q2]) (iteF (by omega) (iteT (by omega) ?_))
      unfold fX9_isWordOf_b35
      exact tzx_wo_l H q q2 ab b 0 FU (by omega) (show b + 1 < 1000000 by omega) (by omega) (fun j hj => absurd hj (by omega))
    · refine iteF (by omega) ?_
      rw [tzSm_0 (fun z => q2 z.2.1)]
      exact tzx_wo_n h X _ _
  · refine iteF q ?_
    rw [tzSm_0 (fun z => q z.1)]
    exact tzx_wo_n h X _ _
set_option maxHeartbeats 200000 in
theorem tzx_find {X L : Nat} {T : Nat → Int} {t : TkS} {h : Hp} {a b n : Nat} {nm : NmT} (H : tzXt X L T t h) (k8 : (hK h (X + 12)).1 = 8) (r8 : gR h 512 (X + 12) = some (X + 10)) (ka : hK h a = (21, 8)) (kb : hK h b = (21, 8)) (n8 : n ≤ 8) (N : tzNX h a b nm n) (G : tzG L T nm n) : fX8_findName h (X + 12) a b (n : Int) = some (tzFn T t nm n) := by
  have key : ∀ d i fu, n - i ≤ d → d < fu → i ≤ n → fX8_findName_b3 h (X + 12) a b (n : Int) fu (i : Int) = some (tzFd (fun k => tzSm T t (nm k)) (n - i) i) := by
    intro d
    induction d with
    | zero =>
      intro i fu h1 h2 h3
      obtain ⟨fu, rfl⟩ : ∃ k, fu = k + 1 := ⟨fu - 1, by omega⟩
      rw [fX8_findName_b3.eq_2, show n - i = 0 by omega]
      exact iteF (by omega) rfl
    | succ d ih =>
      intro i fu h1 h2 h3
      obtain ⟨fu, rfl⟩ : ∃ k, fu = k + 1 := ⟨fu - 1, by omega⟩
      rw [fX8_findName_b3.eq_2]
      by_cases z : i < n
      · have e1 : WE ((i : Int) + 1) := we (by omega) (by omega)
        have w := tzx_wo (a := (nm i).1) (b := (nm i).2) H (G i z).1
        rw [ka, kb, Int.toNat_natCast, (N i z).1, (N i z).2, e1.e]
        refine iteT (by omega) (gdg rfl (gdg (show ((8 : Nat) : Int) < 2147483648 by omega) (iteT (show (i : Int) < ((8 : Nat) : Int) by omega) (gdg rfl (gdg (show ((8 : Nat) : Int) < 2147483648 by omega) (iteT (show (i : Int) < ((8 : Nat) : Int) by omega) (gdg k8 (nng r8 (gdg (show 0 ≤ _ ∧ _ < ((8 : Nat) : Int) by omega) (gdg (show 0 ≤ _ ∧ _ < ((8 : Nat) : Int) by omega) (gdg H.k (bdg w ?_))))))))))))
        rw [show n - i = (n - (i + 1)) + 1 by omega]
        show _ = some (if tzSm T t (nm i) = true then (i : Int) else tzFd (fun k => tzSm T t (nm k)) (n - (i + 1)) (i + 1))
        cases q : tzSm T t (nm i) with
        | true =>
          rw [if_pos (rfl : true = true)]
          exact iteF (by decide) rfl
        | false =>
          rw [if_neg Bool.false_ne_true]
          exact iteT rfl (ltg (ih (i + 1) fu (by omega) (by omega) (by omega)))
      · rw [show n - i = 0 by omega]
        exact iteF (by omega) rfl
  unfold fX8_findName tzFn
  exact key n 0 FU (by omega) (show n < 1000000 by omega) (by omega)
set_option maxHeartbeats 200000 in
theorem tzm_named {M L : Nat} {T : Nat → Int} {t : TkS} {m : Hp} {o n : Nat} {nm : NmT} (H : tzMt M L T t m) (o8 : o ≤ 8) (n8 : n ≤ 8) (N : tzNM M T m o nm n) (G : tzG L T nm n) (k1 : tkK t = 1) (l8 : tkE t - tkS t ≤ 8) : fX12_named m M (o : Int) (n : Int) = some (tzFn T t nm n) := by
  have ok := H.ok
  have hw : gJ m 787 M = tzC T (tkS t) (tkE t - tkS t) := by
    rw [(H.2.2.2.2.2.2.2.1 k1).2]
    unfold tzV
    rw [if_pos l8]
  have hT : ∀ i, i < tkE t - tkS t → 97 ≤ T (tkS t + i) ∧ T (tkS t + i) ≤ 122 := fun i hi => ok.2.2.2.2.2.1 k1 (tkS t + i) (by omega) (by omega)
  have key : ∀ d i fu, n - i ≤ d → d < fu → i ≤ n → fX12_named_b2 m M (o : Int) (n : Int) fu (i : Int) = some (tzFd (fun k => tzSm T t (nm k)) (n - i) i) := by
    intro d
    induction d with
    | zero =>
      intro i fu h1 h2 h3
      obtain ⟨fu, rfl⟩ : ∃ k, fu = k + 1 := ⟨fu - 1, by omega⟩
      rw [fX12_named_b2.eq_2, show n - i = 0 by omega]
      exact iteF (by omega) rfl
    | succ d ih =>
      intro i fu h1 h2 h3
      obtain ⟨fu, rfl⟩ : ∃ k, fu = k + 1 := ⟨fu - 1, by omega⟩
      rw [fX12_named_b2.eq_2]
      by_cases z : i < n
      · have e0 : WE ((o : Int) + (i : Int)) := we (by omega) (by omega)
        have e1 : WE ((i : Int) + 1) := we (by omega) (by omega)
        have g := G i z
        rw [e0.e, e1.e, show ((o : Int) + (i : Int)).toNat = o + i by omega, hw]
        refine iteT (by omega) (gdg H.k (nng H.1.1.r789 (gdg (by rw [H.1.1.k6]) (gdg (by rw [H.1.1.k6]; show 0 ≤ _ ∧ _ < (16 : Int); omega) ?_))))
        rw [N i z, show n - i = (n - (i + 1)) + 1 by omega]
        show _ = some (if tzSm T t (nm i) = true then (i : Int) else tzFd (fun k => tzSm T t (nm k)) (n - (i + 1)) (i + 1))
        cases q : tzSm T t (nm i) with
        | true =>
          obtain ⟨q1, q2, q3⟩ := tzSm_1 q
          rw [if_pos (rfl : true = true)]
          refine iteT ?_ rfl
          rw [q2]
          exact (tzC_cg q3).symm
        | false =>
          rw [if_neg Bool.false_ne_true]
          refine iteF (fun e => ?_) (ltg (ih (i + 1) fu (by omega) (by omega) (by omega)))
          obtain ⟨c1, c2⟩ := tzC_inj _ _ hT g.2.2 e.symm
          have : tzSm T t (nm i) = true := decide_eq_true ⟨k1, c1, fun j hj => c2 j (by omega)⟩
          rw [this] at q
          cases q
      · rw [show n - i = 0 by omega]
        exact iteF (by omega) rfl
  unfold fX12_named tzFn
  exact key n 0 FU (by omega) (show n < 1000000 by omega) (by omega)
