/-! MERGED ROWS, in the class: the open states -/
def MO (X : Nat) (h t : Hp) : Prop := ME X h t ∧ (∀ f a, ¬ (f = 262 ∧ a = X + 104) → gI t f a = gI h f a) ∧ (∀ f a, gR t f a = gR h f a) ∧ (∀ a i, gC t a i = gC h a i) ∧ (∀ a, a ≠ X + 108 → a ≠ X + 109 → a ≠ X + 110 → a ≠ X + 112 → ∀ i, gA t a i = gA h a i)
set_option maxHeartbeats 200000 in
theorem MO.rf {X : Nat} (h : Hp) : MO X h h := ⟨ME.rf h, fun _ _ _ => rfl, fun _ _ => rfl, fun _ _ => rfl, fun _ _ _ _ _ _ => rfl⟩
set_option maxHeartbeats 200000 in
theorem MO.tr {X : Nat} {h h1 h2 : Hp} (p : MO X h h1) (q : MO X h1 h2) : MO X h h2 :=
  ⟨p.1.tr q.1, fun f a n1 => (q.2.1 f a n1).trans (p.2.1 f a n1), fun f a => (q.2.2.1 f a).trans (p.2.2.1 f a), fun a i => (q.2.2.2.1 a i).trans (p.2.2.2.1 a i), fun a n1 n2 n3 n4 i => (q.2.2.2.2 a n1 n2 n3 n4 i).trans (p.2.2.2.2 a n1 n2 n3 n4 i)⟩
set_option maxHeartbeats 200000 in
theorem mo_sA {X : Nat} (h : Hp) {a : Nat} {k v : Int} (i : Nat) (ea : a = X + i) (m : i ∈ E7) (b : i = 108 ∨ i = 109 ∨ i = 110 ∨ i = 112) : MO X h (sA h a k v) :=
  ⟨me_sA h i ea m (by omega), fun f a _ => by rw [gI_sA], fun _ _ => rfl, fun _ _ => rfl, fun x n1 n2 n3 n4 j => by rw [gA_sA, if_neg (by omega)]⟩
set_option maxHeartbeats 200000 in
theorem mo_262 {X : Nat} (h : Hp) {v : Int} : MO X h (pI h 262 (X + 104) v) :=
  ⟨me_pI h 104 rfl (by decide) (by omega), fun f a n1 => by rw [gI_pI, if_neg n1], fun _ _ => rfl, fun _ _ => rfl, fun _ _ _ _ _ _ => rfl⟩
def MT (t : Hp) (X : Nat) (c : Nat → Int) (l : List Nat) : Prop := MW t X c l ∧ OvT t X c l ∧ RsT t X c l 0
set_option maxHeartbeats 200000 in
theorem MT.mo {h t : Hp} {X : Nat} {c : Nat → Int} {l : List Nat} (m : MT h X c l) (p : MO X h t) : MT t X c l := by
  obtain ⟨⟨m1, m2, m3, m4, m5, m6, m7⟩, o, r⟩ := m
  have nj := m3.nj
  obtain ⟨p1, p2, p3, p4, p5⟩ := p
  refine ⟨⟨p1.x m1 m2, Nat.le_trans m2 p1.z, m3, m4, m5, ⟨(p2 263 _ (by omega)).trans m6.1, fun k hk => (p4 _ k).trans (m6.2 k hk)⟩, fun j hj => (m7 j hj).me (by have := (m5 j hj).1; omega) p1⟩, fun a b h1 h2 h3 => ?_, fun y j h1 h2 h3 h4 => ?_⟩
  · rw [p5 _ (by omega) (by omega) (by omega) (by omega)]; exact o a b h1 h2 h3
  · rw [p5 _ (by omega) (by omega) (by omega) (by omega)]; exact r y j h1 h2 h3 h4
def OpS (t : Hp) (X Y : Nat) (os : List Nat) : Prop := gI t 262 (X + 104) = (os.length : Int) ∧ (∀ k, k < os.length → gA t Y k = (gtN os k : Int)) ∧ (∀ s, s < 384 → gA t (X + 108) s = if s ∈ os then 1 else 0) ∧ os.Nodup ∧ ∀ s, s ∈ os → s < 384
def addO (os : List Nat) (s : Nat) : List Nat := if s ∈ os then os else os ++ [s]
set_option maxHeartbeats 200000 in
theorem addO_mem {os : List Nat} {s x : Nat} : x ∈ addO os s ↔ x ∈ os ∨ x = s := by
  unfold addO
  by_cases q : s ∈ os
  · rw [if_pos q]
    exact ⟨fun h => Or.inl h, fun h => h.elim id (fun e => by rw [e]; exact q)⟩
  · rw [if_neg q, List.mem_append]
    simp
set_option maxHeartbeats 200000 in
theorem pig : ∀ (N : Nat) (os : List Nat), os.Nodup → (∀ s, s ∈ os → s < N) → os.length ≤ N := by
  intro N
  induction N with
  | zero =>
    intro os _ h
    cases os with
    | nil => exact Nat.le_refl _
    | cons a os => exact absurd (h a (by simp)) (by omega)
  | succ N ih =>
    intro os nd h
    by_cases q : N ∈ os
    · have e := List.length_erase_of_mem q
      have := ih (os.erase N) (nd.erase N) (fun s hs => by
        have h1 := (nd.mem_erase_iff.mp hs)
        have := h s h1.2
        have := h1.1
        omega)
      omega
    · have := ih os nd (fun s hs => by
        have := h s hs
        have : s ≠ N := fun e => q (by rw [← e]; exact hs)
        omega)
      omega
set_option maxHeartbeats 200000 in
theorem xAO {h : Hp} {X Y s : Nat} {c : Nat → Int} {l : List Nat} {os : List Nat} (m : MT h X c l) (rY : gR h 260 (X + 104) = some Y) (hY : Y = X + 109 ∨ Y = X + 110) (o : OpS h X Y os) (hs : s < 384) :
    ∃ t : Hp, (MO X h t ∧ OpS t X Y (addO os s) ∧ ∀ Z, Z ≠ Y → Z ≠ X + 108 → ∀ k, gA t Z k = gA h Z k) ∧ fX4_addOpen h (X + 104) (s : Int) = some t := by
  have H := m.1.1
  obtain ⟨o1, o2, o3, o4, o5⟩ := o
  have kY : hK h Y = (21, 384) := by rcases hY with e | e <;> rw [e]; exact H.k109; exact H.k110
  have k108 := H.k108
  unfold fX4_addOpen
  have g := o3 s hs
  unfold addO
  by_cases q : s ∈ os
  · rw [if_pos q] at g ⊢
    refine ⟨h, ⟨MO.rf h, ⟨o1, o2, o3, o4, o5⟩, fun _ _ _ _ => rfl⟩, ?_⟩
    refine gdg m.1.k (nng (r259 H) (gdg (by rw [k108]) (gdg (by rw [k108]; show 0 ≤ _ ∧ _ < (384 : Int); omega) (iteF ?_ rfl))))
    rw [show ((s : Int)).toNat = s from rfl, g]; omega
  · rw [if_neg q] at g ⊢
    have nd : (os ++ [s]).Nodup := by
      rw [List.nodup_append]
      exact ⟨o4, by simp, fun a ha b hb => by
        have hb : b = s := by simpa using hb
        rw [hb]; exact fun e => q (by rw [← e]; exact ha)⟩
    have b384 : ∀ x, x ∈ os ++ [s] → x < 384 := fun x hx => by
      rw [List.mem_append] at hx
      rcases hx with hx | hx
      · exact o5 x hx
      · have : x = s := by simpa using hx
        omega
    have lt := pig 384 (os ++ [s]) nd b384
    have ln : (os ++ [s]).length = os.length + 1 := by rw [List.length_append]; rfl
    have e6 : WE ((os.length : Int) + 1) := we (by omega) (by omega)
    have rs : rg (s : Int) := by unfold rg; omega
    have iY : ∃ i, Y = X + i ∧ (i = 109 ∨ i = 110) := by rcases hY with e | e; exact ⟨109, e, Or.inl rfl⟩; exact ⟨110, e, Or.inr rfl⟩
    obtain ⟨i, i1, i2⟩ := iY
    have mY : i ∈ E7 := by rcases i2 with e | e <;> rw [e] <;> decide
    refine ⟨pI (sA (sA h (X + 108) (s : Int) 1) Y (os.length : Int) (s : Int)) 262 (X + 104) ((os.length : Int) + 1), ⟨((mo_sA h 108 rfl (by decide) (by omega)).tr (mo_sA _ i i1 mY (by omega))).tr (mo_262 _), ⟨?_, fun k hk => ?_, fun x hx => ?_, nd, b384⟩, fun Z n1 n2 k => ?_⟩, ?_⟩
    · rw [gI_pIs (by unfold rg; omega), ln]; omega
    · rw [gA_pI, gA_sA]
      by_cases y : k = os.length
      · rw [if_pos ⟨rfl, by omega⟩, w32_of rs, y, gtN_r]
      · rw [if_neg (fun zz => y (by have := zz.2; omega)), gA_sA, if_neg (by omega), gtN_l (by omega)]
        exact o2 k (by omega)
    · rw [gA_pI, gA_sA, if_neg (by omega), gA_sA]
      by_cases y : x = s
      · rw [if_pos ⟨rfl, by omega⟩, if_pos (by rw [y]; simp)]
        exact w32_of (rg_lit rfl)
      · rw [if_neg (fun zz => y (by have := zz.2; omega)), o3 x hx]
        by_cases y2 : x ∈ os
        · rw [if_pos y2, if_pos (by simp [y2])]
        · rw [if_neg y2, if_neg (by simp [y2, y])]
    · rw [gA_pI, gA_sA, if_neg (fun zz => n1 zz.1), gA_sA, if_neg (fun zz => n2 zz.1)]
    · refine gdg m.1.k (nng (r259 H) (gdg (by rw [k108]) (gdg (by rw [k108]; show 0 ≤ _ ∧ _ < (384 : Int); omega) (iteT ?_ (iteT (by omega) (gdg (by rw [k108]; show 0 ≤ _ ∧ _ < (384 : Int); omega) (ltg (nng (q := Y) rY (gdg (by show (hK h Y).1 = 21; rw [kY]) (gdg ?_ ?_))))))))))
      · rw [show ((s : Int)).toNat = s from rfl, g]
      · show 0 ≤ gI h 262 (X + 104) ∧ gI h 262 (X + 104) < ((hK h Y).2 : Int)
        rw [kY, o1]; show 0 ≤ _ ∧ _ < (384 : Int); omega
      · rw [gI_sA, o1, lt_d, gI_sA, gI_sA, o1, e6.e]
        rfl
