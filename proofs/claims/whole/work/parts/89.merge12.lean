/-! MERGED ROWS, in the class: one letter on -/
set_option maxHeartbeats 200000 in
theorem gtN_ex {l : List Nat} {s : Nat} (h : s ∈ l) : ∃ k, k < l.length ∧ gtN l k = s := by
  obtain ⟨k, k1, k2⟩ := List.mem_iff_getElem.mp h
  refine ⟨k, k1, ?_⟩
  unfold gtN
  rw [List.getD_eq_getElem?_getD, List.getElem?_eq_getElem k1]
  exact k2
set_option maxHeartbeats 200000 in
theorem MT.me {h t : Hp} {X : Nat} {c : Nat → Int} {l : List Nat} (m : MT h X c l) (p1 : ME X h t) (p2 : gI t 263 (X + 104) = gI h 263 (X + 104)) (p4 : ∀ i, gC t (X + 105) i = gC h (X + 105) i) (p5 : ∀ i, gA t (X + 106) i = gA h (X + 106) i) (p6 : ∀ i, gA t (X + 107) i = gA h (X + 107) i) : MT t X c l := by
  obtain ⟨⟨m1, m2, m3, m4, m5, m6, m7⟩, o, r⟩ := m
  have nj := m3.nj
  exact ⟨⟨p1.x m1 m2, Nat.le_trans m2 p1.z, m3, m4, m5, ⟨p2.trans m6.1, fun k hk => (p4 k).trans (m6.2 k hk)⟩, fun j hj => (m7 j hj).me (by have := (m5 j hj).1; omega) p1⟩, fun a b h1 h2 h3 => by rw [p5]; exact o a b h1 h2 h3, fun y j h1 h2 h3 h4 => by rw [p6]; exact r y j h1 h2 h3 h4⟩
def flw (c : Nat → Int) (l os : List Nat) (lt left : Int) : Nat → List Nat
  | 0 => []
  | k + 1 => if ltr c l (gtN os k) left = lt then (if plc c l (gtN os k) left + 1 < (ptZ c l (gtN os k % 6) : Int) then addO (flw c l os lt left k) (gtN os k) else nxL c l (gtN os k / 6) (gtN os k % 6) l.length (flw c l os lt left k)) else flw c l os lt left k
set_option maxHeartbeats 200000 in
/-- the old states are closed -/
theorem xCls {h : Hp} {X Y : Nat} {c : Nat → Int} {l os : List Nat} {a1 left : Int} (m : MT h X c l) (hY : Y = X + 109 ∨ Y = X + 110) (o2 : ∀ k, k < os.length → gA h Y k = (gtN os k : Int)) (o3 : ∀ s, s < 384 → gA h (X + 108) s = if s ∈ os then 1 else 0) (o4 : os.Nodup) (o5 : ∀ s, s ∈ os → s < 384) :
    ∃ t : Hp, (MO X h t ∧ (∀ f a, gI t f a = gI h f a) ∧ (∀ Z, Z ≠ X + 108 → ∀ k, gA t Z k = gA h Z k) ∧ ∀ s, s < 384 → gA t (X + 108) s = 0) ∧ fX4_follow_b32 (X + 104) a1 left FU h Y (os.length : Int) 0 = fX4_follow_b58 (X + 104) a1 left FU t Y (os.length : Int) 0 := by
  have lt := pig 384 os o4 o5
  exact fk (S := Hp) (T := Hp) (fun fu i t => fX4_follow_b32 (X + 104) a1 left fu t Y (os.length : Int) i) (fun t => fX4_follow_b58 (X + 104) a1 left FU t Y (os.length : Int) 0) os.length
    (fun i t => MO X h t ∧ (∀ f a, gI t f a = gI h f a) ∧ (∀ Z, Z ≠ X + 108 → ∀ k, gA t Z k = gA h Z k) ∧ ∀ s, s < 384 → gA t (X + 108) s = 0 ∨ (gA t (X + 108) s = gA h (X + 108) s ∧ ∀ k, k < i → gtN os k ≠ s)) (fun t => MO X h t ∧ (∀ f a, gI t f a = gI h f a) ∧ (∀ Z, Z ≠ X + 108 → ∀ k, gA t Z k = gA h Z k) ∧ ∀ s, s < 384 → gA t (X + 108) s = 0) 0 h (by omega) ⟨MO.rf h, fun _ _ => rfl, fun _ _ _ => rfl, fun s _ => Or.inr ⟨rfl, fun k hk => absurd hk (by omega)⟩⟩ (by omega)
    (fun fu i t hi hI => by
      obtain ⟨p1, p2, p3, p4⟩ := hI
      have e5 : WE ((i : Int) + 1) := we (by omega) (by omega)
      have mt := m.mo p1
      have H := mt.1.1
      have kY : hK t Y = (21, 384) := by rcases hY with e | e <;> rw [e]; exact H.k109; exact H.k110
      have s8 := o5 _ (gtN_mem hi)
      have gy : gA t Y i = (gtN os i : Int) := (p3 Y (by omega) i).trans (o2 i hi)
      left
      refine ⟨sA t (X + 108) (gtN os i : Int) 0, ⟨p1.tr (mo_sA t 108 rfl (by decide) (by omega)), fun f a => by rw [gI_sA]; exact p2 f a, fun Z hz k => ?_, fun s hs => ?_⟩, ?_⟩
      · rw [gA_sA, if_neg (fun zz => hz zz.1)]; exact p3 Z hz k
      · rw [gA_sA]
        by_cases y : s = gtN os i
        · left; rw [if_pos ⟨rfl, by omega⟩]; exact w32_of (rg_lit rfl)
        · rw [if_neg (fun zz => y (by have := zz.2; omega))]
          rcases p4 s hs with z | ⟨z1, z2⟩
          · exact Or.inl z
          · refine Or.inr ⟨z1, fun k hk => ?_⟩
            rcases Nat.lt_succ_iff_lt_or_eq.mp hk with w | w
            · exact z2 k w
            · rw [w]; exact fun e => y e.symm
      · show fX4_follow_b32 (X + 104) a1 left (fu + 1) t Y (os.length : Int) (i : Int) = _
        rw [fX4_follow_b32.eq_2]
        refine iteT (by omega) (gdg mt.1.k (nng (r259 H) (gdg (by rw [kY]) (gdg (by rw [kY]; show 0 ≤ _ ∧ _ < (384 : Int); omega) (gdg (by rw [H.k108]) ?_)))))
        rw [show ((i : Int)).toNat = i from rfl, gy]
        refine gdg (by rw [H.k108]; show 0 ≤ _ ∧ _ < (384 : Int); omega) ?_
        rw [lt_d, lt_d, e5.e])
    (fun fu t hI => by
      obtain ⟨p1, p2, p3, p4⟩ := hI
      refine ⟨t, ⟨p1, p2, p3, fun s hs => ?_⟩, ?_⟩
      · rcases p4 s hs with z | ⟨z1, z2⟩
        · exact z
        · rw [z1, o3 s hs, if_neg (fun q => by obtain ⟨k, k1, k2⟩ := gtN_ex q; exact z2 k k1 k2)]
      · show fX4_follow_b32 (X + 104) a1 left (fu + 1) t Y (os.length : Int) (os.length : Int) = _
        rw [fX4_follow_b32.eq_2]
        exact iteF (by omega) rfl)
set_option maxHeartbeats 200000 in
theorem xFw {h : Hp} {X Y Z : Nat} {c : Nat → Int} {l os : List Nat} {a1 left : Int} (m : MT h X c l) (rY : gR h 260 (X + 104) = some Y) (rZ : gR h 261 (X + 104) = some Z) (hYZ : (Y = X + 109 ∧ Z = X + 110) ∨ (Y = X + 110 ∧ Z = X + 109)) (o : OpS h X Y os) (ok : ∀ s, s ∈ os → okT l s) (l0 : 0 ≤ left ∧ left ≤ 1000000) :
    ∃ t : Hp, (ME X h t ∧ MT t X c l ∧ gR t 260 (X + 104) = some Z ∧ gR t 261 (X + 104) = some Y ∧ OpS t X Z (flw c l os a1 left os.length) ∧ (∀ f a, ¬ (f = 262 ∧ a = X + 104) → gI t f a = gI h f a) ∧ ∀ k, gA t (X + 112) k = gA h (X + 112) k) ∧ fX4_follow h (X + 104) a1 left = some t := by
  have H := m.1.1
  obtain ⟨o1, o2, o3, o4, o5⟩ := o
  have hY : Y = X + 109 ∨ Y = X + 110 := by omega
  have hZ' : Z = X + 109 ∨ Z = X + 110 := by omega
  have ne : Y ≠ Z := by omega
  have me7 : ME X h (pI (pR (pR h 260 (X + 104) Z) 261 (X + 104) Y) 262 (X + 104) 0) := ((me_pR h 104 rfl (by decide) (by omega)).tr (me_pR _ 104 rfl (by decide) (by omega))).tr (me_pI _ 104 rfl (by decide) (by omega))
  have m7 : MT (pI (pR (pR h 260 (X + 104) Z) 261 (X + 104) Y) 262 (X + 104) 0) X c l := m.me me7 (gI_n (by omega)) (fun _ => rfl) (fun _ => rfl) (fun _ => rfl)
  have r60 : gR (pI (pR (pR h 260 (X + 104) Z) 261 (X + 104) Y) 262 (X + 104) 0) 260 (X + 104) = some Z := by
    show gR (pR (pR h 260 (X + 104) Z) 261 (X + 104) Y) 260 (X + 104) = some Z
    rw [gR_n (by omega)]; exact gR_s
  have r61 : gR (pI (pR (pR h 260 (X + 104) Z) 261 (X + 104) Y) 262 (X + 104) 0) 261 (X + 104) = some Y := gR_s
  have i62 : gI (pI (pR (pR h 260 (X + 104) Z) 261 (X + 104) Y) 262 (X + 104) 0) 262 (X + 104) = 0 := gI_pIs (rg_lit rfl)
  have iot : ∀ f a, ¬ (f = 262 ∧ a = X + 104) → gI (pI (pR (pR h 260 (X + 104) Z) 261 (X + 104) Y) 262 (X + 104) 0) f a = gI h f a := fun f a n => by
    rw [gI_pI, if_neg n]; rfl
  have a7 : ∀ a k, gA (pI (pR (pR h 260 (X + 104) Z) 261 (X + 104) Y) 262 (X + 104) 0) a k = gA h a k := fun _ _ => rfl
  have ef : fX4_follow h (X + 104) a1 left = fX4_follow_b32 (X + 104) a1 left FU (pI (pR (pR h 260 (X + 104) Z) 261 (X + 104) Y) 262 (X + 104) 0) Y (os.length : Int) 0 := by
    unfold fX4_follow
    refine gdg m.1.k (nng rY ?_)
    rw [lt_d, o1]
    refine nng rZ ?_
    rw [lt_d, lt_d, lt_d]
  rw [ef]
  generalize pI (pR (pR h 260 (X + 104) Z) 261 (X + 104) Y) 262 (X + 104) 0 = h7 at me7 m7 r60 r61 i62 iot a7
  obtain ⟨u, ⟨u1, u2, u3, u4⟩, u5⟩ := xCls (a1 := a1) (left := left) m7 hY (fun k hk => (a7 Y k).trans (o2 k hk)) (fun s hs => (a7 _ s).trans (o3 s hs)) o4 o5
  rw [u5]
  have mu := m7.mo u1
  have ou : OpS u X Z [] := ⟨(u2 _ _).trans i62, fun k hk => absurd hk (by show ¬ k < 0; omega), fun s hs => by rw [u4 s hs]; simp, List.nodup_nil, fun s hs => absurd hs (by simp)⟩
  have lt := pig 384 os o4 o5
  have key := fk (S := Hp) (T := Hp) (fun fu i t => fX4_follow_b58 (X + 104) a1 left fu t Y (os.length : Int) i) some os.length
    (fun i t => MO X u t ∧ OpS t X Z (flw c l os a1 left i) ∧ ∀ V, V ≠ Z → V ≠ X + 108 → ∀ k, gA t V k = gA u V k) (fun t => MO X u t ∧ OpS t X Z (flw c l os a1 left os.length) ∧ ∀ V, V ≠ Z → V ≠ X + 108 → ∀ k, gA t V k = gA u V k) 0 u (by omega) ⟨MO.rf u, ou, fun _ _ _ _ => rfl⟩ (by omega)
    (fun fu i t hi hI => by
      obtain ⟨p1, p2, p3⟩ := hI
      have e5 : WE ((i : Int) + 1) := we (by omega) (by omega)
      have mt := mu.mo p1
      have Ht := mt.1.1
      have n6 := m.1.six
      have kY : hK t Y = (21, 384) := by rcases hY with e | e <;> rw [e]; exact Ht.k109; exact Ht.k110
      have oks := ok _ (gtN_mem hi)
      have s8 := (okT_lt n6 oks).1
      have gy : gA t Y i = (gtN os i : Int) := by rw [p3 Y ne (by omega), u3 Y (by omega), a7]; exact o2 i hi
      have lo := xLO mt oks l0
      have pl := xPl mt oks l0
      have tZ : gR t 260 (X + 104) = some Z := by rw [p1.2.2.1, u1.2.2.1]; exact r60
      have e122 : ∀ t', fX4_follow_b122 (X + 104) a1 left (fX4_follow_b58 (X + 104) a1 left fu) t' Y (os.length : Int) (i : Int) = fX4_follow_b58 (X + 104) a1 left fu t' Y (os.length : Int) ((i : Int) + 1) := fun t' => by rw [fX4_follow_b122, lt_d, e5.e]
      have st : flw c l os a1 left (i + 1) = if ltr c l (gtN os i) left = a1 then (if plc c l (gtN os i) left + 1 < (ptZ c l (gtN os i % 6) : Int) then addO (flw c l os a1 left i) (gtN os i) else nxL c l (gtN os i / 6) (gtN os i % 6) l.length (flw c l os a1 left i)) else flw c l os a1 left i := rfl
      have mv := mt.1.v oks.1
      have sz := (mt.1.T.2.1 _ oks.1)
      have e1 : irm (gtN os i : Int) 6 = ((gtN os i % 6 : Nat) : Int) := irm_n (b := 6) (by omega) (by omega) (by omega)
      have rb := rsC_bd mt.1 (gtN os i / 6) (gtN os i % 6)
      have e6 : WE (plc c l (gtN os i) left + 1) := we (by unfold plc; omega) (by unfold plc; omega)
      left
      show ∃ s', _ ∧ fX4_follow_b58 (X + 104) a1 left (fu + 1) t Y (os.length : Int) (i : Int) = _
      rw [fX4_follow_b58.eq_2]
      by_cases y1 : ltr c l (gtN os i) left = a1
      · rw [if_pos y1] at st
        by_cases y2 : plc c l (gtN os i) left + 1 < (ptZ c l (gtN os i % 6) : Int)
        · rw [if_pos y2] at st
          obtain ⟨t', ⟨z1, z2, z3⟩, z4⟩ := xAO mt tZ hZ' p2 s8
          refine ⟨t', ⟨p1.tr z1, by rw [st]; exact z2, fun V n1 n2 k => (z3 V n1 n2 k).trans (p3 V n1 n2 k)⟩, ?_⟩
          refine iteT (by omega) (gdg (by rw [kY]) (gdg (by rw [kY]; show 0 ≤ _ ∧ _ < (384 : Int); omega) ?_))
          rw [show ((i : Int)).toNat = i from rfl, gy, lt_d, e1]
          refine gdg mt.1.k (bdg lo (iteT y1 (bdg pl (nng (r256 Ht) (gdg (by rw [Ht.k105]) (gdg (by rw [Ht.k105]; show 0 ≤ _ ∧ _ < (6 : Int); omega) (nng (mt.1.p oks.1) (gdg mv.k ?_))))))))
          rw [e6.e]
          refine iteT ?_ (bdg z4 (e122 t'))
          rw [show (((gtN os i % 6 : Nat) : Int)).toNat = gtN os i % 6 from rfl, mv.z, ← sz.2.1]; exact y2
        · rw [if_neg y2] at st
          obtain ⟨t', ⟨z1, z2, z3⟩, z4⟩ := xNx mt tZ hZ' p2 oks
          refine ⟨t', ⟨p1.tr z1, by rw [st]; exact z2, fun V n1 n2 k => (z3 V n1 n2 k).trans (p3 V n1 n2 k)⟩, ?_⟩
          refine iteT (by omega) (gdg (by rw [kY]) (gdg (by rw [kY]; show 0 ≤ _ ∧ _ < (384 : Int); omega) ?_))
          rw [show ((i : Int)).toNat = i from rfl, gy, lt_d, e1]
          refine gdg mt.1.k (bdg lo (iteT y1 (bdg pl (nng (r256 Ht) (gdg (by rw [Ht.k105]) (gdg (by rw [Ht.k105]; show 0 ≤ _ ∧ _ < (6 : Int); omega) (nng (mt.1.p oks.1) (gdg mv.k ?_))))))))
          rw [e6.e]
          refine iteF ?_ (bdg z4 (e122 t'))
          rw [show (((gtN os i % 6 : Nat) : Int)).toNat = gtN os i % 6 from rfl, mv.z, ← sz.2.1]; exact y2
      · rw [if_neg y1] at st
        refine ⟨t, ⟨p1, by rw [st]; exact p2, p3⟩, ?_⟩
        refine iteT (by omega) (gdg (by rw [kY]) (gdg (by rw [kY]; show 0 ≤ _ ∧ _ < (384 : Int); omega) ?_))
        rw [show ((i : Int)).toNat = i from rfl, gy, lt_d]
        exact gdg mt.1.k (bdg lo (iteF y1 (e122 t))))
    (fun fu t hI => by
      refine ⟨t, hI, ?_⟩
      show fX4_follow_b58 (X + 104) a1 left (fu + 1) t Y (os.length : Int) (os.length : Int) = _
      rw [fX4_follow_b58.eq_2]
      exact iteF (by omega) rfl)
  obtain ⟨t, ⟨t1, t2, t3⟩, t4⟩ := key
  refine ⟨t, ⟨(me7.tr u1.1).tr t1.1, mu.mo t1, ?_, ?_, t2, fun f a n1 => ?_, fun k => ?_⟩, t4⟩
  · rw [t1.2.2.1, u1.2.2.1]; exact r60
  · rw [t1.2.2.1, u1.2.2.1]; exact r61
  · rw [t1.2.1 f a n1, u2, iot f a n1]
  · rw [t3 _ (by omega) (by omega), u3 _ (by omega), a7]
