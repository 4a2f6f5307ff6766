/-! QUERIES, tenth lot: pieced (written by wip/whole/g53.py) -/
set_option maxHeartbeats 200000 in
theorem sr_ge {n n' : Int} {L L' : Int → Int} {p v : Int} {m : Nat} (hm : m ≤ 1001) : (m : Int) ≤ srS n L n' L' p v ↔ ∀ k, k < m → srB n L n' L' p v k = true := by
  obtain ⟨r1, r2, r3, r4⟩ := rn_spec (srB n L n' L' p v) 1001 0
  unfold srS
  constructor
  · intro h k hk
    exact r3 k (by omega) (by omega)
  · intro h
    apply Int.not_lt.mp
    intro z
    have := r4 (by omega)
    rw [h (rn 1001 0 (srB n L n' L' p v)) (by omega)] at this
    cases this
/-- the longest stretch of sound s from p on that stands in what is HEARD of one jar -/
def loP (c : Nat → Int) (s : Int) (p : Nat) : Int := mx (c 2).toNat (fun j => stR (c (4 + s).toNat) (sL c s) (hN c (j : Int)) (hL c (j : Int)) (p : Int))
set_option maxHeartbeats 200000 in
/-- is the stretch HEARD at v of jar j -/
theorem rHs {c : Nat → Int} {s : Int} {p m j v : Nat} (w : WF c) (s0 : 0 ≤ s) (s8 : s < 8) (j8 : j < 8) (hv : (v : Int) + m ≤ hN c (j : Int)) (hp : (p : Int) + m ≤ c (4 + s).toNat) (k3 : Int → Option Int) (k17 : Int → Int → Option Int) :
    fX12_isHeard_b38 c s (p : Int) ((p : Int) + m) k3 k17 FU (j : Int) (v : Int) 1 (p : Int) = if ab m (fun x => sL c s ((p : Int) + (x : Int)) == hL c (j : Int) ((v : Int) + (x : Int))) = true then some 1 else k17 (j : Int) ((v : Int) + 1) := by
  have ws := w.sl s0 s8
  have wh := hN_bd w (j := (j : Int)) (by omega) (by omega)
  have ev : WE ((v : Int) + 1) := we (by omega) (by omega)
  have key := flag (fun fu x f => fX12_isHeard_b38 c s (p : Int) ((p : Int) + m) k3 k17 fu (j : Int) (v : Int) f ((p : Int) + x)) (fun f => fX12_isHeard_b85 c s (p : Int) ((p : Int) + m) k3 k17 (j : Int) (v : Int) f) m (fun x => sL c s ((p : Int) + (x : Int)) == hL c (j : Int) ((v : Int) + (x : Int))) (by omega)
    (fun fu x hx => by
      have e5 : WE ((p : Int) + (x : Int) + 1) := we (by omega) (by omega)
      have e6 : WE ((v : Int) + ((p : Int) + (x : Int))) := we (by omega) (by omega)
      have e7 : WE ((v : Int) + ((p : Int) + (x : Int)) - (p : Int)) := we (by omega) (by omega)
      show fX12_isHeard_b38 c s (p : Int) ((p : Int) + m) k3 k17 (fu + 1) (j : Int) (v : Int) 1 ((p : Int) + (x : Int)) = fX12_isHeard_b38 c s (p : Int) ((p : Int) + m) k3 k17 fu (j : Int) (v : Int) (if (sL c s ((p : Int) + (x : Int)) == hL c (j : Int) ((v : Int) + (x : Int))) = true then 1 else 0) ((p : Int) + ((x : Int) + 1))
      rw [fX12_isHeard_b38.eq_2, e6.e, e7.e, show (v : Int) + ((p : Int) + (x : Int)) - (p : Int) = (v : Int) + (x : Int) by omega]
      refine iteT (by omega) (iteF (by omega) (bdg (rSnd s0 s8 (by omega) (by omega) (by omega)) (bdg (rLet w (by omega) (by omega) (by omega) (by omega)) ?_)))
      rw [lt_d, lt_d, e5.e, eqb_ite, Int.add_assoc])
    (fun fu x hx => by
      show fX12_isHeard_b38 c s (p : Int) ((p : Int) + m) k3 k17 (fu + 1) (j : Int) (v : Int) 0 ((p : Int) + (x : Int)) = _
      rw [fX12_isHeard_b38.eq_2]
      by_cases q : (p : Int) + (x : Int) < (p : Int) + m
      · exact iteT q (iteT rfl rfl)
      · exact iteF q rfl)
    (fun fu => by
      show fX12_isHeard_b38 c s (p : Int) ((p : Int) + m) k3 k17 (fu + 1) (j : Int) (v : Int) 1 ((p : Int) + (m : Int)) = _
      rw [fX12_isHeard_b38.eq_2]
      exact iteF (by omega) rfl)
  have key : fX12_isHeard_b38 c s (p : Int) ((p : Int) + m) k3 k17 FU (j : Int) (v : Int) 1 ((p : Int) + 0) = fX12_isHeard_b85 c s (p : Int) ((p : Int) + m) k3 k17 (j : Int) (v : Int) (if ab m (fun x => sL c s ((p : Int) + (x : Int)) == hL c (j : Int) ((v : Int) + (x : Int))) = true then 1 else 0) := key
  rw [Int.add_zero] at key
  rw [key, fX12_isHeard_b85, lt_d, ev.e]
  by_cases q : ab m (fun x => sL c s ((p : Int) + (x : Int)) == hL c (j : Int) ((v : Int) + (x : Int))) = true
  · rw [if_pos q, if_pos q]
    exact iteF (by omega) rfl
  · rw [if_neg q, if_neg q]
    exact iteT rfl rfl
set_option maxHeartbeats 200000 in
theorem sr_ab {c : Nat → Int} {s : Int} {p m j v : Nat} (hm : m ≤ 16) (hv : (v : Int) + m ≤ hN c (j : Int)) (hp : (p : Int) + m ≤ c (4 + s).toNat) : (m : Int) ≤ srS (c (4 + s).toNat) (sL c s) (hN c (j : Int)) (hL c (j : Int)) (p : Int) (v : Int) ↔ ab m (fun x => sL c s ((p : Int) + (x : Int)) == hL c (j : Int) ((v : Int) + (x : Int))) = true := by
  rw [sr_ge (by omega), ab_iff]
  constructor
  · intro h k hk
    have := h k hk
    unfold srB at this
    simp only [Bool.and_eq_true, decide_eq_true_eq] at this
    exact this.2
  · intro h k hk
    have := h k hk
    unfold srB
    simp only [Bool.and_eq_true, decide_eq_true_eq]
    exact ⟨⟨by omega, by omega⟩, this⟩
set_option maxHeartbeats 200000 in
theorem sr_out {n n' : Int} {L L' : Int → Int} {p v : Int} {m : Nat} (m0 : 0 < m) (hm : m ≤ 1001) (h : n' < v + m) : srS n L n' L' p v < (m : Int) := by
  apply Int.not_le.mp
  intro z
  have := (sr_ge hm).mp z (m - 1) (by omega)
  unfold srB at this
  simp only [Bool.and_eq_true, decide_eq_true_eq] at this
  omega
set_option maxHeartbeats 200000 in
/-- ISHEARD, in the reference -/
theorem rIsH {c : Nat → Int} {s : Int} {p m : Nat} (w : WF c) (s0 : 0 ≤ s) (s8 : s < 8) (m0 : 0 < m) (hp : (p : Int) + m ≤ c (4 + s).toNat) :
    fX12_isHeard c s (p : Int) ((p : Int) + m) = some (if (m : Int) ≤ loP c s p then 1 else 0) := by
  have ws := w.sl s0 s8
  have hj := w.nj
  unfold fX12_isHeard loP
  refine (fke (S := Unit) (fun fu j _ => fX12_isHeard_b3 c s (p : Int) ((p : Int) + m) fu j) some (c 2).toNat (fun i _ => ∀ k, k < i → stR (c (4 + s).toNat) (sL c s) (hN c (k : Int)) (hL c (k : Int)) (p : Int) < (m : Int)) (if (m : Int) ≤ mx (c 2).toNat (fun j => stR (c (4 + s).toNat) (sL c s) (hN c (j : Int)) (hL c (j : Int)) (p : Int)) then 1 else 0) 0 () (by omega) (fun k hk => absurd hk (by omega)) (by omega) ?_ ?_ : _)
  · intro fu j _ hi hI
    have wh := hN_bd w (j := (j : Int)) (by omega) (by omega)
    have ej : WE ((j : Int) + 1) := we (by omega) (by omega)
    have inner : fX12_isHeard_b17 c s (p : Int) ((p : Int) + m) (fX12_isHeard_b3 c s (p : Int) ((p : Int) + m) fu) FU (j : Int) 0 = if (m : Int) ≤ stR (c (4 + s).toNat) (sL c s) (hN c (j : Int)) (hL c (j : Int)) (p : Int) then some 1 else fX12_isHeard_b3 c s (p : Int) ((p : Int) + m) fu ((j : Int) + 1) := by
      refine (fke (S := Unit) (fun fu2 v _ => fX12_isHeard_b17 c s (p : Int) ((p : Int) + m) (fX12_isHeard_b3 c s (p : Int) ((p : Int) + m) fu) fu2 (j : Int) v) (fun (z : Option Int) => z) (hN c (j : Int) - m + 1).toNat (fun i _ => ∀ k, k < i → srS (c (4 + s).toNat) (sL c s) (hN c (j : Int)) (hL c (j : Int)) (p : Int) (k : Int) < (m : Int)) (if (m : Int) ≤ stR (c (4 + s).toNat) (sL c s) (hN c (j : Int)) (hL c (j : Int)) (p : Int) then some 1 else fX12_isHeard_b3 c s (p : Int) ((p : Int) + m) fu ((j : Int) + 1)) 0 () (by omega) (fun k hk => absurd hk (by omega)) (by omega) ?_ ?_ : _)
      · intro fu2 v _ hv hJ
        have e1 : WE ((v : Int) + ((p : Int) + m)) := we (by omega) (by omega)
        have e2 : WE ((v : Int) + ((p : Int) + m) - (p : Int)) := we (by omega) (by omega)
        have hs := rHs (p := p) (m := m) (j := j) (v := v) w s0 s8 (by omega) (by omega) hp (fX12_isHeard_b3 c s (p : Int) ((p : Int) + m) fu) (fX12_isHeard_b17 c s (p : Int) ((p : Int) + m) (fX12_isHeard_b3 c s (p : Int) ((p : Int) + m) fu) fu2)
        have go : fX12_isHeard_b17 c s (p : Int) ((p : Int) + m) (fX12_isHeard_b3 c s (p : Int) ((p : Int) + m) fu) (fu2 + 1) (j : Int) (v : Int) = if ab m (fun x => sL c s ((p : Int) + (x : Int)) == hL c (j : Int) ((v : Int) + (x : Int))) = true then some 1 else fX12_isHeard_b17 c s (p : Int) ((p : Int) + m) (fX12_isHeard_b3 c s (p : Int) ((p : Int) + m) fu) fu2 (j : Int) ((v : Int) + 1) := by
          rw [fX12_isHeard_b17.eq_2, e1.e, e2.e]
          exact bdg (rNow w (by omega) (by omega)) (iteT (by omega) hs)
        have sab := sr_ab (c := c) (s := s) (p := p) (m := m) (j := j) (v := v) (by omega) (by omega) hp
        show _ ∨ fX12_isHeard_b17 c s (p : Int) ((p : Int) + m) (fX12_isHeard_b3 c s (p : Int) ((p : Int) + m) fu) (fu2 + 1) (j : Int) (v : Int) = _
        by_cases q : ab m (fun x => sL c s ((p : Int) + (x : Int)) == hL c (j : Int) ((v : Int) + (x : Int))) = true
        · right
          have g1 := sab.mpr q
          have g2 := mx_ge (n := (hN c (j : Int)).toNat) (f := fun q => srS (c (4 + s).toNat) (sL c s) (hN c (j : Int)) (hL c (j : Int)) (p : Int) (q : Int)) (k := v) (by omega)
          rw [go, if_pos q, if_pos (show (m : Int) ≤ stR (c (4 + s).toNat) (sL c s) (hN c (j : Int)) (hL c (j : Int)) (p : Int) from Int.le_trans g1 g2)]
        · left
          refine ⟨(), fun k hk => ?_, ?_⟩
          · rcases Nat.lt_succ_iff_lt_or_eq.mp hk with z | z
            · exact hJ k z
            · rw [z]
              exact Int.not_le.mp (fun y => q (sab.mp y))
          · show fX12_isHeard_b17 c s (p : Int) ((p : Int) + m) (fX12_isHeard_b3 c s (p : Int) ((p : Int) + m) fu) (fu2 + 1) (j : Int) (v : Int) = _
            rw [go, if_neg q]
      · intro fu2 _ hJ
        have e1 : WE ((((hN c (j : Int) - m + 1).toNat : Nat) : Int) + ((p : Int) + m)) := we (by omega) (by omega)
        have e2 : WE ((((hN c (j : Int) - m + 1).toNat : Nat) : Int) + ((p : Int) + m) - (p : Int)) := we (by omega) (by omega)
        have no : ¬ (m : Int) ≤ stR (c (4 + s).toNat) (sL c s) (hN c (j : Int)) (hL c (j : Int)) (p : Int) := by
          have b := mx_bd (n := (hN c (j : Int)).toNat) (f := fun q => srS (c (4 + s).toNat) (sL c s) (hN c (j : Int)) (hL c (j : Int)) (p : Int) (q : Int)) (b := (m : Int) - 1) (by omega) (fun k hk => by
            show srS (c (4 + s).toNat) (sL c s) (hN c (j : Int)) (hL c (j : Int)) (p : Int) (k : Int) ≤ (m : Int) - 1
            by_cases z : k < (hN c (j : Int) - m + 1).toNat
            · have := hJ k z; omega
            · have := sr_out (n := c (4 + s).toNat) (L := sL c s) (L' := hL c (j : Int)) (p := (p : Int)) (v := (k : Int)) (n' := hN c (j : Int)) m0 (by omega) (by omega); omega)
          have b : stR (c (4 + s).toNat) (sL c s) (hN c (j : Int)) (hL c (j : Int)) (p : Int) ≤ (m : Int) - 1 := b
          omega
        show fX12_isHeard_b17 c s (p : Int) ((p : Int) + m) (fX12_isHeard_b3 c s (p : Int) ((p : Int) + m) fu) (fu2 + 1) (j : Int) (((hN c (j : Int) - m + 1).toNat : Nat) : Int) = _
        rw [fX12_isHeard_b17.eq_2, e1.e, e2.e, if_neg no]
        refine bdg (rNow w (by omega) (by omega)) (iteF (by omega) ?_)
        rw [lt_d, ej.e]
    show _ ∨ fX12_isHeard_b3 c s (p : Int) ((p : Int) + m) (fu + 1) (j : Int) = _
    have go : fX12_isHeard_b3 c s (p : Int) ((p : Int) + m) (fu + 1) (j : Int) = if (m : Int) ≤ stR (c (4 + s).toNat) (sL c s) (hN c (j : Int)) (hL c (j : Int)) (p : Int) then some 1 else fX12_isHeard_b3 c s (p : Int) ((p : Int) + m) fu ((j : Int) + 1) := by
      rw [fX12_isHeard_b3.eq_2, show ((2 : Int)).toNat = 2 from rfl]
      exact gdg (by omega) (iteT (by omega) inner)
    by_cases q : (m : Int) ≤ stR (c (4 + s).toNat) (sL c s) (hN c (j : Int)) (hL c (j : Int)) (p : Int)
    · right
      have g2 := mx_ge (n := (c 2).toNat) (f := fun j => stR (c (4 + s).toNat) (sL c s) (hN c (j : Int)) (hL c (j : Int)) (p : Int)) (k := j) hi
      rw [go, if_pos q, if_pos (Int.le_trans q g2)]
    · left
      refine ⟨(), fun k hk => ?_, ?_⟩
      · rcases Nat.lt_succ_iff_lt_or_eq.mp hk with z | z
        · exact hI k z
        · rw [z]; exact Int.not_le.mp q
      · show fX12_isHeard_b3 c s (p : Int) ((p : Int) + m) (fu + 1) (j : Int) = _
        rw [go, if_neg q]
  · intro fu _ hI
    have b := mx_bd (n := (c 2).toNat) (f := fun j => stR (c (4 + s).toNat) (sL c s) (hN c (j : Int)) (hL c (j : Int)) (p : Int)) (b := (m : Int) - 1) (by omega) (fun k hk => by
      have := hI k hk
      show stR (c (4 + s).toNat) (sL c s) (hN c (k : Int)) (hL c (k : Int)) (p : Int) ≤ (m : Int) - 1
      omega)
    show fX12_isHeard_b3 c s (p : Int) ((p : Int) + m) (fu + 1) ((c 2).toNat : Int) = _
    rw [fX12_isHeard_b3.eq_2, show ((2 : Int)).toNat = 2 from rfl, if_neg (show ¬ (m : Int) ≤ mx (c 2).toNat (fun j => stR (c (4 + s).toNat) (sL c s) (hN c (j : Int)) (hL c (j : Int)) (p : Int)) by omega)]
    exact gdg (by omega) (iteF (by omega) rfl)
set_option maxHeartbeats 200000 in
/-- LONGESTPIECE, in the class -/
theorem xLoP {h : Hp} {X : Nat} {c : Nat → Int} {s : Int} {p S : Nat} (H : CX h X c) (f1 : gR h 717 X = some S) (qs : okS c s) (hp : p ≤ 16) :
    ∃ t : Hp, (QX X h t ∧ CX t X c ∧ On (fun b => X + 81 ≤ b ∧ b ≤ X + 96) h t) ∧ fX11_longestPiece h X (S + 3 + 3 * s.toNat) (p : Int) = some (loP c s p, t) := by
  have w := H.wf
  have hj := w.nj
  have s8 := ns_lt w qs
  have sx : ¬ sc X X := by unfold sc; omega
  unfold fX11_longestPiece
  have key := fk (S := Hp × Int) (T := Hp × Int) (fun fu v t => fX11_longestPiece_b5 X (S + 3 + 3 * s.toNat) (p : Int) fu t.1 t.2 v) (fun t => some (t.2, t.1)) (c 2).toNat (fun i t => QX X h t.1 ∧ CX t.1 X c ∧ On (fun b => X + 81 ≤ b ∧ b ≤ X + 96) h t.1 ∧ t.2 = mx i (fun j => stR (c (4 + s).toNat) (sL c s) (hN c (j : Int)) (hL c (j : Int)) (p : Int))) (fun t => (QX X h t.1 ∧ CX t.1 X c ∧ On (fun b => X + 81 ≤ b ∧ b ≤ X + 96) h t.1) ∧ t.2 = loP c s p) 0 (h, 0) (by omega) ⟨QR.rf h, H, On.rf h, rfl⟩ (by omega)
    (fun fu i t hi hI => by
      obtain ⟨h1, v⟩ := t
      obtain ⟨p1, p2, p4, p3⟩ := hI
      have p1 : QX X h h1 := p1
      have p2 : CX h1 X c := p2
      have p3 : v = mx i (fun j => stR (c (4 + s).toNat) (sL c s) (hN c (j : Int)) (hL c (j : Int)) (p : Int)) := p3
      have e5 : WE ((i : Int) + 1) := we (by omega) (by omega)
      obtain ⟨S1, u1, u2, u3, u4, u5, -⟩ := p2.shop
      have eS : some S1 = some S := by rw [← u1, ← f1]; exact p1.r sx
      cases eS
      obtain ⟨h', g1, g2, g3, g4, g5, g6⟩ := p2.hearV (k := (i : Int)) ⟨by omega, by omega⟩
      obtain ⟨S', t1, t2, t3, t4, t5, t6, t7, t8⟩ := g3.snd qs
      have eS2 : some S' = some S := by rw [← t1, ← u1]; exact g2.r sx
      cases eS2
      left
      refine ⟨(h', mx (i + 1) (fun j => stR (c (4 + s).toNat) (sL c s) (hN c (j : Int)) (hL c (j : Int)) (p : Int))), ⟨p1.tr g2, g3, p4.tr (g6.mono (fun b hb => by rw [hb]; omega)), rfl⟩, ?_⟩
      show fX11_longestPiece_b5 X (S + 3 + 3 * s.toNat) (p : Int) (fu + 1) h1 v (i : Int) = fX11_longestPiece_b5 X (S + 3 + 3 * s.toNat) (p : Int) fu h' _ ((i : Int) + 1)
      rw [fX11_longestPiece_b5.eq_2, p3]
      refine gdg p2.k (nng u1 (gdg u2 (iteT (by omega) (bd2g g1 (gdg t7.1 (bdg (xStr t7.v g4.v (by omega) (by omega)) ?_))))))
      rw [lt_d, lt_d, e5.e]
      rfl)
    (fun fu t hI => by
      obtain ⟨h1, v⟩ := t
      obtain ⟨p1, p2, p4, p3⟩ := hI
      have p2 : CX h1 X c := p2
      obtain ⟨S1, u1, u2, u3, u4, u5, -⟩ := p2.shop
      refine ⟨(h1, v), ⟨⟨p1, p2, p4⟩, p3⟩, ?_⟩
      show fX11_longestPiece_b5 X (S + 3 + 3 * s.toNat) (p : Int) (fu + 1) h1 v ((c 2).toNat : Int) = _
      rw [fX11_longestPiece_b5.eq_2]
      exact gdg p2.k (nng u1 (gdg u2 (iteF (by omega) rfl))))
  obtain ⟨t, ⟨k1, k2⟩, k3⟩ := key
  refine ⟨t.1, k1, ?_⟩
  rw [← k2]
  exact k3
