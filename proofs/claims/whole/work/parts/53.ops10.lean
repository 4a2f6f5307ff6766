/-! QUERIES, tenth lot: pieced (written by wip/whole/g53.py) -/
set_option maxHeartbeats 200000 in
theorem sr_ge {n n' : Int} {L L' : Int → Int} {p v : Int} {m : Nat} (hm : m ≤ 1001) : (m : Int) ≤ srS n L n' L' p v ↔ ∀ k, k < m → srB n L n' L' p v k = true := by
  obtain ⟨r1, r2, r3, r4⟩ := rn_spec (srB n L n' L' p v) 1001 0
  unfold srS
  constructor
  · intro h k hk
    exact r3 k (by omega) (by omega)
  · intro h
    apply Int.not_lt.mp
    intro z
    have := r4 (by omega)
    rw [h (rn 1001 0 (srB n L n' L' p v)) (by omega)] at this
    cases this
/-- the longest stretch of sound s from p on that stands in what is HEARD of one jar -/
def loP (c : Nat → Int) (s : Int) (p : Nat) : Int := mx (c 2).toNat (fun j => stR (c (4 + s).toNat) (sL c s) (hN c (j : Int)) (hL c (j : Int)) (p : Int))
set_option maxHeartbeats 200000 in
/-- is the stretch HEARD at v of jar j -/
theorem rHs {c : Nat → Int} {s : Int} {p m j v : Nat} (w : WF c) (s0 : 0 ≤ s) (s8 : s < 8) (j8 : j < 8) (hv : (v : Int) + m ≤ hN c (j : Int)) (hp : (p : Int) + m ≤ c (4 + s).toNat) (k3 : Int → Option Int) (k17 : Int → Int → Option Int) :
    fX12_isHeard_b38 c s (p : Int) ((p : Int) + m) k3 k17 FU (j : Int) (v : Int) 1 (p : Int) = if ab m (fun x => sL c s ((p : Int) + (x : Int)) == hL c (j : Int) ((v : Int) + (x : Int))) = true then some 1 else k17 (j : Int) ((v : Int) + 1) := by
  have ws := w.sl s0 s8
  have wh := hN_bd w (j := (j : Int)) (by omega) (by omega)
  have ev : WE ((v : Int) + 1) := we (by omega) (by omega)
  have key := flag (fun fu x f => fX12_isHeard_b38 c s (p : Int) ((p : Int) + m) k3 k17 fu (j : Int) (v : Int) f ((p : Int) + x)) (fun f => fX12_isHeard_b85 c s (p : Int) ((p : Int) + m) k3 k17 (j : Int) (v : Int) f) m (fun x => sL c s ((p : Int) + (x : Int)) == hL c (j : Int) ((v : Int) + (x : Int))) (by omega)
    (fun fu x hx => by
      have e5 : WE ((p : Int) + (x : Int) + 1) := we (by omega) (by omega)
      have e6 : WE ((v : Int) + ((p : Int) + (x : Int))) := we (by omega) (by omega)
      have e7 : WE ((v : Int) + ((p : Int) + (x : Int)) - (p : Int)) := we (by omega) (by omega)
      show fX12_isHeard_b38 c s (p : Int) ((p : Int) + m) k3 k17 (fu + 1) (j : Int) (v : Int) 1 ((p : Int) + (x : Int)) = fX12_isHeard_b38 c s (p : Int) ((p : Int) + m) k3 k17 fu (j : Int) (v : Int) (if (sL c s ((p : Int) + (x : Int)) == hL c (j : Int) ((v : Int) + (x : Int))) = true then 1 else 0) ((p : Int) + ((x : Int) + 1))
      rw [fX12_isHeard_b38.eq_2, e6.e, e7.e, show (v : Int) + ((p : Int) + (x : Int)) - (p : Int) = (v : Int) + (x : Int) by omega]
      refine iteT (by omega) (iteF (by omega) (bdg (rSnd s0 s8 (by omega) (by omega) (by omega)) (bdg (rLet w (by omega) (by omega) (by omega) (by omega)) ?_)))
      rw [lt_d, lt_d, e5.e, eqb_ite, Int.add_assoc])
    (fun fu x hx => by
      show fX12_isHeard_b38 c s (p : Int) ((p : Int) + m) k3 k17 (fu + 1) (j : Int) (v : Int) 0 ((p : Int) + (x : Int)) = _
      rw [fX12_isHeard_b38.eq_2]
      by_cases q : (p : Int) + (x : Int) < (p : Int) + m
      · exact iteT q (iteT rfl rfl)
      · exact iteF q rfl)
    (fun fu => by
      show fX12_isHeard_b38 c s (p : Int) ((p : Int) + m) k3 k17 (fu + 1) (j : Int) (v : Int) 1 ((p : Int) + (m : Int)) = _
      rw [fX12_isHeard_b38.eq_2]
      exact iteF (by omega) rfl)
  have key : fX12_isHeard_b38 c s (p : Int) ((p : Int) + m) k3 k17 FU (j : Int) (v : Int) 1 ((p : Int) + 0) = fX12_isHeard_b85 c s (p : Int) ((p : Int) + m) k3 k17 (j : Int) (v : Int) (if ab m (fun x => sL c s ((p : Int) + (x : Int)) == hL c (j : Int) ((v : Int) + (x : Int))) = true then 1 else 0) := key
  rw [Int.add_zero] at key
  rw [key, fX12_isHeard_b85, lt_d, ev.e]
  by_cases q : ab m (fun x => sL c s ((p : Int) + (x : Int)) == hL c (j : Int) ((v : Int) + (x : Int))) = true
  · rw [if_pos q, if_pos q]
    exact iteF (by omega) rfl
  · rw [if_neg q, if_neg q]
    exact iteT rfl rfl
set_option maxHeartbeats 200000 in
theorem sr_ab {c : Nat → Int} {s : Int} {p m j v : Nat} (hm : m ≤ 16) (hv : (v : Int) + m ≤ hN c (j : Int)) (hp : (p : Int) + m ≤ c (4 + s).toNat) : (m : Int) ≤ srS (c (4 + s).toNat) (sL c s) (hN c (j : Int)) (hL c (j : Int)) (p : Int) (v : Int) ↔ ab m (fun x => sL c s ((p : Int) + (x : Int)) == hL c (j : Int) ((v : Int) + (x : Int))) = true := by
  rw [sr_ge (by omega), ab_iff]
  constructor
  · intro h k hk
    have := h k hk
    unfold srB at this
    simp only [Bool.and_eq_true, decide_eq_true_eq] at this
    exact this.2
  · intro h k hk
    have := h k hk
    unfold srB
    simp only [Bool.and_eq_true, decide_eq_true_eq]
    exact ⟨⟨by omega, by omega⟩, this⟩
set_option maxHeartbeats 200000 in
theorem sr_out {n n' : Int} {L L' : Int → Int} {p v : Int} {m : Nat} (m0 : 0 < m) (hm : m ≤ 1001) (h : n' < v + m) : srS n L n' L' p v < (m : Int) := by
  apply Int.not_le.mp
  intro z
  have := (sr_ge hm).mp z (m - 1) (by omega)
  unfold srB at this
  simp only [Bool.and_eq_true, decide_eq_true_eq] at this
  omega
set_option maxHeartbeats 200000 in
/-- ISHEARD, in the reference -/
theorem rIsH {c : Nat → Int} {s : Int} {p m : Nat} (w : WF c) (s0 : 0 ≤ s) (s8 : s < 8) (m0 : 0 < m) (hp : (p : Int) + m ≤ c (4 + s).toNat) :
    fX12_isHeard c s (p : Int) ((p : Int) + m) = some (if (m : Int) ≤ loP c s p then 1 else 0) := by
  have ws := w.sl s0 s8
  have hj := w.nj
  unfold fX12_isHeard loP
  refine (fke (S := Unit) (fun fu j _ => fX12_isHeard_b3 c s (p : Int) ((p : Int) + m) fu j) some (c 2).toNat (fun i _ => ∀ k, k < i → stR (c (4 + s).toNat) (sL c s) (hN c (k : Int)) (hL c (k : Int)) (p : Int) < (m : Int)) (if (m : Int) ≤ mx (c 2).toNat (fun j => stR (c (4 + s).toNat) (sL c s) (hN c (j : Int)) (hL c (j : Int)) (p : Int)) then 1 else 0) 0 () (by omega) (fun k hk => absurd hk (by omega)) (by omega) ?_ ?_ : _)
  · intro fu j _ hi hI
    have wh := hN_bd w (j := (j : Int)) (by omega) (by omega)
    have ej : WE ((j : Int) + 1) := we (by omega) (by omega)
    have inner : fX12_isHeard_b17 c s (p : Int) ((p : Int) + m) (fX12_isHeard_b3 c s (p : Int) ((p : Int) + m) fu) FU (j : Int) 0 = if (m : Int) ≤ stR (c (4 + s).toNat) (sL c s) (hN c (j : Int)) (hL c (j : Int)) (p : Int) then some 1 else fX12_isHeard_b3 c s (p : Int) ((p : Int) + m) fu ((j : Int) + 1) := by
      refine (fke (S := Unit) (fun fu2 v _ => fX12_isHeard_b17 c s (p : Int) ((p : Int) + m) (fX12_isHeard_b3 c s (p : Int) ((p : Int) + m) fu) fu2 (j : Int) v) (fun (z : Option Int) => z) (hN c (j : Int) - m + 1).toNat (fun i _ => ∀ k, k < i → srS (c (4 + s).toNat) (sL c s) (hN c (j : Int)) (hL c (j : Int)) (p : Int) (k : Int) < (m : Int)) (if (m : Int) ≤ stR (c (4 + s).toNat) (sL c s) (hN c (j : Int)) (hL c (j : Int)) (p : Int) then some 1 else fX12_isHeard_b3 c s (p : Int) ((p : Int) + m) fu ((j : Int) + 1)) 0 () (by omega) (fun k hk => absurd hk (by omega)) (by omega) ?_ ?_ : _)
      · intro fu2 v _ hv hJ
        have e1 : WE ((v : Int) + ((p : Int) + m)) := we (by omega) (by omega)
        have e2 : WE ((v : Int) + ((p : Int) + m) - (p : Int)) := we (by omega) (by omega)
        have hs := rHs (p := p) (m := m) (j := j) (v := v) w s0 s8 (by omega) (by omega) hp (fX12_isHeard_b3 c s (p : Int) ((p : Int) + m) fu) (fX12_isHeard_b17 c s (p : Int) ((p : Int) + m) (fX12_isHeard_b3 c s (p : Int) ((p : Int) + m) fu) fu2)
        have go : fX12_isHeard_b17 c s (p : Int) ((p : Int) + m) (fX12_isHeard_b3 c s (p : Int) ((p : Int) + m) fu) (fu2 + 1) (j : Int) (v : Int) = if ab m (fun x => sL c s ((p : Int) + (x : Int)) == hL c (j : Int) ((v : Int) + (x : Int))) = true then some 1 else fX12_isHeard_b17 c s (p : Int) ((p : Int) + m) (fX12_isHeard_b3 c s (p : Int) ((p : Int) + m) fu) fu2 (j : Int) ((v : Int) + 1) := by
          rw [fX12_isHeard_b17.eq_2, e1.e, e2.e]
          exact bdg (rNow w (by omega) (by omega)) (iteT (by omega) hs)
        have sab := sr_ab (c := c) (s := s) (p := p) (m := m) (j := j) (v := v) (by omega) (by omega) hp
        show _ ∨ fX12_isHeard_b17 c s (p : Int) ((p : Int) + m) (fX12_isHeard_b3 c s (p : Int) ((p : Int) + m) fu) (fu2 + 1) (j : Int) (v : Int) = _
        by_cases q : ab m (fun x => sL c s ((p : Int) + (x : Int)) == hL c (j : Int) ((v : Int) + (x : Int))) = true
        · right
          have g1 := sab.mpr q
          have g2 := mx_ge (n := (hN c (j : Int)).toNat) (f := fun q => srS (c (4 + s).toNat) (sL c s) (hN c (j : Int)) (hL c (j : Int)) (p : Int) (q : Int)) (k := v) (by omega)
          rw [go, if_pos q, if_pos (show (m : Int) ≤ stR (c (4 + s).toNat) (sL c s) (hN c (j : Int)) (hL c (j : Int)) (p : Int) from Int.le_trans g1 g2)]
        · left
          refine ⟨(), fun k hk => ?_, ?_⟩
          · rcases Nat.lt_succ_iff_lt_or_eq.mp hk with z | z
            · exact hJ k z
            · rw [z]
              exact Int.not_le.mp (fun y => q (sab.mp y))
          · show fX12_isHeard_b17 c s (p : Int) ((p : Int) + m) (fX12_isHeard_b3 c s (p : Int) ((p : Int) + m) fu) (fu2 + 1) (j : Int) (v : Int) = _
            rw [go, if_neg q]
      · intro fu2 _ hJ
        have e1 : WE ((((hN c (j : Int) - m + 1).toNat : Nat) : Int) + ((p : Int) + m)) := we (by omega) (by omega)
        have e2 : WE ((((hN c (j : Int) - m + 1).toNat : Nat) : Int) + ((p : Int) + m) - (p : Int)) := we (by omega) (by omega)
        have no : ¬ (m : Int) ≤ stR (c (4 + s).toNat) (sL c s) (hN c (j : Int)) (hL c (j : Int)) (p : Int) := by
          have b := mx_bd (n := (hN c (j : Int)).toNat) (f := fun q => srS (c (4 + s).toNat) (sL c s) (hN c (j : Int)) (hL c (j : Int)) (p : Int) (q : Int)) (b := (m : Int) - 1) (by omega) (fun k hk => by
            show srS (c (4 + s).toNat) (sL c s) (hN c (j : Int)) (hL c (j : Int)) (p : Int) (k : Int) ≤ (m : Int) - 1
            by_cases z : k < (hN c (j : Int) - m + 1).toNat
            · have := hJ k z; omega
            · have := sr_out (n := c (4 + s).toNat) (L := sL c s) (L' := hL c (j : Int)) (p := (p : Int)) (v := (k : Int)) (n' := hN c (j : Int)) m0 (by omega) (by omega); omega)
          have b : stR (c (4 + s).toNat) (sL c s) (hN c (j : Int)) (hL c (j : Int)) (p : Int) ≤ (m : Int) - 1 := b
          omega
        show fX12_isHeard_b17 c s (p : Int) ((p : Int) + m) (fX12_isHeard_b3 c s (p : Int) ((p : Int) + m) fu) (fu2 + 1) (j : Int) (((hN c (j : Int) - m + 1).toNat : Nat) : Int) = _
        rw [fX12_isHeard_b17.eq_2, e1.e, e2.e, if_neg no]
        refine bdg (rNow w (by omega) (by omega)) (iteF (by omega) ?_)
        rw [lt_d, ej.e]
    show _ ∨ fX12_isHeard_b3 c s (p : Int) ((p : Int) + m) (fu + 1) (j : Int) = _
    have go : fX12_isHeard_b3 c s (p : Int) ((p : Int) + m) (fu + 1) (j : Int) = if (m : Int) ≤ stR (c (4 + s).toNat) (sL c s) (hN c (j : Int)) (hL c (j : Int)) (p : Int) then some 1 else fX12_isHeard_b3 c s (p : Int) ((p : Int) + m) fu ((j : Int) + 1) := by
      rw [fX12_isHeard_b3.eq_2, show ((2 : Int)).toNat = 2 from rfl]
      exact gdg (by omega) (iteT (by omega) inner)
    by_cases q : (m : Int) ≤ stR (c (4 + s).toNat) (sL c s) (hN c (j : Int)) (hL c (j : Int)) (p : Int)
    · right
      have g2 := mx_ge (n := (c 2).toNat) (f := fun j => stR (c (4 + s).toNat) (sL c s) (hN c (j : Int)) (hL c (j : Int)) (p : Int)) (k := j) hi
      rw [go, if_pos q, if_pos (Int.le_trans q g2)]
    · left
      refine ⟨(), fun k hk => ?_, ?_⟩
      · rcases Nat.lt_succ_iff_lt_or_eq.mp hk with z | z
        · exact hI k z
        · rw [z]; exact Int.not_le.mp q
      · show fX12_isHeard_b3 c s (p : Int) ((p : Int) + m) (fu + 1) (j : Int) = _
        rw [go, if_neg q]
  · intro fu _ hI
    have b := mx_bd (n := (c 2).toNat) (f := fun j => stR (c (4 + s).toNat) (sL c s) (hN c (j : Int)) (hL c (j : Int)) (p : Int)) (b := (m : Int) - 1) (by omega) (fun k hk => by
      have := hI k hk
      show stR (c (4 + s).toNat) (sL c s) (hN c (k : Int)) (hL c (k : Int)) (p : Int) ≤ (m : Int) - 1
      omega)
    show fX12_isHeard_b3 c s (p : Int) ((p : Int) + m) (fu + 1) ((c 2).toNat : Int) = _
    rw [fX12_isHeard_b3.eq_2, show ((2 : Int)).toNat = 2 from rfl, if_neg (show ¬ (m : Int) ≤ mx (c 2).toNat (fun j => stR (c (4 + s).toNat) (sL c s) (hN c (j : Int)) (hL c (j : Int)) (p : Int)) by omega)]
    exact gdg (by omega) (iteF (by omega) rfl)
set_option maxHeartbeats 200000 in
/-- LONGESTPIECE, in the class -/
theorem xLoP {h : Hp} {X : Nat} {c : Nat → Int} {s : Int} {p S : Nat} (H : CX h X c) (f1 : gR h 717 X = some S) (qs : okS c s) (hp : p ≤ 16) :
    ∃ t : Hp, (QX X h t ∧ CX t X c ∧ On (fun b => X + 81 ≤ b ∧ b ≤ X + 96) h t) ∧ fX11_longestPiece h X (S + 3 + 3 * s.toNat) (p : Int) = some (loP c s p, t) := by
  have w := H.wf
  have hj := w.nj
  have s8 := ns_lt w qs
  have sx : ¬ sc X X := by unfold sc; omega
  unfold fX11_longestPiece
  have key := fk (S := Hp × Int) (T := Hp × Int) (fun fu v t => fX11_longestPiece_b5 X (S + 3 + 3 * s.toNat) (p : Int) fu t.1 t.2 v) (fun t => some (t.2, t.1)) (c 2).toNat (fun i t => QX X h t.1 ∧ CX t.1 X c ∧ On (fun b => X + 81 ≤ b ∧ b ≤ X + 96) h t.1 ∧ t.2 = mx i (fun j => stR (c (4 + s).toNat) (sL c s) (hN c (j : Int)) (hL c (j : Int)) (p : Int))) (fun t => (QX X h t.1 ∧ CX t.1 X c ∧ On (fun b => X + 81 ≤ b ∧ b ≤ X + 96) h t.1) ∧ t.2 = loP c s p) 0 (h, 0) (by omega) ⟨QR.rf h, H, On.rf h, rfl⟩ (by omega)
    (fun fu i t hi hI => by
      obtain ⟨h1, v⟩ := t
      obtain ⟨p1, p2, p4, p3⟩ := hI
      have p1 : QX X h h1 := p1
      have p2 : CX h1 X c := p2
      have p3 : v = mx i (fun j => stR (c (4 + s).toNat) (sL c s) (hN c (j : Int)) (hL c (j : Int)) (p : Int)) := p3
      have e5 : WE ((i : Int) + 1) := we (by omega) (by omega)
      obtain ⟨S1, u1, u2, u3, u4, u5, -⟩ := p2.shop
      have eS : some S1 = some S := by rw [← u1, ← f1]; exact p1.r sx
      cases eS
      obtain ⟨h', g1, g2, g3, g4, g5, g6⟩ := p2.hearV (k := (i : Int)) ⟨by omega, by omega⟩
      obtain ⟨S', t1, t2, t3, t4, t5, t6, t7, t8⟩ := g3.snd qs
      have eS2 : some S' = some S := by rw [← t1, ← u1]; exact g2.r sx
      cases eS2
      left
      refine ⟨(h', mx (i + 1) (fun j => stR (c (4 + s).toNat) (sL c s) (hN c (j : Int)) (hL c (j : Int)) (p : Int))), ⟨p1.tr g2, g3, p4.tr (g6.mono (fun b hb => by rw [hb]; omega)), rfl⟩, ?_⟩
      show fX11_longestPiece_b5 X (S + 3 + 3 * s.toNat) (p : Int) (fu + 1) h1 v (i : Int) = fX11_longestPiece_b5 X (S + 3 + 3 * s.toNat) (p : Int) fu h' _ ((i : Int) + 1)
      rw [fX11_longestPiece_b5.eq_2, p3]
      refine gdg p2.k (nng u1 (gdg u2 (iteT (by omega) (bd2g g1 (gdg t7.1 (bdg (xStr t7.v g4.v (by omega) (by omega)) ?_))))))
      rw [lt_d, lt_d, e5.e]
      rfl)
    (fun fu t hI => by
      obtain ⟨h1, v⟩ := t
      obtain ⟨p1, p2, p4, p3⟩ := hI
      have p2 : CX h1 X c := p2
      obtain ⟨S1, u1, u2, u3, u4, u5, -⟩ := p2.shop
      refine ⟨(h1, v), ⟨⟨p1, p2, p4⟩, p3⟩, ?_⟩
      show fX11_longestPiece_b5 X (S + 3 + 3 * s.toNat) (p : Int) (fu + 1) h1 v ((c 2).toNat : Int) = _
      rw [fX11_longestPiece_b5.eq_2]
      exact gdg p2.k (nng u1 (gdg u2 (iteF (by omega) rfl))))
  obtain ⟨t, ⟨k1, k2⟩, k3⟩ := key
  refine ⟨t.1, k1, ?_⟩
  rw [← k2]
  exact k3

/-- the least PIECES up to q, of those that begin before P; 1000000: none -/
def pcD (L W : Nat → Int) : Nat → Nat → Int
  | 0, q => if q = 0 then 0 else 1000000
  | P + 1, q => if P < q ∧ ¬ pcD L W P P = 1000000 ∧ (q : Int) - P ≤ L P then min (pcD L W P q) (pcD L W P P + W P) else pcD L W P q
set_option maxHeartbeats 200000 in
theorem pcD_s (L W : Nat → Int) (P q : Nat) : pcD L W (P + 1) q = if P < q ∧ ¬ pcD L W P P = 1000000 ∧ (q : Int) - P ≤ L P then min (pcD L W P q) (pcD L W P P + W P) else pcD L W P q := rfl
set_option maxHeartbeats 200000 in
theorem pcD_bd {L W : Nat → Int} (hW : ∀ x, 0 ≤ W x ∧ W x ≤ 1) (P : Nat) (q : Nat) : pcD L W P q = 1000000 ∨ (0 ≤ pcD L W P q ∧ pcD L W P q ≤ (P : Int)) := by
  induction P generalizing q with
  | zero =>
    by_cases z : q = 0
    · right; show 0 ≤ (if q = 0 then (0 : Int) else 1000000) ∧ (if q = 0 then (0 : Int) else 1000000) ≤ _; rw [if_pos z]; omega
    · left; exact if_neg z
  | succ P ih =>
    have h1 := ih q
    have h2 := ih P
    have h3 := hW P
    rw [pcD_s]
    by_cases z : P < q ∧ ¬ pcD L W P P = 1000000 ∧ (q : Int) - P ≤ L P
    · rw [if_pos z]; right; omega
    · rw [if_neg z]; omega
set_option maxHeartbeats 200000 in
theorem pcD_b2 {L W : Nat → Int} (hW : ∀ x, 0 ≤ W x ∧ W x ≤ 1) {P : Nat} (hP : P ≤ 16) (q : Nat) : 0 ≤ pcD L W P q ∧ pcD L W P q ≤ 1000000 := by
  have := pcD_bd (L := L) hW P q
  omega
set_option maxHeartbeats 200000 in
theorem pcD_le (L W : Nat → Int) {P q : Nat} (h : q ≤ P) : pcD L W (P + 1) q = pcD L W P q := by rw [pcD_s, if_neg (by omega)]
set_option maxHeartbeats 200000 in
theorem pcD_iff {L W W' : Nat → Int} (hW : ∀ x, 0 ≤ W x ∧ W x ≤ 1) (hW' : ∀ x, 0 ≤ W' x ∧ W' x ≤ 1) (P : Nat) (hP : P ≤ 16) (q : Nat) : pcD L W P q = 1000000 ↔ pcD L W' P q = 1000000 := by
  induction P generalizing q with
  | zero => exact Iff.rfl
  | succ P ih =>
    have h1 := ih (by omega) q
    have h2 := ih (by omega) P
    have b1 := pcD_bd (L := L) hW P P
    have b2 := pcD_bd (L := L) hW' P P
    have b3 := hW P
    have b4 := hW' P
    rw [pcD_s, pcD_s]
    by_cases z : P < q ∧ ¬ pcD L W P P = 1000000 ∧ (q : Int) - P ≤ L P
    · rw [if_pos z, if_pos ⟨z.1, fun y => z.2.1 (h2.mpr y), z.2.2⟩]
      have z2 := z.2.1
      have z3 : ¬ pcD L W' P P = 1000000 := fun y => z2 (h2.mpr y)
      omega
    · rw [if_neg z, if_neg (fun y => z ⟨y.1, fun x => y.2.1 (h2.mp x), y.2.2⟩)]
      exact h1
set_option maxHeartbeats 200000 in
/-- the class's inner loop -/
theorem xPcI {h : Hp} {X i n a1 : Nat} {L w a2 : Int} (kX : (hK h X).1 = 11) (r712 : gR h 712 X = some (X + 101)) (k101 : hK h (X + 101) = (21, 27)) (hn : n ≤ 16) (hi : i < n) (L0 : 0 ≤ L) (L8 : L ≤ 2000) (w0 : 0 ≤ w) (w1 : w ≤ 1) (A : Nat → Int) (hA : ∀ x, x ≤ n → gA h (X + 101) x = A x) (bd : ∀ x, 0 ≤ A x ∧ A x ≤ 1000000) (k45 : Hp → Int → Int → Option (Int × Hp)) :
    ∃ t : Hp, (On (fun b => b = X + 101) h t ∧ ∀ x : Nat, x ≤ n → gA t (X + 101) x = if i < x ∧ (x : Int) - i ≤ L then min (A x) (A i + w) else A x) ∧ fX11_leastPiecing_b99 X a1 a2 k45 FU h (n : Int) (i : Int) L w ((i : Int) + 1) = k45 t (n : Int) ((i : Int) + 1) := by
  have ei : WE ((i : Int) + 1) := we (by omega) (by omega)
  have eL : WE ((i : Int) + L) := we (by omega) (by omega)
  have key := fk (S := Hp) (T := Hp) (fun fu v t => fX11_leastPiecing_b99 X a1 a2 k45 fu t (n : Int) (i : Int) L w v) (fun t => k45 t (n : Int) ((i : Int) + 1)) (min ((i : Int) + L) (n : Int) + 1).toNat
    (fun q t => i + 1 ≤ q ∧ On (fun b => b = X + 101) h t ∧ ∀ x : Nat, x ≤ n → gA t (X + 101) x = if i < x ∧ x < q then min (A x) (A i + w) else A x)
    (fun t => On (fun b => b = X + 101) h t ∧ ∀ x : Nat, x ≤ n → gA t (X + 101) x = if i < x ∧ (x : Int) - i ≤ L then min (A x) (A i + w) else A x) (i + 1) h (by omega) ⟨Nat.le_refl _, On.rf h, fun x hx => by rw [if_neg (by omega)]; exact hA x hx⟩ (by omega)
    (fun fu q t hq hI => by
      obtain ⟨p0, p1, p2⟩ := hI
      have e5 : WE ((q : Int) + 1) := we (by omega) (by omega)
      have kU : hK t (X + 101) = (21, 27) := p1.ka k101
      have kX' : (hK t X).1 = 11 := by rw [p1.k]; exact kX
      have r' : gR t 712 X = some (X + 101) := by rw [p1.r (by omega)]; exact r712
      have gq : gA t (X + 101) q = A q := by rw [p2 q (by omega), if_neg (by omega)]
      have gi : gA t (X + 101) i = A i := by rw [p2 i (by omega), if_neg (by omega)]
      have b1 := bd q
      have b2 := bd i
      have ew : WE (A i + w) := we (by omega) (by omega)
      left
      refine ⟨sA t (X + 101) (q : Int) (min (A q) (A i + w)), ⟨by omega, p1.tr (on_sA t rfl), fun x hx => ?_⟩, ?_⟩
      · rw [gA_sA]
        by_cases z : x = q
        · rw [if_pos ⟨rfl, by omega⟩, z, if_pos (by omega), w32_id (by omega) (by omega)]
        · rw [if_neg (fun y => z (by have := y.2; omega)), p2 x hx]
          by_cases z2 : i < x ∧ x < q
          · rw [if_pos z2, if_pos (by omega)]
          · rw [if_neg z2, if_neg (by omega)]
      · show fX11_leastPiecing_b99 X a1 a2 k45 (fu + 1) t (n : Int) (i : Int) L w (q : Int) = fX11_leastPiecing_b99 X a1 a2 k45 fu (sA t (X + 101) (q : Int) (min (A q) (A i + w))) (n : Int) (i : Int) L w ((q : Int) + 1)
        rw [fX11_leastPiecing_b99.eq_2, eL.e, e5.e]
        refine iteT (by omega) (iteT (by omega) (gdg kX' (nng r' (gdg (by rw [kU]) (gdg (by rw [kU]; show 0 ≤ _ ∧ _ < (27 : Int); omega) (gdg (by rw [kU]; show 0 ≤ _ ∧ _ < (27 : Int); omega) (gdg (by rw [kU]; show 0 ≤ _ ∧ _ < (27 : Int); omega) ?_)))))))
        rw [lt_d, lt_d, show ((q : Int)).toNat = q by omega, show ((i : Int)).toNat = i by omega, gq, gi, ew.e])
    (fun fu t hI => by
      obtain ⟨p0, p1, p2⟩ := hI
      refine ⟨t, ⟨p1, fun x hx => ?_⟩, ?_⟩
      · rw [p2 x hx]
        by_cases z : i < x ∧ (x : Int) - i ≤ L
        · rw [if_pos z, if_pos (by omega)]
        · rw [if_neg z, if_neg (by omega)]
      · show fX11_leastPiecing_b99 X a1 a2 k45 (fu + 1) t (n : Int) (i : Int) L w (((min ((i : Int) + L) (n : Int) + 1).toNat : Nat) : Int) = _
        have e148 : fX11_leastPiecing_b148 X a1 a2 k45 t (n : Int) (i : Int) = k45 t (n : Int) ((i : Int) + 1) := by rw [fX11_leastPiecing_b148, lt_d, ei.e]
        rw [fX11_leastPiecing_b99.eq_2, eL.e]
        by_cases z : (((min ((i : Int) + L) (n : Int) + 1).toNat : Nat) : Int) ≤ (i : Int) + L
        · exact iteT z (iteF (by omega) e148)
        · exact iteF z e148)
  obtain ⟨t, u1, u2⟩ := key
  exact ⟨t, u1, u2⟩

/-- a vowel -/
def vwS (v : Int) : Int := if v = 1 then 1 else if v = 5 then 1 else if v = 9 then 1 else if v = 15 then 1 else if v = 21 then 1 else 0
set_option maxHeartbeats 200000 in
theorem xVow (v : Int) : fX11_isVowel v = some (vwS v) := by
  unfold fX11_isVowel vwS
  repeat' split
  all_goals rfl
set_option maxHeartbeats 200000 in
theorem rVow (v : Int) : fX12_isVowel v = some (vwS v) := by
  unfold fX12_isVowel vwS
  repeat' split
  all_goals rfl
/-- what a PIECE from p on counts -/
def joS (c : Nat → Int) (s : Int) (p : Nat) : Int := if 0 < p ∧ vwS (sL c s ((p : Int) - 1)) = vwS (sL c s (p : Int)) then 1 else 0
def pieW (c : Nat → Int) (s u : Int) (p : Nat) : Int := if u = 1 then joS c s p else 1
set_option maxHeartbeats 200000 in
theorem joS_bd (c : Nat → Int) (s : Int) (p : Nat) : 0 ≤ joS c s p ∧ joS c s p ≤ 1 := by unfold joS; split <;> omega
set_option maxHeartbeats 200000 in
theorem pieW_bd (c : Nat → Int) (s u : Int) (p : Nat) : 0 ≤ pieW c s u p ∧ pieW c s u p ≤ 1 := by
  have := joS_bd c s p
  unfold pieW
  split <;> omega
set_option maxHeartbeats 200000 in
theorem xJoi {h : Hp} {a p : Nat} {c : Nat → Int} {s n : Int} (r : RV h a n (sL c s)) (hp : p ≤ 1000) : fX11_joinsHeard h a (p : Int) = some (joS c s p) := by
  unfold fX11_joinsHeard joS
  by_cases z : 0 < p
  · refine iteT (by omega) (gdg r.k ?_)
    rw [w32_id (by omega) (by omega)]
    refine bdg (xAt r _) (bdg (xVow _) (bdg (xAt r _) (bdg (xVow _) ?_)))
    by_cases y : vwS (sL c s ((p : Int) - 1)) = vwS (sL c s (p : Int))
    · rw [if_pos y, if_pos ⟨z, y⟩]
    · rw [if_neg y, if_neg (fun x => y x.2)]
  · refine iteF (by omega) ?_
    rw [if_neg (fun x => z x.1)]
set_option maxHeartbeats 200000 in
theorem x75 {h : Hp} {X a p : Nat} {c : Nat → Int} {s u n m L : Int} (r : RV h a n (sL c s)) (hp : p ≤ 1000) (u0 : 0 ≤ u) (u1 : u ≤ 1) (k45 : Hp → Int → Int → Option (Int × Hp)) :
    fX11_leastPiecing_b75 X a u k45 h m (p : Int) L = fX11_leastPiecing_b99 X a u k45 FU h m (p : Int) L (pieW c s u p) ((p : Int) + 1) := by
  have ei : WE ((p : Int) + 1) := we (by omega) (by omega)
  unfold pieW
  rw [fX11_leastPiecing_b75]
  by_cases z : u = 0
  · rw [if_neg (show ¬ u = 1 by omega)]
    refine iteT z ?_
    rw [fX11_leastPiecing_b91, lt_d, ei.e]
  · rw [if_pos (show u = 1 by omega)]
    refine iteF z (bdg (xJoi r hp) ?_)
    rw [fX11_leastPiecing_b91, lt_d, ei.e]
set_option maxHeartbeats 200000 in
/-- LEASTPIECING, in the class -/
theorem xPc {h : Hp} {X S : Nat} {c : Nat → Int} {s u : Int} (H : CX h X c) (f1 : gR h 717 X = some S) (qs : okS c s) (u0 : 0 ≤ u) (u1 : u ≤ 1) :
    ∃ t : Hp, (QX X h t ∧ CX t X c) ∧ fX11_leastPiecing h X (S + 3 + 3 * s.toNat) u = some (pcD (loP c s) (pieW c s u) (c (4 + s).toNat).toNat (c (4 + s).toNat).toNat, t) := by
  have w := H.wf
  have s8 := ns_lt w qs
  have ws := w.sl qs.1 s8
  have hW := pieW_bd c s u
  have sx : ¬ sc X X := by unfold sc; omega
  obtain ⟨n, hn⟩ : ∃ n : Nat, c (4 + s).toNat = (n : Int) := ⟨(c (4 + s).toNat).toNat, by omega⟩
  have en : (c (4 + s).toNat).toNat = n := by omega
  rw [en]
  have row : ∀ t, QX X h t → CX t X c → RV t (S + 3 + 3 * s.toNat) (n : Int) (sL c s) := fun t p q => by
    obtain ⟨S', t1, t2, t3, t4, t5, t6, t7, t8⟩ := q.snd qs
    have e : some S' = some S := by rw [← t1, ← f1]; exact p.r sx
    cases e
    rw [hn] at t7
    exact t7.v
  have qq : ∀ t t', On (fun b => b = X + 101) t t' → QX X t t' := fun t t' p => q_on p (fun b hb => by rw [hb]; unfold sc; omega)
  -- the table is laid
  have k1 := fk (S := Hp) (T := Hp) (fun fu v t => fX11_leastPiecing_b13 X (S + 3 + 3 * s.toNat) u fu t (n : Int) v) (fun t => fX11_leastPiecing_b45 X (S + 3 + 3 * s.toNat) u FU t (n : Int) 0) (n + 1) (fun i t => 1 ≤ i ∧ On (fun b => b = X + 101) h t ∧ ∀ x : Nat, 1 ≤ x → x < i → gA t (X + 101) x = 1000000) (fun t => On (fun b => b = X + 101) h t ∧ ∀ x : Nat, x ≤ n → gA t (X + 101) x = pcD (loP c s) (pieW c s u) 0 x) 1 h (by omega) ⟨Nat.le_refl _, On.rf h, fun x h1 h2 => absurd h2 (by omega)⟩ (by omega)
    (fun fu i t hi hI => by
      obtain ⟨p0, p1, p2⟩ := hI
      have e5 : WE ((i : Int) + 1) := we (by omega) (by omega)
      have cx := H.q (qq _ _ p1) po_X
      have kU : hK t (X + 101) = (21, 27) := cx.1.k101
      left
      refine ⟨sA t (X + 101) (i : Int) 1000000, ⟨by omega, p1.tr (on_sA t rfl), fun x h1 h2 => ?_⟩, ?_⟩
      · rw [gA_sA]
        by_cases z : x = i
        · rw [if_pos ⟨rfl, by omega⟩, w32_id (by omega) (by omega)]
        · rw [if_neg (fun y => z (by have := y.2; omega))]
          exact p2 x h1 (by omega)
      · show fX11_leastPiecing_b13 X (S + 3 + 3 * s.toNat) u (fu + 1) t (n : Int) (i : Int) = fX11_leastPiecing_b13 X (S + 3 + 3 * s.toNat) u fu _ (n : Int) ((i : Int) + 1)
        rw [fX11_leastPiecing_b13.eq_2, e5.e]
        refine iteT (by omega) (gdg cx.k (nng cx.1.r712 (gdg (by rw [kU]) (gdg (by rw [kU]; show 0 ≤ _ ∧ _ < (27 : Int); omega) ?_))))
        rw [lt_d, lt_d])
    (fun fu t hI => by
      obtain ⟨p0, p1, p2⟩ := hI
      have cx := H.q (qq _ _ p1) po_X
      have kU : hK t (X + 101) = (21, 27) := cx.1.k101
      refine ⟨sA t (X + 101) 0 0, ⟨p1.tr (on_sA t rfl), fun x hx => ?_⟩, ?_⟩
      · rw [gA_sA]
        show _ = if x = 0 then (0 : Int) else 1000000
        by_cases z : x = 0
        · rw [if_pos ⟨rfl, by omega⟩, if_pos z, w32_id (by omega) (by omega)]
        · rw [if_neg (fun y => z (by have := y.2; omega)), if_neg z]
          exact p2 x (by omega) (by omega)
      · show fX11_leastPiecing_b13 X (S + 3 + 3 * s.toNat) u (fu + 1) t (n : Int) ((n + 1 : Nat) : Int) = _
        rw [fX11_leastPiecing_b13.eq_2]
        refine iteF (by omega) (gdg cx.k (nng cx.1.r712 (gdg (by rw [kU]) (gdg (by rw [kU]; show 0 ≤ _ ∧ _ < (27 : Int); omega) ?_))))
        rw [lt_d])
  obtain ⟨t0, ⟨v1, v2⟩, v3⟩ := k1
  -- the rounds
  have k2 := fk (S := Hp) (T := Hp) (fun fu v t => fX11_leastPiecing_b45 X (S + 3 + 3 * s.toNat) u fu t (n : Int) v) (fun t => some (pcD (loP c s) (pieW c s u) n n, t)) n (fun i t => QX X h t ∧ CX t X c ∧ ∀ x : Nat, x ≤ n → gA t (X + 101) x = pcD (loP c s) (pieW c s u) i x) (fun t => QX X h t ∧ CX t X c) 0 t0 (by omega) ⟨qq _ _ v1, H.q (qq _ _ v1) po_X, v2⟩ (by omega)
    (fun fu i t hi hI => by
      obtain ⟨p1, p2, p3⟩ := hI
      have e5 : WE ((i : Int) + 1) := we (by omega) (by omega)
      have kU : hK t (X + 101) = (21, 27) := p2.1.k101
      have r1 := row t p1 p2
      have gi : gA t (X + 101) i = pcD (loP c s) (pieW c s u) i i := p3 i (by omega)
      have bd : ∀ x, 0 ≤ pcD (loP c s) (pieW c s u) i x ∧ pcD (loP c s) (pieW c s u) i x ≤ 1000000 := pcD_b2 hW (by omega)
      left
      have start : ∀ T, fX11_leastPiecing_b45 X (S + 3 + 3 * s.toNat) u fu T (n : Int) ((i : Int) + 1) = fX11_leastPiecing_b45 X (S + 3 + 3 * s.toNat) u fu T (n : Int) ((i : Int) + 1) := fun _ => rfl
      by_cases z : pcD (loP c s) (pieW c s u) i i = 1000000
      · obtain ⟨t', q1, q2⟩ := xPcI (h := t) (X := X) (i := i) (n := n) (a1 := S + 3 + 3 * s.toNat) (a2 := u) (L := 0) (w := pieW c s u i) p2.k p2.1.r712 kU (by omega) hi (by omega) (by omega) (hW i).1 (hW i).2 (pcD (loP c s) (pieW c s u) i) p3 bd (fX11_leastPiecing_b45 X (S + 3 + 3 * s.toNat) u fu)
        refine ⟨t', ⟨p1.tr (qq _ _ q1.1), p2.q (qq _ _ q1.1) po_X, fun x hx => ?_⟩, ?_⟩
        · rw [q1.2 x hx, if_neg (by omega), pcD_s, if_neg (fun y => y.2.1 z)]
        · show fX11_leastPiecing_b45 X (S + 3 + 3 * s.toNat) u (fu + 1) t (n : Int) (i : Int) = _
          rw [fX11_leastPiecing_b45.eq_2]
          refine iteT (by omega) (gdg p2.k (nng p2.1.r712 (gdg (by rw [kU]) (gdg (by rw [kU]; show 0 ≤ _ ∧ _ < (27 : Int); omega) ?_))))
          rw [show ((i : Int)).toNat = i by omega, gi]
          refine iteT z ?_
          rw [x75 r1 (by omega) u0 u1]
          exact q2
      · obtain ⟨h2, ⟨g1, g2, g3⟩, g4⟩ := xLoP (p := i) p2 (S := S) (by rw [← f1]; exact p1.r sx) qs (by omega)
        have r2 := row h2 (p1.tr g1) g2
        have kU2 : hK h2 (X + 101) = (21, 27) := g2.1.k101
        have lb : 0 ≤ loP c s i ∧ loP c s i ≤ 2000 := by
          refine ⟨mx_nn _ _, ?_⟩
          refine mx_bd (by omega) (fun k _ => ?_)
          refine mx_bd (by omega) (fun q _ => ?_)
          have := srS_bd (c (4 + s).toNat) (sL c s) (hN c (k : Int)) (hL c (k : Int)) (i : Int) (q : Int)
          omega
        obtain ⟨t', q1, q2⟩ := xPcI (h := h2) (X := X) (i := i) (n := n) (a1 := S + 3 + 3 * s.toNat) (a2 := u) (L := loP c s i) (w := pieW c s u i) g2.k g2.1.r712 kU2 (by omega) hi lb.1 lb.2 (hW i).1 (hW i).2 (pcD (loP c s) (pieW c s u) i) (fun x hx => by rw [g3.a (by omega)]; exact p3 x hx) bd (fX11_leastPiecing_b45 X (S + 3 + 3 * s.toNat) u fu)
        refine ⟨t', ⟨(p1.tr g1).tr (qq _ _ q1.1), g2.q (qq _ _ q1.1) po_X, fun x hx => ?_⟩, ?_⟩
        · rw [q1.2 x hx, pcD_s]
          by_cases y : i < x ∧ (x : Int) - i ≤ loP c s i
          · rw [if_pos y, if_pos ⟨y.1, z, y.2⟩]
          · rw [if_neg y, if_neg (fun y2 => y ⟨y2.1, y2.2.2⟩)]
        · show fX11_leastPiecing_b45 X (S + 3 + 3 * s.toNat) u (fu + 1) t (n : Int) (i : Int) = _
          rw [fX11_leastPiecing_b45.eq_2]
          refine iteT (by omega) (gdg p2.k (nng p2.1.r712 (gdg (by rw [kU]) (gdg (by rw [kU]; show 0 ≤ _ ∧ _ < (27 : Int); omega) ?_))))
          rw [show ((i : Int)).toNat = i by omega, gi]
          refine iteF z (bd2g g4 ?_)
          rw [x75 r2 (by omega) u0 u1]
          exact q2)
    (fun fu t hI => by
      obtain ⟨p1, p2, p3⟩ := hI
      have kU : hK t (X + 101) = (21, 27) := p2.1.k101
      refine ⟨t, ⟨p1, p2⟩, ?_⟩
      show fX11_leastPiecing_b45 X (S + 3 + 3 * s.toNat) u (fu + 1) t (n : Int) (n : Int) = _
      rw [fX11_leastPiecing_b45.eq_2]
      refine iteF (by omega) (gdg p2.k (nng p2.1.r712 (gdg (by rw [kU]) (gdg (by rw [kU]; show 0 ≤ _ ∧ _ < (27 : Int); omega) ?_))))
      rw [show ((n : Int)).toNat = n by omega, p3 n (Nat.le_refl _)])
  obtain ⟨t', y1, y2⟩ := k2
  refine ⟨t', y1, ?_⟩
  have r0 := row h (QR.rf h) H
  unfold fX11_leastPiecing
  rw [r0.z]
  refine gdg r0.k ?_
  rw [lt_d, show min (n : Int) 16 = (n : Int) by omega]
  exact v3.trans y2

def pcA (c : Nat → Int) (s u : Int) : Nat → Nat → Int := pcD (loP c s) (pieW c s u)
set_option maxHeartbeats 200000 in
theorem pcA_s (c : Nat → Int) (s u : Int) (P q : Nat) : pcA c s u (P + 1) q = if P < q ∧ ¬ pcA c s u P P = 1000000 ∧ (q : Int) - P ≤ loP c s P then min (pcA c s u P q) (pcA c s u P P + pieW c s u P) else pcA c s u P q := rfl
set_option maxHeartbeats 200000 in
theorem pcA_b (c : Nat → Int) (s u : Int) {P : Nat} (hP : P ≤ 16) (q : Nat) : 0 ≤ pcA c s u P q ∧ pcA c s u P q ≤ 1000000 := pcD_b2 (pieW_bd c s u) hP q
set_option maxHeartbeats 200000 in
theorem pcA_i (c : Nat → Int) (s u v : Int) {P : Nat} (hP : P ≤ 16) (q : Nat) : pcA c s u P q = 1000000 ↔ pcA c s v P q = 1000000 := pcD_iff (pieW_bd c s u) (pieW_bd c s v) P hP q
set_option maxHeartbeats 200000 in
theorem pcA_0 (c : Nat → Int) (s u : Int) (q : Nat) : pcA c s u 0 q = if q = 0 then 0 else 1000000 := rfl
set_option maxHeartbeats 200000 in
theorem ms_on {h t : Hp} {M : Nat} {c : Nat → Int} (ms : MS h M) (hc : gA h (M + 5) = c) (p : On (fun b => b = M + 19 ∨ b = M + 20) h t) : MS t M ∧ gA t (M + 5) = c :=
  ⟨⟨fun i hi => by rw [p.k]; exact ms.1 i hi, fun q hq => by rw [p.r (by omega)]; exact ms.2 q hq⟩, by rw [p.af (by omega)]; exact hc⟩
set_option maxHeartbeats 200000 in
/-- the reference's inner loop -/
theorem rPcI {h : Hp} {M q n : Nat} {c : Nat → Int} {s u : Int} (ms : MS h M) (hc : gA h (M + 5) = c) (w : WF c) (s0 : 0 ≤ s) (s8 : s < 8) (hn : c (4 + s).toNat = (n : Int)) (hq : q ≤ n)
    (a0 : ∀ x, x < q → gA h (M + 19) x = pcA c s 0 x x ∧ gA h (M + 20) x = pcA c s 1 x x) (a1 : gA h (M + 19) q = pcA c s 0 0 q ∧ gA h (M + 20) q = pcA c s 1 0 q) (k52 : Hp → Int → Int → Option (Int × Hp)) :
    ∃ t : Hp, (On (fun b => b = M + 19 ∨ b = M + 20) h t ∧ ∀ x, x < q + 1 → gA t (M + 19) x = pcA c s 0 x x ∧ gA t (M + 20) x = pcA c s 1 x x) ∧ fX12_pieced_b99 M s u k52 FU h (n : Int) (q : Int) 0 = k52 t (n : Int) ((q : Int) + 1) := by
  have ws := w.sl s0 s8
  have eq1 : WE ((q : Int) + 1) := we (by omega) (by omega)
  exact fk (S := Hp) (T := Hp) (fun fu v t => fX12_pieced_b99 M s u k52 fu t (n : Int) (q : Int) v) (fun t => k52 t (n : Int) ((q : Int) + 1)) q
    (fun p t => On (fun b => b = M + 19 ∨ b = M + 20) h t ∧ (∀ x, x < q → gA t (M + 19) x = pcA c s 0 x x ∧ gA t (M + 20) x = pcA c s 1 x x) ∧ gA t (M + 19) q = pcA c s 0 p q ∧ gA t (M + 20) q = pcA c s 1 p q) _ 0 h (by omega) ⟨On.rf h, a0, a1.1, a1.2⟩ (by omega)
    (fun fu p t hp hI => by
      obtain ⟨p1, p2, p3, p4⟩ := hI
      obtain ⟨ms, hc⟩ := ms_on ms hc p1
      have e5 : WE ((p : Int) + 1) := we (by omega) (by omega)
      obtain ⟨g0, g1⟩ := p2 p hp
      have b0 := pcA_b c s 0 (P := p) (by omega) p
      have b1 := pcA_b c s 1 (P := p) (by omega) p
      have b2 := pcA_b c s 0 (P := p) (by omega) q
      have b3 := pcA_b c s 1 (P := p) (by omega) q
      have ii := pcA_i c s 0 1 (P := p) (by omega) p
      have e224 : ∀ T, fX12_pieced_b224 M s u k52 (fX12_pieced_b99 M s u k52 fu) T (n : Int) (q : Int) (p : Int) = fX12_pieced_b99 M s u k52 fu T (n : Int) (q : Int) ((p : Int) + 1) := fun T => by rw [fX12_pieced_b224, lt_d, e5.e]
      have stay : (pcA c s 0 p p = 1000000 ∨ ¬ (q : Int) - p ≤ loP c s p) → gA t (M + 19) q = pcA c s 0 (p + 1) q ∧ gA t (M + 20) q = pcA c s 1 (p + 1) q := fun z => by
        rw [pcA_s, pcA_s, if_neg (by omega), if_neg (by omega)]
        exact ⟨p3, p4⟩
      left
      by_cases z : pcA c s 0 p p = 1000000
      · refine ⟨t, ⟨p1, p2, stay (Or.inl z)⟩, ?_⟩
        show fX12_pieced_b99 M s u k52 (fu + 1) t (n : Int) (q : Int) (p : Int) = fX12_pieced_b99 M s u k52 fu t (n : Int) (q : Int) ((p : Int) + 1)
        rw [fX12_pieced_b99.eq_2, ← e224]
        refine iteT (by omega) (gdg ms.k (nng ms.r810 (gdg (by rw [ms.k19]) (gdg (by rw [ms.k19]; show 0 ≤ _ ∧ _ < (17 : Int); omega) ?_))))
        rw [show ((p : Int)).toNat = p by omega, g0]
        exact iteT z rfl
      · have ih := rIsH (p := p) (m := q - p) w s0 s8 (by omega) (by omega)
        rw [show (p : Int) + ((q - p : Nat) : Int) = (q : Int) by omega, show ((q - p : Nat) : Int) = (q : Int) - p by omega] at ih
        by_cases y : (q : Int) - p ≤ loP c s p
        · rw [if_pos y] at ih
          have jb := joS_bd c s p
          have n0 : pcA c s 0 (p + 1) q = min (pcA c s 0 p q) (pcA c s 0 p p + 1) := by rw [pcA_s, if_pos ⟨hp, z, y⟩]; rfl
          have n1 : pcA c s 1 (p + 1) q = min (pcA c s 1 p q) (pcA c s 1 p p + joS c s p) := by rw [pcA_s, if_pos ⟨hp, fun x => z (ii.mpr x), y⟩]; rfl
          have d0 := pcA_b c s 0 (P := p + 1) (by omega) q
          have d1 := pcA_b c s 1 (P := p + 1) (by omega) q
          have x0 : WE (pcA c s 0 p p + 1) := we (by omega) (by omega)
          have x1 : WE (pcA c s 1 p p + joS c s p) := we (by omega) (by omega)
          have o1 : On (fun b => b = M + 19 ∨ b = M + 20) t (sA t (M + 19) (q : Int) (pcA c s 0 (p + 1) q)) := on_sA t (Or.inl rfl)
          obtain ⟨ms2, hc2⟩ := ms_on ms hc o1
          have o2 := o1.tr (on_sA (i := (q : Int)) (v := pcA c s 1 (p + 1) q) (sA t (M + 19) (q : Int) (pcA c s 0 (p + 1) q)) (Or.inr rfl : (fun b => b = M + 19 ∨ b = M + 20) (M + 20)))
          have h20 : ∀ x, gA (sA t (M + 19) (q : Int) (pcA c s 0 (p + 1) q)) (M + 20) x = gA t (M + 20) x := fun x => by rw [gA_sA, if_neg (by omega)]
          refine ⟨sA (sA t (M + 19) (q : Int) (pcA c s 0 (p + 1) q)) (M + 20) (q : Int) (pcA c s 1 (p + 1) q), ⟨p1.tr o2, fun x hx => ⟨?_, ?_⟩, ?_, ?_⟩, ?_⟩
          · rw [gA_sA, if_neg (by omega), gA_sA, if_neg (by omega)]; exact (p2 x hx).1
          · rw [gA_sA, if_neg (by omega), h20]; exact (p2 x hx).2
          · rw [gA_sA, if_neg (by omega), gA_sA, if_pos ⟨rfl, by omega⟩, w32_id (by omega) (by omega)]
          · rw [gA_sA, if_pos ⟨rfl, by omega⟩, w32_id (by omega) (by omega)]
          · have e169 : fX12_pieced_b169 M s u k52 (fX12_pieced_b99 M s u k52 fu) t (n : Int) (q : Int) (p : Int) (joS c s p) = fX12_pieced_b99 M s u k52 fu (sA (sA t (M + 19) (q : Int) (pcA c s 0 (p + 1) q)) (M + 20) (q : Int) (pcA c s 1 (p + 1) q)) (n : Int) (q : Int) ((p : Int) + 1) := by
              rw [fX12_pieced_b169, ← e224]
              refine gdg ms.k (nng ms.r810 (gdg (by rw [ms.k19]) (gdg (by rw [ms.k19]; show 0 ≤ _ ∧ _ < (17 : Int); omega) (gdg (by rw [ms.k19]; show 0 ≤ _ ∧ _ < (17 : Int); omega) (gdg (by rw [ms.k19]; show 0 ≤ _ ∧ _ < (17 : Int); omega) ?_)))))
              rw [show ((p : Int)).toNat = p by omega, show ((q : Int)).toNat = q by omega, p3, g0, x0.e, ← n0, lt_d]
              refine nng ms2.r811 (gdg (by rw [ms2.k20]) (gdg (by rw [ms2.k20]; show 0 ≤ _ ∧ _ < (17 : Int); omega) (gdg (by rw [ms2.k20]; show 0 ≤ _ ∧ _ < (17 : Int); omega) (gdg (by rw [ms2.k20]; show 0 ≤ _ ∧ _ < (17 : Int); omega) ?_))))
              rw [h20, h20, p4, g1, x1.e, ← n1, lt_d]
            show fX12_pieced_b99 M s u k52 (fu + 1) t (n : Int) (q : Int) (p : Int) = _
            rw [fX12_pieced_b99.eq_2]
            refine iteT (by omega) (gdg ms.k (nng ms.r810 (gdg (by rw [ms.k19]) (gdg (by rw [ms.k19]; show 0 ≤ _ ∧ _ < (17 : Int); omega) ?_))))
            rw [show ((p : Int)).toNat = p by omega, g0]
            refine iteF z (nng ms.r788 (gdg ms.k5 ?_))
            rw [hc]
            refine bdg ih (iteF (by omega) ?_)
            by_cases y2 : 0 < p
            · refine iteT (by omega) (gdg ms.k5 ?_)
              rw [w32_id (by omega) (by omega)]
              refine bdg (rSnd s0 s8 (by omega) (by omega) (by omega)) (bdg (rVow _) (gdg ms.k5 (bdg (rSnd s0 s8 (by omega) (by omega) (by omega)) (bdg (rVow _) ?_))))
              by_cases y3 : vwS (sL c s ((p : Int) - 1)) = vwS (sL c s (p : Int))
              · have ej : joS c s p = 1 := by unfold joS; rw [if_pos ⟨y2, y3⟩]
                rw [ej] at e169
                exact iteT y3 e169
              · have ej : joS c s p = 0 := by unfold joS; rw [if_neg (fun x => y3 x.2)]
                rw [ej] at e169
                refine iteF y3 ?_
                rw [fX12_pieced_b168]
                exact e169
            · have ej : joS c s p = 0 := by unfold joS; rw [if_neg (fun x => y2 x.1)]
              rw [ej] at e169
              refine iteF (by omega) ?_
              rw [fX12_pieced_b168]
              exact e169
        · rw [if_neg y] at ih
          refine ⟨t, ⟨p1, p2, stay (Or.inr y)⟩, ?_⟩
          show fX12_pieced_b99 M s u k52 (fu + 1) t (n : Int) (q : Int) (p : Int) = fX12_pieced_b99 M s u k52 fu t (n : Int) (q : Int) ((p : Int) + 1)
          rw [fX12_pieced_b99.eq_2, ← e224]
          refine iteT (by omega) (gdg ms.k (nng ms.r810 (gdg (by rw [ms.k19]) (gdg (by rw [ms.k19]; show 0 ≤ _ ∧ _ < (17 : Int); omega) ?_))))
          rw [show ((p : Int)).toNat = p by omega, g0]
          refine iteF z (nng ms.r788 (gdg ms.k5 ?_))
          rw [hc]
          exact bdg ih (iteT rfl rfl))
    (fun fu t hI => by
      obtain ⟨p1, p2, p3, p4⟩ := hI
      refine ⟨t, ⟨p1, fun x hx => ?_⟩, ?_⟩
      · rcases Nat.lt_succ_iff_lt_or_eq.mp hx with z | z
        · exact p2 x z
        · rw [z]; exact ⟨p3, p4⟩
      · show fX12_pieced_b99 M s u k52 (fu + 1) t (n : Int) (q : Int) (q : Int) = _
        rw [fX12_pieced_b99.eq_2]
        refine iteF (by omega) ?_
        rw [lt_d, eq1.e])

set_option maxHeartbeats 200000 in
/-- PIECED, in the reference -/
theorem rPc {h : Hp} {M n : Nat} {c : Nat → Int} {s u : Int} (ms : MS h M) (hc : gA h (M + 5) = c) (w : WF c) (s0 : 0 ≤ s) (s8 : s < 8) (hn : c (4 + s).toNat = (n : Int)) (u0 : 0 ≤ u) (u1 : u ≤ 1) :
    ∃ t : Hp, On (fun b => b = M + 19 ∨ b = M + 20) h t ∧ fX12_pieced_b52 M s u FU h (n : Int) 0 = if pcA c s u n n = 1000000 then fX12_refuse t M 9 else some (pcA c s u n n, t) := by
  have ws := w.sl s0 s8
  exact fk (S := Hp) (T := Hp) (fun fu v t => fX12_pieced_b52 M s u fu t (n : Int) v) (fun t => if pcA c s u n n = 1000000 then fX12_refuse t M 9 else some (pcA c s u n n, t)) (n + 1)
    (fun q t => On (fun b => b = M + 19 ∨ b = M + 20) h t ∧ ∀ x, x < q → gA t (M + 19) x = pcA c s 0 x x ∧ gA t (M + 20) x = pcA c s 1 x x) _ 0 h (by omega) ⟨On.rf h, fun x hx => absurd hx (by omega)⟩ (by omega)
    (fun fu q t hq hI => by
      obtain ⟨p1, p2⟩ := hI
      obtain ⟨ms, hc⟩ := ms_on ms hc p1
      have b0 := pcA_b c s 0 (P := 0) (by omega) q
      have b1 := pcA_b c s 1 (P := 0) (by omega) q
      have o1 : On (fun b => b = M + 19 ∨ b = M + 20) t (sA t (M + 19) (q : Int) (pcA c s 0 0 q)) := on_sA t (Or.inl rfl)
      obtain ⟨ms1, hc1⟩ := ms_on ms hc o1
      have o2 := o1.tr (on_sA (i := (q : Int)) (v := pcA c s 1 0 q) (sA t (M + 19) (q : Int) (pcA c s 0 0 q)) (Or.inr rfl : (fun b => b = M + 19 ∨ b = M + 20) (M + 20)))
      obtain ⟨ms2, hc2⟩ := ms_on ms hc o2
      obtain ⟨t', ⟨y1, y2⟩, y3⟩ := rPcI (h := sA (sA t (M + 19) (q : Int) (pcA c s 0 0 q)) (M + 20) (q : Int) (pcA c s 1 0 q)) (q := q) (n := n) (s := s) (u := u) ms2 hc2 w s0 s8 hn (by omega)
        (fun x hx => ⟨by rw [gA_sA, if_neg (by omega), gA_sA, if_neg (by omega)]; exact (p2 x hx).1, by rw [gA_sA, if_neg (by omega), gA_sA, if_neg (by omega)]; exact (p2 x hx).2⟩)
        ⟨by rw [gA_sA, if_neg (by omega), gA_sA, if_pos ⟨rfl, by omega⟩, w32_id (by omega) (by omega)], by rw [gA_sA, if_pos ⟨rfl, by omega⟩, w32_id (by omega) (by omega)]⟩ (fX12_pieced_b52 M s u fu)
      left
      refine ⟨t', ⟨(p1.tr o2).tr y1, y2⟩, ?_⟩
      show fX12_pieced_b52 M s u (fu + 1) t (n : Int) (q : Int) = fX12_pieced_b52 M s u fu t' (n : Int) ((q : Int) + 1)
      rw [← y3, fX12_pieced_b52.eq_2]
      refine iteT (by omega) (gdg ms.k (nng ms.r810 ?_))
      by_cases z : q = 0
      · have e0 : pcA c s 0 0 q = 0 := by rw [pcA_0, if_pos z]
        have e1 : pcA c s 1 0 q = 0 := by rw [pcA_0, if_pos z]
        rw [e0] at ms1
        refine iteT (by omega) ?_
        rw [e0, e1, fX12_pieced_b76]
        refine gdg (by rw [ms.k19]) (gdg (by rw [ms.k19]; show 0 ≤ _ ∧ _ < (17 : Int); omega) ?_)
        rw [lt_d]
        refine gdg ms1.k (nng ms1.r811 (iteT (by omega) ?_))
        rw [fX12_pieced_b95]
        refine gdg (by rw [ms1.k20]) (gdg (by rw [ms1.k20]; show 0 ≤ _ ∧ _ < (17 : Int); omega) ?_)
        rw [lt_d]
      · have e0 : pcA c s 0 0 q = 1000000 := by rw [pcA_0, if_neg z]
        have e1 : pcA c s 1 0 q = 1000000 := by rw [pcA_0, if_neg z]
        rw [e0] at ms1
        refine iteF (by omega) ?_
        rw [e0, e1, fX12_pieced_b76]
        refine gdg (by rw [ms.k19]) (gdg (by rw [ms.k19]; show 0 ≤ _ ∧ _ < (17 : Int); omega) ?_)
        rw [lt_d]
        refine gdg ms1.k (nng ms1.r811 (iteF (by omega) ?_))
        rw [fX12_pieced_b95]
        refine gdg (by rw [ms1.k20]) (gdg (by rw [ms1.k20]; show 0 ≤ _ ∧ _ < (17 : Int); omega) ?_)
        rw [lt_d])
    (fun fu t hI => by
      obtain ⟨p1, p2⟩ := hI
      obtain ⟨ms, hc⟩ := ms_on ms hc p1
      obtain ⟨g0, g1⟩ := p2 n (by omega)
      have ii := pcA_i c s 0 u (P := n) (by omega) n
      refine ⟨t, p1, ?_⟩
      show fX12_pieced_b52 M s u (fu + 1) t (n : Int) ((n + 1 : Nat) : Int) = if pcA c s u n n = 1000000 then fX12_refuse t M 9 else some (pcA c s u n n, t)
      rw [fX12_pieced_b52.eq_2]
      refine iteF (by omega) (gdg ms.k (nng ms.r810 (gdg (by rw [ms.k19]) (gdg (by rw [ms.k19]; show 0 ≤ _ ∧ _ < (17 : Int); omega) ?_))))
      rw [show ((n : Int)).toNat = n by omega, g0]
      by_cases z : pcA c s u n n = 1000000
      · refine Eq.trans ?_ (if_pos z).symm
        exact iteT (ii.mpr z) (bd2_id _)
      · refine Eq.trans ?_ (if_neg z).symm
        refine iteF (fun y => z (ii.mp y)) ?_
        by_cases y : u = 0
        · refine iteT y (gdg (by rw [ms.k19]; show 0 ≤ _ ∧ _ < (17 : Int); omega) ?_)
          rw [y]
        · refine iteF y (nng ms.r811 (gdg (by rw [ms.k20]) (gdg (by rw [ms.k20]; show 0 ≤ _ ∧ _ < (17 : Int); omega) ?_)))
          rw [g1, show u = 1 by omega])

set_option maxHeartbeats 200000 in
theorem ok_pieced {h : Hp} {X : Nat} {c : Nat → Int} {s u : Int} (H : CX h X c) (G : CM h X c) : OK2 (fun h => fX11_pieced h X s u) (fun h => fX12_pieced h (X + 121) s u) h X := by
  have w := H.wf
  by_cases q1 : okS c s
  · by_cases q2 : 0 ≤ u ∧ u ≤ 1
    · have s8 := ns_lt w q1
      have ws := w.sl q1.1 s8
      obtain ⟨n, hn⟩ : ∃ n : Nat, c (4 + s).toNat = (n : Int) := ⟨(c (4 + s).toNat).toNat, by omega⟩
      obtain ⟨S, f1, f2, f3, f4, f5, f6⟩ := H.shop
      obtain ⟨t1, t2, t3, t4, t5, t6, t7⟩ := f3.snd w q1.1 q1.2
      obtain ⟨t, ⟨v1, v2⟩, v3⟩ := xPc H f1 q1 q2.1 q2.2
      have eu : (if u = 1 then (1 : Int) else 0) = u := by split <;> omega
      have v3 : fX11_leastPiecing h X (S + 3 + 3 * s.toNat) (if u = 1 then 1 else 0) = some (pcA c s u n n, t) := by
        rw [eu, v3, hn]
        rfl
      have ky := v2.k
      by_cases z : pcA c s u n n = 1000000
      · refine ⟨9, -1, ?_, fun h1 p => ?_⟩
        · show XR (fX11_pieced h X s u) h X _ _
          unfold fX11_pieced
          exact XR.of (by (have z_1 := xSn1 H q1.1 q1.2; (repeat' (first | (with_reducible refine ltg ?_) | ((with_reducible refine iteT ?_ ?_); omega) | ((with_reducible refine iteF ?_ ?_); omega) | ((with_reducible refine gdg ?_ ?_); first | with_reducible exact H.k | with_reducible exact z_1 | exact xIn1 q2.1 q2.2 | with_reducible exact f1 | with_reducible exact f2 | with_reducible exact t2 | with_reducible exact t3 | with_reducible exact t4 | with_reducible exact t5 | with_reducible exact v3 | with_reducible exact ky | omega) | ((with_reducible apply nng); first | with_reducible exact H.k | with_reducible exact z_1 | exact xIn1 q2.1 q2.2 | with_reducible exact f1 | with_reducible exact f2 | with_reducible exact t2 | with_reducible exact t3 | with_reducible exact t4 | with_reducible exact t5 | with_reducible exact v3 | with_reducible exact ky) | ((with_reducible apply bdg); first | with_reducible exact H.k | with_reducible exact z_1 | exact xIn1 q2.1 q2.2 | with_reducible exact f1 | with_reducible exact f2 | with_reducible exact t2 | with_reducible exact t3 | with_reducible exact t4 | with_reducible exact t5 | with_reducible exact v3 | with_reducible exact ky) | ((with_reducible apply bd2g); first | with_reducible exact H.k | with_reducible exact z_1 | exact xIn1 q2.1 q2.2 | with_reducible exact f1 | with_reducible exact f2 | with_reducible exact t2 | with_reducible exact t3 | with_reducible exact t4 | with_reducible exact t5 | with_reducible exact v3 | with_reducible exact ky)))); exact bd2_id _) (xr_re ky v1 (rg_lit rfl))
        · obtain ⟨ms, hc, -⟩ := G.q p
          obtain ⟨t', y1, y2⟩ := rPc (h := pI (pI h1 769 (X + 121) 0) 768 (X + 121) 0) (u := u) ms hc w q1.1 s8 hn q2.1 q2.2
          rw [if_pos z] at y2
          have qm : QM X h1 t' := (m0_q h1 X).tr (q_on y1 (fun b hb => by unfold sc; omega))
          have mk : (hK t' (X + 121)).1 = 12 := by rw [y1.k]; exact ms.k
          simp only [fX12_pieced, lt_d, hK_pI, gR_pI, gA_pI, gB_pI, gC_pI, gJ_pI, ms.r788, nn_s, ms.k0, ms.k5, gd_T, eq_self, hc, bd2_id, Int.reduceToNat, w32_id (x := 4 + s) (by have := q1.1; omega) (by omega)]
          rw [← hn] at y2
          exact MR.of (by (have z_0 := rSn1 w q1.1 q1.2; (repeat' (first | (with_reducible refine ltg ?_) | ((with_reducible refine iteT ?_ ?_); omega) | ((with_reducible refine iteF ?_ ?_); omega) | ((with_reducible refine gdg ?_ ?_); first | with_reducible exact z_0 | exact rIn1 q2.1 q2.2 | omega) | ((with_reducible apply nng); first | with_reducible exact z_0 | exact rIn1 q2.1 q2.2) | ((with_reducible apply bdg); first | with_reducible exact z_0 | exact rIn1 q2.1 q2.2) | ((with_reducible apply bd2g); first | with_reducible exact z_0 | exact rIn1 q2.1 q2.2)))); exact y2) (mr_re mk qm (rg_lit rfl))
      · refine ⟨0, pcA c s u n n, ?_, fun h1 p => ?_⟩
        · show XR (fX11_pieced h X s u) h X _ _
          unfold fX11_pieced
          exact XR.of (by (have z_1 := xSn1 H q1.1 q1.2; (repeat' (first | (with_reducible refine ltg ?_) | ((with_reducible refine iteT ?_ ?_); omega) | ((with_reducible refine iteF ?_ ?_); omega) | ((with_reducible refine gdg ?_ ?_); first | with_reducible exact H.k | with_reducible exact z_1 | exact xIn1 q2.1 q2.2 | with_reducible exact f1 | with_reducible exact f2 | with_reducible exact t2 | with_reducible exact t3 | with_reducible exact t4 | with_reducible exact t5 | with_reducible exact v3 | with_reducible exact ky | omega) | ((with_reducible apply nng); first | with_reducible exact H.k | with_reducible exact z_1 | exact xIn1 q2.1 q2.2 | with_reducible exact f1 | with_reducible exact f2 | with_reducible exact t2 | with_reducible exact t3 | with_reducible exact t4 | with_reducible exact t5 | with_reducible exact v3 | with_reducible exact ky) | ((with_reducible apply bdg); first | with_reducible exact H.k | with_reducible exact z_1 | exact xIn1 q2.1 q2.2 | with_reducible exact f1 | with_reducible exact f2 | with_reducible exact t2 | with_reducible exact t3 | with_reducible exact t4 | with_reducible exact t5 | with_reducible exact v3 | with_reducible exact ky) | ((with_reducible apply bd2g); first | with_reducible exact H.k | with_reducible exact z_1 | exact xIn1 q2.1 q2.2 | with_reducible exact f1 | with_reducible exact f2 | with_reducible exact t2 | with_reducible exact t3 | with_reducible exact t4 | with_reducible exact t5 | with_reducible exact v3 | with_reducible exact ky)))); exact bd2_id _) (xr_an ky v1)
        · obtain ⟨ms, hc, -⟩ := G.q p
          obtain ⟨t', y1, y2⟩ := rPc (h := pI (pI h1 769 (X + 121) 0) 768 (X + 121) 0) (u := u) ms hc w q1.1 s8 hn q2.1 q2.2
          rw [if_neg z] at y2
          have qm : QM X h1 t' := (m0_q h1 X).tr (q_on y1 (fun b hb => by unfold sc; omega))
          have st : gI t' 768 (X + 121) = 0 := by rw [y1.i (by omega)]; exact m0_s h1 X
          simp only [fX12_pieced, lt_d, hK_pI, gR_pI, gA_pI, gB_pI, gC_pI, gJ_pI, ms.r788, nn_s, ms.k0, ms.k5, gd_T, eq_self, hc, bd2_id, Int.reduceToNat, w32_id (x := 4 + s) (by have := q1.1; omega) (by omega)]
          rw [← hn] at y2
          exact MR.of (by (have z_0 := rSn1 w q1.1 q1.2; (repeat' (first | (with_reducible refine ltg ?_) | ((with_reducible refine iteT ?_ ?_); omega) | ((with_reducible refine iteF ?_ ?_); omega) | ((with_reducible refine gdg ?_ ?_); first | with_reducible exact z_0 | exact rIn1 q2.1 q2.2 | omega) | ((with_reducible apply nng); first | with_reducible exact z_0 | exact rIn1 q2.1 q2.2) | ((with_reducible apply bdg); first | with_reducible exact z_0 | exact rIn1 q2.1 q2.2) | ((with_reducible apply bd2g); first | with_reducible exact z_0 | exact rIn1 q2.1 q2.2)))); exact y2) (mr_some qm st)
    · refine ⟨5, -1, ?_, fun h1 p => ?_⟩
      · show XR (fX11_pieced h X s u) h X _ _
        unfold fX11_pieced
        exact XR.of (by (have z_1 := xSn1 H q1.1 q1.2; (repeat' (first | (with_reducible refine ltg ?_) | ((with_reducible refine iteT ?_ ?_); omega) | ((with_reducible refine iteF ?_ ?_); omega) | ((with_reducible refine gdg ?_ ?_); first | with_reducible exact H.k | with_reducible exact z_1 | exact xIn0 (by omega) | omega) | ((with_reducible apply nng); first | with_reducible exact H.k | with_reducible exact z_1 | exact xIn0 (by omega)) | ((with_reducible apply bdg); first | with_reducible exact H.k | with_reducible exact z_1 | exact xIn0 (by omega)) | ((with_reducible apply bd2g); first | with_reducible exact H.k | with_reducible exact z_1 | exact xIn0 (by omega))))); exact bd2_id _) (xr_re H.k (QR.rf h) (rg_lit rfl))
      · obtain ⟨ms, hc, -⟩ := G.q p
        simp only [fX12_pieced, lt_d, hK_pI, gR_pI, gA_pI, gB_pI, gC_pI, gJ_pI, ms.r788, nn_s, ms.k0, ms.k5, gd_T, eq_self, hc, bd2_id, Int.reduceToNat]
        exact MR.of (by (have z_0 := rSn1 w q1.1 q1.2; (repeat' (first | (with_reducible refine ltg ?_) | ((with_reducible refine iteT ?_ ?_); omega) | ((with_reducible refine iteF ?_ ?_); omega) | ((with_reducible refine gdg ?_ ?_); first | with_reducible exact z_0 | exact rIn0 (by omega) | omega) | ((with_reducible apply nng); first | with_reducible exact z_0 | exact rIn0 (by omega)) | ((with_reducible apply bdg); first | with_reducible exact z_0 | exact rIn0 (by omega)) | ((with_reducible apply bd2g); first | with_reducible exact z_0 | exact rIn0 (by omega))))); rfl) (mr_m0r ms (rg_lit rfl))
  · refine ⟨2, -1, ?_, fun h1 p => ?_⟩
    · show XR (fX11_pieced h X s u) h X _ _
      unfold fX11_pieced
      exact XR.of (by (have z_1 := xSn0 H (noS q1); (repeat' (first | (with_reducible refine ltg ?_) | ((with_reducible refine iteT ?_ ?_); omega) | ((with_reducible refine iteF ?_ ?_); omega) | ((with_reducible refine gdg ?_ ?_); first | with_reducible exact H.k | with_reducible exact z_1 | omega) | ((with_reducible apply nng); first | with_reducible exact H.k | with_reducible exact z_1) | ((with_reducible apply bdg); first | with_reducible exact H.k | with_reducible exact z_1) | ((with_reducible apply bd2g); first | with_reducible exact H.k | with_reducible exact z_1)))); exact bd2_id _) (xr_re H.k (QR.rf h) (rg_lit rfl))
    · obtain ⟨ms, hc, -⟩ := G.q p
      simp only [fX12_pieced, lt_d, hK_pI, gR_pI, gA_pI, gB_pI, gC_pI, gJ_pI, ms.r788, nn_s, ms.k0, ms.k5, gd_T, eq_self, hc, bd2_id, Int.reduceToNat]
      exact MR.of (by (have z_0 := rSn0 w (noS q1); (repeat' (first | (with_reducible refine ltg ?_) | ((with_reducible refine iteT ?_ ?_); omega) | ((with_reducible refine iteF ?_ ?_); omega) | ((with_reducible refine gdg ?_ ?_); first | with_reducible exact z_0 | omega) | ((with_reducible apply nng); first | with_reducible exact z_0) | ((with_reducible apply bdg); first | with_reducible exact z_0) | ((with_reducible apply bd2g); first | with_reducible exact z_0)))); rfl) (mr_m0r ms (rg_lit rfl))
