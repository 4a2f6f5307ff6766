/-! A SOUND: the reference's letters, then both -/
def tzAd (nm : NmT) (n : Nat) (q : Nat × Nat) : NmT := fun k => if k = n then q else nm k
set_option maxHeartbeats 200000 in
theorem tzAd_s {nm : NmT} {n : Nat} {q : Nat × Nat} : tzAd nm n q n = q := by unfold tzAd; rw [if_pos rfl]
set_option maxHeartbeats 200000 in
theorem tzAd_n {nm : NmT} {n k : Nat} {q : Nat × Nat} (h : ¬ k = n) : tzAd nm n q k = nm k := by unfold tzAd; rw [if_neg h]
/-- out of omega's sight -/
def tzHd (p : Prop) : Prop := p
set_option maxHeartbeats 200000 in
theorem tzHd_m {p : Prop} (h : p) : tzHd p := h
set_option maxHeartbeats 200000 in
theorem tzm_let_l {M L : Nat} {T : Nat → Int} {t : TkS} {s : Nat} {c9 : Int} (k1 : tkK t = 1) (l16 : tkE t - tkS t ≤ 16) (s8 : s < 8) (c0 : 0 ≤ c9 ∧ c9 ≤ 8) : ∀ n i fu (m : Hp), tkE t - tkS t - i ≤ n → n < fu → i ≤ tkE t - tkS t → tzMt M L T t m → gA m (M + 5) 1481 = c9 →
    ∃ m', GA M m m' ∧ tzMt M L T (tzNt L T t) m' ∧ (∀ k, gA m' (M + 5) k = if k = 1481 then c9 + 1 else if 1492 + 16 * s + i ≤ k ∧ k < 1492 + 16 * s + (tkE t - tkS t) then T (tkS t + (k - (1492 + 16 * s))) - 96 else gA m (M + 5) k) ∧ fX12_readSound_b91 M fu m (s : Int) (i : Int) = some m' := by
  have fin : ∀ i fu (m : Hp), ¬ i < tkE t - tkS t → i ≤ tkE t - tkS t → tzMt M L T t m → gA m (M + 5) 1481 = c9 →
      ∃ m', GA M m m' ∧ tzMt M L T (tzNt L T t) m' ∧ (∀ k, gA m' (M + 5) k = if k = 1481 then c9 + 1 else if 1492 + 16 * s + i ≤ k ∧ k < 1492 + 16 * s + (tkE t - tkS t) then T (tkS t + (k - (1492 + 16 * s))) - 96 else gA m (M + 5) k) ∧ fX12_readSound_b91 M (fu + 1) m (s : Int) (i : Int) = some m' := by
    intro i fu m h1 h2 H hc
    obtain ⟨m1, p1, p2, p3⟩ := tzm_nt H
    have k5 : hK m1 (M + 5) = (21, 1850) := p2.1.1.k5
    have c1 : gA m1 (M + 5) 1481 = c9 := by rw [p1.a (fun z => z)]; exact hc
    have ew : WE (c9 + 1) := we (by omega) (by omega)
    have f1 : GA M m1 (sA m1 (M + 5) ((1481 : Nat) : Int) (c9 + 1)) := ga_sA m1 (by omega)
    refine ⟨sA m1 (M + 5) ((1481 : Nat) : Int) (c9 + 1), (gt_ga p1).tr f1, p2.sA, fun k => ?_, ?_⟩
    · rw [gA_sAi (by unfold rg; omega)]
      by_cases y : k = 1481
      · rw [if_pos y, if_pos y]
      · rw [if_neg y, if_neg y, if_neg (by omega)]
        exact p1.a (fun z => z)
    · rw [fX12_readSound_b91.eq_2, (H.2.2.2.2.2.2.2.1 k1).1]
      refine gdg H.k (iteF (by omega) (bdg p3 (gdg p2.k (nng p2.1.1.r788 (gdg (by rw [k5]) (gdg (by rw [k5]; show 0 ≤ _ ∧ _ < (1850 : Int); omega) (gdg (by rw [k5]; show 0 ≤ _ ∧ _ < (1850 : Int); omega) (?_))))))))
      show some (sA m1 (M + 5) 1481 (w32 (gA m1 (M + 5) 1481 + 1))) = _
      rw [c1, ew.e]
      rfl
  intro n
  induction n with
  | zero =>
    intro i fu m h1 h2 h3 H hc
    obtain ⟨fu, rfl⟩ : ∃ k, fu = k + 1 := ⟨fu - 1, by omega⟩
    exact fin i fu m (by omega) h3 H hc
  | succ n ih =>
    intro i fu m h1 h2 h3 H hc
    obtain ⟨fu, rfl⟩ : ∃ k, fu = k + 1 := ⟨fu - 1, by omega⟩
    by_cases z : i < tkE t - tkS t
    · have h9 := H.1.2.1
      have o := H.ok
      have o1 := o.1
      have o2 := o.2.1
      have ol := o.2.2.2.2.2.1 k1 (tkS t + i) (by omega) (by omega)
      have y := H.1.2.2.2 (tkS t + i) (by omega)
      have lk := tzm_lk1 H.1 (e := tkS t + i) (by omega)
      rw [(tzU_c y.2.1 y.2.2).2.2 (by omega)] at lk
      have k5 : hK m (M + 5) = (21, 1850) := H.1.1.k5
      have e0 : WE ((tkS t : Int) + (i : Int)) := we (by omega) (by omega)
      have e1 : WE (16 * (s : Int)) := we (by omega) (by omega)
      have e2 : WE (1492 + 16 * (s : Int)) := we (by omega) (by omega)
      have e3 : WE (1492 + 16 * (s : Int) + (i : Int)) := we (by omega) (by omega)
      have e4 : WE (T (tkS t + i) - 96) := we (by omega) (by omega)
      have e5 : WE ((i : Int) + 1) := we (by omega) (by omega)
      have ei : (1492 + 16 * (s : Int) + (i : Int)) = ((1492 + 16 * s + i : Nat) : Int) := by omega
      have g0 : GA M m (sA m (M + 5) ((1492 + 16 * s + i : Nat) : Int) (T (tkS t + i) - 96)) := ga_sA m (by omega)
      have s2 : ∀ k, gA (sA m (M + 5) ((1492 + 16 * s + i : Nat) : Int) (T (tkS t + i) - 96)) (M + 5) k = if k = 1492 + 16 * s + i then T (tkS t + i) - 96 else gA m (M + 5) k := fun k => gA_sAi (by unfold rg; omega)
      have H2 : tzMt M L T t (sA m (M + 5) ((1492 + 16 * s + i : Nat) : Int) (T (tkS t + i) - 96)) := H.sA
      obtain ⟨m', p1, p2, p3, p4⟩ := ih (i + 1) fu _ (by omega) (by omega) (by omega) H2 (by rw [s2, if_neg (by omega)]; exact hc)
      refine ⟨m', g0.tr p1, p2, fun k => ?_, ?_⟩
      · rw [p3, s2]
        by_cases y0 : k = 1481
        · rw [if_pos y0, if_pos y0]
        · rw [if_neg y0, if_neg y0]
          by_cases y1 : k = 1492 + 16 * s + i
          · rw [if_neg (by omega), if_pos y1, if_pos (by omega), y1, show 1492 + 16 * s + i - (1492 + 16 * s) = i by omega]
          · rw [if_neg y1]
            by_cases y2 : 1492 + 16 * s + i ≤ k ∧ k < 1492 + 16 * s + (tkE t - tkS t)
            · rw [if_pos (by omega), if_pos y2]
            · rw [if_neg (by omega), if_neg y2]
      · rw [fX12_readSound_b91.eq_2, (H.2.2.2.2.2.2.2.1 k1).1, H.2.2.1, e0.e, e1.e, e2.e, e3.e, e5.e, ei]
        refine gdg H.k (iteT (by omega) (nng H.1.1.r788 (bdg lk (gdg (by rw [k5]) (gdg (by rw [k5]; show 0 ≤ _ ∧ _ < (1850 : Int); omega) (?_))))))
        rw [e4.e]
        exact ltg (ltg p4)
    · exact fin i fu m z h3 H hc
set_option maxHeartbeats 200000 in
theorem tzm_let {M L : Nat} {T : Nat → Int} {t : TkS} {m : Hp} {s : Nat} {c9 : Int} (H : tzMt M L T t m) (s8 : s < 8) (c0 : 0 ≤ c9 ∧ c9 ≤ 8) (hc : gA m (M + 5) 1481 = c9) :
    ∃ m', GA M m m' ∧ tzMt M L T (tzLt L T t) m' ∧ (if gI m 780 M = 0 then (if gI m 782 M = 1 then (if gI m 786 M ≤ 16 then fX12_readSound_b67 M m (s : Int) else fX12_readSound_b63 M m (s : Int)) else fX12_readSound_b63 M m (s : Int)) else fX12_readSound_b67 M m (s : Int)) = some m' ∧
      (tkF (tzLt L T t) = 0 → ∀ k, gA m' (M + 5) k = if k = 1481 then c9 + 1 else if 1492 + 16 * s ≤ k ∧ k < 1492 + 16 * s + (tkE t - tkS t) then T (tkS t + (k - (1492 + 16 * s))) - 96 else if k = 1484 + s then ((tkE t - tkS t : Nat) : Int) else gA m (M + 5) k) := by
  have b67n : ∀ {t : TkS} {m : Hp}, tzMt M L T t m → ¬ tkF t = 0 → fX12_readSound_b67 M m (s : Int) = some m := fun {t} {m} H q => by
    have hf := H.f0
    unfold fX12_readSound_b67
    rw [H.2.2.2.2.1]
    exact gdg H.k (iteT (by omega) (rfl))
  have b63 : tkF t = 0 → ¬ (tkK t = 1 ∧ tkE t - tkS t ≤ 16) → ∃ m', GA M m m' ∧ tzMt M L T (tzLt L T t) m' ∧ fX12_readSound_b63 M m (s : Int) = some m' ∧ ¬ tkF (tzLt L T t) = 0 := fun f0 q => by
    obtain ⟨m', p1, p2, p3⟩ := tzm_wrong H
    unfold tzLt
    rw [if_pos f0, if_neg q]
    refine ⟨m', gt_ga p1, p2, ?_, tzSt_0 (by omega)⟩
    unfold fX12_readSound_b63
    exact gdg H.k (bdg p3 (b67n p2 (tzSt_0 (by omega))))
  have hf := H.f0
  have h9 := H.1.2.1
  have o := H.ok
  have o1 := o.1
  have o2 := o.2.1
  rw [H.2.2.2.2.1, H.2.1]
  by_cases f0 : tkF t = 0
  · by_cases k1 : tkK t = 1
    · rw [(H.2.2.2.2.2.2.2.1 k1).1]
      by_cases l16 : tkE t - tkS t ≤ 16
      · have e1 : WE (1484 + (s : Int)) := we (by omega) (by omega)
        have k5 : hK m (M + 5) = (21, 1850) := H.1.1.k5
        have g0 : GA M m (sA m (M + 5) ((1484 + s : Nat) : Int) ((tkE t - tkS t : Nat) : Int)) := ga_sA m (by omega)
        have s2 : ∀ k, gA (sA m (M + 5) ((1484 + s : Nat) : Int) ((tkE t - tkS t : Nat) : Int)) (M + 5) k = if k = 1484 + s then ((tkE t - tkS t : Nat) : Int) else gA m (M + 5) k := fun k => gA_sAi (by unfold rg; omega)
        obtain ⟨m', p1, p2, p3, p4⟩ := tzm_let_l k1 l16 s8 c0 (tkE t - tkS t) 0 FU _ (by omega) (show tkE t - tkS t < 1000000 by omega) (by omega) (H.sA (i := ((1484 + s : Nat) : Int)) (v := ((tkE t - tkS t : Nat) : Int))) (by rw [s2, if_neg (by omega)]; exact hc)
        refine ⟨m', g0.tr p1, ?_, ?_, fun _ k => ?_⟩
        · unfold tzLt
          rw [if_pos f0, if_pos ⟨k1, l16⟩]; exact p2
        · refine iteT f0 (iteT k1 (iteT (by omega) (?_)))
          unfold fX12_readSound_b67
          rw [H.2.2.2.2.1, (H.2.2.2.2.2.2.2.1 k1).1, e1.e, show (1484 + (s : Int)) = ((1484 + s : Nat) : Int) by omega]
          exact gdg H.k (iteF (by omega) (nng H.1.1.r788 (gdg (by rw [k5]) (gdg (by rw [k5]; show 0 ≤ _ ∧ _ < (1850 : Int); omega) (ltg (p4))))))
        · rw [p3, s2]
          by_cases y0 : k = 1481
          · rw [if_pos y0, if_pos y0]
          · rw [if_neg y0, if_neg y0]
            by_cases y2 : 1492 + 16 * s ≤ k ∧ k < 1492 + 16 * s + (tkE t - tkS t)
            · rw [if_pos (by omega), if_pos y2]
            · rw [if_neg (by omega), if_neg y2]
      · obtain ⟨m', p1, p2, p3, p4⟩ := b63 f0 (fun z => l16 z.2)
        exact ⟨m', p1, p2, iteT f0 (iteT k1 (iteF (by omega) (p3))), fun z => absurd z p4⟩
    · obtain ⟨m', p1, p2, p3, p4⟩ := b63 f0 (fun z => k1 z.1)
      exact ⟨m', p1, p2, iteT f0 (iteF k1 (p3)), fun z => absurd z p4⟩
  · unfold tzLt
    rw [if_neg f0]
    exact ⟨m, GA.rf m, H, iteF f0 (b67n H f0), fun z => absurd z f0⟩
/-- a part's end: both stand alike, and the text goes on -/
def tzPe (X S M L : Nat) (T : Nat → Int) (t : TkS) (h m : Hp) (f g : Option Hp) : Prop :=
  ∃ h' m1 m' t', FC X S h h' ∧ GK M m m' ∧ f = some h' ∧ g = some m1 ∧ (hK m1 M).1 = 12 ∧ fX12_must m1 M (if gI m1 782 M = 3 then 1 else 0) = some m' ∧ tzPi X S M L T t' h' m' ∧ (tkF t' = 0 → tkS t < tkS t')
set_option maxHeartbeats 200000 in
theorem tz_sg (k : Int) : (if k = 3 then (1 : Int) else 0) = tzB (decide (k = 3)) := by
  by_cases q : k = 3
  · rw [if_pos q, decide_eq_true q]; rfl
  · rw [if_neg q, decide_eq_false q]; rfl
set_option maxHeartbeats 200000 in
theorem tzm_sign {M L : Nat} {T : Nat → Int} {t : TkS} {m : Hp} (H : tzMt M L T t m) : ∃ m', GT M m m' ∧ tzMt M L T (tzMu L T t (decide (tkK t = 3))) m' ∧ fX12_must m M (if gI m 782 M = 3 then 1 else 0) = some m' := by
  rw [H.2.1, tz_sg]
  exact tzm_must H
set_option maxHeartbeats 200000 in
/-- how far a step goes -/
theorem tzNt_s {L : Nat} {T : Nat → Int} {t : TkS} (o : tzOk L T t) : tkE t ≤ tkS (tzNt L T t) := (tzNx_ok o.2.1).2
set_option maxHeartbeats 200000 in
theorem tz_ninth {X S M L : Nat} {T : Nat → Int} {t : TkS} {h m : Hp} {f g : Option Hp} (P : tzPi X S M L T t h m) (k1 : tkK t = 1) (e1 : ∀ h', fX9_stop h (X + 10) 6 = some h' → f = some h') (e2 : ∀ m', fX12_fail m M 6 (tkS t : Int) = some m' → tzMt M L T (tzSt t 6) m' → g = some m') : tzPe X S M L T t h m f g := by
  obtain ⟨H, K, R, G⟩ := P
  obtain ⟨h', p1, p2, p3⟩ := tzx_stop (r := 6) H (by omega)
  obtain ⟨m1, r1, r2, r3⟩ := tzm_fail (r := 6) K (by omega) (by omega)
  obtain ⟨m', s1, s2, s3⟩ := tzm_sign r2
  have nf : ¬ tkF (tzSt t 6) = 0 := tzSt_0 (by omega)
  rw [tzMu_n nf] at s2
  exact ⟨h', m1, m', tzSt t 6, ft_fc p1, (gt_gk r1).tr (gt_gk s1), e1 h' p3, e2 m1 r3 r2, r2.k, s3, ⟨p2, s2, R.ft p1, fun z => absurd z nf⟩, fun z => absurd z nf⟩
set_option maxHeartbeats 200000 in
theorem fn_fc {X S a b : Nat} {h h' : Hp} (p : FN X a b h h') (hab : (a = X + 13 ∧ b = X + 14) ∨ (a = X + 15 ∧ b = X + 16)) : FC X S h h' := p.mono (fun f x w => Or.inl w) (fun x v => Or.inl (by omega))
set_option maxHeartbeats 200000 in
theorem fr_fc {X S s : Nat} {h h' : Hp} (p : FR X (S + 3 + 3 * s) (S + 4 + 3 * s) h h') : FC X S h h' := p.mono (fun f x w => by omega) (fun x v => Or.inr (by omega))
set_option maxHeartbeats 4000000 in
theorem tzp_sound {X S M L : Nat} {T : Nat → Int} {t : TkS} {h m : Hp} (P : tzPi X S M L T t h m) (f0 : tkF t = 0) (k1 : tkK t = 1) : tzPe X S M L T t h m (fX8_readSound h (X + 12)) (fX12_readSound m M) := by
  obtain ⟨H, K, R, G⟩ := id P
  obtain ⟨ns, nj, nS, nJ, ⟨b1, b2, b3, b4, b5, b6, b7, b8⟩, ⟨N1, N2, N3, N4, N5, N6⟩, sn, s0, jn, j0⟩ := G f0
  have k12 : (hK h (X + 12)).1 = 8 := by rw [R.1.k12]
  have kS : (hK h S).1 = 7 := by rw [R.2.2.2.1]
  have k5 : hK m (M + 5) = (21, 1850) := K.1.1.k5
  have XS1 := R.2.2.1
  by_cases n8 : ns = 8
  · refine tz_ninth P k1 (fun h' e => ?_) (fun m' e e2 => ?_)
    · unfold fX8_readSound
      refine gdg k12 (nng R.2.1 (gdg kS (?_)))
      rw [b1]
      exact iteF (by omega) (nng R.1.r512 (gdg H.k (bdg e (rfl))))
    · have nf : ¬ tkF (tzSt t 6) = 0 := tzSt_0 (by omega)
      have hf := e2.f0
      unfold fX12_readSound
      refine gdg K.k (nng K.1.1.r788 (gdg (by rw [k5]) (gdg (by rw [k5]; show 0 ≤ _ ∧ _ < (1850 : Int); omega) (ltg (?_)))))
      show (if gA m (M + 5) 1481 = 8 then _ else _) = _
      rw [b5, K.2.2.1]
      refine iteT (by omega) (bdg e ?_)
      unfold fX12_readSound_b25
      rw [e2.2.2.2.2.1]
      exact gdg e2.k (iteT (by omega) (rfl))
  · -- the class
    obtain ⟨h1, p1, H1, e1⟩ := tzx_nt H
    have R1 := R.ft p1
    have f1 : tkF (tzNt L T t) = 0 := f0
    have s1 := tzNt_s H.ok
    have b1' : gI h1 450 S = (ns : Int) := by rw [p1.i (by omega)]; exact b1
    have b2' : gI h1 451 S = (nj : Int) := by rw [p1.i (by omega)]; exact b2
    have N1' : tzNX h1 (X + 13) (X + 14) nS ns := fun k hk => by rw [p1.a (fun z => z), p1.a (fun z => z)]; exact N1 k hk
    have N2' : tzNX h1 (X + 15) (X + 16) nJ nj := fun k hk => by rw [p1.a (fun z => z), p1.a (fun z => z)]; exact N2 k hk
    obtain ⟨m1, q1, K1, g1, w1⟩ := tzm_readNew (o := 0) (k := ns) K f0 b5 b6 b3 b4 N3 N4 N5 N6 (by omega) (by omega)
    replace w1 := tzHd_m w1
    generalize tzNt L T t = t1 at *
    obtain ⟨h2, p2, H2, e2, v2⟩ := tzx_new (k := ns) H1 R1 f1 b1' b2' b3 b4 N1' N2' N5 N6 (Or.inl ⟨rfl, rfl⟩) (by omega)
    replace v2 := tzHd_m v2
    have z2 := tzHd_m (@tzNw_0 L T t1 nS ns nJ nj)
    generalize tzNw L T t1 nS ns nJ nj = t2 at *
    have R2 := R1.fc (fn_fc p2 (Or.inl ⟨rfl, rfl⟩))
    have c1' : gA m1 (M + 5) 1481 = (ns : Int) := by rw [q1.a (by omega)]; exact b5
    obtain ⟨m2, q2, K2, g2, w2⟩ := tzm_let (s := ns) K1 (by omega) (by omega) c1'
    replace w2 := tzHd_m w2
    have hs2 : tkF t2 = 0 → gI h2 386 (S + 3 + 3 * ns) = 0 := fun _ => by
      rw [p2.i (by omega), p1.i (by omega), (sn ns (by omega)).1]
      exact s0 ns (by omega) (by omega)
    obtain ⟨h3, p3, H3, e3, v3⟩ := tzx_let (s := ns) H2 R2 (by omega) hs2
    clear hs2
    replace v3 := tzHd_m v3
    have z3 := tzHd_m (@tzLt_0 L T t2)
    have R3 := R2.fc (fr_fc p3)
    generalize tzLt L T t2 = t3 at *
    obtain ⟨h4, p4, H4, e4⟩ := tzx_sign H3
    have R4 := R3.ft p4
    obtain ⟨m3, q3, K3, g3⟩ := tzm_sign K2
    have z4 := tzHd_m (@tzMu_0 L T t3 (decide (tkK t3 = 3)))
    generalize tzMu L T t3 (decide (tkK t3 = 3)) = t4 at *
    have i1 : gI h2 450 S = (ns : Int) := by rw [p2.i (by omega)]; exact b1'
    have i4 : gI h4 450 S = (ns : Int) := by rw [p4.i (by omega), p3.i (by omega)]; exact i1
    have ew : WE ((ns : Int) + 1) := we (by omega) (by omega)
    have f5 : Fr (fun f a => a = S ∧ f = 450) (fun _ => False) h4 (pI h4 450 S ((ns : Int) + 1)) := fr_pI h4 ⟨rfl, rfl⟩
    have f5' : FC X S h4 (pI h4 450 S ((ns : Int) + 1)) := f5.mono (fun f x w => Or.inr (by omega)) (fun _ v => v.elim)
    have H5 : tzXt X L T t4 (pI h4 450 S ((ns : Int) + 1)) := H4.fr f5 (fun f _ _ => by omega) (fun z => z)
    have R5 := R4.fc f5'
    have x450 : gI (pI h4 450 S ((ns : Int) + 1)) 450 S = ((ns + 1 : Nat) : Int) := by rw [gI_pIs (by unfold rg; omega)]; omega
    obtain ⟨c1, c2, c3, c4, c5⟩ := R2.2.2.2.2.2.2.2.2.1 ns (by omega)
    have k26 := R2.2.2.2.2.2.2.1
    have fall : FC X S h (pI h4 450 S ((ns : Int) + 1)) := ((((ft_fc p1).tr (fn_fc p2 (Or.inl ⟨rfl, rfl⟩))).tr (fr_fc p3)).tr (ft_fc p4)).tr f5'
    have gall : GK M m m3 := ((gn_gk q1).tr q2.k).tr (gt_gk q3)
    have ecl : fX8_readSound h (X + 12) = some (pI h4 450 S ((ns : Int) + 1)) := by
      unfold fX8_readSound
      refine gdg k12 (nng R.2.1 (gdg kS (?_)))
      rw [b1]
      refine iteT (by omega) (nng R.1.r512 (gdg H.k (bdg e1 (gdg (by rw [R1.1.k12]) (nng R1.1.r513 (nng R1.1.r514 (nng R1.2.1 (gdg (by rw [R1.2.2.2.1]) (?_)))))))))
      rw [b1']
      refine bdg e2 (gdg (by rw [R2.1.k12]) (nng R2.2.1 (gdg (by rw [R2.2.2.2.1]) (nng R2.2.2.2.2.1 (gdg (by rw [k26]) (?_))))))
      rw [i1]
      refine gdg (by rw [k26]; show 0 ≤ _ ∧ _ < ((8 : Nat) : Int); omega) (nng (by rw [Int.toNat_natCast]; exact c1) (bdg e3 (gdg (by rw [R3.1.k12]) (nng R3.1.r512 (gdg H3.k (bdg e4 (gdg (by rw [R4.1.k12]) (nng R4.2.1 (gdg (by rw [R4.2.2.2.1]) (?_))))))))))
      rw [i4, ew.e]
      rfl
    have erf : fX12_readSound m M = some m2 := by
      unfold fX12_readSound
      refine gdg K.k (nng K.1.1.r788 (gdg (by rw [k5]) (gdg (by rw [k5]; show 0 ≤ _ ∧ _ < (1850 : Int); omega) (ltg (?_)))))
      show (if gA m (M + 5) 1481 = 8 then _ else fX12_readSound_b25 M m (gA m (M + 5) 1481)) = _
      rw [b5]
      refine iteF (by omega) ?_
      unfold fX12_readSound_b25
      rw [K.2.2.2.2.1]
      exact gdg K.k (iteF (by omega) (bdg g1 (gdg K1.k (g2))))
    refine ⟨_, m2, m3, _, fall, gall, ecl, erf, K2.k, g3, ⟨H5, K3, R5, fun z => ?_⟩, fun z => ?_⟩
    · obtain ⟨y3, -, -⟩ := z4 z
      obtain ⟨y2, zk, zl, ze⟩ := z3 y3
      obtain ⟨y1, zn, zb, ze2⟩ := z2 y2
      have V2 := v2 y2
      have W1 := w1 y2
      have V3 := v3 y3
      have W2 := w2 y3
      clear v2 w1 v3 w2 z2 z3 z4 e1 e2 e3 e4 g1 g2 g3 ecl erf G P
      have o2 := H2.ok
      have h9 := H.l
      obtain ⟨zk1, zl1⟩ := tzNa_1 zn
      have o1 := H1.ok
      have D : ∀ k, gA m3 (M + 5) k = if k = 1481 then (ns : Int) + 1 else if 1492 + 16 * ns ≤ k ∧ k < 1492 + 16 * ns + (tkE t2 - tkS t2) then T (tkS t2 + (k - (1492 + 16 * ns))) - 96 else if k = 1484 + ns then ((tkE t2 - tkS t2 : Nat) : Int) else gA m (M + 5) k := fun k => by
        rw [q3.a (fun z => z), W2, q1.a (by omega)]
      have la : ∀ k, k < tkE t2 - tkS t2 → 97 ≤ T (tkS t2 + k) ∧ T (tkS t2 + k) ≤ 122 := fun k hk => o2.2.2.2.2.2.1 zk (tkS t2 + k) (by omega) (by omega)
      have D0 : ∀ k, k ≠ 1481 → (k < 1492 + 16 * ns ∨ 1508 + 16 * ns ≤ k) → k ≠ 1484 + ns → gA m3 (M + 5) k = gA m (M + 5) k := fun k a1 a2 a3 => by
        rw [D, if_neg a1, if_neg (by omega), if_neg a3]
      have E : ∀ f a, a ≠ X + 10 → ¬ (a = S ∧ f = 450) → ¬ (a = S + 3 + 3 * ns ∧ f = 386) → gI (pI h4 450 S ((ns : Int) + 1)) f a = gI h f a := fun f a a1 a2 a3 => by
        rw [f5.i a2, p4.i (by omega), p3.i (by omega), p2.i (by omega), p1.i (by omega)]
      have EA : ∀ a i, a ≠ S + 4 + 3 * ns → gA (pI h4 450 S ((ns : Int) + 1)) a i = gA h2 a i := fun a i a1 => by
        rw [f5.a (fun z => z), p4.a (fun z => z), p3.a a1]
      refine ⟨ns + 1, nj, tzAd nS ns (tkS t1, tkE t1 - tkS t1), nJ, ⟨x450, ?_, by omega, b4, ?_, ?_, ?_, ?_⟩, ⟨?_, ?_, ?_, ?_, ?_, N6⟩, ?_, ?_, ?_, ?_⟩
      · rw [E _ _ (by omega) (by omega) (by omega)]; exact b2
      · rw [D, if_pos rfl]; omega
      · rw [D0 _ (by omega) (by omega) (by omega)]; exact b6
      · rw [D0 _ (by omega) (by omega) (by omega)]; exact b7
      · rw [D0 _ (by omega) (by omega) (by omega)]; exact b8
      · intro k hk
        rw [EA _ _ (by omega), EA _ _ (by omega)]
        by_cases y : k = ns
        · rw [y, tzAd_s]
          exact ⟨V2.1, V2.2.1⟩
        · rw [tzAd_n y, (V2.2.2 k y).1, (V2.2.2 k y).2]
          exact N1' k (by omega)
      · intro k hk
        rw [EA _ _ (by omega), EA _ _ (by omega), p2.a (by omega), p2.a (by omega)]
        exact N2' k hk
      · intro k hk
        rw [q3.b (fun z => z), q2.b]
        by_cases y : k = ns
        · rw [y, tzAd_s]
          exact W1.1
        · rw [tzAd_n y, W1.2 _ (by omega)]
          exact N3 k (by omega)
      · intro k hk
        rw [q3.b (fun z => z), q2.b, W1.2 _ (by omega)]
        exact N4 k hk
      · intro k hk
        by_cases y : k = ns
        · rw [y, tzAd_s]
          have oa := o1.1
          have ob := o1.2.1
          exact ⟨show tkS t1 + (tkE t1 - tkS t1) ≤ L by omega, zl1, fun i hi => o1.2.2.2.2.2.1 zk1 (tkS t1 + i) (by omega) (by have : i < tkE t1 - tkS t1 := hi; omega)⟩
        · rw [tzAd_n y]
          exact N5 k (by omega)
      · intro s hs
        by_cases y : s = ns
        · subst y
          have e4 : tzD M m3 (4 + s) = ((tkE t2 - tkS t2 : Nat) : Int) := by
            show gA m3 (M + 5) (1480 + (4 + s)) = _
            rw [D, if_neg (by omega), if_neg (by omega), if_pos (by omega)]
          unfold tzSN
          rw [e4]
          refine ⟨?_, by omega, fun k hk => ?_⟩
          · rw [f5.i (by omega), p4.i (by omega)]; exact V3.1
          · have l1 := la k (by omega)
            have e5 : tzD M m3 (12 + 16 * s + k) = T (tkS t2 + k) - 96 := by
              show gA m3 (M + 5) (1480 + (12 + 16 * s + k)) = _
              rw [D, if_neg (by omega), if_pos (by omega), show 1480 + (12 + 16 * s + k) - (1492 + 16 * s) = k by omega]
            rw [e5, f5.a (fun z => z), p4.a (fun z => z), V3.2 k (by omega)]
            omega
        · refine (sn s hs).cg (E _ _ (by omega) (by omega) (by omega)) (fun k => ?_) (D0 _ (by omega) (by omega) (by omega)) (fun k hk => D0 _ (by omega) (by omega) (by omega))
          rw [EA _ _ (by omega), p2.a (by omega), p1.a (fun z => z)]
      · intro s h1 h2
        show gA m3 (M + 5) (1480 + (4 + s)) = 0
        rw [D0 _ (by omega) (by omega) (by omega)]
        exact s0 s (by omega) h2
      · intro j hj
        refine (jn j hj).cg b3 (Nat.le_succ _) (fun f hf => E _ _ (by omega) (by omega) (by omega)) ⟨D0 _ (by omega) (by omega) (by omega), D0 _ (by omega) (by omega) (by omega), D0 _ (by omega) (by omega) (by omega), D0 _ (by omega) (by omega) (by omega), D0 _ (by omega) (by omega) (by omega), D0 _ (by omega) (by omega) (by omega), D0 _ (by omega) (by omega) (by omega), D0 _ (by omega) (by omega) (by omega), D0 _ (by omega) (by omega) (by omega)⟩ (fun k hk => D0 _ (by omega) (by omega) (by omega)) (fun s hs => ⟨D0 _ (by omega) (by omega) (by omega), (sn s (by omega)).2.1.2, fun k hk => D0 _ (by omega) (by omega) (by omega)⟩)
      · intro j hj h8
        exact (j0 j hj h8).cg (fun f hf => E _ _ (by omega) (by omega) (by omega)) ⟨D0 _ (by omega) (by omega) (by omega), D0 _ (by omega) (by omega) (by omega), D0 _ (by omega) (by omega) (by omega), D0 _ (by omega) (by omega) (by omega), D0 _ (by omega) (by omega) (by omega), D0 _ (by omega) (by omega) (by omega), D0 _ (by omega) (by omega) (by omega), D0 _ (by omega) (by omega) (by omega), D0 _ (by omega) (by omega) (by omega)⟩
    · obtain ⟨y3, -, e4'⟩ := z4 z
      obtain ⟨y2, zk, zl, ze⟩ := z3 y3
      obtain ⟨y1, zn, zb, ze2⟩ := z2 y2
      have a0 := H.ok.2.2.2.2.1 (by omega)
      have a2 := H1.ok.1
      have a3 := tzNt_s H1.ok
      have a4 := H2.ok.1
      have a5 := tzNt_s H2.ok
      have a6 := H3.ok.1
      rw [← ze2] at a3
      rw [← ze] at a5
      have s4 := tzNt_s H3.ok
      rw [← e4'] at s4
      omega
