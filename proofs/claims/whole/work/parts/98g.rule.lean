/-! A RULE: its kinds, its gift -/
/-- the law that is made -/
def LSs (h : Hp) (R : Nat) : Prop := hK h R = (1, 0) ∧ gR h 64 R = some (R + 1) ∧ gR h 65 R = some (R + 2) ∧ gR h 66 R = some (R + 3) ∧ hK h (R + 1) = (21, 12) ∧ hK h (R + 2) = (21, 12) ∧ hK h (R + 3) = (21, 12)
def LRd (X R : Nat) (h : Hp) : Prop := XS h X ∧ X + 144 ≤ R ∧ LSs h R
abbrev FLw (X R : Nat) : Hp → Hp → Prop := Fr (fun f a => (a = X + 10 ∧ 578 ≤ f ∧ f ≤ 583) ∨ (a = R ∧ f = 67)) (fun a => R + 1 ≤ a ∧ a ≤ R + 3)
set_option maxHeartbeats 200000 in
theorem ft_flw {X R : Nat} {h h' : Hp} (p : FT X h h') : FLw X R h h' := p.mono (fun _ _ w => Or.inl w) (fun _ v => v.elim)
set_option maxHeartbeats 200000 in
theorem LRd.fr {X R : Nat} {h h' : Hp} (H : LRd X R h) (p : FLw X R h h') : LRd X R h' := by
  obtain ⟨h1, h2, g1, g2, g3, g4, g5, g6, g7⟩ := H
  exact ⟨h1.fr p (fun f a z => by omega) (fun a z => by omega), h2, by rw [p.k]; exact g1, by rw [p.r (by omega)]; exact g2, by rw [p.r (by omega)]; exact g3, by rw [p.r (by omega)]; exact g4, by rw [p.k]; exact g5, by rw [p.k]; exact g6, by rw [p.k]; exact g7⟩
set_option maxHeartbeats 200000 in
theorem LRd.ft {X R : Nat} {h h' : Hp} (H : LRd X R h) (p : FT X h h') : LRd X R h' := H.fr (ft_flw p)
def tzAn : List Nat := [97, 110, 121]
def tzRe : List Nat := [114, 101, 115, 116]
def tzFi : List Nat := [102, 105, 114, 115, 116]
def tzSe : List Nat := [115, 101, 99, 111, 110, 100]
/-- a letter, or rest -/
def tzLr (L : Nat) (T : Nat → Int) (t : TkS) : Int × TkS :=
  if tkF t = 0 then (if tkK t = 1 then (if tkE t - tkS t = 1 then (T (tkS t) - 96, tzNt L T t) else if tzI T t tzRe = true then (0, tzNt L T t) else (-1, tzSt t 2)) else (-1, tzSt t 2)) else (-1, t)
set_option maxHeartbeats 200000 in
theorem tzIs_len {T : Nat → Int} {t : TkS} {w : List Nat} (h : tzI T t w = true) : tkK t = 1 ∧ tkE t - tkS t = w.length := ⟨(tzI_1 h).1, (tzI_1 h).2.1⟩
set_option maxHeartbeats 200000 in
theorem tzI_k {T : Nat → Int} {t : TkS} {w : List Nat} (h : ¬ tkK t = 1) : tzI T t w = false := decide_eq_false (fun z => h z.1)
set_option maxHeartbeats 200000 in
theorem tzI_l {T : Nat → Int} {t : TkS} {w : List Nat} (h : ¬ tkE t - tkS t = w.length) : tzI T t w = false := decide_eq_false (fun z => h z.2.1)
set_option maxHeartbeats 200000 in
theorem tzGo_0 {L : Nat} {T : Nat → Int} {t : TkS} : tzGo L T t false = t := by unfold tzGo; rw [if_neg (fun z => by cases z.2)]
set_option maxHeartbeats 200000 in
theorem tzGo_1 {L : Nat} {T : Nat → Int} {t : TkS} (h : tkF t = 0) : tzGo L T t true = tzNt L T t := by unfold tzGo; rw [if_pos ⟨h, rfl⟩]
set_option maxHeartbeats 200000 in
theorem tzB_z {f : Int} : (if f = 0 then tzB false else 0) = 0 := by split <;> rfl
set_option maxHeartbeats 200000 in
/-- the class: no word is skipped -/
theorem tzx_sk0 {X L : Nat} {T : Nat → Int} {t : TkS} {h : Hp} {w : List Nat} (H : tzXt X L T t h) (hw : tzWd w = true) (q : tzI T t w = false ∨ ¬ tkF t = 0) : ∃ h', FT X h h' ∧ tzXt X L T t h' ∧ fX9_skipWord h (X + 10) w = some (0, h') := by
  obtain ⟨h1, p1, p2, p3⟩ := tzx_skip H hw
  rcases q with q | q
  · rw [q, tzGo_0] at p2
    rw [q, tzB_z] at p3
    exact ⟨h1, p1, p2, p3⟩
  · rw [tzGo_n q] at p2
    rw [if_neg q] at p3
    exact ⟨h1, p1, p2, p3⟩
set_option maxHeartbeats 200000 in
theorem tzx_sk1 {X L : Nat} {T : Nat → Int} {t : TkS} {h : Hp} {w : List Nat} (H : tzXt X L T t h) (hw : tzWd w = true) (q : tzI T t w = true) (f0 : tkF t = 0) : ∃ h', FT X h h' ∧ tzXt X L T (tzNt L T t) h' ∧ fX9_skipWord h (X + 10) w = some (1, h') := by
  obtain ⟨h1, p1, p2, p3⟩ := tzx_skip H hw
  rw [q, tzGo_1 f0] at p2
  rw [q, if_pos f0] at p3
  exact ⟨h1, p1, p2, p3⟩
set_option maxHeartbeats 200000 in
theorem tzx_lr {X R L : Nat} {T : Nat → Int} {t : TkS} {h : Hp} (H : tzXt X L T t h) (Q : LRd X R h) : ∃ h' v, FT X h h' ∧ tzXt X L T (tzLr L T t).2 h' ∧ fX2_takeLetterOrRest h (X + 44) = some (v, h') ∧ (tkF (tzLr L T t).2 = 0 → v = (tzLr L T t).1) ∧ 0 ≤ v ∧ v ≤ 26 := by
  have k44 : (hK h (X + 44)).1 = 2 := by rw [Q.1.k44]
  have o := H.ok
  have b33n : ∀ {t : TkS} {h0 : Hp}, tzXt X L T t h0 → LRd X R h0 → ¬ tkF t = 0 → fX2_takeLetterOrRest_b33 (X + 44) h0 = some (0, h0) := fun {t} {h0} H0 Q0 q => by
    have e := tzx_hasF H0
    rw [if_neg q] at e
    unfold fX2_takeLetterOrRest_b33
    exact gdg (by rw [Q0.1.k44]) (nng Q0.1.r128 (gdg H0.k (bdg e (iteF (by omega) (rfl)))))
  unfold fX2_takeLetterOrRest tzLr
  by_cases f0 : tkF t = 0
  · rw [if_pos f0]
    by_cases k1 : tkK t = 1
    · rw [if_pos k1]
      by_cases l1 : tkE t - tkS t = 1
      · rw [if_pos l1]
        obtain ⟨h1, p1, p2, p3⟩ := tzx_sk0 (w := tzRe) H rfl (Or.inl (tzI_l (by rw [l1]; decide)))
        have Q1 := Q.ft p1
        have e1 := tzx_up1 (m := 1) p2 k1 (by omega)
        have e2 := tzx_hasF p2
        rw [if_pos f0] at e2
        have e3 := tzx_ltA (k := 0) p2 (by omega)
        have ol := o.2.2.2.2.2.1 k1 (tkS t) (by omega) (by omega)
        have o2 := o.2.1
        rw [if_pos (show tkS t + 0 < L by omega)] at e3
        obtain ⟨h2, r1, r2, r3⟩ := tzx_nt p2
        refine ⟨h2, T (tkS t) - 96, p1.tr r1, r2, ?_, fun _ => rfl, by omega, by omega⟩
        refine gdg k44 (nng Q.1.r128 (gdg H.k (bd2g p3 (iteT rfl (gdg (by rw [Q1.1.k44]) (nng Q1.1.r128 (gdg p2.k (bdg e1 (iteF (by omega) (?_))))))))))
        unfold fX2_takeLetterOrRest_b33
        exact gdg (by rw [Q1.1.k44]) (nng Q1.1.r128 (gdg p2.k (bdg e2 (iteT rfl (bdg e3 (bdg r3 (rfl)))))))
      · rw [if_neg l1]
        cases q : tzI T t tzRe with
        | true =>
          rw [if_pos (rfl : true = true)]
          obtain ⟨h1, p1, p2, p3⟩ := tzx_sk1 (w := tzRe) H rfl q f0
          exact ⟨h1, 0, p1, p2, gdg k44 (nng Q.1.r128 (gdg H.k (bd2g p3 (iteF (by omega) (rfl))))), fun _ => rfl, by omega, by omega⟩
        | false =>
          rw [if_neg Bool.false_ne_true]
          obtain ⟨h1, p1, p2, p3⟩ := tzx_sk0 (w := tzRe) H rfl (Or.inl q)
          have Q1 := Q.ft p1
          have o5 := o.2.2.2.2.1 (by omega)
          have e1 := tzx_up0 (m := 1) p2 (fun z => by have := z.2; omega)
          obtain ⟨h2, r1, r2, r3⟩ := tzx_stop (r := 2) p2 (by omega)
          exact ⟨h2, 0, p1.tr r1, r2, gdg k44 (nng Q.1.r128 (gdg H.k (bd2g p3 (iteT rfl (gdg (by rw [Q1.1.k44]) (nng Q1.1.r128 (gdg p2.k (bdg e1 (iteT rfl (bdg r3 (b33n r2 (Q1.ft r1) (tzSt_0 (by omega))))))))))))), fun z => absurd z (tzSt_0 (by omega)), by omega, by omega⟩
    · rw [if_neg k1]
      obtain ⟨h1, p1, p2, p3⟩ := tzx_sk0 (w := tzRe) H rfl (Or.inl (tzI_k k1))
      have Q1 := Q.ft p1
      have e1 := tzx_up0 (m := 1) p2 (fun z => k1 z.1)
      obtain ⟨h2, r1, r2, r3⟩ := tzx_stop (r := 2) p2 (by omega)
      exact ⟨h2, 0, p1.tr r1, r2, gdg k44 (nng Q.1.r128 (gdg H.k (bd2g p3 (iteT rfl (gdg (by rw [Q1.1.k44]) (nng Q1.1.r128 (gdg p2.k (bdg e1 (iteT rfl (bdg r3 (b33n r2 (Q1.ft r1) (tzSt_0 (by omega))))))))))))), fun z => absurd z (tzSt_0 (by omega)), by omega, by omega⟩
  · rw [if_neg f0]
    obtain ⟨h1, p1, p2, p3⟩ := tzx_sk0 (w := tzRe) H rfl (Or.inr f0)
    have Q1 := Q.ft p1
    by_cases q1 : tkK t = 1 ∧ ((tkE t - tkS t : Nat) : Int) ≤ 1
    · have e1 := tzx_up1 (m := 1) p2 q1.1 q1.2
      exact ⟨h1, 0, p1, p2, gdg k44 (nng Q.1.r128 (gdg H.k (bd2g p3 (iteT rfl (gdg (by rw [Q1.1.k44]) (nng Q1.1.r128 (gdg p2.k (bdg e1 (iteF (by omega) (b33n p2 Q1 f0)))))))))), fun z => absurd z f0, by omega, by omega⟩
    · have e1 := tzx_up0 (m := 1) p2 q1
      obtain ⟨h2, r1, r2, r3⟩ := tzx_stop (r := 2) p2 (by omega)
      rw [tzSt_n f0] at r2
      exact ⟨h2, 0, p1.tr r1, r2, gdg k44 (nng Q.1.r128 (gdg H.k (bd2g p3 (iteT rfl (gdg (by rw [Q1.1.k44]) (nng Q1.1.r128 (gdg p2.k (bdg e1 (iteT rfl (bdg r3 (b33n r2 (Q1.ft r1) f0))))))))))), fun z => absurd z f0, by omega, by omega⟩
/-- a kind; a gift -/
def tzKd (L : Nat) (T : Nat → Int) (t : TkS) : Int × TkS := if tkF t = 0 ∧ tzI T t tzAn = true then (27, tzNt L T t) else tzLr L T t
def tzGf (L : Nat) (T : Nat → Int) (t : TkS) : Int × TkS := if tkF t = 0 ∧ tzI T t tzFi = true then (27, tzNt L T t) else if tkF t = 0 ∧ tzI T t tzSe = true then (28, tzNt L T t) else tzLr L T t
set_option maxHeartbeats 200000 in
theorem tzx_kind {X R L : Nat} {T : Nat → Int} {t : TkS} {h : Hp} (H : tzXt X L T t h) (Q : LRd X R h) : ∃ h' v, FT X h h' ∧ tzXt X L T (tzKd L T t).2 h' ∧ fX2_takeKind h (X + 44) = some (v, h') ∧ (tkF (tzKd L T t).2 = 0 → v = (tzKd L T t).1) ∧ 0 ≤ v ∧ v ≤ 27 := by
  have k44 : (hK h (X + 44)).1 = 2 := by rw [Q.1.k44]
  unfold fX2_takeKind tzKd
  by_cases q : tkF t = 0 ∧ tzI T t tzAn = true
  · rw [if_pos q]
    obtain ⟨h1, p1, p2, p3⟩ := tzx_sk1 (w := tzAn) H rfl q.2 q.1
    exact ⟨h1, 27, p1, p2, gdg k44 (nng Q.1.r128 (gdg H.k (bd2g p3 (iteF (by omega) (rfl))))), fun _ => rfl, by omega, by omega⟩
  · rw [if_neg q]
    have q' : tzI T t tzAn = false ∨ ¬ tkF t = 0 := by
      by_cases f0 : tkF t = 0
      · cases y : tzI T t tzAn with
        | true => exact absurd ⟨f0, y⟩ q
        | false => exact Or.inl rfl
      · exact Or.inr f0
    obtain ⟨h1, p1, p2, p3⟩ := tzx_sk0 (w := tzAn) H rfl q'
    have Q1 := Q.ft p1
    obtain ⟨h2, v, r1, r2, r3, r4, r5, r6⟩ := tzx_lr p2 Q1
    exact ⟨h2, v, p1.tr r1, r2, gdg k44 (nng Q.1.r128 (gdg H.k (bd2g p3 (iteT rfl (gdg (by rw [Q1.1.k44]) (bd2g r3 (rfl))))))), r4, r5, by omega⟩
set_option maxHeartbeats 200000 in
theorem tzx_gift {X R L : Nat} {T : Nat → Int} {t : TkS} {h : Hp} (H : tzXt X L T t h) (Q : LRd X R h) : ∃ h' v, FT X h h' ∧ tzXt X L T (tzGf L T t).2 h' ∧ fX2_takeGift h (X + 44) = some (v, h') ∧ (tkF (tzGf L T t).2 = 0 → v = (tzGf L T t).1) ∧ 0 ≤ v ∧ v ≤ 28 := by
  have k44 : (hK h (X + 44)).1 = 2 := by rw [Q.1.k44]
  have no : ∀ {w : List Nat}, ¬ (tkF t = 0 ∧ tzI T t w = true) → tzI T t w = false ∨ ¬ tkF t = 0 := fun {w} q => by
    by_cases f0 : tkF t = 0
    · cases y : tzI T t w with
      | true => exact absurd ⟨f0, y⟩ q
      | false => exact Or.inl rfl
    · exact Or.inr f0
  unfold fX2_takeGift tzGf
  by_cases q : tkF t = 0 ∧ tzI T t tzFi = true
  · rw [if_pos q]
    obtain ⟨h1, p1, p2, p3⟩ := tzx_sk1 (w := tzFi) H rfl q.2 q.1
    exact ⟨h1, 27, p1, p2, gdg k44 (nng Q.1.r128 (gdg H.k (bd2g p3 (iteF (by omega) (rfl))))), fun _ => rfl, by omega, by omega⟩
  · rw [if_neg q]
    obtain ⟨h1, p1, p2, p3⟩ := tzx_sk0 (w := tzFi) H rfl (no q)
    have Q1 := Q.ft p1
    by_cases q2 : tkF t = 0 ∧ tzI T t tzSe = true
    · rw [if_pos q2]
      obtain ⟨h2, r1, r2, r3⟩ := tzx_sk1 (w := tzSe) p2 rfl q2.2 q2.1
      exact ⟨h2, 28, p1.tr r1, r2, gdg k44 (nng Q.1.r128 (gdg H.k (bd2g p3 (iteT rfl (gdg (by rw [Q1.1.k44]) (nng Q1.1.r128 (gdg p2.k (bd2g r3 (iteF (by omega) (rfl)))))))))), fun _ => rfl, by omega, by omega⟩
    · rw [if_neg q2]
      obtain ⟨h2, r1, r2, r3⟩ := tzx_sk0 (w := tzSe) p2 rfl (no q2)
      have Q2 := Q1.ft r1
      obtain ⟨h3, v, s1, s2, s3, s4, s5, s6⟩ := tzx_lr r2 Q2
      exact ⟨h3, v, (p1.tr r1).tr s1, s2, gdg k44 (nng Q.1.r128 (gdg H.k (bd2g p3 (iteT rfl (gdg (by rw [Q1.1.k44]) (nng Q1.1.r128 (gdg p2.k (bd2g r3 (iteT rfl (gdg (by rw [Q2.1.k44]) (bd2g s3 (rfl)))))))))))), s4, s5, by omega⟩
set_option maxHeartbeats 200000 in
/-- the reference's -/
theorem tzm_mustV {M L : Nat} {T : Nat → Int} {t : TkS} {m : Hp} {v : Int} (H : tzMt M L T t m) : ∃ m', GT M m m' ∧ tzMt M L T (tzMu L T t (decide (0 ≤ v))) m' ∧ fX12_must m M (if v < 0 then 0 else 1) = some m' := by
  have e : (if v < 0 then (0 : Int) else 1) = tzB (decide (0 ≤ v)) := by
    by_cases q : v < 0
    · rw [if_pos q, decide_eq_false (by omega)]; rfl
    · rw [if_neg q, decide_eq_true (by omega)]; rfl
  rw [e]
  exact tzm_must H
set_option maxHeartbeats 200000 in
theorem tzm_kind {M L : Nat} {T : Nat → Int} {t : TkS} {m : Hp} (H : tzMt M L T t m) : ∃ m' v, GT M m m' ∧ tzMt M L T (tzKd L T t).2 m' ∧ fX12_readKind m M = some (v, m') ∧ (tkF (tzKd L T t).2 = 0 → v = (tzKd L T t).1) ∧ -1 ≤ v ∧ v ≤ 27 := by
  have o := H.ok
  have o2 := o.2.1
  have h9 := H.1.2.1
  -- what is told, and how it goes on
  have b58 : ∀ v : Int, -1 ≤ v → v ≤ 27 → (tkF t = 0 → (tzKd L T t).1 = v ∧ (tzKd L T t).2 = if 0 ≤ v then tzNt L T t else tzSt t 2) → ∃ m' v', GT M m m' ∧ tzMt M L T (tzKd L T t).2 m' ∧ fX12_readKind_b58 M m v = some (v', m') ∧ (tkF (tzKd L T t).2 = 0 → v' = (tzKd L T t).1) ∧ -1 ≤ v' ∧ v' ≤ 27 := fun v v0 v1 e => by
    obtain ⟨m', p1, p2, p3⟩ := tzm_mustV (v := v) H
    have et : (tzKd L T t).2 = tzMu L T t (decide (0 ≤ v)) := by
      by_cases f0 : tkF t = 0
      · rw [(e f0).2]
        unfold tzMu
        rw [if_pos f0]
        by_cases q : 0 ≤ v
        · rw [if_pos q, decide_eq_true q, if_pos rfl]
        · rw [if_neg q, decide_eq_false q, if_neg Bool.false_ne_true]
      · unfold tzKd tzLr
        rw [if_neg (fun z => f0 z.1), if_neg f0, tzMu_n f0]
    rw [et]
    refine ⟨m', v, p1, p2, ?_, fun z => (e (tzMu_0 z).1).1.symm, v0, v1⟩
    unfold fX12_readKind_b58
    exact gdg H.k (bdg p3 (rfl))
  unfold fX12_readKind
  rw [H.2.1, H.2.2.1]
  by_cases k1 : tkK t = 1
  · rw [(H.2.2.2.2.2.2.2.1 k1).1]
    by_cases l1 : tkE t - tkS t = 1
    · have ol := o.2.2.2.2.2.1 k1 (tkS t) (by omega) (by omega)
      have y := H.1.2.2.2 (tkS t) (by omega)
      have lk := tzm_lk1 H.1 (e := tkS t) (by omega)
      rw [(tzU_c y.2.1 y.2.2).2.2 (by omega)] at lk
      have ew : WE (T (tkS t) - 96) := we (by omega) (by omega)
      obtain ⟨m', v', p1, p2, p3, p4, p5⟩ := b58 (T (tkS t) - 96) (by omega) (by omega) (fun f0 => by
        unfold tzKd tzLr
        rw [if_neg (fun z => by have := (tzIs_len z.2).2; rw [l1] at this; exact absurd this (by decide)), if_pos f0, if_pos k1, if_pos l1, if_pos (show 0 ≤ T (tkS t) - 96 by omega)]
        exact ⟨rfl, rfl⟩)
      refine ⟨m', v', p1, p2, gdg H.k (iteT k1 (iteT (by omega) (bdg lk (?_)))), p4, p5⟩
      rw [ew.e]
      exact p3
    · have e1 := tzm_isAny H
      have e2 := tzm_isRest H
      cases q1 : tzI T t tzAn with
      | true =>
        rw [show tzI T t [97, 110, 121] = true from q1] at e1
        obtain ⟨m', v', p1, p2, p3, p4, p5⟩ := b58 27 (by omega) (by omega) (fun f0 => by
          unfold tzKd
          rw [if_pos ⟨f0, q1⟩, if_pos (show (0 : Int) ≤ 27 by omega)]
          exact ⟨rfl, rfl⟩)
        exact ⟨m', v', p1, p2, gdg H.k (iteT k1 (iteF (by omega) (bdg e1 (iteF (by decide) (p3))))), p4, p5⟩
      | false =>
        rw [show tzI T t [97, 110, 121] = false from q1] at e1
        cases q2 : tzI T t tzRe with
        | true =>
          rw [show tzI T t [114, 101, 115, 116] = true from q2] at e2
          obtain ⟨m', v', p1, p2, p3, p4, p5⟩ := b58 0 (by omega) (by omega) (fun f0 => by
            unfold tzKd tzLr
            rw [if_neg (fun z => by rw [q1] at z; cases z.2), if_pos f0, if_pos k1, if_neg l1, q2, if_pos (rfl : true = true), if_pos (Int.le_refl 0)]
            exact ⟨rfl, rfl⟩)
          exact ⟨m', v', p1, p2, gdg H.k (iteT k1 (iteF (by omega) (bdg e1 (iteT rfl (bdg e2 (iteF (by decide) (p3))))))), p4, p5⟩
        | false =>
          rw [show tzI T t [114, 101, 115, 116] = false from q2] at e2
          obtain ⟨m', v', p1, p2, p3, p4, p5⟩ := b58 (-1) (by omega) (by omega) (fun f0 => by
            unfold tzKd tzLr
            rw [if_neg (fun z => by rw [q1] at z; cases z.2), if_pos f0, if_pos k1, if_neg l1, q2, if_neg Bool.false_ne_true, if_neg (show ¬ (0 : Int) ≤ -1 by omega)]
            exact ⟨rfl, rfl⟩)
          exact ⟨m', v', p1, p2, gdg H.k (iteT k1 (iteF (by omega) (bdg e1 (iteT rfl (bdg e2 (iteT rfl (p3))))))), p4, p5⟩
  · obtain ⟨m', v', p1, p2, p3, p4, p5⟩ := b58 (-1) (by omega) (by omega) (fun f0 => by
      unfold tzKd tzLr
      rw [if_neg (fun z => k1 (tzIs_len z.2).1), if_pos f0, if_neg k1, if_neg (show ¬ (0 : Int) ≤ -1 by omega)]
      exact ⟨rfl, rfl⟩)
    exact ⟨m', v', p1, p2, gdg H.k (iteF k1 (p3)), p4, p5⟩
set_option maxHeartbeats 200000 in
theorem tzm_gift {M L : Nat} {T : Nat → Int} {t : TkS} {m : Hp} (H : tzMt M L T t m) : ∃ m' v, GT M m m' ∧ tzMt M L T (tzGf L T t).2 m' ∧ fX12_readWhat m M = some (v, m') ∧ (tkF (tzGf L T t).2 = 0 → v = (tzGf L T t).1) ∧ -1 ≤ v ∧ v ≤ 28 := by
  have o := H.ok
  have o2 := o.2.1
  have h9 := H.1.2.1
  have b58 : ∀ v : Int, -1 ≤ v → v ≤ 28 → (tkF t = 0 → (tzGf L T t).1 = v ∧ (tzGf L T t).2 = if 0 ≤ v then tzNt L T t else tzSt t 2) → ∃ m' v', GT M m m' ∧ tzMt M L T (tzGf L T t).2 m' ∧ fX12_readWhat_b70 M m v = some (v', m') ∧ (tkF (tzGf L T t).2 = 0 → v' = (tzGf L T t).1) ∧ -1 ≤ v' ∧ v' ≤ 28 := fun v v0 v1 e => by
    obtain ⟨m', p1, p2, p3⟩ := tzm_mustV (v := v) H
    have et : (tzGf L T t).2 = tzMu L T t (decide (0 ≤ v)) := by
      by_cases f0 : tkF t = 0
      · rw [(e f0).2]
        unfold tzMu
        rw [if_pos f0]
        by_cases q : 0 ≤ v
        · rw [if_pos q, decide_eq_true q, if_pos rfl]
        · rw [if_neg q, decide_eq_false q, if_neg Bool.false_ne_true]
      · unfold tzGf tzLr
        rw [if_neg (fun z => f0 z.1), if_neg (fun z => f0 z.1), if_neg f0, tzMu_n f0]
    rw [et]
    refine ⟨m', v, p1, p2, ?_, fun z => (e (tzMu_0 z).1).1.symm, v0, v1⟩
    unfold fX12_readWhat_b70
    exact gdg H.k (bdg p3 (rfl))
  unfold fX12_readWhat
  rw [H.2.1, H.2.2.1]
  by_cases k1 : tkK t = 1
  · rw [(H.2.2.2.2.2.2.2.1 k1).1]
    by_cases l1 : tkE t - tkS t = 1
    · have ol := o.2.2.2.2.2.1 k1 (tkS t) (by omega) (by omega)
      have y := H.1.2.2.2 (tkS t) (by omega)
      have lk := tzm_lk1 H.1 (e := tkS t) (by omega)
      rw [(tzU_c y.2.1 y.2.2).2.2 (by omega)] at lk
      have ew : WE (T (tkS t) - 96) := we (by omega) (by omega)
      obtain ⟨m', v', p1, p2, p3, p4, p5⟩ := b58 (T (tkS t) - 96) (by omega) (by omega) (fun f0 => by
        unfold tzGf tzLr
        rw [if_neg (fun z => by have := (tzIs_len z.2).2; rw [l1] at this; exact absurd this (by decide)), if_neg (fun z => by have := (tzIs_len z.2).2; rw [l1] at this; exact absurd this (by decide)), if_pos f0, if_pos k1, if_pos l1, if_pos (show 0 ≤ T (tkS t) - 96 by omega)]
        exact ⟨rfl, rfl⟩)
      refine ⟨m', v', p1, p2, gdg H.k (iteT k1 (iteT (by omega) (bdg lk (?_)))), p4, p5⟩
      rw [ew.e]
      exact p3
    · have e2 := tzm_isRest H
      have e3 := tzm_isFirst H
      have e4 := tzm_isSecond H
      have ne : ∀ {w w' : List Nat}, w.length ≠ w'.length → tzI T t w = true → tzI T t w' = false := fun {w w'} n h => tzI_l (fun z => n ((tzIs_len h).2.symm.trans z))
      cases q2 : tzI T t tzRe with
      | true =>
        rw [show tzI T t [114, 101, 115, 116] = true from q2] at e2
        have n1 := ne (w' := tzFi) (by decide) q2
        have n2 := ne (w' := tzSe) (by decide) q2
        obtain ⟨m', v', p1, p2, p3, p4, p5⟩ := b58 0 (by omega) (by omega) (fun f0 => by
          unfold tzGf tzLr
          rw [if_neg (fun z => by rw [n1] at z; cases z.2), if_neg (fun z => by rw [n2] at z; cases z.2), if_pos f0, if_pos k1, if_neg l1, q2, if_pos (rfl : true = true), if_pos (Int.le_refl 0)]
          exact ⟨rfl, rfl⟩)
        exact ⟨m', v', p1, p2, gdg H.k (iteT k1 (iteF (by omega) (bdg e2 (iteF (by decide) (p3))))), p4, p5⟩
      | false =>
        rw [show tzI T t [114, 101, 115, 116] = false from q2] at e2
        cases q3 : tzI T t tzFi with
        | true =>
          rw [show tzI T t [102, 105, 114, 115, 116] = true from q3] at e3
          obtain ⟨m', v', p1, p2, p3, p4, p5⟩ := b58 27 (by omega) (by omega) (fun f0 => by
            unfold tzGf
            rw [if_pos ⟨f0, q3⟩, if_pos (show (0 : Int) ≤ 27 by omega)]
            exact ⟨rfl, rfl⟩)
          exact ⟨m', v', p1, p2, gdg H.k (iteT k1 (iteF (by omega) (bdg e2 (iteT rfl (bdg e3 (iteF (by decide) (p3))))))), p4, p5⟩
        | false =>
          rw [show tzI T t [102, 105, 114, 115, 116] = false from q3] at e3
          cases q4 : tzI T t tzSe with
          | true =>
            rw [show tzI T t [115, 101, 99, 111, 110, 100] = true from q4] at e4
            obtain ⟨m', v', p1, p2, p3, p4, p5⟩ := b58 28 (by omega) (by omega) (fun f0 => by
              unfold tzGf
              rw [if_neg (fun z => by rw [q3] at z; cases z.2), if_pos ⟨f0, q4⟩, if_pos (show (0 : Int) ≤ 28 by omega)]
              exact ⟨rfl, rfl⟩)
            exact ⟨m', v', p1, p2, gdg H.k (iteT k1 (iteF (by omega) (bdg e2 (iteT rfl (bdg e3 (iteT rfl (bdg e4 (iteF (by decide) (p3))))))))), p4, p5⟩
          | false =>
            rw [show tzI T t [115, 101, 99, 111, 110, 100] = false from q4] at e4
            obtain ⟨m', v', p1, p2, p3, p4, p5⟩ := b58 (-1) (by omega) (by omega) (fun f0 => by
              unfold tzGf tzLr
              rw [if_neg (fun z => by rw [q3] at z; cases z.2), if_neg (fun z => by rw [q4] at z; cases z.2), if_pos f0, if_pos k1, if_neg l1, q2, if_neg Bool.false_ne_true, if_neg (show ¬ (0 : Int) ≤ -1 by omega)]
              exact ⟨rfl, rfl⟩)
            exact ⟨m', v', p1, p2, gdg H.k (iteT k1 (iteF (by omega) (bdg e2 (iteT rfl (bdg e3 (iteT rfl (bdg e4 (iteT rfl (p3))))))))), p4, p5⟩
  · obtain ⟨m', v', p1, p2, p3, p4, p5⟩ := b58 (-1) (by omega) (by omega) (fun f0 => by
      unfold tzGf tzLr
      rw [if_neg (fun z => k1 (tzIs_len z.2).1), if_neg (fun z => k1 (tzIs_len z.2).1), if_pos f0, if_neg k1, if_neg (show ¬ (0 : Int) ≤ -1 by omega)]
      exact ⟨rfl, rfl⟩)
    exact ⟨m', v', p1, p2, gdg H.k (iteF k1 (p3)), p4, p5⟩
