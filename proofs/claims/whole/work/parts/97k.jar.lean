/-! A JAR: its parts -/
def tzOp (L : Nat) (T : Nat → Int) (t : TkS) (w : List Nat) (wo a b : Int) : Int × TkS := if tkF t = 0 ∧ tzI T t w = true then tzNm L T (tzNt L T t) a b else (wo, t)
set_option maxHeartbeats 200000 in
theorem tzOp_ok {L : Nat} {T : Nat → Int} {t : TkS} {w : List Nat} {wo a b : Int} (o : tzOk L T t) : tzOk L T (tzOp L T t w wo a b).2 := by
  unfold tzOp
  split
  · exact tzNm_ok (tzNt_ok o)
  · exact o
set_option maxHeartbeats 200000 in
theorem tzOp_bd {L : Nat} {T : Nat → Int} {t : TkS} {w : List Nat} {wo a b : Int} (ha : a ≤ b + 1000000) : (tzOp L T t w wo a b).1 = wo ∨ (tzOp L T t w wo a b).1 = 0 ∨ (a ≤ (tzOp L T t w wo a b).1 ∧ (tzOp L T t w wo a b).1 ≤ b) := by
  unfold tzOp
  split
  · exact Or.inr (tzNm_bd ha)
  · exact Or.inl rfl
set_option maxHeartbeats 200000 in
theorem tzOp_0 {L : Nat} {T : Nat → Int} {t : TkS} {w : List Nat} {wo a b : Int} (o : tzOk L T t) (h : tkF (tzOp L T t w wo a b).2 = 0) : tkF t = 0 ∧ tkS t ≤ tkS (tzOp L T t w wo a b).2 := by
  unfold tzOp at h ⊢
  by_cases q : tkF t = 0 ∧ tzI T t w = true
  · rw [if_pos q] at h ⊢
    refine ⟨q.1, ?_⟩
    have e := (tzNm_0 h).2.2.2
    rw [e]
    have a0 := o.1
    have a1 := tzNt_s o
    have o1 := tzNt_ok o
    have a2 := o1.1
    have a3 := tzNt_s o1
    exact Nat.le_trans a0 (Nat.le_trans a1 (Nat.le_trans a2 a3))
  · rw [if_neg q] at h ⊢
    exact ⟨h, Nat.le_refl _⟩
set_option maxHeartbeats 200000 in
theorem tzMu_s {L : Nat} {T : Nat → Int} {t : TkS} {b : Bool} (o : tzOk L T t) (h : tkF (tzMu L T t b) = 0) : tkF t = 0 ∧ tkS t ≤ tkS (tzMu L T t b) := by
  obtain ⟨h1, -, h3⟩ := tzMu_0 h
  rw [h3]
  exact ⟨h1, Nat.le_trans o.1 (tzNt_s o)⟩
set_option maxHeartbeats 200000 in
theorem tzNm_s {L : Nat} {T : Nat → Int} {t : TkS} {a b : Int} (o : tzOk L T t) (h : tkF (tzNm L T t a b).2 = 0) : tkF t = 0 ∧ tkS t ≤ tkS (tzNm L T t a b).2 := by
  obtain ⟨h1, -, -, h3⟩ := tzNm_0 h
  rw [h3]
  exact ⟨h1, Nat.le_trans o.1 (tzNt_s o)⟩
set_option maxHeartbeats 200000 in
theorem tzGo_s {L : Nat} {T : Nat → Int} {t : TkS} {b : Bool} (o : tzOk L T t) : tkS t ≤ tkS (tzGo L T t b) := by
  unfold tzGo
  split
  · exact Nat.le_trans o.1 (tzNt_s o)
  · exact Nat.le_refl _
abbrev FJ (X a k : Nat) : Hp → Hp → Prop := Fr (fun f x => (x = X + 10 ∧ 578 ≤ f ∧ f ≤ 583) ∨ (x = a ∧ k ≤ f ∧ f ≤ 5)) (fun _ => False)
set_option maxHeartbeats 200000 in
theorem ft_fj {X a k : Nat} {h h' : Hp} (p : FT X h h') : FJ X a k h h' := p.mono (fun _ _ w => Or.inl w) (fun _ v => v)
set_option maxHeartbeats 200000 in
theorem fj_le {X a k k' : Nat} {h h' : Hp} (p : FJ X a k h h') (l : k' ≤ k) : FJ X a k' h h' := p.mono (fun f x w => by omega) (fun _ v => v)
set_option maxHeartbeats 200000 in
theorem fj_pI {X a k f : Nat} (h : Hp) {v : Int} (l : k ≤ f ∧ f ≤ 5) : FJ X a k h (pI h f a v) := fr_pI h (Or.inr ⟨rfl, l⟩)
set_option maxHeartbeats 200000 in
theorem fj_fc {X S j k : Nat} {h h' : Hp} (p : FJ X (S + 5 + 3 * j) k h h') : FC X S h h' := p.mono (fun f x w => by omega) (fun _ v => v.elim)
abbrev FO (X a f : Nat) : Hp → Hp → Prop := Fr (fun g x => (x = X + 10 ∧ 578 ≤ g ∧ g ≤ 583) ∨ (x = a ∧ g = f)) (fun _ => False)
set_option maxHeartbeats 200000 in
theorem fo_fj {X a f k : Nat} {h h' : Hp} (p : FO X a f h h') (l : k ≤ f) (l2 : f ≤ 5) : FJ X a k h h' := p.mono (fun g x w => by omega) (fun _ v => v)
set_option maxHeartbeats 200000 in
theorem ft_fo {X a f : Nat} {h h' : Hp} (p : FT X h h') : FO X a f h h' := p.mono (fun _ _ w => Or.inl w) (fun _ v => v)
set_option maxHeartbeats 200000 in
theorem tzXt.fj {X L a f : Nat} {T : Nat → Int} {t : TkS} {h : Hp} {v : Int} (H : tzXt X L T t h) (n : a ≠ X + 10) : tzXt X L T t (pI h f a v) := H.fr (W := fun g x => g = f ∧ x = a) (V := fun _ => False) (fr_pI h ⟨rfl, rfl⟩) (fun _ _ _ z => n z.2.symm) (fun z => z)
set_option maxHeartbeats 200000 in
theorem tzx_opt {X S L f j : Nat} {T : Nat → Int} {t : TkS} {h : Hp} {w : List Nat} {wo a b : Int} (cont : Hp → Option Hp) (H : tzXt X L T t h) (R : XRd X S h) (hf : f ≤ 5) (hj : j < 8) (h0 : gI h f (S + 5 + 3 * j) = wo) (hw : tzWd w = true) (ha : 0 ≤ a) (hb : a ≤ b) (hb2 : b < 1000) :
    ∃ h', FO X (S + 5 + 3 * j) f h h' ∧ tzXt X L T (tzOp L T t w wo a b).2 h' ∧ gI h' f (S + 5 + 3 * j) = (tzOp L T t w wo a b).1 ∧ XRd X S h' ∧
      (bd2 (fX9_skipWord h (X + 10) w) fun r4 h6 => if r4 = 0 then cont h6 else gd ((hK h6 (X + 12)).1 = 8) <| nn (gR h6 512 (X + 12)) fun q9 => gd ((hK h6 q9).1 = 9) <| bd2 (fX9_takeNumber h6 q9 a b) fun r11 h13 => gd ((hK h13 (S + 5 + 3 * j)).1 = 0) <| lt (α := Hp) (pI h13 f (S + 5 + 3 * j) r11) fun h15 => cont h15) = cont h' := by
  have XS1 := R.2.2.1
  obtain ⟨h1, p1, p2, p3⟩ := tzx_skip H hw
  have R1 := R.ft p1
  unfold tzOp
  unfold tzGo at p2
  by_cases q : tkF t = 0 ∧ tzI T t w = true
  · rw [if_pos q] at p2
    rw [if_pos q]
    rw [if_pos q.1, q.2] at p3
    obtain ⟨h2, r1, r2, r3⟩ := tzx_num (a := a) (b := b) p2
    have R2 := R1.ft r1
    have bd := tzNm_bd (L := L) (T := T) (t := tzNt L T t) (a := a) (b := b) (by omega)
    obtain ⟨v, hv⟩ : ∃ v, v = (tzNm L T (tzNt L T t) a b).1 := ⟨_, rfl⟩
    rw [← hv] at bd r3 ⊢
    have f3 : FO X (S + 5 + 3 * j) f h2 (pI h2 f (S + 5 + 3 * j) v) := fr_pI h2 (Or.inr ⟨rfl, rfl⟩)
    have kj := (R2.2.2.2.2.2.2.2.2.2 j hj).2
    refine ⟨pI h2 f (S + 5 + 3 * j) v, ((ft_fo p1).tr (ft_fo r1)).tr f3, r2.fj (by omega), gI_pIs (by unfold rg; omega), R2.fc (fj_fc (fo_fj f3 (Nat.le_refl _) hf)), bd2g p3 (iteF (by decide) (gdg (by rw [R1.1.k12]) (nng R1.1.r512 (gdg p2.k (bd2g r3 (gdg (by rw [kj]) (rfl)))))))⟩
  · rw [if_neg q] at p2
    rw [if_neg q]
    have e0 : (if tkF t = 0 then tzB (tzI T t w) else 0) = 0 := by
      by_cases q1 : tkF t = 0
      · rw [if_pos q1]
        cases q2 : tzI T t w with
        | true => exact absurd ⟨q1, q2⟩ q
        | false => rfl
      · rw [if_neg q1]
    rw [e0] at p3
    refine ⟨h1, ft_fo p1, p2, ?_, R1, bd2g p3 (iteT rfl (rfl))⟩
    rw [p1.i (by omega)]; exact h0
set_option maxHeartbeats 200000 in
theorem tzm_opt {M L : Nat} {T : Nat → Int} {t : TkS} {m : Hp} {w : List Nat} {wo a b : Int} (H : tzMt M L T t m) :
    ∃ m', GT M m m' ∧ tzMt M L T (tzOp L T t w wo a b).2 m' ∧ fX12_told m M (tzB (tzI T t w)) wo a b = some ((tzOp L T t w wo a b).1, m') := by
  have hf := H.f0
  unfold fX12_told tzOp
  rw [H.2.2.2.2.1]
  by_cases q : tkF t = 0
  · cases q2 : tzI T t w with
    | true =>
      rw [if_pos ⟨q, rfl⟩]
      obtain ⟨m1, p1, p2, p3⟩ := tzm_nt H
      obtain ⟨m2, r1, r2, r3⟩ := tzm_count (a := a) (b := b) p2
      exact ⟨m2, p1.tr r1, r2, gdg H.k (iteF (by omega) (iteF (by decide) (bdg p3 (gdg p2.k (bd2g r3 (rfl))))))⟩
    | false =>
      rw [if_neg (fun z => by cases z.2)]
      exact ⟨m, Fr.rf m, H, gdg H.k (iteF (by omega) (iteT rfl (rfl)))⟩
  · rw [if_neg (fun z => q z.1)]
    exact ⟨m, Fr.rf m, H, gdg H.k (iteT (by omega) (rfl))⟩
/-! the side -/
def tzHe : List Nat := [104, 101, 97, 100]
def tzTa : List Nat := [116, 97, 105, 108]
def tzBo (t : TkS) (b : Bool) : Bool := decide (tkF t = 0) && b
def tzSv (a b : Bool) : Int := if a = b then 2 else if a = true then 0 else 1
set_option maxHeartbeats 200000 in
theorem tzB_bo {t : TkS} {b : Bool} : (if tkF t = 0 then tzB b else 0) = tzB (tzBo t b) := by
  unfold tzBo
  by_cases q : tkF t = 0
  · rw [if_pos q, decide_eq_true q]; rfl
  · rw [if_neg q, decide_eq_false q]; rfl
set_option maxHeartbeats 200000 in
theorem tzGo_bo {L : Nat} {T : Nat → Int} {t : TkS} {b : Bool} : tzGo L T t b = if tzBo t b = true then tzNt L T t else t := by
  unfold tzGo tzBo
  by_cases q : tkF t = 0
  · rw [decide_eq_true q]
    cases b with
    | true => rw [if_pos ⟨q, rfl⟩, if_pos (by rfl)]
    | false => rw [if_neg (fun z => by cases z.2), if_neg (by decide)]
  · rw [decide_eq_false q, if_neg (fun z => q z.1), if_neg (by intro z; cases z)]
def tzS1 (L : Nat) (T : Nat → Int) (t : TkS) : TkS := tzGo L T t (tzI T t tzHe)
def tzS2 (L : Nat) (T : Nat → Int) (t : TkS) : TkS := tzGo L T (tzS1 L T t) (tzI T (tzS1 L T t) tzTa)
def tzSV (L : Nat) (T : Nat → Int) (t : TkS) : Int := tzSv (tzBo t (tzI T t tzHe)) (tzBo (tzS1 L T t) (tzI T (tzS1 L T t) tzTa))
set_option maxHeartbeats 200000 in
theorem tzSV_bd {L : Nat} {T : Nat → Int} {t : TkS} : 0 ≤ tzSV L T t ∧ tzSV L T t ≤ 2 := by
  unfold tzSV tzSv
  split
  · omega
  · split <;> omega
set_option maxHeartbeats 200000 in
theorem tzS2_s {L : Nat} {T : Nat → Int} {t : TkS} (o : tzOk L T t) : tkF (tzS2 L T t) = tkF t ∧ tkS t ≤ tkS (tzS2 L T t) := by
  unfold tzS2 tzS1
  refine ⟨by rw [tzGo_F, tzGo_F], Nat.le_trans (tzGo_s o) (tzGo_s (tzGo_ok o))⟩
set_option maxHeartbeats 200000 in
theorem tzx_side {X S L : Nat} {T : Nat → Int} {t : TkS} {h : Hp} (H : tzXt X L T t h) (R : XRd X S h) : ∃ h', FT X h h' ∧ tzXt X L T (tzS2 L T t) h' ∧ fX8_takeSide h (X + 12) = some (tzSV L T t, h') := by
  obtain ⟨h1, p1, p2, p3⟩ := tzx_skip (w := tzHe) H rfl
  have R1 := R.ft p1
  obtain ⟨h2, r1, r2, r3⟩ := tzx_skip (w := tzTa) p2 rfl
  rw [tzB_bo] at p3 r3
  refine ⟨h2, p1.tr r1, r2, ?_⟩
  unfold fX8_takeSide tzSV tzSv
  refine gdg (by rw [R.1.k12]) (nng R.1.r512 (gdg H.k (bd2g p3 (gdg (by rw [R1.1.k12]) (nng R1.1.r512 (gdg p2.k (bd2g r3 (?_))))))))
  show (if tzB (tzBo t (tzI T t tzHe)) = tzB (tzBo (tzS1 L T t) (tzI T (tzS1 L T t) tzTa)) then _ else _) = _
  cases tzBo t (tzI T t tzHe) with
  | true =>
    cases tzBo (tzS1 L T t) (tzI T (tzS1 L T t) tzTa) with
    | true => exact iteT rfl rfl
    | false => exact iteF (by decide) rfl
  | false =>
    cases tzBo (tzS1 L T t) (tzI T (tzS1 L T t) tzTa) with
    | true => exact iteF (by decide) rfl
    | false => exact iteT rfl rfl
set_option maxHeartbeats 200000 in
theorem tzm_side {M L : Nat} {T : Nat → Int} {t : TkS} {m : Hp} {v1 : Int} (H : tzMt M L T t m) : ∃ m', GT M m m' ∧ tzMt M L T (tzS2 L T t) m' ∧
    (if gI m 780 M = 0 then (bd (fX12_isHead m M) fun r36 => if r36 = 0 then fX12_readJar_b108 M m v1 else fX12_readJar_b109 M m v1 1) else fX12_readJar_b108 M m v1) = fX12_readJar_b173 M m' v1 (tzSV L T t) (w32 (1636 + v1)) (M + 5) := by
  -- the tail
  have b118 : ∀ {m1 : Hp} (a : Bool), tzMt M L T (tzS1 L T t) m1 → ∃ m', GT M m1 m' ∧ tzMt M L T (tzS2 L T t) m' ∧ fX12_readJar_b118 M m1 v1 (tzB a) = fX12_readJar_b173 M m' v1 (tzSv a (tzBo (tzS1 L T t) (tzI T (tzS1 L T t) tzTa))) (w32 (1636 + v1)) (M + 5) := fun {m1} a K => by
    have b146 : ∀ {m2 : Hp} {t2 : TkS} (b : Bool), tzMt M L T t2 m2 → fX12_readJar_b146 M m2 v1 (tzB a) (tzB b) = fX12_readJar_b173 M m2 v1 (tzSv a b) (w32 (1636 + v1)) (M + 5) := fun {m2} {t2} b K2 => by
      unfold fX12_readJar_b146 tzSv
      refine gdg K2.k (nng K2.1.1.r788 (?_))
      cases a with
      | true =>
        cases b with
        | true => exact iteT rfl rfl
        | false => exact iteF (by decide) (iteF (by decide) rfl)
      | false =>
        cases b with
        | true => exact iteF (by decide) (iteT rfl rfl)
        | false => exact iteT rfl rfl
    have e := tzm_isTail K
    have n136 : tzBo (tzS1 L T t) (tzI T (tzS1 L T t) tzTa) = false → tzMt M L T (tzS2 L T t) m1 ∧ fX12_readJar_b136 M m1 v1 (tzB a) = fX12_readJar_b173 M m1 v1 (tzSv a (tzBo (tzS1 L T t) (tzI T (tzS1 L T t) tzTa))) (w32 (1636 + v1)) (M + 5) := fun y => by
      refine ⟨by unfold tzS2; rw [tzGo_bo, y, if_neg Bool.false_ne_true]; exact K, ?_⟩
      unfold fX12_readJar_b136 fX12_readJar_b137
      rw [y]
      exact iteT rfl (b146 false K)
    unfold fX12_readJar_b118
    rw [K.2.2.2.2.1]
    by_cases q : tkF (tzS1 L T t) = 0
    · cases q2 : tzI T (tzS1 L T t) tzTa with
      | true =>
        have y : tzBo (tzS1 L T t) true = true := by unfold tzBo; rw [decide_eq_true q]; rfl
        obtain ⟨m2, p1, p2, p3⟩ := tzm_nt K
        refine ⟨m2, p1, by unfold tzS2; rw [tzGo_bo, q2, y, if_pos (rfl : true = true)]; exact p2, ?_⟩
        rw [y]
        refine gdg K.k (iteT q (bdg e (?_)))
        rw [show tzI T (tzS1 L T t) [116, 97, 105, 108] = true from q2]
        refine iteF (by decide) ?_
        unfold fX12_readJar_b137
        exact iteF (by decide) (gdg K.k (bdg p3 (b146 true p2)))
      | false =>
        have y : tzBo (tzS1 L T t) (tzI T (tzS1 L T t) tzTa) = false := by unfold tzBo; rw [q2]; exact Bool.and_false _
        obtain ⟨w1, w2⟩ := n136 y
        rw [q2] at w2
        refine ⟨m1, Fr.rf m1, w1, ?_⟩
        refine gdg K.k (iteT q (bdg e (?_)))
        rw [show tzI T (tzS1 L T t) [116, 97, 105, 108] = false from q2]
        exact iteT rfl w2
    · have y : tzBo (tzS1 L T t) (tzI T (tzS1 L T t) tzTa) = false := by unfold tzBo; rw [decide_eq_false q]; rfl
      obtain ⟨w1, w2⟩ := n136 y
      exact ⟨m1, Fr.rf m1, w1, gdg K.k (iteF q (w2))⟩
  have e := tzm_isHead H
  have n108 : tzBo t (tzI T t tzHe) = false → ∃ m', GT M m m' ∧ tzMt M L T (tzS2 L T t) m' ∧ fX12_readJar_b108 M m v1 = fX12_readJar_b173 M m' v1 (tzSV L T t) (w32 (1636 + v1)) (M + 5) := fun y => by
    obtain ⟨m', p1, p2, p3⟩ := b118 (m1 := m) false (by unfold tzS1; rw [tzGo_bo, y, if_neg Bool.false_ne_true]; exact H)
    refine ⟨m', p1, p2, ?_⟩
    unfold fX12_readJar_b108 fX12_readJar_b109 tzSV
    rw [y]
    exact iteT rfl p3
  rw [H.2.2.2.2.1]
  by_cases q : tkF t = 0
  · cases q2 : tzI T t tzHe with
    | true =>
      have y : tzBo t (tzI T t tzHe) = true := by unfold tzBo; rw [decide_eq_true q, q2]; rfl
      obtain ⟨m2, p1, p2, p3⟩ := tzm_nt H
      obtain ⟨m', r1, r2, r3⟩ := b118 (m1 := m2) true (by unfold tzS1; rw [tzGo_bo, y, if_pos (rfl : true = true)]; exact p2)
      refine ⟨m', p1.tr r1, r2, iteT q (bdg e (?_))⟩
      rw [show tzI T t [104, 101, 97, 100] = true from q2]
      refine iteF (by decide) ?_
      unfold fX12_readJar_b109 tzSV
      rw [y]
      exact iteF (by decide) (gdg H.k (bdg p3 (r3)))
    | false =>
      have y : tzBo t (tzI T t tzHe) = false := by unfold tzBo; rw [q2]; exact Bool.and_false _
      obtain ⟨m', r1, r2, r3⟩ := n108 y
      refine ⟨m', r1, r2, iteT q (bdg e (?_))⟩
      rw [show tzI T t [104, 101, 97, 100] = false from q2]
      exact iteT rfl r3
  · have y : tzBo t (tzI T t tzHe) = false := by unfold tzBo; rw [decide_eq_false q]; rfl
    obtain ⟨m', r1, r2, r3⟩ := n108 y
    exact ⟨m', r1, r2, iteF q r3⟩
