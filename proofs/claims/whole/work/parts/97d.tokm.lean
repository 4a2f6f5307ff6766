/-! THE REFERENCE's TAPE -/
abbrev GT (M : Nat) : Hp → Hp → Prop := Fr (fun f a => a = M ∧ 780 ≤ f ∧ f ≤ 787) (fun _ => False)
set_option maxHeartbeats 200000 in
theorem gt_pI {M f : Nat} {v : Int} (h : Hp) (w : 780 ≤ f ∧ f ≤ 787) : GT M h (pI h f M v) := fr_pI h ⟨rfl, w⟩
set_option maxHeartbeats 200000 in
theorem gt_pJ {M f : Nat} {v : Int} (h : Hp) (w : 780 ≤ f ∧ f ≤ 787) : GT M h (pJ h f M v) := fr_pJ h ⟨rfl, w⟩
def tzU (x : Int) : Int := if x < 0 then x + 256 else x
set_option maxHeartbeats 200000 in
theorem tzU_all : ∀ n : Fin 256, bnd ((n.val : Int) - 128) 255 = tzU ((n.val : Int) - 128) := by decide +kernel
set_option maxHeartbeats 200000 in
theorem tzU_b {x : Int} (h1 : -128 ≤ x) (h2 : x ≤ 127) : bnd x 255 = tzU x := by
  have := tzU_all ⟨(x + 128).toNat, by omega⟩
  rw [show (((⟨(x + 128).toNat, by omega⟩ : Fin 256).val : Nat) : Int) - 128 = x by show ((x + 128).toNat : Int) - 128 = x; omega] at this
  exact this
set_option maxHeartbeats 200000 in
theorem tzU_c {x : Int} (h1 : -128 ≤ x) (h2 : x ≤ 127) : (0 ≤ tzU x ∧ tzU x ≤ 255) ∧ (x < 0 → 128 ≤ tzU x) ∧ (0 ≤ x → tzU x = x) := by
  unfold tzU
  split <;> omega
set_option maxHeartbeats 200000 in
theorem tzm_le1 {x : Int} (h1 : -128 ≤ x) (h2 : x ≤ 127) (q : tzLe x = true) : fX12_isLetter (tzU x) = some 1 := by
  have a := tzU_c h1 h2
  have b := tzLe_t q
  unfold fX12_isLetter
  exact iteF (by omega) (iteT (by omega) rfl)
set_option maxHeartbeats 200000 in
theorem tzm_le0 {x : Int} (h1 : -128 ≤ x) (h2 : x ≤ 127) (q : tzLe x = false) : fX12_isLetter (tzU x) = some 0 := by
  have a := tzU_c h1 h2
  have b := tzLe_f q
  unfold fX12_isLetter
  by_cases z : tzU x < 97
  · exact iteT z rfl
  · exact iteF z (iteF (by omega) rfl)
set_option maxHeartbeats 200000 in
theorem tzm_di1 {x : Int} (h1 : -128 ≤ x) (h2 : x ≤ 127) (q : tzDi x = true) : fX12_isDigit (tzU x) = some 1 := by
  have a := tzU_c h1 h2
  have b := tzDi_t q
  unfold fX12_isDigit
  exact iteF (by omega) (iteT (by omega) rfl)
set_option maxHeartbeats 200000 in
theorem tzm_di0 {x : Int} (h1 : -128 ≤ x) (h2 : x ≤ 127) (q : tzDi x = false) : fX12_isDigit (tzU x) = some 0 := by
  have a := tzU_c h1 h2
  have b := tzDi_f q
  unfold fX12_isDigit
  by_cases z : tzU x < 48
  · exact iteT z rfl
  · exact iteF z (iteF (by omega) rfl)
set_option maxHeartbeats 200000 in
theorem tzm_le_0 : fX12_isLetter 0 = some 0 := by unfold fX12_isLetter; exact iteT (by omega) rfl
set_option maxHeartbeats 200000 in
theorem tzm_di_0 : fX12_isDigit 0 = some 0 := by unfold fX12_isDigit; exact iteT (by omega) rfl
def tzM (M L : Nat) (T : Nat → Int) (m : Hp) : Prop := MS m M ∧ L ≤ 900 ∧ gI m 777 M = (L : Int) ∧ (∀ i, i < L → gA m (M + 4) i = T i ∧ -128 ≤ T i ∧ T i ≤ 127)
/-- where it reads on: the token's start stands in 783 -/
def tzMa (M L : Nat) (T : Nat → Int) (e : Nat) (f p : Int) (m : Hp) : Prop := tzM M L T m ∧ gI m 784 M = (e : Int) ∧ e ≤ L ∧ gI m 780 M = f ∧ (¬ f = 0 → gI m 781 M = p) ∧ 0 ≤ f
def tzMb (M L : Nat) (T : Nat → Int) (s : Nat) (f p : Int) (m : Hp) : Prop := tzM M L T m ∧ gI m 783 M = (s : Int) ∧ s ≤ L ∧ gI m 780 M = f ∧ (¬ f = 0 → gI m 781 M = p) ∧ 0 ≤ f
def tzMt (M L : Nat) (T : Nat → Int) (t : TkS) (m : Hp) : Prop := tzM M L T m ∧ gI m 782 M = tkK t ∧ gI m 783 M = (tkS t : Int) ∧ gI m 784 M = (tkE t : Int) ∧ gI m 780 M = tkF t ∧ (¬ tkF t = 0 → gI m 781 M = tkP t) ∧ 0 ≤ tkF t ∧
  (tkK t = 1 → gI m 786 M = ((tkE t - tkS t : Nat) : Int) ∧ gJ m 787 M = tzV T (tkS t) (tkE t - tkS t)) ∧ (tkK t = 2 → gI m 785 M = tzN T (tkS t) (tkE t - tkS t)) ∧ tzOk L T t
set_option maxHeartbeats 200000 in
theorem MS.fr {W : Nat → Nat → Prop} {V : Nat → Prop} {M : Nat} {h h' : Hp} (H : MS h M) (p : Fr W V h h') (w : ∀ q ∈ mR, ¬ W q.1 M) : MS h' M :=
  ⟨fun i hi => by rw [p.k]; exact H.1 i hi, fun q hq => by rw [p.r (w q hq)]; exact H.2 q hq⟩
set_option maxHeartbeats 200000 in
theorem mR_no {q : Nat × Nat} (hq : q ∈ mR) : ¬ (776 ≤ q.1 ∧ q.1 ≤ 787) ∧ q.1 ≠ 794 ∧ q.1 ≠ 768 ∧ q.1 ≠ 769 ∧ q.1 ≠ 813 := by
  have : ∀ q ∈ mR, ¬ (776 ≤ q.1 ∧ q.1 ≤ 787) ∧ q.1 ≠ 794 ∧ q.1 ≠ 768 ∧ q.1 ≠ 769 ∧ q.1 ≠ 813 := by decide
  exact this q hq
set_option maxHeartbeats 200000 in
theorem tzM.k {M L : Nat} {T : Nat → Int} {m : Hp} (H : tzM M L T m) : (hK m M).1 = 12 := by rw [H.1.k0]
set_option maxHeartbeats 200000 in
theorem tzM.pI {M L f : Nat} {T : Nat → Int} {m : Hp} {v : Int} (H : tzM M L T m) (w : f ≠ 777) : tzM M L T (pI m f M v) := by
  obtain ⟨h1, h2, h3, h4⟩ := H
  exact ⟨h1, h2, by rw [gI_n (Or.inl (fun e => w e.symm))]; exact h3, h4⟩
set_option maxHeartbeats 200000 in
theorem tzM.pJ {M L f : Nat} {T : Nat → Int} {m : Hp} {v : Int} (H : tzM M L T m) : tzM M L T (pJ m f M v) := H
set_option maxHeartbeats 200000 in
theorem tzM.fr {W : Nat → Nat → Prop} {V : Nat → Prop} {M L : Nat} {T : Nat → Int} {h h' : Hp} (H : tzM M L T h) (p : Fr W V h h') (w : ∀ q ∈ mR, ¬ W q.1 M) (w2 : ¬ W 777 M) (v : ¬ V (M + 4)) : tzM M L T h' := by
  obtain ⟨h1, h2, h3, h4⟩ := H
  exact ⟨h1.fr p w, h2, by rw [p.i w2]; exact h3, fun i hi => by rw [p.a v]; exact h4 i hi⟩
set_option maxHeartbeats 200000 in
theorem tzMt.fr {W : Nat → Nat → Prop} {V : Nat → Prop} {M L : Nat} {T : Nat → Int} {t : TkS} {h h' : Hp} (H : tzMt M L T t h) (p : Fr W V h h') (w : ∀ q ∈ mR, ¬ W q.1 M) (w2 : ∀ f, 777 ≤ f → f ≤ 787 → ¬ W f M) (v : ¬ V (M + 4)) : tzMt M L T t h' := by
  obtain ⟨h1, h2, h3, h4, h5, h6, h7, h8, h9, h10⟩ := H
  refine ⟨h1.fr p w (w2 _ (by omega) (by omega)) v, by rw [p.i (w2 _ (by omega) (by omega))]; exact h2, by rw [p.i (w2 _ (by omega) (by omega))]; exact h3, by rw [p.i (w2 _ (by omega) (by omega))]; exact h4, by rw [p.i (w2 _ (by omega) (by omega))]; exact h5, by rw [p.i (w2 _ (by omega) (by omega))]; exact h6, h7, ?_, ?_, h10⟩
  · rw [p.i (w2 _ (by omega) (by omega)), p.j (w2 _ (by omega) (by omega))]; exact h8
  · rw [p.i (w2 _ (by omega) (by omega))]; exact h9
set_option maxHeartbeats 200000 in
theorem tzMt.k {M L : Nat} {T : Nat → Int} {t : TkS} {m : Hp} (H : tzMt M L T t m) : (hK m M).1 = 12 := H.1.k
set_option maxHeartbeats 200000 in
theorem tzMt.ok {M L : Nat} {T : Nat → Int} {t : TkS} {m : Hp} (H : tzMt M L T t m) : tzOk L T t := H.2.2.2.2.2.2.2.2.2
set_option maxHeartbeats 200000 in
theorem tzMt.f0 {M L : Nat} {T : Nat → Int} {t : TkS} {m : Hp} (H : tzMt M L T t m) : 0 ≤ tkF t := H.2.2.2.2.2.2.1
set_option maxHeartbeats 200000 in
theorem tzMt.a {M L : Nat} {T : Nat → Int} {t : TkS} {m : Hp} (H : tzMt M L T t m) : tzMa M L T (tkE t) (tkF t) (tkP t) m := ⟨H.1, H.2.2.2.1, H.ok.2.1, H.2.2.2.2.1, H.2.2.2.2.2.1, H.f0⟩
set_option maxHeartbeats 200000 in
theorem tzm_look {M L : Nat} {T : Nat → Int} {m : Hp} {e : Nat} (H : tzM M L T m) : fX12_look2 m M (e : Int) = some (if e < L then tzU (T e) else 0) := by
  have h9 := H.2.1
  unfold fX12_look2
  rw [H.2.2.1]
  by_cases z : e < L
  · have y := H.2.2.2 e z
    rw [if_pos z]
    refine gdg H.k (iteT (by omega) (nng H.1.r775 (gdg (by rw [H.1.k4]) (gdg (by rw [H.1.k4]; show 0 ≤ _ ∧ _ < (900 : Int); omega) ?_))))
    rw [Int.toNat_natCast, y.1, tzU_b y.2.1 y.2.2]
  · rw [if_neg z]
    exact gdg H.k (iteF (by omega) rfl)
set_option maxHeartbeats 200000 in
theorem tzm_lk1 {M L : Nat} {T : Nat → Int} {m : Hp} {e : Nat} (H : tzM M L T m) (z : e < L) : fX12_look2 m M (e : Int) = some (tzU (T e)) := by rw [tzm_look H, if_pos z]
set_option maxHeartbeats 200000 in
theorem tzm_lk0 {M L : Nat} {T : Nat → Int} {m : Hp} {e : Nat} (H : tzM M L T m) (z : ¬ e < L) : fX12_look2 m M (e : Int) = some 0 := by rw [tzm_look H, if_neg z]
set_option maxHeartbeats 200000 in
theorem tzMb.adv {M L : Nat} {T : Nat → Int} {s : Nat} {f p : Int} {m : Hp} (H : tzMb M L T s f p m) (q : s < L) : tzMb M L T (s + 1) f p (pI m 783 M ((s : Int) + 1)) := by
  obtain ⟨h1, h2, h3, h4, h5, h6⟩ := H
  have := h1.2.1
  exact ⟨h1.pI (by omega), by rw [gI_pIs (by unfold rg; omega)]; omega, by omega, by rw [gI_n (by omega)]; exact h4, by rw [gI_n (by omega)]; exact h5, h6⟩
set_option maxHeartbeats 200000 in
theorem tzMa.adv {M L : Nat} {T : Nat → Int} {s : Nat} {f p : Int} {m : Hp} (H : tzMa M L T s f p m) (q : s < L) : tzMa M L T (s + 1) f p (pI m 784 M ((s : Int) + 1)) := by
  obtain ⟨h1, h2, h3, h4, h5, h6⟩ := H
  have := h1.2.1
  exact ⟨h1.pI (by omega), by rw [gI_pIs (by unfold rg; omega)]; omega, by omega, by rw [gI_n (by omega)]; exact h4, by rw [gI_n (by omega)]; exact h5, h6⟩
set_option maxHeartbeats 200000 in
theorem tzm_b8 {M L : Nat} {T : Nat → Int} {f p : Int} : ∀ n e fu (m : Hp), L - e ≤ n → n < fu → tzMb M L T e f p m → ∃ m', GT M m m' ∧ tzMb M L T (tzRun tzBl T L e) f p m' ∧ fX12_next_b8 M fu m = fX12_next_b58 M m' := by
  intro n
  induction n with
  | zero =>
    intro e fu m h1 h2 H
    obtain ⟨fu, rfl⟩ : ∃ k, fu = k + 1 := ⟨fu - 1, by omega⟩
    have h3 := H.2.2.1
    rw [tzRun_end (by omega)]
    refine ⟨m, Fr.rf m, H, ?_⟩
    rw [fX12_next_b8.eq_2, H.2.1, H.1.2.2.1]
    exact gdg H.1.k (iteF (by omega) rfl)
  | succ n ih =>
    intro e fu m h1 h2 H
    obtain ⟨fu, rfl⟩ : ∃ k, fu = k + 1 := ⟨fu - 1, by omega⟩
    have h3 := H.2.2.1
    have h9 := H.1.2.1
    by_cases z : e < L
    · have y := H.1.2.2.2 e z
      have uc := tzU_c y.2.1 y.2.2
      have ew : WE ((e : Int) + 1) := we (by omega) (by omega)
      have lk := tzm_lk1 H.1 z
      cases q : tzBl (T e) with
      | true =>
        obtain ⟨m', p1, p2, p3⟩ := ih (e + 1) fu (pI m 783 M ((e : Int) + 1)) (by omega) (by omega) (H.adv z)
        rw [tzRun_s z q]
        refine ⟨m', (gt_pI m (by omega)).tr p1, p2, ?_⟩
        have e45 : fX12_next_b45 M (fX12_next_b8 M fu) m = fX12_next_b58 M m' := by
          unfold fX12_next_b45
          rw [H.2.1, ew.e]
          exact gdg H.1.k (ltg p3)
        rw [fX12_next_b8.eq_2, H.2.1, H.1.2.2.1]
        refine gdg H.1.k (iteT (by omega) (bdg lk ?_))
        rcases tzBl_t q with q | q
        · exact iteT (by omega) e45
        · exact iteF (by omega) (bdg lk (iteT (by omega) e45))
      | false =>
        rw [tzRun_n z q]
        have qq := tzBl_f q
        refine ⟨m, Fr.rf m, H, ?_⟩
        rw [fX12_next_b8.eq_2, H.2.1, H.1.2.2.1]
        exact gdg H.1.k (iteT (by omega) (bdg lk (iteF (by omega) (bdg lk (iteF (by omega) rfl)))))
    · rw [tzRun_end (by omega)]
      refine ⟨m, Fr.rf m, H, ?_⟩
      rw [fX12_next_b8.eq_2, H.2.1, H.1.2.2.1]
      exact gdg H.1.k (iteF (by omega) rfl)
set_option maxHeartbeats 200000 in
theorem tzV_s {T : Nat → Int} {s n : Nat} (h : n < 8) : tzV T s (n + 1) = tzV T s n * 32 + (T (s + n) - 96) := by
  unfold tzV
  rw [if_pos (by omega), if_pos (by omega)]
  rfl
set_option maxHeartbeats 200000 in
theorem tzV_b {T : Nat → Int} {s n : Nat} (h : ¬ n < 8) : tzV T s (n + 1) = -1 := by
  unfold tzV
  rw [if_neg (by omega)]
set_option maxHeartbeats 200000 in
theorem tzV_bd {T : Nat → Int} {s n : Nat} (h : ∀ i, i < n → 97 ≤ T (s + i) ∧ T (s + i) ≤ 122) : -1 ≤ tzV T s n ∧ tzV T s n < 1099511627776 := by
  unfold tzV
  by_cases q : n ≤ 8
  · rw [if_pos q]
    have := tzC_bd h q
    omega
  · rw [if_neg q]; omega
set_option maxHeartbeats 200000 in
theorem gJ_pJs {h : Hp} {f a : Nat} {v : Int} (r : rl v) : gJ (pJ h f a v) f a = v := by rw [gJ_pJ, if_pos ⟨rfl, rfl⟩, w64_of r]
set_option maxHeartbeats 200000 in
theorem tzm_b109 {M L : Nat} {T : Nat → Int} {s : Nat} {f p : Int} : ∀ n e fu (m : Hp), L - e ≤ n → n < fu → s ≤ e → (∀ i, i < e - s → 97 ≤ T (s + i) ∧ T (s + i) ≤ 122) → gI m 783 M = (s : Int) → gJ m 787 M = tzV T s (e - s) → tzMa M L T e f p m →
    ∃ m', Fr (fun f a => a = M ∧ (f = 784 ∨ f = 786 ∨ f = 787)) (fun _ => False) m m' ∧ tzMa M L T (tzRun tzLe T L e) f p m' ∧ gI m' 786 M = ((tzRun tzLe T L e - s : Nat) : Int) ∧ gJ m' 787 M = tzV T s (tzRun tzLe T L e - s) ∧ fX12_next_b109 M fu m = some m' := by
  have fin : ∀ e fu (m : Hp), s ≤ e → gI m 783 M = (s : Int) → gJ m 787 M = tzV T s (e - s) → tzMa M L T e f p m → (e < L → tzLe (T e) = false) → ∃ m', Fr (fun f a => a = M ∧ (f = 784 ∨ f = 786 ∨ f = 787)) (fun _ => False) m m' ∧ tzMa M L T e f p m' ∧ gI m' 786 M = ((e - s : Nat) : Int) ∧ gJ m' 787 M = tzV T s (e - s) ∧ fX12_next_b109 M (fu + 1) m = some m' := by
    intro e fu m hs es ej H q
    have h3 := H.2.2.1
    have h9 := H.1.2.1
    have ew : WE ((e : Int) - (s : Int)) := we (by omega) (by omega)
    refine ⟨pI m 786 M ((e : Int) - (s : Int)), fr_pI m ⟨rfl, by omega⟩, ⟨H.1.pI (by omega), by rw [gI_n (by omega)]; exact H.2.1, h3, by rw [gI_n (by omega)]; exact H.2.2.2.1, by rw [gI_n (by omega)]; exact H.2.2.2.2.1, H.2.2.2.2.2⟩, ?_, ej, ?_⟩
    · rw [gI_pIs (by unfold rg; omega)]; omega
    · rw [fX12_next_b109.eq_2, H.2.1, es, ew.e]
      by_cases z : e < L
      · have y := H.1.2.2.2 e z
        exact gdg H.1.k (bdg (tzm_lk1 H.1 z) (bdg (tzm_le0 y.2.1 y.2.2 (q z)) (iteT rfl rfl)))
      · exact gdg H.1.k (bdg (tzm_lk0 H.1 z) (bdg tzm_le_0 (iteT rfl rfl)))
  intro n
  induction n with
  | zero =>
    intro e fu m h1 h2 hs hl es ej H
    obtain ⟨fu, rfl⟩ : ∃ k, fu = k + 1 := ⟨fu - 1, by omega⟩
    rw [tzRun_end (show L ≤ e by omega)]
    exact fin e fu m hs es ej H (fun z => absurd z (by omega))
  | succ n ih =>
    intro e fu m h1 h2 hs hl es ej H
    obtain ⟨fu, rfl⟩ : ∃ k, fu = k + 1 := ⟨fu - 1, by omega⟩
    have h3 := H.2.2.1
    have h9 := H.1.2.1
    by_cases z : e < L
    · have y := H.1.2.2.2 e z
      cases q : tzLe (T e) with
      | true =>
        rw [tzRun_s z q]
        have qt := tzLe_t q
        have uc := (tzU_c y.2.1 y.2.2).2.2 (by omega)
        have ew : WE ((e : Int) + 1) := we (by omega) (by omega)
        have ew2 : WE ((e : Int) - (s : Int)) := we (by omega) (by omega)
        have vb := tzV_bd hl
        have hl' : ∀ i, i < e + 1 - s → 97 ≤ T (s + i) ∧ T (s + i) ≤ 122 := fun i hi => by
          by_cases y2 : i = e - s
          · rw [y2, show s + (e - s) = e by omega]; exact qt
          · exact hl i (by omega)
        have vb2 := tzV_bd hl'
        have step : ∀ v : Int, v = tzV T s (e + 1 - s) → ∃ m', Fr (fun f a => a = M ∧ (f = 784 ∨ f = 786 ∨ f = 787)) (fun _ => False) m m' ∧ tzMa M L T (tzRun tzLe T L (e + 1)) f p m' ∧ gI m' 786 M = ((tzRun tzLe T L (e + 1) - s : Nat) : Int) ∧ gJ m' 787 M = tzV T s (tzRun tzLe T L (e + 1) - s) ∧ fX12_next_b166 M (fX12_next_b109 M fu) m v M = some m' := by
          intro v ev
          have H1 : tzMa M L T e f p (pJ m 787 M v) := H
          have e1 : gJ (pI (pJ m 787 M v) 784 M ((e : Int) + 1)) 787 M = tzV T s (e + 1 - s) := by
            rw [gJ_pI, gJ_pJs (by unfold rl; omega)]; exact ev
          have e2 : gI (pI (pJ m 787 M v) 784 M ((e : Int) + 1)) 783 M = (s : Int) := by rw [gI_n (by omega)]; exact es
          obtain ⟨m', p1, p2, p3, p4, p5⟩ := ih (e + 1) fu _ (by omega) (by omega) (by omega) hl' e2 e1 (H1.adv z)
          have f1 : Fr (fun f a => a = M ∧ (f = 784 ∨ f = 786 ∨ f = 787)) (fun _ => False) m (pJ m 787 M v) := fr_pJ m ⟨rfl, Or.inr (Or.inr rfl)⟩
          have f2 : Fr (fun f a => a = M ∧ (f = 784 ∨ f = 786 ∨ f = 787)) (fun _ => False) (pJ m 787 M v) (pI (pJ m 787 M v) 784 M ((e : Int) + 1)) := fr_pI _ ⟨rfl, Or.inl rfl⟩
          refine ⟨m', (f1.tr f2).tr p1, p2, p3, p4, ?_⟩
          unfold fX12_next_b166
          refine gdg H.1.k (ltg (gdg H.1.k ?_))
          rw [H1.2.1, ew.e]
          exact ltg p5
        rw [fX12_next_b109.eq_2, H.2.1, es, ew2.e]
        by_cases q8 : e - s < 8
        · have v1 : rl (tzV T s (e - s) * 32) := by unfold rl; omega
          have v2 : rl (tzV T s (e - s) * 32 + T e) := by unfold rl; omega
          have v3 : rl (tzV T s (e - s) * 32 + T e - 96) := by unfold rl; omega
          obtain ⟨m', p1, p2, p3, p4, p5⟩ := step (tzV T s (e - s) * 32 + T e - 96) (by
            rw [show e + 1 - s = (e - s) + 1 by omega, tzV_s q8, show s + (e - s) = e by omega]; omega)
          refine ⟨m', p1, p2, p3, p4, gdg H.1.k (bdg (tzm_lk1 H.1 z) (bdg (tzm_le1 y.2.1 y.2.2 q) (iteF (by omega) (iteT (by omega) (bdg (tzm_lk1 H.1 z) ?_)))))⟩
          rw [ej, uc, w64_of v1, w64_of v2, w64_of v3]
          exact p5
        · obtain ⟨m', p1, p2, p3, p4, p5⟩ := step (-1) (by rw [show e + 1 - s = (e - s) + 1 by omega, tzV_b q8])
          exact ⟨m', p1, p2, p3, p4, gdg H.1.k (bdg (tzm_lk1 H.1 z) (bdg (tzm_le1 y.2.1 y.2.2 q) (iteF (by omega) (iteF (by omega) p5))))⟩
      | false =>
        rw [tzRun_n z q]
        exact fin e fu m hs es ej H (fun _ => q)
    · rw [tzRun_end (show L ≤ e by omega)]
      exact fin e fu m hs es ej H (fun w => absurd w z)
set_option maxHeartbeats 200000 in
theorem tzm_b210 {M L : Nat} {T : Nat → Int} {s : Nat} {f p : Int} : ∀ n e fu (m : Hp), L - e ≤ n → n < fu → s ≤ e → (∀ i, i < e - s → 48 ≤ T (s + i) ∧ T (s + i) ≤ 57) → gI m 783 M = (s : Int) → (e - s ≤ 4 → gI m 785 M = tzN T s (e - s)) → tzMa M L T e f p m →
    ∃ m', Fr (fun f a => a = M ∧ (f = 784 ∨ f = 785 ∨ f = 782)) (fun _ => False) m m' ∧ tzMa M L T (tzRun tzDi T L e) f p m' ∧ gI m' 782 M = (if tzRun tzDi T L e - s ≤ 4 then 2 else 4) ∧ (tzRun tzDi T L e - s ≤ 4 → gI m' 785 M = tzN T s (tzRun tzDi T L e - s)) ∧ fX12_next_b210 M fu m = some m' := by
  have fin : ∀ e fu (m : Hp), s ≤ e → gI m 783 M = (s : Int) → (e - s ≤ 4 → gI m 785 M = tzN T s (e - s)) → tzMa M L T e f p m → (e < L → tzDi (T e) = false) → ∃ m', Fr (fun f a => a = M ∧ (f = 784 ∨ f = 785 ∨ f = 782)) (fun _ => False) m m' ∧ tzMa M L T e f p m' ∧ gI m' 782 M = (if e - s ≤ 4 then 2 else 4) ∧ (e - s ≤ 4 → gI m' 785 M = tzN T s (e - s)) ∧ fX12_next_b210 M (fu + 1) m = some m' := by
    intro e fu m hs es ej H q
    have h3 := H.2.2.1
    have h9 := H.1.2.1
    have ew : WE ((e : Int) - (s : Int)) := we (by omega) (by omega)
    refine ⟨pI m 782 M (if e - s ≤ 4 then 2 else 4), fr_pI m ⟨rfl, by omega⟩, ⟨H.1.pI (by omega), by rw [gI_n (by omega)]; exact H.2.1, h3, by rw [gI_n (by omega)]; exact H.2.2.2.1, by rw [gI_n (by omega)]; exact H.2.2.2.2.1, H.2.2.2.2.2⟩, ?_, fun z => by rw [gI_n (by omega)]; exact ej z, ?_⟩
    · rw [gI_pIs (by split <;> exact rg_lit rfl)]
    · have eq1 : (if (e : Int) - (s : Int) ≤ 4 then (2 : Int) else 4) = (if e - s ≤ 4 then 2 else 4) := by
        by_cases y : e - s ≤ 4
        · rw [if_pos y, if_pos (by omega)]
        · rw [if_neg y, if_neg (by omega)]
      rw [fX12_next_b210.eq_2, H.2.1, es, ew.e, eq1]
      by_cases z : e < L
      · have y := H.1.2.2.2 e z
        exact gdg H.1.k (bdg (tzm_lk1 H.1 z) (bdg (tzm_di0 y.2.1 y.2.2 (q z)) (iteT rfl rfl)))
      · exact gdg H.1.k (bdg (tzm_lk0 H.1 z) (bdg tzm_di_0 (iteT rfl rfl)))
  intro n
  induction n with
  | zero =>
    intro e fu m h1 h2 hs hl es ej H
    obtain ⟨fu, rfl⟩ : ∃ k, fu = k + 1 := ⟨fu - 1, by omega⟩
    rw [tzRun_end (show L ≤ e by omega)]
    exact fin e fu m hs es ej H (fun z => absurd z (by omega))
  | succ n ih =>
    intro e fu m h1 h2 hs hl es ej H
    obtain ⟨fu, rfl⟩ : ∃ k, fu = k + 1 := ⟨fu - 1, by omega⟩
    have h3 := H.2.2.1
    have h9 := H.1.2.1
    by_cases z : e < L
    · have y := H.1.2.2.2 e z
      cases q : tzDi (T e) with
      | true =>
        rw [tzRun_s z q]
        have qt := tzDi_t q
        have uc := (tzU_c y.2.1 y.2.2).2.2 (by omega)
        have ew : WE ((e : Int) + 1) := we (by omega) (by omega)
        have ew2 : WE ((e : Int) - (s : Int)) := we (by omega) (by omega)
        have hl' : ∀ i, i < e + 1 - s → 48 ≤ T (s + i) ∧ T (s + i) ≤ 57 := fun i hi => by
          by_cases y2 : i = e - s
          · rw [y2, show s + (e - s) = e by omega]; exact qt
          · exact hl i (by omega)
        have step : ∀ m1 : Hp, Fr (fun f a => a = M ∧ (f = 784 ∨ f = 785 ∨ f = 782)) (fun _ => False) m m1 → gI m1 783 M = (s : Int) → (e + 1 - s ≤ 4 → gI m1 785 M = tzN T s (e + 1 - s)) → tzMa M L T e f p m1 →
            ∃ m', Fr (fun f a => a = M ∧ (f = 784 ∨ f = 785 ∨ f = 782)) (fun _ => False) m m' ∧ tzMa M L T (tzRun tzDi T L (e + 1)) f p m' ∧ gI m' 782 M = (if tzRun tzDi T L (e + 1) - s ≤ 4 then 2 else 4) ∧ (tzRun tzDi T L (e + 1) - s ≤ 4 → gI m' 785 M = tzN T s (tzRun tzDi T L (e + 1) - s)) ∧ fX12_next_b260 M (fX12_next_b210 M fu) m1 = some m' := by
          intro m1 g1 g2 g3 H1
          obtain ⟨m', p1, p2, p3, p4, p5⟩ := ih (e + 1) fu (pI m1 784 M ((e : Int) + 1)) (by omega) (by omega) (by omega) hl' (by rw [gI_n (by omega)]; exact g2) (fun z => by rw [gI_n (by omega)]; exact g3 z) (H1.adv z)
          have f2 : Fr (fun f a => a = M ∧ (f = 784 ∨ f = 785 ∨ f = 782)) (fun _ => False) m1 (pI m1 784 M ((e : Int) + 1)) := fr_pI _ ⟨rfl, Or.inl rfl⟩
          refine ⟨m', (g1.tr f2).tr p1, p2, p3, p4, ?_⟩
          unfold fX12_next_b260
          rw [H1.2.1, ew.e]
          exact gdg H1.1.k (ltg p5)
        rw [fX12_next_b210.eq_2, H.2.1, es, ew2.e]
        by_cases q4 : e - s < 4
        · have nb := tzN_bd hl (by omega) (e - s) (Nat.le_refl _)
          have nn1 := ej (by omega)
          have v1 : WE (10 * tzN T s (e - s)) := we (by omega) (by omega)
          have v2 : WE (10 * tzN T s (e - s) + T e) := we (by omega) (by omega)
          have v3 : WE (10 * tzN T s (e - s) + T e - 48) := we (by omega) (by omega)
          obtain ⟨m', p1, p2, p3, p4, p5⟩ := step (pI m 785 M (10 * tzN T s (e - s) + T e - 48)) (fr_pI m ⟨rfl, Or.inr (Or.inl rfl)⟩) (by rw [gI_n (by omega)]; exact es) (fun _ => by
            rw [gI_pIs (by unfold rg; omega), show e + 1 - s = (e - s) + 1 by omega]
            show _ = tzN T s (e - s) * 10 + (T (s + (e - s)) - 48)
            rw [show s + (e - s) = e by omega]; omega) ⟨H.1.pI (by omega), by rw [gI_n (by omega)]; exact H.2.1, h3, by rw [gI_n (by omega)]; exact H.2.2.2.1, by rw [gI_n (by omega)]; exact H.2.2.2.2.1, H.2.2.2.2.2⟩
          refine ⟨m', p1, p2, p3, p4, gdg H.1.k (bdg (tzm_lk1 H.1 z) (bdg (tzm_di1 y.2.1 y.2.2 q) (iteF (by omega) (iteT (by omega) (bdg (tzm_lk1 H.1 z) ?_)))))⟩
          rw [nn1, uc, v1.e, v2.e, v3.e]
          exact ltg p5
        · obtain ⟨m', p1, p2, p3, p4, p5⟩ := step m (Fr.rf m) es (fun y2 => absurd y2 (by omega)) H
          exact ⟨m', p1, p2, p3, p4, gdg H.1.k (bdg (tzm_lk1 H.1 z) (bdg (tzm_di1 y.2.1 y.2.2 q) (iteF (by omega) (iteF (by omega) p5))))⟩
      | false =>
        rw [tzRun_n z q]
        exact fin e fu m hs es ej H (fun _ => q)
    · rw [tzRun_end (show L ≤ e by omega)]
      exact fin e fu m hs es ej H (fun w => absurd w z)
set_option maxHeartbeats 200000 in
theorem tzm_b58 {M L : Nat} {T : Nat → Int} {s : Nat} {f p : Int} {m : Hp} (H : tzMb M L T s f p m) (ok : tzOk L T ((tzKE L T s).1, s, (tzKE L T s).2, f, p)) : ∃ m', GT M m m' ∧ tzMt M L T ((tzKE L T s).1, s, (tzKE L T s).2, f, p) m' ∧ fX12_next_b58 M m = some m' := by
  have h3 := H.2.2.1
  have h9 := H.1.2.1
  have rs : rg (s : Int) := by unfold rg; omega
  have H2 : tzMa M L T s f p (pI m 784 M (s : Int)) := ⟨H.1.pI (by omega), gI_pIs rs, h3, by rw [gI_n (by omega)]; exact H.2.2.2.1, by rw [gI_n (by omega)]; exact H.2.2.2.2.1, H.2.2.2.2.2⟩
  have e783 : gI (pI m 784 M (s : Int)) 783 M = (s : Int) := by rw [gI_n (by omega)]; exact H.2.1
  have p0 : GT M m (pI m 784 M (s : Int)) := gt_pI m (by omega)
  have e777 := H2.1.2.2.1
  unfold fX12_next_b58
  rw [H.2.1, lt_d, e783, e777]
  generalize pI m 784 M (s : Int) = m2 at H2 e783 p0 e777
  unfold tzKE at ok ⊢
  by_cases z : s < L
  · rw [if_neg (show ¬ L ≤ s by omega)] at ok ⊢
    have y := H2.1.2.2.2 s z
    have uc := tzU_c y.2.1 y.2.2
    have lk := tzm_lk1 H2.1 z
    cases q : tzLe (T s) with
    | true =>
      rw [q, if_pos rfl] at ok
      rw [if_pos rfl]
      have H3 : tzMa M L T s f p (pJ (pI m2 782 M 1) 787 M 0) := ⟨(H2.1.pI (by omega)).pJ, by rw [gI_pJ, gI_n (by omega)]; exact H2.2.1, h3, by rw [gI_pJ, gI_n (by omega)]; exact H2.2.2.2.1, by rw [gI_pJ, gI_n (by omega)]; exact H2.2.2.2.2.1, H2.2.2.2.2.2⟩
      have a1 : gI (pJ (pI m2 782 M 1) 787 M 0) 783 M = (s : Int) := by rw [gI_pJ, gI_n (by omega)]; exact e783
      have a2 : gJ (pJ (pI m2 782 M 1) 787 M 0) 787 M = tzV T s (s - s) := by
        rw [gJ_pJs (by unfold rl; omega), Nat.sub_self]; rfl
      have a3 : gI (pJ (pI m2 782 M 1) 787 M 0) 782 M = 1 := by rw [gI_pJ]; exact gI_pIs (rg_lit rfl)
      have f1 : GT M m2 (pJ (pI m2 782 M 1) 787 M 0) := (gt_pI m2 (by omega)).tr (gt_pJ _ (by omega))
      obtain ⟨m', p1, p2, p3, p4, p5⟩ := tzm_b109 (s := s) (L - s) s FU _ (Nat.le_refl _) (show L - s < 1000000 by omega) (Nat.le_refl _) (fun i hi => absurd hi (by omega)) a1 a2 H3
      refine ⟨m', (p0.tr f1).tr (p1.mono (fun f a w => ⟨w.1, by omega⟩) (fun _ v => v)), ⟨p2.1, ?_, ?_, p2.2.1, p2.2.2.2.1, p2.2.2.2.2.1, p2.2.2.2.2.2, fun _ => ⟨p3, p4⟩, (fun z => by cases z), ok⟩, ?_⟩
      · rw [p1.i (by omega)]; exact a3
      · rw [p1.i (by omega)]; exact a1
      · exact gdg H.1.k (iteT (by omega) (bdg lk (bdg (tzm_le1 y.2.1 y.2.2 q) (iteF (by omega) (ltg (ltg p5))))))
    | false =>
      rw [q, if_neg (by intro z; cases z)] at ok
      rw [if_neg (by intro z; cases z)]
      cases q2 : tzDi (T s) with
      | true =>
        rw [q2, if_pos rfl] at ok
        rw [if_pos rfl]
        have H3 : tzMa M L T s f p (pI m2 785 M 0) := ⟨H2.1.pI (by omega), by rw [gI_n (by omega)]; exact H2.2.1, h3, by rw [gI_n (by omega)]; exact H2.2.2.2.1, by rw [gI_n (by omega)]; exact H2.2.2.2.2.1, H2.2.2.2.2.2⟩
        have a1 : gI (pI m2 785 M 0) 783 M = (s : Int) := by rw [gI_n (by omega)]; exact e783
        have a2 : gI (pI m2 785 M 0) 785 M = tzN T s (s - s) := by
          rw [gI_pIs (rg_lit rfl), Nat.sub_self]; rfl
        obtain ⟨m', p1, p2, p3, p4, p5⟩ := tzm_b210 (s := s) (L - s) s FU _ (Nat.le_refl _) (show L - s < 1000000 by omega) (Nat.le_refl _) (fun i hi => absurd hi (by omega)) a1 (fun _ => a2) H3
        refine ⟨m', (p0.tr (gt_pI m2 (by omega))).tr (p1.mono (fun f a w => ⟨w.1, by omega⟩) (fun _ v => v)), ⟨p2.1, p3, ?_, p2.2.1, p2.2.2.2.1, p2.2.2.2.2.1, p2.2.2.2.2.2, (fun z => ?_), (fun z => p4 ?_), ok⟩, ?_⟩
        · rw [p1.i (by omega)]; exact a1
        · exfalso
          have z' : (if tzRun tzDi T L s - s ≤ 4 then (2 : Int) else 4) = 1 := z
          split at z' <;> omega
        · have z' : (if tzRun tzDi T L s - s ≤ 4 then (2 : Int) else 4) = 2 := z
          by_cases y3 : tzRun tzDi T L s - s ≤ 4
          · exact y3
          · rw [if_neg y3] at z'; omega
        · exact gdg H.1.k (iteT (by omega) (bdg lk (bdg (tzm_le0 y.2.1 y.2.2 q) (iteT rfl (bdg (tzm_di1 y.2.1 y.2.2 q2) (iteF (by omega) (ltg p5)))))))
      | false =>
        rw [q2, if_neg (by intro z; cases z)] at ok
        rw [if_neg (by intro z; cases z)]
        have ew : WE ((s : Int) + 1) := we (by omega) (by omega)
        have e59 : (if tzU (T s) = 59 then (3 : Int) else 4) = (if T s = 59 then 3 else 4) := by
          by_cases y3 : T s = 59
          · rw [if_pos y3, if_pos (by omega)]
          · rw [if_neg y3, if_neg (by omega)]
        have f1 : GT M m2 (pI (pI m2 784 M ((s : Int) + 1)) 782 M (if T s = 59 then 3 else 4)) := (gt_pI m2 (by omega)).tr (gt_pI _ (by omega))
        refine ⟨pI (pI m2 784 M ((s : Int) + 1)) 782 M (if T s = 59 then 3 else 4), p0.tr f1, ⟨(H2.1.pI (by omega)).pI (by omega), ?_, ?_, ?_, ?_, ?_, H2.2.2.2.2.2, (fun z => ?_), (fun z => ?_), ok⟩, ?_⟩
        · exact gI_pIs (by split <;> exact rg_lit rfl)
        · rw [gI_n (by omega), gI_n (by omega)]; exact e783
        · rw [gI_n (by omega), gI_pIs (by unfold rg; omega)]; show (s : Int) + 1 = ((s + 1 : Nat) : Int); omega
        · rw [gI_n (by omega), gI_n (by omega)]; exact H2.2.2.2.1
        · rw [gI_n (by omega), gI_n (by omega)]; exact H2.2.2.2.2.1
        · exfalso
          have z' : (if T s = 59 then (3 : Int) else 4) = 1 := z
          split at z' <;> omega
        · exfalso
          have z' : (if T s = 59 then (3 : Int) else 4) = 2 := z
          split at z' <;> omega
        · refine gdg H.1.k (iteT (by omega) (bdg lk (bdg (tzm_le0 y.2.1 y.2.2 q) (iteT rfl (bdg (tzm_di0 y.2.1 y.2.2 q2) (iteT rfl (ltg (ltg ?_))))))))
          rw [e59, ew.e]
  · rw [if_pos (show L ≤ s by omega)] at ok ⊢
    refine ⟨pI m2 782 M 0, p0.tr (gt_pI m2 (by omega)), ⟨H2.1.pI (by omega), gI_pIs (rg_lit rfl), ?_, ?_, ?_, ?_, H2.2.2.2.2.2, (fun z => by cases z), (fun z => by cases z), ok⟩, ?_⟩
    · rw [gI_n (by omega)]; exact e783
    · rw [gI_n (by omega)]; exact H2.2.1
    · rw [gI_n (by omega)]; exact H2.2.2.2.1
    · rw [gI_n (by omega)]; exact H2.2.2.2.2.1
    · exact gdg H.1.k (iteF (by omega) rfl)
set_option maxHeartbeats 200000 in
theorem tzm_next {M L : Nat} {T : Nat → Int} {e : Nat} {f p : Int} {m : Hp} (H : tzMa M L T e f p m) : ∃ m', GT M m m' ∧ tzMt M L T (tzNx L T e f p) m' ∧ fX12_next m M = some m' := by
  have h9 := H.1.2.1
  have h3 := H.2.2.1
  have H1 : tzMb M L T e f p (pI m 783 M (e : Int)) := ⟨H.1.pI (by omega), gI_pIs (by unfold rg; omega), h3, by rw [gI_n (by omega)]; exact H.2.2.2.1, by rw [gI_n (by omega)]; exact H.2.2.2.2.1, H.2.2.2.2.2⟩
  obtain ⟨m1, p1, p2, p3⟩ := tzm_b8 (L - e) e FU _ (Nat.le_refl _) (show L - e < 1000000 by omega) H1
  obtain ⟨m2, q1, q2, q3⟩ := tzm_b58 p2 (tzNx_ok (L := L) (T := T) (f := f) (p := p) h3).1
  refine ⟨m2, ((gt_pI m (by omega)).tr p1).tr q1, q2, ?_⟩
  unfold fX12_next
  rw [H.2.1]
  exact gdg H.1.k (ltg (p3.trans q3))
set_option maxHeartbeats 200000 in
theorem tzm_nt {M L : Nat} {T : Nat → Int} {t : TkS} {m : Hp} (H : tzMt M L T t m) : ∃ m', GT M m m' ∧ tzMt M L T (tzNt L T t) m' ∧ fX12_next m M = some m' := tzm_next H.a
/-! faults, what must stand, numbers -/
set_option maxHeartbeats 200000 in
theorem tzm_fail {M L : Nat} {T : Nat → Int} {t : TkS} {m : Hp} {r : Int} (H : tzMt M L T t m) (hr : 0 < r ∧ r < 100) (k4 : tkK t ≠ 4) : ∃ m', GT M m m' ∧ tzMt M L T (tzSt t r) m' ∧ fX12_fail m M r (tkS t : Int) = some m' := by
  have o := H.ok
  have h9 := H.1.2.1
  have o1 := o.1
  have o2 := o.2.1
  have hf := H.f0
  obtain ⟨H1, H2, H3, H4, H5, H6, H7, H8, H9, H10⟩ := id H
  unfold fX12_fail
  rw [H5]
  by_cases q : tkF t = 0
  · refine ⟨pI (pI m 780 M r) 781 M (tkS t : Int), (gt_pI m (by omega)).tr (gt_pI _ (by omega)), ?_, gdg H1.k (iteF (by omega) rfl)⟩
    unfold tzSt
    rw [if_pos q, if_neg k4]
    refine ⟨(H1.pI (by omega)).pI (by omega), ?_, ?_, ?_, ?_, fun _ => gI_pIs (by unfold rg; omega), by show 0 ≤ r; omega, ?_, ?_, H10⟩
    · rw [gI_n (by omega), gI_n (by omega)]; exact H2
    · rw [gI_n (by omega), gI_n (by omega)]; exact H3
    · rw [gI_n (by omega), gI_n (by omega)]; exact H4
    · rw [gI_n (by omega)]; exact gI_pIs (by unfold rg; omega)
    · rw [gI_n (by omega), gI_n (by omega)]; exact H8
    · rw [gI_n (by omega), gI_n (by omega)]; exact H9
  · refine ⟨m, Fr.rf m, by rw [tzSt_n q]; exact H, gdg H1.k (iteT (by omega) rfl)⟩
set_option maxHeartbeats 200000 in
theorem tzm_wrong {M L : Nat} {T : Nat → Int} {t : TkS} {m : Hp} (H : tzMt M L T t m) : ∃ m', GT M m m' ∧ tzMt M L T (tzSt t 2) m' ∧ fX12_wrong m M = some m' := by
  have o := H.ok
  have h9 := H.1.2.1
  have o1 := o.1
  have o2 := o.2.1
  have hf := H.f0
  obtain ⟨H1, H2, H3, H4, H5, H6, H7, H8, H9, H10⟩ := id H
  unfold fX12_wrong
  rw [H2, H3]
  by_cases k4 : tkK t = 4
  · rw [if_pos k4]
    unfold fX12_fail
    rw [H5]
    by_cases q : tkF t = 0
    · refine ⟨pI (pI m 780 M 1) 781 M (tkS t : Int), (gt_pI m (by omega)).tr (gt_pI _ (by omega)), ?_, gdg H1.k (bdg (gdg H1.k (iteF (by omega) rfl)) rfl)⟩
      unfold tzSt
      rw [if_pos q, if_pos k4]
      refine ⟨(H1.pI (by omega)).pI (by omega), ?_, ?_, ?_, ?_, fun _ => gI_pIs (by unfold rg; omega), by show 0 ≤ (1 : Int); omega, ?_, ?_, H10⟩
      · rw [gI_n (by omega), gI_n (by omega)]; exact H2
      · rw [gI_n (by omega), gI_n (by omega)]; exact H3
      · rw [gI_n (by omega), gI_n (by omega)]; exact H4
      · rw [gI_n (by omega)]; exact gI_pIs (rg_lit rfl)
      · rw [gI_n (by omega), gI_n (by omega)]; exact H8
      · rw [gI_n (by omega), gI_n (by omega)]; exact H9
    · refine ⟨m, Fr.rf m, by rw [tzSt_n q]; exact H, gdg H1.k (bdg (gdg H1.k (iteT (by omega) rfl)) rfl)⟩
  · rw [if_neg k4]
    obtain ⟨m', p1, p2, p3⟩ := tzm_fail (r := 2) H (by omega) k4
    exact ⟨m', p1, p2, gdg H1.k (bdg p3 rfl)⟩
set_option maxHeartbeats 200000 in
theorem tzm_must {M L : Nat} {T : Nat → Int} {t : TkS} {m : Hp} {b : Bool} (H : tzMt M L T t m) : ∃ m', GT M m m' ∧ tzMt M L T (tzMu L T t b) m' ∧ fX12_must m M (tzB b) = some m' := by
  have hf := H.f0
  unfold fX12_must
  rw [H.2.2.2.2.1]
  by_cases q : tkF t = 0
  · unfold tzMu
    rw [if_pos q]
    cases b with
    | true =>
      rw [if_pos rfl]
      obtain ⟨m', p1, p2, p3⟩ := tzm_nt H
      exact ⟨m', p1, p2, gdg H.k (iteF (by omega) (iteF (show ¬ (1 : Int) = 0 by omega) (bdg p3 rfl)))⟩
    | false =>
      rw [if_neg (by intro z; cases z)]
      obtain ⟨m', p1, p2, p3⟩ := tzm_wrong H
      exact ⟨m', p1, p2, gdg H.k (iteF (by omega) (iteT rfl (bdg p3 rfl)))⟩
  · rw [tzMu_n q]
    exact ⟨m, Fr.rf m, H, gdg H.k (iteT (by omega) rfl)⟩
set_option maxHeartbeats 200000 in
theorem tzm_count {M L : Nat} {T : Nat → Int} {t : TkS} {m : Hp} {a b : Int} (H : tzMt M L T t m) : ∃ m', GT M m m' ∧ tzMt M L T (tzNm L T t a b).2 m' ∧ fX12_count m M a b = some ((tzNm L T t a b).1, m') := by
  have hf := H.f0
  -- behind a fault
  have b50 : ∀ {t : TkS} {m : Hp}, tzMt M L T t m → ¬ tkF t = 0 → fX12_count_b50 M a b m = some (0, m) := fun {t} {m} H q => by
    have hf := H.f0
    unfold fX12_count_b50
    rw [H.2.2.2.2.1]
    exact gdg H.k (iteT (by omega) rfl)
  have b19 : ∀ {t : TkS} {m : Hp}, tzMt M L T t m → ¬ tkF t = 0 → fX12_count_b19 M a b m = some (0, m) := fun {t} {m} H q => by
    unfold fX12_count_b19
    rw [H.2.2.2.2.1]
    exact gdg H.k (iteF q (b50 H q))
  unfold fX12_count
  rw [H.2.2.2.2.1, H.2.1]
  by_cases q : tkF t = 0
  · by_cases q2 : tkK t = 2
    · have e19 : ∃ m', GT M m m' ∧ tzMt M L T (tzNm L T t a b).2 m' ∧ fX12_count_b19 M a b m = some ((tzNm L T t a b).1, m') := by
        unfold fX12_count_b19 tzNm
        rw [H.2.2.2.2.1, H.2.2.1, H.2.2.2.2.2.2.2.2.1 q2, if_pos q, if_pos q2]
        by_cases q3 : a ≤ tzN T (tkS t) (tkE t - tkS t) ∧ tzN T (tkS t) (tkE t - tkS t) ≤ b
        · rw [if_pos q3]
          obtain ⟨m', p1, p2, p3⟩ := tzm_nt H
          refine ⟨m', p1, p2, gdg H.k (iteT q (bdg (rIn1 q3.1 q3.2) (iteF (by omega) ?_)))⟩
          unfold fX12_count_b50
          rw [H.2.2.2.2.1, H.2.2.2.2.2.2.2.2.1 q2]
          exact gdg H.k (iteF (by omega) (ltg (bdg p3 rfl)))
        · rw [if_neg q3]
          obtain ⟨m', p1, p2, p3⟩ := tzm_fail (r := 4) H (by omega) (by omega)
          exact ⟨m', p1, p2, gdg H.k (iteT q (bdg (rIn0 (by omega)) (iteT rfl (bdg p3 (b50 p2 (tzSt_0 (by omega)))))))⟩
      obtain ⟨m', p1, p2, p3⟩ := e19
      exact ⟨m', p1, p2, gdg H.k (iteT q (iteT q2 p3))⟩
    · obtain ⟨m', p1, p2, p3⟩ := tzm_wrong H
      unfold tzNm
      rw [if_pos q, if_neg q2]
      exact ⟨m', p1, p2, gdg H.k (iteT q (iteF q2 (bdg p3 (b19 p2 (tzSt_0 (by omega))))))⟩
  · rw [tzNm_n q]
    exact ⟨m, Fr.rf m, H, gdg H.k (iteF q (b19 H q))⟩
/-! words of the reference -/
set_option maxHeartbeats 200000 in
theorem tzm_isV {M L : Nat} {T : Nat → Int} {t : TkS} {m : Hp} {w : List Nat} {v : Int} (H : tzMt M L T t m) (hw : tzWd w = true) (ev : v = tzC (tzW w) 0 w.length) : fX12_isWord m M v = some (tzB (tzI T t w)) := by
  unfold fX12_isWord
  rw [H.2.1, ev]
  by_cases q : tkK t = 1
  · have e := tzIs_v H.ok hw q
    rw [(H.2.2.2.2.2.2.2.1 q).2]
    cases q2 : tzI T t w with
    | true => exact gdg H.k (iteT q (iteT (e.mpr (tzI_1 q2)) rfl))
    | false => exact gdg H.k (iteT q (iteF (fun z => tzI_0 q2 (e.mp z)) rfl))
  · have e : tzI T t w = false := decide_eq_false (fun z => q z.1)
    rw [e]
    exact gdg H.k (iteF q rfl)
