/-! FRAMES by field and row; THE CLASS's TAPE -/
def Fr (W : Nat → Nat → Prop) (V : Nat → Prop) (h h' : Hp) : Prop := hZ h' = hZ h ∧ hK h' = hK h ∧ (∀ f a, ¬ W f a → gI h' f a = gI h f a ∧ gJ h' f a = gJ h f a ∧ gR h' f a = gR h f a) ∧ (∀ a, ¬ V a → ∀ i, gA h' a i = gA h a i ∧ gB h' a i = gB h a i ∧ gC h' a i = gC h a i)
set_option maxHeartbeats 200000 in
theorem Fr.rf {W : Nat → Nat → Prop} {V : Nat → Prop} (h : Hp) : Fr W V h h := ⟨rfl, rfl, fun _ _ _ => ⟨rfl, rfl, rfl⟩, fun _ _ _ => ⟨rfl, rfl, rfl⟩⟩
set_option maxHeartbeats 200000 in
theorem Fr.tr {W : Nat → Nat → Prop} {V : Nat → Prop} {h h1 h2 : Hp} (p : Fr W V h h1) (q : Fr W V h1 h2) : Fr W V h h2 :=
  ⟨q.1.trans p.1, q.2.1.trans p.2.1, fun f a w => ⟨(q.2.2.1 f a w).1.trans (p.2.2.1 f a w).1, (q.2.2.1 f a w).2.1.trans (p.2.2.1 f a w).2.1, (q.2.2.1 f a w).2.2.trans (p.2.2.1 f a w).2.2⟩, fun a v i => ⟨(q.2.2.2 a v i).1.trans (p.2.2.2 a v i).1, (q.2.2.2 a v i).2.1.trans (p.2.2.2 a v i).2.1, (q.2.2.2 a v i).2.2.trans (p.2.2.2 a v i).2.2⟩⟩
set_option maxHeartbeats 200000 in
theorem Fr.mono {W W' : Nat → Nat → Prop} {V V' : Nat → Prop} {h h' : Hp} (p : Fr W V h h') (w : ∀ f a, W f a → W' f a) (v : ∀ a, V a → V' a) : Fr W' V' h h' :=
  ⟨p.1, p.2.1, fun f a n => p.2.2.1 f a (fun z => n (w f a z)), fun a n => p.2.2.2 a (fun z => n (v a z))⟩
set_option maxHeartbeats 200000 in
theorem Fr.z {W : Nat → Nat → Prop} {V : Nat → Prop} {h h' : Hp} (p : Fr W V h h') : hZ h' = hZ h := p.1
set_option maxHeartbeats 200000 in
theorem Fr.k {W : Nat → Nat → Prop} {V : Nat → Prop} {h h' : Hp} (p : Fr W V h h') : hK h' = hK h := p.2.1
set_option maxHeartbeats 200000 in
theorem Fr.i {W : Nat → Nat → Prop} {V : Nat → Prop} {h h' : Hp} (p : Fr W V h h') {f a : Nat} (w : ¬ W f a) : gI h' f a = gI h f a := (p.2.2.1 f a w).1
set_option maxHeartbeats 200000 in
theorem Fr.j {W : Nat → Nat → Prop} {V : Nat → Prop} {h h' : Hp} (p : Fr W V h h') {f a : Nat} (w : ¬ W f a) : gJ h' f a = gJ h f a := (p.2.2.1 f a w).2.1
set_option maxHeartbeats 200000 in
theorem Fr.r {W : Nat → Nat → Prop} {V : Nat → Prop} {h h' : Hp} (p : Fr W V h h') {f a : Nat} (w : ¬ W f a) : gR h' f a = gR h f a := (p.2.2.1 f a w).2.2
set_option maxHeartbeats 200000 in
theorem Fr.a {W : Nat → Nat → Prop} {V : Nat → Prop} {h h' : Hp} (p : Fr W V h h') {a i : Nat} (v : ¬ V a) : gA h' a i = gA h a i := (p.2.2.2 a v i).1
set_option maxHeartbeats 200000 in
theorem Fr.b {W : Nat → Nat → Prop} {V : Nat → Prop} {h h' : Hp} (p : Fr W V h h') {a i : Nat} (v : ¬ V a) : gB h' a i = gB h a i := (p.2.2.2 a v i).2.1
set_option maxHeartbeats 200000 in
theorem Fr.c {W : Nat → Nat → Prop} {V : Nat → Prop} {h h' : Hp} (p : Fr W V h h') {a i : Nat} (v : ¬ V a) : gC h' a i = gC h a i := (p.2.2.2 a v i).2.2
set_option maxHeartbeats 200000 in
theorem fr_pI {W : Nat → Nat → Prop} {V : Nat → Prop} (h : Hp) {f a : Nat} {v : Int} (w : W f a) : Fr W V h (pI h f a v) :=
  ⟨rfl, rfl, fun f' b n => ⟨by rw [gI_pI, if_neg (fun (e : f' = f ∧ b = a) => n (by rw [e.1, e.2]; exact w))], rfl, rfl⟩, fun _ _ _ => ⟨rfl, rfl, rfl⟩⟩
set_option maxHeartbeats 200000 in
theorem fr_pJ {W : Nat → Nat → Prop} {V : Nat → Prop} (h : Hp) {f a : Nat} {v : Int} (w : W f a) : Fr W V h (pJ h f a v) :=
  ⟨rfl, rfl, fun f' b n => ⟨rfl, by rw [gJ_pJ, if_neg (fun (e : f' = f ∧ b = a) => n (by rw [e.1, e.2]; exact w))], rfl⟩, fun _ _ _ => ⟨rfl, rfl, rfl⟩⟩
set_option maxHeartbeats 200000 in
theorem fr_pR {W : Nat → Nat → Prop} {V : Nat → Prop} (h : Hp) {f a v : Nat} (w : W f a) : Fr W V h (pR h f a v) :=
  ⟨rfl, rfl, fun f' b n => ⟨rfl, rfl, by rw [gR_pR, if_neg (fun (e : f' = f ∧ b = a) => n (by rw [e.1, e.2]; exact w))]⟩, fun _ _ _ => ⟨rfl, rfl, rfl⟩⟩
set_option maxHeartbeats 200000 in
theorem fr_sA {W : Nat → Nat → Prop} {V : Nat → Prop} (h : Hp) {a : Nat} {i v : Int} (w : V a) : Fr W V h (sA h a i v) :=
  ⟨rfl, rfl, fun _ _ _ => ⟨rfl, rfl, rfl⟩, fun b n j => ⟨by rw [gA_sA, if_neg (fun (e : b = a ∧ j = i.toNat) => n (by rw [e.1]; exact w))], rfl, rfl⟩⟩
set_option maxHeartbeats 200000 in
theorem fr_sB {W : Nat → Nat → Prop} {V : Nat → Prop} (h : Hp) {a : Nat} {i v : Int} (w : V a) : Fr W V h (sB h a i v) :=
  ⟨rfl, rfl, fun _ _ _ => ⟨rfl, rfl, rfl⟩, fun b n j => ⟨rfl, by rw [gB_sB, if_neg (fun (e : b = a ∧ j = i.toNat) => n (by rw [e.1]; exact w))], rfl⟩⟩
/-- what the tape's own calls may change -/
abbrev FT (X : Nat) : Hp → Hp → Prop := Fr (fun f a => a = X + 10 ∧ 578 ≤ f ∧ f ≤ 583) (fun _ => False)
set_option maxHeartbeats 200000 in
theorem ft_pI {X f : Nat} {v : Int} (h : Hp) (w : 578 ≤ f ∧ f ≤ 583) : FT X h (pI h f (X + 10) v) := fr_pI h ⟨rfl, w⟩
/-- the class's tape: what stands; where it reads on; the token -/
def tzX (X L : Nat) (T : Nat → Int) (h : Hp) : Prop := (hK h (X + 10)).1 = 9 ∧ gR h 576 (X + 10) = some (X + 11) ∧ hK h (X + 11) = (20, 900) ∧ L ≤ 900 ∧ gI h 581 (X + 10) = (L : Int) ∧ (∀ i, i < L → gA h (X + 11) i = T i ∧ -128 ≤ T i ∧ T i ≤ 127)
def tzXa (X L : Nat) (T : Nat → Int) (e : Nat) (f p : Int) (h : Hp) : Prop := tzX X L T h ∧ gI h 582 (X + 10) = (e : Int) ∧ e ≤ L ∧ gI h 578 (X + 10) = f ∧ gI h 579 (X + 10) = p ∧ (f = 0 → p = -1)
def tzXt (X L : Nat) (T : Nat → Int) (t : TkS) (h : Hp) : Prop := tzX X L T h ∧ gI h 583 (X + 10) = tkK t ∧ gI h 580 (X + 10) = (tkS t : Int) ∧ gI h 582 (X + 10) = (tkE t : Int) ∧ gI h 578 (X + 10) = tkF t ∧ gI h 579 (X + 10) = tkP t ∧ (tkF t = 0 → tkP t = -1) ∧ tzOk L T t
set_option maxHeartbeats 200000 in
theorem tzX.pI {X L f : Nat} {T : Nat → Int} {h : Hp} {v : Int} (H : tzX X L T h) (w : f ≠ 581) : tzX X L T (pI h f (X + 10) v) := by
  obtain ⟨h1, h2, h3, h4, h5, h6⟩ := H
  exact ⟨h1, h2, h3, h4, by rw [gI_n (Or.inl (fun e => w e.symm))]; exact h5, h6⟩
set_option maxHeartbeats 200000 in
theorem tzX.fr {W : Nat → Nat → Prop} {V : Nat → Prop} {X L : Nat} {T : Nat → Int} {h h' : Hp} (H : tzX X L T h) (p : Fr W V h h') (w1 : ¬ W 576 (X + 10)) (w2 : ¬ W 581 (X + 10)) (v : ¬ V (X + 11)) : tzX X L T h' := by
  obtain ⟨h1, h2, h3, h4, h5, h6⟩ := H
  exact ⟨by rw [p.k]; exact h1, by rw [p.r w1]; exact h2, by rw [p.k]; exact h3, h4, by rw [p.i w2]; exact h5, fun i hi => by rw [p.a v]; exact h6 i hi⟩
set_option maxHeartbeats 200000 in
theorem tzXt.fr {W : Nat → Nat → Prop} {V : Nat → Prop} {X L : Nat} {T : Nat → Int} {t : TkS} {h h' : Hp} (H : tzXt X L T t h) (p : Fr W V h h') (w : ∀ f, 576 ≤ f → f ≤ 583 → ¬ W f (X + 10)) (v : ¬ V (X + 11)) : tzXt X L T t h' := by
  obtain ⟨h1, h2, h3, h4, h5, h6, h6b, h7⟩ := H
  exact ⟨h1.fr p (w _ (by omega) (by omega)) (w _ (by omega) (by omega)) v, by rw [p.i (w _ (by omega) (by omega))]; exact h2, by rw [p.i (w _ (by omega) (by omega))]; exact h3, by rw [p.i (w _ (by omega) (by omega))]; exact h4, by rw [p.i (w _ (by omega) (by omega))]; exact h5, by rw [p.i (w _ (by omega) (by omega))]; exact h6, h6b, h7⟩
set_option maxHeartbeats 200000 in
theorem tzXt.a {X L : Nat} {T : Nat → Int} {t : TkS} {h : Hp} (H : tzXt X L T t h) : tzXa X L T (tkE t) (tkF t) (tkP t) h := ⟨H.1, H.2.2.2.1, H.2.2.2.2.2.2.2.2.1, H.2.2.2.2.1, H.2.2.2.2.2.1, H.2.2.2.2.2.2.1⟩
set_option maxHeartbeats 200000 in
theorem tzXt.ok {X L : Nat} {T : Nat → Int} {t : TkS} {h : Hp} (H : tzXt X L T t h) : tzOk L T t := H.2.2.2.2.2.2.2
set_option maxHeartbeats 200000 in
theorem tzXt.k {X L : Nat} {T : Nat → Int} {t : TkS} {h : Hp} (H : tzXt X L T t h) : (hK h (X + 10)).1 = 9 := H.1.1
set_option maxHeartbeats 200000 in
theorem tzXt.l {X L : Nat} {T : Nat → Int} {t : TkS} {h : Hp} (H : tzXt X L T t h) : L ≤ 900 := H.1.2.2.2.1
set_option maxHeartbeats 200000 in
theorem tzx_bl1 {x : Int} (q : tzBl x = true) : fX9_isBlank x = some 1 := by
  unfold fX9_isBlank
  rcases tzBl_t q with q | q
  · exact iteT q rfl
  · exact iteF (by omega) (iteT q rfl)
set_option maxHeartbeats 200000 in
theorem tzx_bl0 {x : Int} (q : tzBl x = false) : fX9_isBlank x = some 0 := by
  unfold fX9_isBlank
  have := tzBl_f q
  exact iteF this.1 (iteF this.2 rfl)
set_option maxHeartbeats 200000 in
theorem tzx_le1 {x : Int} (q : tzLe x = true) : fX9_isSmallLetter x = some 1 := by
  unfold fX9_isSmallLetter
  have := tzLe_t q
  exact iteF (by omega) (iteT (by omega) rfl)
set_option maxHeartbeats 200000 in
theorem tzx_le0 {x : Int} (q : tzLe x = false) : fX9_isSmallLetter x = some 0 := by
  unfold fX9_isSmallLetter
  rcases tzLe_f q with q | q
  · exact iteT q rfl
  · exact iteF (by omega) (iteF (by omega) rfl)
set_option maxHeartbeats 200000 in
theorem tzx_di1 {x : Int} (q : tzDi x = true) : fX9_isDigit x = some 1 := by
  unfold fX9_isDigit
  have := tzDi_t q
  exact iteF (by omega) (iteT (by omega) rfl)
set_option maxHeartbeats 200000 in
theorem tzx_di0 {x : Int} (q : tzDi x = false) : fX9_isDigit x = some 0 := by
  unfold fX9_isDigit
  rcases tzDi_f q with q | q
  · exact iteT q rfl
  · exact iteF (by omega) (iteF (by omega) rfl)
set_option maxHeartbeats 200000 in
theorem tzXa.adv {X L : Nat} {T : Nat → Int} {e : Nat} {f p : Int} {h : Hp} (H : tzXa X L T e f p h) (q : e < L) : tzXa X L T (e + 1) f p (pI h 582 (X + 10) ((e : Int) + 1)) := by
  obtain ⟨h1, h2, h3, h4, h5⟩ := H
  have := h1.2.2.2.1
  exact ⟨h1.pI (by omega), by rw [gI_pIs (by unfold rg; omega)]; omega, by omega, by rw [gI_n (by omega)]; exact h4, by rw [gI_n (by omega)]; exact h5.1, h5.2⟩
set_option maxHeartbeats 200000 in
theorem tzx_b0 {X L : Nat} {T : Nat → Int} {f p : Int} : ∀ n e fu (h : Hp), L - e ≤ n → n < fu → tzXa X L T e f p h → ∃ h', FT X h h' ∧ tzXa X L T (tzRun tzBl T L e) f p h' ∧ fX9_next_b0 (X + 10) fu h = fX9_next_b39 (X + 10) h' := by
  intro n
  induction n with
  | zero =>
    intro e fu h h1 h2 H
    obtain ⟨fu, rfl⟩ : ∃ k, fu = k + 1 := ⟨fu - 1, by omega⟩
    have h3 := H.2.2.1
    rw [tzRun_end (by omega)]
    refine ⟨h, Fr.rf h, H, ?_⟩
    rw [fX9_next_b0.eq_2, H.2.1, H.1.2.2.2.2.1]
    exact gdg H.1.1 (iteF (by omega) rfl)
  | succ n ih =>
    intro e fu h h1 h2 H
    obtain ⟨fu, rfl⟩ : ∃ k, fu = k + 1 := ⟨fu - 1, by omega⟩
    have h3 := H.2.2.1
    have h9 := H.1.2.2.2.1
    by_cases z : e < L
    · have eA : gA h (X + 11) ((e : Nat) : Int).toNat = T e := by rw [Int.toNat_natCast]; exact (H.1.2.2.2.2.2 e z).1
      have ew : WE ((e : Int) + 1) := we (by omega) (by omega)
      cases q : tzBl (T e) with
      | true =>
        obtain ⟨h', p1, p2, p3⟩ := ih (e + 1) fu (pI h 582 (X + 10) ((e : Int) + 1)) (by omega) (by omega) (H.adv z)
        rw [tzRun_s z q]
        refine ⟨h', (ft_pI h (by omega)).tr p1, p2, ?_⟩
        rw [fX9_next_b0.eq_2, H.2.1, H.1.2.2.2.2.1, ew.e]
        exact gdg H.1.1 (iteT (by omega) (nng H.1.2.1 (gdg (by rw [H.1.2.2.1]) (gdg (by rw [H.1.2.2.1]; show 0 ≤ _ ∧ _ < (900 : Int); omega) (bdg (by rw [eA]; exact tzx_bl1 q) (iteF (by omega) p3))))))
      | false =>
        rw [tzRun_n z q]
        refine ⟨h, Fr.rf h, H, ?_⟩
        rw [fX9_next_b0.eq_2, H.2.1, H.1.2.2.2.2.1]
        exact gdg H.1.1 (iteT (by omega) (nng H.1.2.1 (gdg (by rw [H.1.2.2.1]) (gdg (by rw [H.1.2.2.1]; show 0 ≤ _ ∧ _ < (900 : Int); omega) (bdg (by rw [eA]; exact tzx_bl0 q) (iteT rfl rfl))))))
    · rw [tzRun_end (by omega)]
      refine ⟨h, Fr.rf h, H, ?_⟩
      rw [fX9_next_b0.eq_2, H.2.1, H.1.2.2.2.2.1]
      exact gdg H.1.1 (iteF (by omega) rfl)
set_option maxHeartbeats 200000 in
theorem tzx_b86 {X L : Nat} {T : Nat → Int} {f p : Int} : ∀ n e fu (h : Hp), L - e ≤ n → n < fu → tzXa X L T e f p h → ∃ h', Fr (fun f a => a = X + 10 ∧ f = 582) (fun _ => False) h h' ∧ tzXa X L T (tzRun tzLe T L e) f p h' ∧ fX9_next_b86 (X + 10) fu h = some h' := by
  intro n
  induction n with
  | zero =>
    intro e fu h h1 h2 H
    obtain ⟨fu, rfl⟩ : ∃ k, fu = k + 1 := ⟨fu - 1, by omega⟩
    have h3 := H.2.2.1
    rw [tzRun_end (by omega)]
    refine ⟨h, Fr.rf h, H, ?_⟩
    rw [fX9_next_b86.eq_2, H.2.1, H.1.2.2.2.2.1]
    exact gdg H.1.1 (iteF (by omega) rfl)
  | succ n ih =>
    intro e fu h h1 h2 H
    obtain ⟨fu, rfl⟩ : ∃ k, fu = k + 1 := ⟨fu - 1, by omega⟩
    have h3 := H.2.2.1
    have h9 := H.1.2.2.2.1
    by_cases z : e < L
    · have eA : gA h (X + 11) ((e : Nat) : Int).toNat = T e := by rw [Int.toNat_natCast]; exact (H.1.2.2.2.2.2 e z).1
      have ew : WE ((e : Int) + 1) := we (by omega) (by omega)
      cases q : tzLe (T e) with
      | true =>
        obtain ⟨h', p1, p2, p3⟩ := ih (e + 1) fu (pI h 582 (X + 10) ((e : Int) + 1)) (by omega) (by omega) (H.adv z)
        rw [tzRun_s z q]
        refine ⟨h', (fr_pI h ⟨rfl, rfl⟩).tr p1, p2, ?_⟩
        rw [fX9_next_b86.eq_2, H.2.1, H.1.2.2.2.2.1, ew.e]
        exact gdg H.1.1 (iteT (by omega) (nng H.1.2.1 (gdg (by rw [H.1.2.2.1]) (gdg (by rw [H.1.2.2.1]; show 0 ≤ _ ∧ _ < (900 : Int); omega) (bdg (by rw [eA]; exact tzx_le1 q) (iteF (by omega) p3))))))
      | false =>
        rw [tzRun_n z q]
        refine ⟨h, Fr.rf h, H, ?_⟩
        rw [fX9_next_b86.eq_2, H.2.1, H.1.2.2.2.2.1]
        exact gdg H.1.1 (iteT (by omega) (nng H.1.2.1 (gdg (by rw [H.1.2.2.1]) (gdg (by rw [H.1.2.2.1]; show 0 ≤ _ ∧ _ < (900 : Int); omega) (bdg (by rw [eA]; exact tzx_le0 q) (iteT rfl rfl))))))
    · rw [tzRun_end (by omega)]
      refine ⟨h, Fr.rf h, H, ?_⟩
      rw [fX9_next_b86.eq_2, H.2.1, H.1.2.2.2.2.1]
      exact gdg H.1.1 (iteF (by omega) rfl)
set_option maxHeartbeats 200000 in
theorem tzx_b140 {X L : Nat} {T : Nat → Int} {f p : Int} : ∀ n e fu (h : Hp), L - e ≤ n → n < fu → tzXa X L T e f p h → ∃ h', Fr (fun f a => a = X + 10 ∧ f = 582) (fun _ => False) h h' ∧ tzXa X L T (tzRun tzDi T L e) f p h' ∧ fX9_next_b140 (X + 10) fu h = fX9_next_b179 (X + 10) h' := by
  intro n
  induction n with
  | zero =>
    intro e fu h h1 h2 H
    obtain ⟨fu, rfl⟩ : ∃ k, fu = k + 1 := ⟨fu - 1, by omega⟩
    have h3 := H.2.2.1
    rw [tzRun_end (by omega)]
    refine ⟨h, Fr.rf h, H, ?_⟩
    rw [fX9_next_b140.eq_2, H.2.1, H.1.2.2.2.2.1]
    exact gdg H.1.1 (iteF (by omega) rfl)
  | succ n ih =>
    intro e fu h h1 h2 H
    obtain ⟨fu, rfl⟩ : ∃ k, fu = k + 1 := ⟨fu - 1, by omega⟩
    have h3 := H.2.2.1
    have h9 := H.1.2.2.2.1
    by_cases z : e < L
    · have eA : gA h (X + 11) ((e : Nat) : Int).toNat = T e := by rw [Int.toNat_natCast]; exact (H.1.2.2.2.2.2 e z).1
      have ew : WE ((e : Int) + 1) := we (by omega) (by omega)
      cases q : tzDi (T e) with
      | true =>
        obtain ⟨h', p1, p2, p3⟩ := ih (e + 1) fu (pI h 582 (X + 10) ((e : Int) + 1)) (by omega) (by omega) (H.adv z)
        rw [tzRun_s z q]
        refine ⟨h', (fr_pI h ⟨rfl, rfl⟩).tr p1, p2, ?_⟩
        rw [fX9_next_b140.eq_2, H.2.1, H.1.2.2.2.2.1, ew.e]
        exact gdg H.1.1 (iteT (by omega) (nng H.1.2.1 (gdg (by rw [H.1.2.2.1]) (gdg (by rw [H.1.2.2.1]; show 0 ≤ _ ∧ _ < (900 : Int); omega) (bdg (by rw [eA]; exact tzx_di1 q) (iteF (by omega) p3))))))
      | false =>
        rw [tzRun_n z q]
        refine ⟨h, Fr.rf h, H, ?_⟩
        rw [fX9_next_b140.eq_2, H.2.1, H.1.2.2.2.2.1]
        exact gdg H.1.1 (iteT (by omega) (nng H.1.2.1 (gdg (by rw [H.1.2.2.1]) (gdg (by rw [H.1.2.2.1]; show 0 ≤ _ ∧ _ < (900 : Int); omega) (bdg (by rw [eA]; exact tzx_di0 q) (iteT rfl rfl))))))
    · rw [tzRun_end (by omega)]
      refine ⟨h, Fr.rf h, H, ?_⟩
      rw [fX9_next_b140.eq_2, H.2.1, H.1.2.2.2.2.1]
      exact gdg H.1.1 (iteF (by omega) rfl)
set_option maxHeartbeats 200000 in
theorem tzx_b39 {X L : Nat} {T : Nat → Int} {s : Nat} {f p : Int} {h : Hp} (H : tzXa X L T s f p h) : ∃ h', FT X h h' ∧ (tzX X L T h' ∧ gI h' 583 (X + 10) = (tzKE L T s).1 ∧ gI h' 580 (X + 10) = (s : Int) ∧ gI h' 582 (X + 10) = ((tzKE L T s).2 : Int) ∧ gI h' 578 (X + 10) = f ∧ gI h' 579 (X + 10) = p) ∧ fX9_next_b39 (X + 10) h = some h' := by
  have h3 := H.2.2.1
  have h9 := H.1.2.2.2.1
  have rs : rg (s : Int) := by unfold rg; omega
  -- the state behind 'start = end'
  have H2 : tzXa X L T s f p (pI h 580 (X + 10) (s : Int)) := ⟨H.1.pI (by omega), by rw [gI_n (by omega)]; exact H.2.1, h3, by rw [gI_n (by omega)]; exact H.2.2.2.1, by rw [gI_n (by omega)]; exact H.2.2.2.2.1, H.2.2.2.2.2⟩
  have e580 : gI (pI h 580 (X + 10) (s : Int)) 580 (X + 10) = (s : Int) := gI_pIs rs
  have p0 : FT X h (pI h 580 (X + 10) (s : Int)) := ft_pI h (by omega)
  unfold fX9_next_b39 tzKE
  rw [H.2.1, lt_d, e580, H2.1.2.2.2.2.1]
  generalize pI h 580 (X + 10) (s : Int) = h2 at H2 e580 p0
  by_cases z : s < L
  · rw [if_neg (show ¬ L ≤ s by omega)]
    have eA : gA h2 (X + 11) ((s : Nat) : Int).toNat = T s := by rw [Int.toNat_natCast]; exact (H2.1.2.2.2.2.2 s z).1
    have gg : inA ((s : Nat) : Int) (hK h2 (X + 11)).2 := by rw [H2.1.2.2.1]; show 0 ≤ _ ∧ _ < (900 : Int); omega
    cases q : tzLe (T s) with
    | true =>
      rw [if_pos rfl]
      have H3 : tzXa X L T s f p (pI h2 583 (X + 10) 1) := ⟨H2.1.pI (by omega), by rw [gI_n (by omega)]; exact H2.2.1, h3, by rw [gI_n (by omega)]; exact H2.2.2.2.1, by rw [gI_n (by omega)]; exact H2.2.2.2.2.1, H2.2.2.2.2.2⟩
      obtain ⟨h', p1, p2, p3⟩ := tzx_b86 (L - s) s FU _ (Nat.le_refl _) (show L - s < 1000000 by omega) H3
      refine ⟨h', (p0.tr (ft_pI h2 (by omega))).tr (p1.mono (fun f a w => ⟨w.1, by omega⟩) (fun _ v => v)), ⟨p2.1, ?_, ?_, p2.2.1, p2.2.2.2.1, p2.2.2.2.2.1⟩, ?_⟩
      · rw [p1.i (by omega)]; exact gI_pIs (rg_lit rfl)
      · rw [p1.i (by omega), gI_n (by omega)]; exact e580
      · exact gdg H.1.1 (iteT (by omega) (nng H2.1.2.1 (gdg (by rw [H2.1.2.2.1]) (gdg gg (bdg (by rw [eA]; exact tzx_le1 q) (iteF (by omega) (ltg p3)))))))
    | false =>
      rw [if_neg (by intro z; cases z)]
      cases q2 : tzDi (T s) with
      | true =>
        rw [if_pos rfl]
        obtain ⟨h', p1, p2, p3⟩ := tzx_b140 (L - s) s FU _ (Nat.le_refl _) (show L - s < 1000000 by omega) H2
        have b := tzRun_le (p := tzDi) (T := T) (show s ≤ L by omega)
        have y580 : gI h' 580 (X + 10) = (s : Int) := by rw [p1.i (by omega)]; exact e580
        generalize hr : tzRun tzDi T L s = r at p2 b ⊢
        have es : fX9_size h' (X + 10) = some ((r : Int) - (s : Int)) := by
          unfold fX9_size
          rw [p2.2.1, y580, w32_id (x := (r : Int) - (s : Int)) (by omega) (by omega)]
          exact gdg p2.1.1 rfl
        have e179 : fX9_next_b179 (X + 10) h' = some (pI h' 583 (X + 10) (if r - s ≤ 4 then 2 else 4)) := by
          unfold fX9_next_b179
          refine gdg p2.1.1 (bdg es ?_)
          by_cases y : r - s ≤ 4
          · rw [if_pos y, if_pos (show (r : Int) - (s : Int) ≤ 4 by omega)]; rfl
          · rw [if_neg y, if_neg (show ¬ (r : Int) - (s : Int) ≤ 4 by omega)]; rfl
        have f1 : FT X h' (pI h' 583 (X + 10) (if r - s ≤ 4 then 2 else 4)) := ft_pI h' (by omega)
        refine ⟨pI h' 583 (X + 10) (if r - s ≤ 4 then 2 else 4), (p0.tr (p1.mono (fun f a w => ⟨w.1, by omega⟩) (fun _ v => v))).tr f1, ⟨p2.1.pI (by omega), ?_, ?_, ?_, ?_, ?_⟩, ?_⟩
        · rw [gI_pIs (by split <;> exact rg_lit rfl)]
        · rw [gI_n (by omega)]; exact y580
        · rw [gI_n (by omega)]; exact p2.2.1
        · rw [gI_n (by omega)]; exact p2.2.2.2.1
        · rw [gI_n (by omega)]; exact p2.2.2.2.2.1
        · exact gdg H.1.1 (iteT (by omega) (nng H2.1.2.1 (gdg (by rw [H2.1.2.2.1]) (gdg gg (bdg (by rw [eA]; exact tzx_le0 q) (iteT rfl (gdg gg (bdg (by rw [eA]; exact tzx_di1 q2) (iteF (by omega) (p3.trans e179))))))))))
      | false =>
        rw [if_neg (by intro z; cases z)]
        have ew : WE ((s : Int) + 1) := we (by omega) (by omega)
        have f1 : FT X h2 (pI (pI h2 583 (X + 10) (if T s = 59 then 3 else 4)) 582 (X + 10) ((s : Int) + 1)) := (ft_pI h2 (by omega)).tr (ft_pI _ (by omega))
        refine ⟨pI (pI h2 583 (X + 10) (if T s = 59 then 3 else 4)) 582 (X + 10) ((s : Int) + 1), p0.tr f1, ⟨(H2.1.pI (by omega)).pI (by omega), ?_, ?_, ?_, ?_, ?_⟩, ?_⟩
        · rw [gI_n (by omega), gI_pIs (by split <;> exact rg_lit rfl)]
        · rw [gI_n (by omega), gI_n (by omega)]; exact e580
        · rw [gI_pIs (by unfold rg; omega)]; omega
        · rw [gI_n (by omega), gI_n (by omega)]; exact H2.2.2.2.1
        · rw [gI_n (by omega), gI_n (by omega)]; exact H2.2.2.2.2.1
        · refine gdg H.1.1 (iteT (by omega) (nng H2.1.2.1 (gdg (by rw [H2.1.2.2.1]) (gdg gg (bdg (by rw [eA]; exact tzx_le0 q) (iteT rfl (gdg gg (bdg (by rw [eA]; exact tzx_di0 q2) (iteT rfl (gdg gg (ltg ?_)))))))))))
          rw [eA, gI_n (by omega), H2.2.1, ew.e]
          rfl
  · rw [if_pos (show L ≤ s by omega)]
    refine ⟨pI h2 583 (X + 10) 0, p0.tr (ft_pI h2 (by omega)), ⟨H2.1.pI (by omega), gI_pIs (rg_lit rfl), ?_, ?_, ?_, ?_⟩, ?_⟩
    · rw [gI_n (by omega)]; exact e580
    · rw [gI_n (by omega)]; exact H2.2.1
    · rw [gI_n (by omega)]; exact H2.2.2.2.1
    · rw [gI_n (by omega)]; exact H2.2.2.2.2.1
    · exact gdg H.1.1 (iteF (by omega) rfl)
set_option maxHeartbeats 200000 in
theorem tzx_next {X L : Nat} {T : Nat → Int} {e : Nat} {f p : Int} {h : Hp} (H : tzXa X L T e f p h) : ∃ h', FT X h h' ∧ tzXt X L T (tzNx L T e f p) h' ∧ fX9_next h (X + 10) = some h' := by
  have h9 := H.1.2.2.2.1
  have h3 := H.2.2.1
  have key : ∃ h1, FT X h h1 ∧ tzXa X L T (tzRun tzBl T L e) f p h1 ∧ fX9_next h (X + 10) = fX9_next_b39 (X + 10) h1 := by
    unfold fX9_next
    rw [H.2.1, H.1.2.2.2.2.1]
    by_cases z : e < L
    · have eA : gA h (X + 11) ((e : Nat) : Int).toNat = T e := by rw [Int.toNat_natCast]; exact (H.1.2.2.2.2.2 e z).1
      have gg : inA ((e : Nat) : Int) (hK h (X + 11)).2 := by rw [H.1.2.2.1]; show 0 ≤ _ ∧ _ < (900 : Int); omega
      have ew : WE ((e : Int) + 1) := we (by omega) (by omega)
      rw [ew.e]
      cases q : tzBl (T e) with
      | true =>
        obtain ⟨h1, r1, r2, r3⟩ := tzx_b0 (L - (e + 1)) (e + 1) FU _ (Nat.le_refl _) (show L - (e + 1) < 1000000 by omega) (H.adv z)
        rw [tzRun_s z q]
        exact ⟨h1, (ft_pI h (by omega)).tr r1, r2, gdg H.1.1 (iteT (by omega) (nng H.1.2.1 (gdg (by rw [H.1.2.2.1]) (gdg gg (bdg (by rw [eA]; exact tzx_bl1 q) (iteF (by omega) r3))))))⟩
      | false =>
        rw [tzRun_n z q]
        exact ⟨h, Fr.rf h, H, gdg H.1.1 (iteT (by omega) (nng H.1.2.1 (gdg (by rw [H.1.2.2.1]) (gdg gg (bdg (by rw [eA]; exact tzx_bl0 q) (iteT rfl rfl))))))⟩
    · rw [tzRun_end (by omega)]
      exact ⟨h, Fr.rf h, H, gdg H.1.1 (iteF (by omega) rfl)⟩
  obtain ⟨h1, p1, p2, p3⟩ := key
  obtain ⟨h2, q1, ⟨q2, q3, q4, q5, q6, q7⟩, q8⟩ := tzx_b39 p2
  exact ⟨h2, p1.tr q1, ⟨q2, q3, q4, q5, q6, q7, H.2.2.2.2.2, (tzNx_ok (L := L) (T := T) (f := f) (p := p) h3).1⟩, p3.trans q8⟩
set_option maxHeartbeats 200000 in
theorem tzx_nt {X L : Nat} {T : Nat → Int} {t : TkS} {h : Hp} (H : tzXt X L T t h) : ∃ h', FT X h h' ∧ tzXt X L T (tzNt L T t) h' ∧ fX9_next h (X + 10) = some h' := tzx_next H.a
set_option maxHeartbeats 200000 in
theorem tzx_size {X L : Nat} {T : Nat → Int} {t : TkS} {h : Hp} (H : tzXt X L T t h) : fX9_size h (X + 10) = some ((tkE t - tkS t : Nat) : Int) := by
  have o := H.ok
  have h9 := H.l
  have o1 := o.1
  have o2 := o.2.1
  unfold fX9_size
  rw [H.2.2.2.1, H.2.2.1, w32_id (x := (tkE t : Int) - (tkS t : Int)) (by omega) (by omega), show (tkE t : Int) - (tkS t : Int) = ((tkE t - tkS t : Nat) : Int) by omega]
  exact gdg H.k rfl
set_option maxHeartbeats 200000 in
theorem tzx_ltA {X L : Nat} {T : Nat → Int} {t : TkS} {h : Hp} {k : Nat} (H : tzXt X L T t h) (hk : k < 100000) : fX9_letterAt h (X + 10) (k : Int) = some (if tkS t + k < L then T (tkS t + k) - 96 else 0) := by
  have o := H.ok
  have h9 := H.l
  have o1 := o.1
  have o2 := o.2.1
  have e1 : WE ((tkS t : Int) + (k : Int)) := we (by omega) (by omega)
  unfold fX9_letterAt
  rw [H.2.2.1, e1.e, lt_d, H.1.2.2.2.2.1]
  by_cases q : tkS t + k < L
  · have y := H.1.2.2.2.2.2 (tkS t + k) q
    have eA : gA h (X + 11) ((tkS t : Int) + (k : Int)).toNat = T (tkS t + k) := by rw [show ((tkS t : Int) + (k : Int)).toNat = tkS t + k by omega]; exact y.1
    rw [if_pos q]
    refine gdg H.k (iteF (by omega) (iteT (by omega) (nng H.1.2.1 (gdg (by rw [H.1.2.2.1]) (gdg (by rw [H.1.2.2.1]; show 0 ≤ _ ∧ _ < (900 : Int); omega) ?_)))))
    rw [eA, w32_id (x := T (tkS t + k) - 97) (by omega) (by omega), w32_id (x := T (tkS t + k) - 97 + 1) (by omega) (by omega), show T (tkS t + k) - 97 + 1 = T (tkS t + k) - 96 by omega]
  · rw [if_neg q]
    exact gdg H.k (iteF (by omega) (iteF (by omega) rfl))
set_option maxHeartbeats 200000 in
theorem tzx_up1 {X L : Nat} {T : Nat → Int} {t : TkS} {h : Hp} {m : Int} (H : tzXt X L T t h) (q : tkK t = 1) (q2 : ((tkE t - tkS t : Nat) : Int) ≤ m) : fX9_isWordUpTo h (X + 10) m = some 1 := by
  unfold fX9_isWordUpTo
  rw [H.2.1]
  exact gdg H.k (iteT q (bdg (tzx_size H) (iteT q2 rfl)))
set_option maxHeartbeats 200000 in
theorem tzx_up0 {X L : Nat} {T : Nat → Int} {t : TkS} {h : Hp} {m : Int} (H : tzXt X L T t h) (q : ¬ (tkK t = 1 ∧ ((tkE t - tkS t : Nat) : Int) ≤ m)) : fX9_isWordUpTo h (X + 10) m = some 0 := by
  unfold fX9_isWordUpTo
  rw [H.2.1]
  by_cases q1 : tkK t = 1
  · exact gdg H.k (iteT q1 (bdg (tzx_size H) (iteF (fun z => q ⟨q1, z⟩) rfl)))
  · exact gdg H.k (iteF q1 rfl)
set_option maxHeartbeats 200000 in
/-- comparing with a word -/
theorem tzx_wd_n (h : Hp) (X : Nat) (w : List Nat) : fX9_isWord_b23 h (X + 10) w = some 0 := by
  unfold fX9_isWord_b23 fX9_isWord_b24
  show fX9_isWord_b27 h (X + 10) w (999999 + 1) 0 0 = _
  rw [fX9_isWord_b27.eq_2]
  exact iteT rfl (gdg (Or.inl rfl) rfl)
set_option maxHeartbeats 200000 in
theorem tzx_wd_l {X L : Nat} {T : Nat → Int} {t : TkS} {h : Hp} {w : List Nat} (H : tzXt X L T t h) (k1 : tkK t = 1) (el : tkE t - tkS t = w.length) (hw : ∀ i, i < w.length → w.getD i 0 < 1000) : ∀ n i fu, w.length - i ≤ n → n + 1 < fu → i ≤ w.length → (∀ j, j < i → T (tkS t + j) = ((w.getD j 0 : Nat) : Int)) →
    fX9_isWord_b27 h (X + 10) w fu 1 (i : Int) = some (if tzIs T t w then 1 else 0) := by
  have o := H.ok
  have h9 := H.l
  have o1 := o.1
  have o2 := o.2.1
  intro n
  induction n with
  | zero =>
    intro i fu h1 h2 h3 h4
    obtain ⟨fu, rfl⟩ : ∃ k, fu = k + 1 := ⟨fu - 1, by omega⟩
    rw [if_pos (show tzIs T t w from ⟨k1, el, fun j hj => h4 j (by omega)⟩), fX9_isWord_b27.eq_2]
    exact iteF (by omega) (iteF (by omega) (gdg (Or.inr rfl) rfl))
  | succ n ih =>
    intro i fu h1 h2 h3 h4
    obtain ⟨fu, rfl⟩ : ∃ k, fu = k + 1 := ⟨fu - 1, by omega⟩
    by_cases z : i < w.length
    · have hi := hw i z
      have ea := tzx_ltA (k := i) H (by omega)
      rw [if_pos (show tkS t + i < L by omega)] at ea
      have y := H.1.2.2.2.2.2 (tkS t + i) (by omega)
      have e1 : WE ((i : Int) + 1) := we (by omega) (by omega)
      have e2 : WE (((w.getD i 0 : Nat) : Int) - 97) := we (by omega) (by omega)
      have e3 : WE (((w.getD i 0 : Nat) : Int) - 97 + 1) := we (by omega) (by omega)
      rw [fX9_isWord_b27.eq_2, Int.toNat_natCast, e1.e, e2.e, e3.e]
      refine iteF (by omega) (iteT (by omega) (gdg H.k (bdg ea (gdg (by show 0 ≤ _ ∧ _ < (w.length : Int); omega) (ltg (ltg ?_))))))
      by_cases q : T (tkS t + i) = ((w.getD i 0 : Nat) : Int)
      · rw [if_pos (show T (tkS t + i) - 96 = ((w.getD i 0 : Nat) : Int) - 97 + 1 by omega)]
        exact ih (i + 1) fu (by omega) (by omega) (by omega) (fun j hj => by
          by_cases y2 : j = i
          · rw [y2]; exact q
          · exact h4 j (by omega))
      · rw [if_neg (show ¬ T (tkS t + i) - 96 = ((w.getD i 0 : Nat) : Int) - 97 + 1 by omega), if_neg (fun y2 : tzIs T t w => q (y2.2.2 i z))]
        obtain ⟨fu, rfl⟩ : ∃ k, fu = k + 1 := ⟨fu - 1, by omega⟩
        rw [fX9_isWord_b27.eq_2]
        exact iteT rfl (gdg (Or.inl rfl) rfl)
    · rw [if_pos (show tzIs T t w from ⟨k1, el, fun j hj => h4 j (by omega)⟩), fX9_isWord_b27.eq_2]
      exact iteF (by omega) (iteF (by omega) (gdg (Or.inr rfl) rfl))
set_option maxHeartbeats 200000 in
theorem tzWd_s {w : List Nat} (h : tzWd w = true) : ∀ i, i < w.length → w.getD i 0 < 1000 := fun i hi => by
  have := (tzWd_l h).2.2 i hi
  unfold tzW at this
  rw [Nat.zero_add] at this
  omega
set_option maxHeartbeats 200000 in
theorem tzx_isW {X L : Nat} {T : Nat → Int} {t : TkS} {h : Hp} {w : List Nat} (H : tzXt X L T t h) (hw : tzWd w = true) : fX9_isWord h (X + 10) w = some (if tzIs T t w then 1 else 0) := by
  unfold fX9_isWord
  rw [H.2.1]
  refine gdg H.k ?_
  by_cases q : tkK t = 1
  · refine iteT q (bdg (tzx_size H) ?_)
    by_cases q2 : tkE t - tkS t = w.length
    · refine iteT (by rw [q2]) ?_
      unfold fX9_isWord_b24
      exact tzx_wd_l H q q2 (tzWd_s hw) w.length 0 FU (by omega) (by have := (tzWd_l hw).2.1; show w.length + 1 < 1000000; omega) (by omega) (fun j hj => absurd hj (by omega))
    · refine iteF (by omega) ?_
      rw [if_neg (fun z : tzIs T t w => q2 z.2.1)]
      exact tzx_wd_n h X w
  · refine iteF q ?_
    rw [if_neg (fun z : tzIs T t w => q z.1)]
    exact tzx_wd_n h X w
set_option maxHeartbeats 200000 in
theorem tzI_1 {T : Nat → Int} {t : TkS} {w : List Nat} (h : tzI T t w = true) : tzIs T t w := of_decide_eq_true h
set_option maxHeartbeats 200000 in
theorem tzI_0 {T : Nat → Int} {t : TkS} {w : List Nat} (h : tzI T t w = false) : ¬ tzIs T t w := of_decide_eq_false h
def tzB (b : Bool) : Int := if b = true then 1 else 0
set_option maxHeartbeats 200000 in
theorem tzx_isB {X L : Nat} {T : Nat → Int} {t : TkS} {h : Hp} {w : List Nat} (H : tzXt X L T t h) (hw : tzWd w = true) : fX9_isWord h (X + 10) w = some (tzB (tzI T t w)) := by
  rw [tzx_isW H hw]
  unfold tzB
  cases q : tzI T t w with
  | true => rw [if_pos (tzI_1 q), if_pos rfl]
  | false => rw [if_neg (tzI_0 q), if_neg (by intro z; cases z)]
set_option maxHeartbeats 200000 in
/-- a fault -/
theorem tzx_stop {X L : Nat} {T : Nat → Int} {t : TkS} {h : Hp} {r : Int} (H : tzXt X L T t h) (hr : 0 < r ∧ r < 100) : ∃ h', FT X h h' ∧ tzXt X L T (tzSt t r) h' ∧ fX9_stop h (X + 10) r = some h' := by
  have o := H.ok
  have h9 := H.l
  have o1 := o.1
  have o2 := o.2.1
  obtain ⟨H1, H2, H3, H4, H5, H6, H6b, H7⟩ := id H
  by_cases q : tkF t = 0
  · have key : ∀ v : Int, 0 < v ∧ v < 100 → v = (if tkK t = 4 then 1 else r) → ∃ h', FT X h h' ∧ tzXt X L T (tzSt t r) h' ∧ h' = pI (pI h 578 (X + 10) v) 579 (X + 10) (gI (pI h 578 (X + 10) v) 580 (X + 10)) := by
      intro v hv ev
      refine ⟨_, (ft_pI h (by omega)).tr (ft_pI _ (by omega)), ?_, rfl⟩
      have e580 : gI (pI h 578 (X + 10) v) 580 (X + 10) = (tkS t : Int) := by rw [gI_n (by omega)]; exact H3
      rw [e580]
      unfold tzSt
      rw [if_pos q]
      refine ⟨(H1.pI (by omega)).pI (by omega), ?_, ?_, ?_, ?_, ?_, fun z => absurd z (by show ¬ (if tkK t = 4 then 1 else r) = 0; rw [← ev]; omega), H7⟩
      · rw [gI_n (by omega), gI_n (by omega)]; exact H2
      · rw [gI_n (by omega), gI_n (by omega)]; exact H3
      · rw [gI_n (by omega), gI_n (by omega)]; exact H4
      · rw [gI_n (by omega), gI_pIs (by unfold rg; omega)]; exact ev
      · exact gI_pIs (by unfold rg; omega)
    unfold fX9_stop
    rw [H5, H2]
    by_cases q2 : tkK t = 4
    · obtain ⟨h', k1, k2, k3⟩ := key 1 (by omega) (by rw [if_pos q2])
      exact ⟨h', k1, k2, gdg H1.1 (iteT q (iteT q2 (ltg (ltg (by rw [k3])))))⟩
    · obtain ⟨h', k1, k2, k3⟩ := key r hr (by rw [if_neg q2])
      exact ⟨h', k1, k2, gdg H1.1 (iteT q (iteF q2 (ltg (ltg (by rw [k3])))))⟩
  · refine ⟨h, Fr.rf h, by rw [tzSt_n q]; exact H, ?_⟩
    unfold fX9_stop
    rw [H5]
    exact gdg H1.1 (iteF q rfl)
set_option maxHeartbeats 200000 in
theorem tzx_skip {X L : Nat} {T : Nat → Int} {t : TkS} {h : Hp} {w : List Nat} (H : tzXt X L T t h) (hw : tzWd w = true) : ∃ h', FT X h h' ∧ tzXt X L T (tzGo L T t (tzI T t w)) h' ∧ fX9_skipWord h (X + 10) w = some (if tkF t = 0 then tzB (tzI T t w) else 0, h') := by
  unfold fX9_skipWord tzGo
  rw [H.2.2.2.2.1]
  have b19 : fX9_skipWord_b19 (X + 10) w h = some (0, h) := by
    unfold fX9_skipWord_b19 fX9_skipWord_b20
    exact iteT rfl (gdg (Or.inl rfl) rfl)
  by_cases q : tkF t = 0
  · have e := tzx_isB H hw
    cases q2 : tzI T t w with
    | true =>
      rw [q2] at e
      obtain ⟨h', p1, p2, p3⟩ := tzx_nt H
      refine ⟨h', p1, by rw [if_pos ⟨q, rfl⟩]; exact p2, ?_⟩
      rw [if_pos q, if_pos q, show (tzB true) = 1 from rfl]
      refine gdg H.k (bdg e (iteF (show ¬ (1 : Int) = 0 by omega) ?_))
      unfold fX9_skipWord_b20
      exact iteF (by omega) (gdg H.k (bdg p3 (gdg (Or.inr rfl) rfl)))
    | false =>
      rw [q2] at e
      refine ⟨h, Fr.rf h, by rw [if_neg (fun z => by cases z.2)]; exact H, ?_⟩
      rw [if_pos q, if_pos q, show (tzB false) = 0 from rfl]
      exact gdg H.k (bdg e (iteT rfl b19))
  · refine ⟨h, Fr.rf h, by rw [if_neg (fun z => q z.1)]; exact H, ?_⟩
    rw [if_neg q, if_neg q]
    exact gdg H.k b19
set_option maxHeartbeats 200000 in
theorem tzx_take {X L : Nat} {T : Nat → Int} {t : TkS} {h : Hp} {w : List Nat} (H : tzXt X L T t h) (hw : tzWd w = true) : ∃ h', FT X h h' ∧ tzXt X L T (tzMu L T t (tzI T t w)) h' ∧ fX9_takeWord h (X + 10) w = some h' := by
  obtain ⟨h1, p1, p2, p3⟩ := tzx_skip H hw
  unfold fX9_takeWord
  by_cases q : tkF t = 0
  · cases q2 : tzI T t w with
    | true =>
      rw [q2, if_pos q] at p3
      unfold tzGo at p2
      rw [if_pos ⟨q, q2⟩] at p2
      refine ⟨h1, p1, by unfold tzMu; rw [if_pos q, if_pos rfl]; exact p2, ?_⟩
      exact gdg H.k (bd2g p3 (iteF (show ¬ (1 : Int) = 0 by omega) rfl))
    | false =>
      rw [q2, if_pos q] at p3
      unfold tzGo at p2
      rw [if_neg (fun z => by rw [q2] at z; cases z.2)] at p2
      obtain ⟨h2, r1, r2, r3⟩ := tzx_stop (r := 2) p2 (by omega)
      refine ⟨h2, p1.tr r1, by unfold tzMu; rw [if_pos q, if_neg (by intro z; cases z)]; exact r2, ?_⟩
      exact gdg H.k (bd2g p3 (iteT rfl (gdg p2.k (bdg r3 rfl))))
  · rw [if_neg q] at p3
    unfold tzGo at p2
    rw [if_neg (fun z => q z.1)] at p2
    obtain ⟨h2, r1, r2, r3⟩ := tzx_stop (r := 2) p2 (by omega)
    rw [tzSt_n q] at r2
    refine ⟨h2, p1.tr r1, by rw [tzMu_n q]; exact r2, ?_⟩
    exact gdg H.k (bd2g p3 (iteT rfl (gdg p2.k (bdg r3 rfl))))
set_option maxHeartbeats 200000 in
theorem tzx_sign {X L : Nat} {T : Nat → Int} {t : TkS} {h : Hp} (H : tzXt X L T t h) : ∃ h', FT X h h' ∧ tzXt X L T (tzMu L T t (decide (tkK t = 3))) h' ∧ fX9_takeSign h (X + 10) = some h' := by
  unfold fX9_takeSign
  rw [H.2.1]
  by_cases q : tkK t = 3
  · rw [show decide (tkK t = 3) = true from decide_eq_true q]
    unfold tzMu
    by_cases q2 : tkF t = 0
    · rw [if_pos q2, if_pos rfl]
      obtain ⟨h', p1, p2, p3⟩ := tzx_nt H
      refine ⟨h', p1, p2, gdg H.k (iteT q ?_)⟩
      unfold fX9_takeSign_b13
      rw [H.2.2.2.2.1]
      exact gdg H.k (iteT q2 (bdg p3 rfl))
    · rw [if_neg q2]
      refine ⟨h, Fr.rf h, H, gdg H.k (iteT q ?_)⟩
      unfold fX9_takeSign_b13
      rw [H.2.2.2.2.1]
      exact gdg H.k (iteF q2 rfl)
  · rw [show decide (tkK t = 3) = false from decide_eq_false q]
    obtain ⟨h', p1, p2, p3⟩ := tzx_stop (r := 2) H (by omega)
    have nf : ¬ tkF (tzSt t 2) = 0 := tzSt_0 (by omega)
    refine ⟨h', p1, ?_, gdg H.k (iteF q (bdg p3 ?_))⟩
    · unfold tzMu
      by_cases q2 : tkF t = 0
      · rw [if_pos q2, if_neg (by intro z; cases z)]; exact p2
      · rw [tzSt_n q2] at p2
        rw [if_neg q2]; exact p2
    · unfold fX9_takeSign_b13
      rw [p2.2.2.2.2.1]
      exact gdg p2.k (iteF nf rfl)
set_option maxHeartbeats 200000 in
theorem xIn_1 {a b d : Int} (h1 : b ≤ a) (h2 : a ≤ d) : fX11_within a b d = some 1 := by
  unfold fX11_within
  exact iteF (by omega) (iteF (by omega) rfl)
set_option maxHeartbeats 200000 in
theorem xIn_0 {a b d : Int} (h : ¬ (b ≤ a ∧ a ≤ d)) : fX11_within a b d = some 0 := by
  unfold fX11_within
  by_cases q : a < b
  · exact iteT q rfl
  · exact iteF q (iteT (by omega) rfl)
set_option maxHeartbeats 200000 in
theorem tzx_num_l {X L : Nat} {T : Nat → Int} {t : TkS} {h : Hp} {a b : Int} (H : tzXt X L T t h) (k2 : tkK t = 2) (f0 : tkF t = 0) : ∀ n i fu, tkE t - tkS t - i ≤ n → n < fu → i ≤ tkE t - tkS t →
    ∃ h', FT X h h' ∧ tzXt X L T (tzNm L T t a b).2 h' ∧ fX9_takeNumber_b30 (X + 10) a b fu h (tzN T (tkS t) i) ((tkS t + i : Nat) : Int) = some ((tzNm L T t a b).1, h') := by
  have o := H.ok
  have h9 := H.l
  have o1 := o.1
  have o2 := o.2.1
  have od := o.2.2.2.2.2.2 k2
  have bd := tzN_bd (T := T) (s := tkS t) (n := tkE t - tkS t) (fun i hi => od.2 _ (by omega) (by omega)) od.1
  -- the end of the loop
  have fin : ∀ fu, ∃ h', FT X h h' ∧ tzXt X L T (tzNm L T t a b).2 h' ∧ fX9_takeNumber_b30 (X + 10) a b (fu + 1) h (tzN T (tkS t) (tkE t - tkS t)) ((tkS t + (tkE t - tkS t) : Nat) : Int) = some ((tzNm L T t a b).1, h') := by
    intro fu
    have em : tkS t + (tkE t - tkS t) = tkE t := by omega
    rw [em, fX9_takeNumber_b30.eq_2, H.2.2.2.1]
    unfold tzNm
    rw [if_pos f0, if_pos k2]
    by_cases q3 : a ≤ tzN T (tkS t) (tkE t - tkS t) ∧ tzN T (tkS t) (tkE t - tkS t) ≤ b
    · rw [if_pos q3]
      obtain ⟨h', p1, p2, p3⟩ := tzx_nt H
      exact ⟨h', p1, p2, gdg H.k (iteF (by omega) (bdg (xIn_1 q3.1 q3.2) (iteF (by omega) (bdg p3 rfl))))⟩
    · rw [if_neg q3]
      obtain ⟨h', p1, p2, p3⟩ := tzx_stop (r := 4) H (by omega)
      exact ⟨h', p1, p2, gdg H.k (iteF (by omega) (bdg (xIn_0 q3) (iteT rfl (bdg p3 rfl))))⟩
  intro n
  induction n with
  | zero =>
    intro i fu h1 h2 h3
    obtain ⟨fu, rfl⟩ : ∃ k, fu = k + 1 := ⟨fu - 1, by omega⟩
    rw [show i = tkE t - tkS t by omega]
    exact fin fu
  | succ n ih =>
    intro i fu h1 h2 h3
    obtain ⟨fu, rfl⟩ : ∃ k, fu = k + 1 := ⟨fu - 1, by omega⟩
    by_cases z : i = tkE t - tkS t
    · rw [z]
      exact fin fu
    · obtain ⟨h', p1, p2, p3⟩ := ih (i + 1) fu (by omega) (by omega) (by omega)
      refine ⟨h', p1, p2, ?_⟩
      have b1 := bd i (by omega)
      have b2 := od.2 (tkS t + i) (by omega) (by omega)
      have eA : gA h (X + 11) (((tkS t + i : Nat) : Int)).toNat = T (tkS t + i) := by rw [Int.toNat_natCast]; exact (H.1.2.2.2.2.2 _ (by omega)).1
      have e1 : WE (tzN T (tkS t) i * 10) := we (by omega) (by omega)
      have e2 : WE (tzN T (tkS t) i * 10 + T (tkS t + i)) := we (by omega) (by omega)
      have e3 : WE (tzN T (tkS t) i * 10 + T (tkS t + i) - 48) := we (by omega) (by omega)
      have e4 : WE (((tkS t + i : Nat) : Int) + 1) := we (by omega) (by omega)
      rw [fX9_takeNumber_b30.eq_2, H.2.2.2.1, e1.e, e4.e]
      refine gdg H.k (iteT (by omega) (nng H.1.2.1 (gdg (by rw [H.1.2.2.1]) (gdg (by rw [H.1.2.2.1]; show 0 ≤ _ ∧ _ < (900 : Int); omega) ?_))))
      rw [eA, e2.e, e3.e, lt_d, lt_d]
      have e5 : tzN T (tkS t) (i + 1) = tzN T (tkS t) i * 10 + T (tkS t + i) - 48 := by
        show tzN T (tkS t) i * 10 + (T (tkS t + i) - 48) = _
        omega
      rw [e5, show ((tkS t + (i + 1) : Nat) : Int) = ((tkS t + i : Nat) : Int) + 1 by omega] at p3
      exact p3
set_option maxHeartbeats 200000 in
theorem tzx_num {X L : Nat} {T : Nat → Int} {t : TkS} {h : Hp} {a b : Int} (H : tzXt X L T t h) : ∃ h', FT X h h' ∧ tzXt X L T (tzNm L T t a b).2 h' ∧ fX9_takeNumber h (X + 10) a b = some ((tzNm L T t a b).1, h') := by
  have o := H.ok
  have h9 := H.l
  have o1 := o.1
  have o2 := o.2.1
  unfold fX9_takeNumber
  rw [H.2.1]
  by_cases q2 : tkK t = 2
  · by_cases q : tkF t = 0
    · obtain ⟨h', p1, p2, p3⟩ := tzx_num_l (a := a) (b := b) H q2 q (tkE t - tkS t) 0 FU (by omega) (show tkE t - tkS t < 1000000 by omega) (by omega)
      refine ⟨h', p1, p2, gdg H.k (iteT q2 ?_)⟩
      unfold fX9_takeNumber_b13
      rw [H.2.2.2.2.1, H.2.2.1]
      exact gdg H.k (iteT q (ltg p3))
    · rw [tzNm_n q]
      refine ⟨h, Fr.rf h, H, gdg H.k (iteT q2 ?_)⟩
      unfold fX9_takeNumber_b13
      rw [H.2.2.2.2.1]
      exact gdg H.k (iteF q rfl)
  · obtain ⟨h', p1, p2, p3⟩ := tzx_stop (r := 2) H (by omega)
    have nf : ¬ tkF (tzSt t 2) = 0 := tzSt_0 (by omega)
    have e13 : fX9_takeNumber_b13 (X + 10) a b h' = some (0, h') := by
      unfold fX9_takeNumber_b13
      rw [p2.2.2.2.2.1]
      exact gdg p2.k (iteF nf rfl)
    by_cases q : tkF t = 0
    · refine ⟨h', p1, by unfold tzNm; rw [if_pos q, if_neg q2]; exact p2, gdg H.k (iteF q2 (bdg p3 ?_))⟩
      rw [e13]
      unfold tzNm
      rw [if_pos q, if_neg q2]
    · rw [tzNm_n q]
      rw [tzSt_n q] at p2
      exact ⟨h', p1, p2, gdg H.k (iteF q2 (bdg p3 e13))⟩
set_option maxHeartbeats 200000 in
theorem tzx_hasF {X L : Nat} {T : Nat → Int} {t : TkS} {h : Hp} (H : tzXt X L T t h) : fX9_hasFault h (X + 10) = some (if tkF t = 0 then 0 else 1) := by
  unfold fX9_hasFault
  rw [H.2.2.2.2.1]
  exact gdg H.k rfl
set_option maxHeartbeats 200000 in
theorem tzx_atE {X L : Nat} {T : Nat → Int} {t : TkS} {h : Hp} (H : tzXt X L T t h) : fX9_isAtEnd h (X + 10) = some (if tkK t = 0 then 1 else 0) := by
  unfold fX9_isAtEnd
  rw [H.2.1]
  exact gdg H.k rfl
set_option maxHeartbeats 200000 in
theorem tzx_open {X L : Nat} {T : Nat → Int} {u : Int} {h : Hp} (k9 : (hK h (X + 10)).1 = 9) (r9 : gR h 576 (X + 10) = some (X + 11)) (k11 : hK h (X + 11) = (20, 900)) (L9 : L ≤ 900) (hu : gI h 577 (X + 10) = u) (Lu : (L : Int) ≤ u) (hT : ∀ i, i < L → gA h (X + 11) i = T i ∧ -128 ≤ T i ∧ T i ≤ 127) :
    ∃ h', FT X h h' ∧ gI h' 577 (X + 10) = u ∧ tzXt X L T (tzNx L T 0 0 (-1)) h' ∧ fX9_open h (X + 10) (L : Int) = some h' := by
  unfold fX9_open
  rw [hu, show min (L : Int) u = (L : Int) by omega]
  have e1 : tzXa X L T 0 0 (-1) (pI (pI (pI (pI h 581 (X + 10) (L : Int)) 582 (X + 10) 0) 578 (X + 10) 0) 579 (X + 10) (-1)) := by
    refine ⟨⟨k9, r9, k11, L9, ?_, hT⟩, ?_, Nat.zero_le _, ?_, gI_pIs (rg_lit rfl), fun _ => rfl⟩
    · rw [gI_n (by omega), gI_n (by omega), gI_n (by omega)]
      exact gI_pIs (by unfold rg; omega)
    · rw [gI_n (by omega), gI_n (by omega)]
      exact gI_pIs (rg_lit rfl)
    · rw [gI_n (by omega)]
      exact gI_pIs (rg_lit rfl)
  have u1 : gI (pI (pI (pI (pI h 581 (X + 10) (L : Int)) 582 (X + 10) 0) 578 (X + 10) 0) 579 (X + 10) (-1)) 577 (X + 10) = u := by
    rw [gI_n (by omega), gI_n (by omega), gI_n (by omega), gI_n (by omega)]; exact hu
  have f1 : FT X h (pI (pI (pI (pI h 581 (X + 10) (L : Int)) 582 (X + 10) 0) 578 (X + 10) 0) 579 (X + 10) (-1)) := (((ft_pI h (by omega)).tr (ft_pI _ (by omega))).tr (ft_pI _ (by omega))).tr (ft_pI _ (by omega))
  obtain ⟨h', p1, p2, p3⟩ := tzx_next e1
  exact ⟨h', f1.tr p1, by rw [p1.i (by omega)]; exact u1, p2, gdg k9 (ltg (ltg (ltg (ltg (bdg p3 rfl)))))⟩
