/-! TEXTS: tokens and words (pure) -/
def tzBl (x : Int) : Bool := decide (x = 10) || decide (x = 32)
def tzLe (x : Int) : Bool := decide (97 ≤ x) && decide (x ≤ 122)
def tzDi (x : Int) : Bool := decide (48 ≤ x) && decide (x ≤ 57)
set_option maxHeartbeats 200000 in
theorem tzBl_t {x : Int} (h : tzBl x = true) : x = 10 ∨ x = 32 := by unfold tzBl at h; simpa using h
set_option maxHeartbeats 200000 in
theorem tzBl_f {x : Int} (h : tzBl x = false) : ¬ x = 10 ∧ ¬ x = 32 := by unfold tzBl at h; simpa using h
set_option maxHeartbeats 200000 in
theorem tzLe_t {x : Int} (h : tzLe x = true) : 97 ≤ x ∧ x ≤ 122 := by unfold tzLe at h; simpa using h
set_option maxHeartbeats 200000 in
theorem tzLe_f {x : Int} (h : tzLe x = false) : x < 97 ∨ 122 < x := by
  unfold tzLe at h
  by_cases q : x < 97
  · exact Or.inl q
  · refine Or.inr ?_
    by_cases q2 : x ≤ 122
    · rw [decide_eq_true (show 97 ≤ x by omega), decide_eq_true q2] at h; cases h
    · omega
set_option maxHeartbeats 200000 in
theorem tzDi_t {x : Int} (h : tzDi x = true) : 48 ≤ x ∧ x ≤ 57 := by unfold tzDi at h; simpa using h
set_option maxHeartbeats 200000 in
theorem tzDi_f {x : Int} (h : tzDi x = false) : x < 48 ∨ 57 < x := by
  unfold tzDi at h
  by_cases q : x < 48
  · exact Or.inl q
  · refine Or.inr ?_
    by_cases q2 : x ≤ 57
    · rw [decide_eq_true (show 48 ≤ x by omega), decide_eq_true q2] at h; cases h
    · omega
def tzR (p : Int → Bool) (T : Nat → Int) : Nat → Nat → Nat
  | 0, e => e
  | n + 1, e => if p (T e) = true then tzR p T n (e + 1) else e
def tzRun (p : Int → Bool) (T : Nat → Int) (L e : Nat) : Nat := tzR p T (L - e) e
set_option maxHeartbeats 200000 in
theorem tzRun_end {p : Int → Bool} {T : Nat → Int} {L e : Nat} (h : L ≤ e) : tzRun p T L e = e := by
  unfold tzRun
  rw [show L - e = 0 by omega]
  rfl
set_option maxHeartbeats 200000 in
theorem tzRun_s {p : Int → Bool} {T : Nat → Int} {L e : Nat} (h : e < L) (q : p (T e) = true) : tzRun p T L e = tzRun p T L (e + 1) := by
  unfold tzRun
  rw [show L - e = (L - (e + 1)) + 1 by omega]
  show (if p (T e) = true then _ else _) = _
  rw [if_pos q]
set_option maxHeartbeats 200000 in
theorem tzRun_n {p : Int → Bool} {T : Nat → Int} {L e : Nat} (h : e < L) (q : p (T e) = false) : tzRun p T L e = e := by
  unfold tzRun
  rw [show L - e = (L - (e + 1)) + 1 by omega]
  show (if p (T e) = true then _ else _) = _
  rw [if_neg (by rw [q]; intro z; cases z)]
set_option maxHeartbeats 200000 in
theorem tzRun_bd {p : Int → Bool} {T : Nat → Int} {L : Nat} : ∀ n e, L - e ≤ n → e ≤ L → e ≤ tzRun p T L e ∧ tzRun p T L e ≤ L ∧ (∀ i, e ≤ i → i < tzRun p T L e → p (T i) = true) ∧ (tzRun p T L e < L → p (T (tzRun p T L e)) = false) := by
  intro n
  induction n with
  | zero =>
    intro e h1 h2
    rw [tzRun_end (show L ≤ e by omega)]
    exact ⟨Nat.le_refl _, h2, fun i a b => absurd b (by omega), fun z => absurd z (by omega)⟩
  | succ n ih =>
    intro e h1 h2
    by_cases z : e < L
    · cases q : p (T e) with
      | true =>
        rw [tzRun_s z q]
        obtain ⟨i1, i2, i3, i4⟩ := ih (e + 1) (by omega) (by omega)
        refine ⟨by omega, i2, fun i a b => ?_, i4⟩
        by_cases y : i = e
        · rw [y]; exact q
        · exact i3 i (by omega) b
      | false =>
        rw [tzRun_n z q]
        exact ⟨Nat.le_refl _, by omega, fun i a b => absurd b (by omega), fun _ => q⟩
    · rw [tzRun_end (show L ≤ e by omega)]
      exact ⟨Nat.le_refl _, h2, fun i a b => absurd b (by omega), fun w => absurd w (by omega)⟩
set_option maxHeartbeats 200000 in
theorem tzRun_le {p : Int → Bool} {T : Nat → Int} {L e : Nat} (h : e ≤ L) : e ≤ tzRun p T L e ∧ tzRun p T L e ≤ L := ⟨(tzRun_bd (L - e) e (Nat.le_refl _) h).1, (tzRun_bd (L - e) e (Nat.le_refl _) h).2.1⟩
set_option maxHeartbeats 200000 in
theorem tzRun_all {p : Int → Bool} {T : Nat → Int} {L e : Nat} (h : e ≤ L) : ∀ i, e ≤ i → i < tzRun p T L e → p (T i) = true := (tzRun_bd (L - e) e (Nat.le_refl _) h).2.2.1
/-! a token: kind, start, end, fault, its place -/
abbrev TkS : Type := Int × Nat × Nat × Int × Int
abbrev tkK (t : TkS) : Int := t.1
abbrev tkS (t : TkS) : Nat := t.2.1
abbrev tkE (t : TkS) : Nat := t.2.2.1
abbrev tkF (t : TkS) : Int := t.2.2.2.1
abbrev tkP (t : TkS) : Int := t.2.2.2.2
def tzKE (L : Nat) (T : Nat → Int) (s : Nat) : Int × Nat :=
  if L ≤ s then (0, s) else if tzLe (T s) = true then (1, tzRun tzLe T L s) else if tzDi (T s) = true then (if tzRun tzDi T L s - s ≤ 4 then 2 else 4, tzRun tzDi T L s) else (if T s = 59 then 3 else 4, s + 1)
def tzNx (L : Nat) (T : Nat → Int) (e : Nat) (f p : Int) : TkS := ((tzKE L T (tzRun tzBl T L e)).1, tzRun tzBl T L e, (tzKE L T (tzRun tzBl T L e)).2, f, p)
def tzOk (L : Nat) (T : Nat → Int) (t : TkS) : Prop :=
  tkS t ≤ tkE t ∧ tkE t ≤ L ∧ (0 ≤ tkK t ∧ tkK t ≤ 4) ∧ (tkK t = 0 → tkS t = L) ∧ (tkK t ≠ 0 → tkS t < tkE t) ∧
  (tkK t = 1 → ∀ i, tkS t ≤ i → i < tkE t → 97 ≤ T i ∧ T i ≤ 122) ∧ (tkK t = 2 → tkE t - tkS t ≤ 4 ∧ ∀ i, tkS t ≤ i → i < tkE t → 48 ≤ T i ∧ T i ≤ 57)
set_option maxHeartbeats 200000 in
theorem tzNx_ok {L : Nat} {T : Nat → Int} {e : Nat} {f p : Int} (h : e ≤ L) : tzOk L T (tzNx L T e f p) ∧ e ≤ tkS (tzNx L T e f p) := by
  have h1 := tzRun_le (p := tzBl) (T := T) h
  unfold tzNx
  generalize tzRun tzBl T L e = s at h1
  refine ⟨?_, h1.1⟩
  unfold tzOk tzKE
  show s ≤ _ ∧ _
  by_cases q : L ≤ s
  · rw [if_pos q]
    exact ⟨Nat.le_refl _, h1.2, by show (0 : Int) ≤ 0 ∧ (0 : Int) ≤ 4; omega, fun _ => show s = L by omega, fun z => absurd rfl z, (fun z => by cases z), (fun z => by cases z)⟩
  · rw [if_neg q]
    by_cases q1 : tzLe (T s) = true
    · rw [if_pos q1]
      have h2 := tzRun_le (p := tzLe) (T := T) (show s + 1 ≤ L by omega)
      have h3 := tzRun_all (p := tzLe) (T := T) (show s ≤ L by omega)
      rw [← tzRun_s (by omega) q1] at h2
      exact ⟨show s ≤ tzRun tzLe T L s by omega, h2.2, by show (0 : Int) ≤ 1 ∧ (1 : Int) ≤ 4; omega, fun z => (by cases z), fun _ => (show s < tzRun tzLe T L s by omega), fun _ i a b => tzLe_t (h3 i a b), (fun z => by cases z)⟩
    · rw [if_neg q1]
      by_cases q2 : tzDi (T s) = true
      · rw [if_pos q2]
        have h2 := tzRun_le (p := tzDi) (T := T) (show s + 1 ≤ L by omega)
        have h3 := tzRun_all (p := tzDi) (T := T) (show s ≤ L by omega)
        rw [← tzRun_s (by omega) q2] at h2
        by_cases q3 : tzRun tzDi T L s - s ≤ 4
        · rw [if_pos q3]
          exact ⟨show s ≤ tzRun tzDi T L s by omega, h2.2, by show (0 : Int) ≤ 2 ∧ (2 : Int) ≤ 4; omega, fun z => (by cases z), fun _ => (show s < tzRun tzDi T L s by omega), (fun z => by cases z), fun _ => ⟨q3, fun i a b => tzDi_t (h3 i a b)⟩⟩
        · rw [if_neg q3]
          exact ⟨show s ≤ tzRun tzDi T L s by omega, h2.2, by show (0 : Int) ≤ 4 ∧ (4 : Int) ≤ 4; omega, fun z => (by cases z), fun _ => (show s < tzRun tzDi T L s by omega), (fun z => by cases z), (fun z => by cases z)⟩
      · rw [if_neg q2]
        by_cases q3 : T s = 59
        · rw [if_pos q3]
          exact ⟨show s ≤ s + 1 by omega, show s + 1 ≤ L by omega, by show (0 : Int) ≤ 3 ∧ (3 : Int) ≤ 4; omega, (fun z => by cases z), fun _ => show s < s + 1 by omega, (fun z => by cases z), (fun z => by cases z)⟩
        · rw [if_neg q3]
          exact ⟨show s ≤ s + 1 by omega, show s + 1 ≤ L by omega, by show (0 : Int) ≤ 4 ∧ (4 : Int) ≤ 4; omega, (fun z => by cases z), fun _ => show s < s + 1 by omega, (fun z => by cases z), (fun z => by cases z)⟩
/-! codes of words -/
def tzC (T : Nat → Int) (s : Nat) : Nat → Int
  | 0 => 0
  | n + 1 => tzC T s n * 32 + (T (s + n) - 96)
set_option maxHeartbeats 200000 in
theorem tzC_cg {T U : Nat → Int} {s v n : Nat} (h : ∀ i, i < n → T (s + i) = U (v + i)) : tzC T s n = tzC U v n := by
  induction n with
  | zero => rfl
  | succ n ih =>
    show tzC T s n * 32 + (T (s + n) - 96) = tzC U v n * 32 + (U (v + n) - 96)
    rw [ih (fun i hi => h i (by omega)), h n (by omega)]
set_option maxHeartbeats 200000 in
theorem tzC_bd {T : Nat → Int} {s n : Nat} (h : ∀ i, i < n → 97 ≤ T (s + i) ∧ T (s + i) ≤ 122) (n8 : n ≤ 8) : 0 ≤ tzC T s n ∧ tzC T s n < 1099511627776 ∧ (0 < n → 0 < tzC T s n) := by
  have key : ∀ m, m ≤ n → 0 ≤ tzC T s m ∧ tzC T s m < (32 ^ m : Nat) ∧ (0 < m → 0 < tzC T s m) := by
    intro m
    induction m with
    | zero => intro _; exact ⟨Int.le_refl _, by show (0 : Int) < ((32 ^ 0 : Nat) : Int); decide, fun z => absurd z (Nat.lt_irrefl _)⟩
    | succ m ih =>
      intro hm
      obtain ⟨i1, i2, i3⟩ := ih (by omega)
      have h1 := h m (by omega)
      show 0 ≤ tzC T s m * 32 + (T (s + m) - 96) ∧ tzC T s m * 32 + (T (s + m) - 96) < _ ∧ (_ → 0 < tzC T s m * 32 + (T (s + m) - 96))
      rw [Nat.pow_succ]
      generalize 32 ^ m = w at i2
      omega
  obtain ⟨k1, k2, k3⟩ := key n (Nat.le_refl _)
  refine ⟨k1, ?_, k3⟩
  have : 32 ^ n ≤ 32 ^ 8 := Nat.pow_le_pow_right (by omega) n8
  have e : (32 ^ 8 : Nat) = 1099511627776 := by decide +kernel
  rw [e] at this
  generalize 32 ^ n = w at this k2
  omega
set_option maxHeartbeats 200000 in
theorem tzC_inj {T U : Nat → Int} {s v : Nat} : ∀ n m, (∀ i, i < n → 97 ≤ T (s + i) ∧ T (s + i) ≤ 122) → (∀ i, i < m → 97 ≤ U (v + i) ∧ U (v + i) ≤ 122) → tzC T s n = tzC U v m → n = m ∧ ∀ i, i < n → T (s + i) = U (v + i) := by
  intro n
  induction n with
  | zero =>
    intro m h1 h2 e
    cases m with
    | zero => exact ⟨rfl, fun i hi => absurd hi (Nat.not_lt_zero _)⟩
    | succ m =>
      exfalso
      have h3 := h2 m (by omega)
      have pos : 0 ≤ tzC U v m := by
        clear e h3
        have : ∀ k, k ≤ m → 0 ≤ tzC U v k := by
          intro k
          induction k with
          | zero => intro _; exact Int.le_refl _
          | succ k ih =>
            intro hk
            have h4 := h2 k (by omega)
            have h5 := ih (by omega)
            show 0 ≤ tzC U v k * 32 + (U (v + k) - 96)
            omega
        exact this m (Nat.le_refl _)
      have e2 : (0 : Int) = tzC U v m * 32 + (U (v + m) - 96) := e
      omega
  | succ n ih =>
    intro m h1 h2 e
    cases m with
    | zero =>
      exfalso
      have h3 := h1 n (by omega)
      have pos : 0 ≤ tzC T s n := by
        have : ∀ k, k ≤ n → 0 ≤ tzC T s k := by
          intro k
          induction k with
          | zero => intro _; exact Int.le_refl _
          | succ k ih =>
            intro hk
            have h4 := h1 k (by omega)
            have h5 := ih (by omega)
            show 0 ≤ tzC T s k * 32 + (T (s + k) - 96)
            omega
        exact this n (Nat.le_refl _)
      have e2 : tzC T s n * 32 + (T (s + n) - 96) = (0 : Int) := e
      omega
    | succ m =>
      have h3 := h1 n (by omega)
      have h4 := h2 m (by omega)
      have e2 : tzC T s n * 32 + (T (s + n) - 96) = tzC U v m * 32 + (U (v + m) - 96) := e
      have e3 : tzC T s n = tzC U v m := by omega
      have e4 : T (s + n) = U (v + m) := by omega
      obtain ⟨a, b⟩ := ih m (fun i hi => h1 i (by omega)) (fun i hi => h2 i (by omega)) e3
      subst a
      refine ⟨rfl, fun i hi => ?_⟩
      by_cases y : i = n
      · rw [y]; exact e4
      · exact b i (by omega)
/-- the token is the word w -/
abbrev tzIs (T : Nat → Int) (t : TkS) (w : List Nat) : Prop := tkK t = 1 ∧ tkE t - tkS t = w.length ∧ ∀ i, i < w.length → T (tkS t + i) = ((w.getD i 0 : Nat) : Int)
def tzW (w : List Nat) : Nat → Int := fun i => ((w.getD i 0 : Nat) : Int)
/-- a word's letters are small, one at least, eight at most -/
def tzWd (w : List Nat) : Bool := w.all (fun x => decide (97 ≤ x) && decide (x ≤ 122)) && decide (0 < w.length) && decide (w.length ≤ 8)
set_option maxHeartbeats 200000 in
theorem tzWd_l {w : List Nat} (h : tzWd w = true) : 0 < w.length ∧ w.length ≤ 8 ∧ ∀ i, i < w.length → 97 ≤ tzW w (0 + i) ∧ tzW w (0 + i) ≤ 122 := by
  unfold tzWd at h
  simp only [Bool.and_eq_true, decide_eq_true_eq, List.all_eq_true] at h
  refine ⟨h.1.2, h.2, fun i hi => ?_⟩
  have e : w.getD i 0 = w[i] := by simp [List.getD_eq_getElem?_getD, hi]
  have := h.1.1 w[i] (List.getElem_mem hi)
  unfold tzW
  rw [Nat.zero_add, e]
  omega
/-- what the reference keeps of a word: its code, -1 where it is longer than 8 -/
def tzV (T : Nat → Int) (s n : Nat) : Int := if n ≤ 8 then tzC T s n else -1
set_option maxHeartbeats 200000 in
theorem tzIs_v {L : Nat} {T : Nat → Int} {t : TkS} {w : List Nat} (o : tzOk L T t) (hw : tzWd w = true) (k : tkK t = 1) : tzV T (tkS t) (tkE t - tkS t) = tzC (tzW w) 0 w.length ↔ tzIs T t w := by
  obtain ⟨w1, w2, w3⟩ := tzWd_l hw
  have hT : ∀ i, i < tkE t - tkS t → 97 ≤ T (tkS t + i) ∧ T (tkS t + i) ≤ 122 := fun i hi => o.2.2.2.2.2.1 k (tkS t + i) (by omega) (by omega)
  unfold tzV
  constructor
  · intro e
    by_cases q : tkE t - tkS t ≤ 8
    · rw [if_pos q] at e
      obtain ⟨a, b⟩ := tzC_inj _ _ hT w3 e
      refine ⟨k, a, fun i hi => ?_⟩
      have := b i (by omega)
      rw [this]
      unfold tzW
      rw [Nat.zero_add]
    · rw [if_neg q] at e
      have := (tzC_bd w3 w2).1
      omega
  · intro h
    obtain ⟨-, h2, h3⟩ := h
    rw [if_pos (by omega), h2]
    refine tzC_cg (fun i hi => ?_)
    rw [h3 i hi]
    unfold tzW
    rw [Nat.zero_add]
/-! numbers -/
def tzN (T : Nat → Int) (s : Nat) : Nat → Int
  | 0 => 0
  | n + 1 => tzN T s n * 10 + (T (s + n) - 48)
set_option maxHeartbeats 200000 in
theorem tzN_bd {T : Nat → Int} {s n : Nat} (h : ∀ i, i < n → 48 ≤ T (s + i) ∧ T (s + i) ≤ 57) (n4 : n ≤ 4) : ∀ m, m ≤ n → 0 ≤ tzN T s m ∧ tzN T s m ≤ 9999 := by
  have key : ∀ m, m ≤ n → 0 ≤ tzN T s m ∧ tzN T s m < (10 ^ m : Nat) := by
    intro m
    induction m with
    | zero => intro _; exact ⟨Int.le_refl _, by show (0 : Int) < ((10 ^ 0 : Nat) : Int); decide⟩
    | succ m ih =>
      intro hm
      obtain ⟨i1, i2⟩ := ih (by omega)
      have h1 := h m (by omega)
      show 0 ≤ tzN T s m * 10 + (T (s + m) - 48) ∧ tzN T s m * 10 + (T (s + m) - 48) < _
      rw [Nat.pow_succ]
      generalize 10 ^ m = w at i2
      omega
  intro m hm
  obtain ⟨k1, k2⟩ := key m hm
  refine ⟨k1, ?_⟩
  have : 10 ^ m ≤ 10 ^ 4 := Nat.pow_le_pow_right (by omega) (by omega)
  have e : (10 ^ 4 : Nat) = 10000 := by decide
  rw [e] at this
  generalize 10 ^ m = w at this k2
  omega
/-! what is done with tokens -/
def tzSt (t : TkS) (r : Int) : TkS := if tkF t = 0 then (tkK t, tkS t, tkE t, if tkK t = 4 then 1 else r, (tkS t : Int)) else t
abbrev tzNt (L : Nat) (T : Nat → Int) (t : TkS) : TkS := tzNx L T (tkE t) (tkF t) (tkP t)
/-- go on where it is so, else a fault of kind 2 -/
def tzMu (L : Nat) (T : Nat → Int) (t : TkS) (b : Bool) : TkS := if tkF t = 0 then (if b = true then tzNt L T t else tzSt t 2) else t
/-- go on where it is so -/
def tzGo (L : Nat) (T : Nat → Int) (t : TkS) (b : Bool) : TkS := if tkF t = 0 ∧ b = true then tzNt L T t else t
def tzI (T : Nat → Int) (t : TkS) (w : List Nat) : Bool := decide (tzIs T t w)
def tzNm (L : Nat) (T : Nat → Int) (t : TkS) (a b : Int) : Int × TkS :=
  if tkF t = 0 then (if tkK t = 2 then (if a ≤ tzN T (tkS t) (tkE t - tkS t) ∧ tzN T (tkS t) (tkE t - tkS t) ≤ b then (tzN T (tkS t) (tkE t - tkS t), tzNt L T t) else (0, tzSt t 4)) else (0, tzSt t 2)) else (0, t)
set_option maxHeartbeats 200000 in
theorem tzSt_ok {L : Nat} {T : Nat → Int} {t : TkS} {r : Int} (o : tzOk L T t) : tzOk L T (tzSt t r) := by
  unfold tzSt
  split
  · exact o
  · exact o
set_option maxHeartbeats 200000 in
theorem tzNt_ok {L : Nat} {T : Nat → Int} {t : TkS} (o : tzOk L T t) : tzOk L T (tzNt L T t) := (tzNx_ok o.2.1).1
set_option maxHeartbeats 200000 in
theorem tzMu_ok {L : Nat} {T : Nat → Int} {t : TkS} {b : Bool} (o : tzOk L T t) : tzOk L T (tzMu L T t b) := by
  unfold tzMu
  split
  · split
    · exact tzNt_ok o
    · exact tzSt_ok o
  · exact o
set_option maxHeartbeats 200000 in
theorem tzGo_ok {L : Nat} {T : Nat → Int} {t : TkS} {b : Bool} (o : tzOk L T t) : tzOk L T (tzGo L T t b) := by
  unfold tzGo
  split
  · exact tzNt_ok o
  · exact o
set_option maxHeartbeats 200000 in
theorem tzNm_ok {L : Nat} {T : Nat → Int} {t : TkS} {a b : Int} (o : tzOk L T t) : tzOk L T (tzNm L T t a b).2 := by
  unfold tzNm
  split
  · split
    · split
      · exact tzNt_ok o
      · exact tzSt_ok o
    · exact tzSt_ok o
  · exact o
/-! how far, and that a fault stays -/
set_option maxHeartbeats 200000 in
theorem tzSt_f {t : TkS} {r : Int} (hr : 0 < r) : 0 < tkF (tzSt t r) ∨ ¬ tkF t = 0 := by
  unfold tzSt
  by_cases q : tkF t = 0
  · rw [if_pos q]
    refine Or.inl ?_
    show 0 < (if tkK t = 4 then (1 : Int) else r)
    split <;> omega
  · exact Or.inr q
set_option maxHeartbeats 200000 in
theorem tzSt_n {t : TkS} {r : Int} (h : ¬ tkF t = 0) : tzSt t r = t := by unfold tzSt; rw [if_neg h]
set_option maxHeartbeats 200000 in
theorem tzSt_0 {t : TkS} {r : Int} (hr : 0 < r) : ¬ tkF (tzSt t r) = 0 := by
  rcases tzSt_f (t := t) hr with h | h
  · omega
  · rw [tzSt_n h]; exact h
set_option maxHeartbeats 200000 in
theorem tzMu_n {L : Nat} {T : Nat → Int} {t : TkS} {b : Bool} (h : ¬ tkF t = 0) : tzMu L T t b = t := by unfold tzMu; rw [if_neg h]
set_option maxHeartbeats 200000 in
theorem tzMu_0 {L : Nat} {T : Nat → Int} {t : TkS} {b : Bool} (h : tkF (tzMu L T t b) = 0) : tkF t = 0 ∧ b = true ∧ tzMu L T t b = tzNt L T t := by
  unfold tzMu at h ⊢
  by_cases q : tkF t = 0
  · rw [if_pos q] at h ⊢
    by_cases q2 : b = true
    · rw [if_pos q2]; exact ⟨q, q2, rfl⟩
    · rw [if_neg q2] at h
      exact absurd h (tzSt_0 (by omega))
  · rw [if_neg q] at h; exact absurd h q
set_option maxHeartbeats 200000 in
theorem tzGo_n {L : Nat} {T : Nat → Int} {t : TkS} {b : Bool} (h : ¬ tkF t = 0) : tzGo L T t b = t := by unfold tzGo; rw [if_neg (fun z => h z.1)]
set_option maxHeartbeats 200000 in
theorem tzGo_F {L : Nat} {T : Nat → Int} {t : TkS} {b : Bool} : tkF (tzGo L T t b) = tkF t := by
  unfold tzGo
  split <;> rfl
set_option maxHeartbeats 200000 in
theorem tzNm_n {L : Nat} {T : Nat → Int} {t : TkS} {a b : Int} (h : ¬ tkF t = 0) : tzNm L T t a b = (0, t) := by unfold tzNm; rw [if_neg h]
set_option maxHeartbeats 200000 in
theorem tzNm_0 {L : Nat} {T : Nat → Int} {t : TkS} {a b : Int} (h : tkF (tzNm L T t a b).2 = 0) : tkF t = 0 ∧ a ≤ (tzNm L T t a b).1 ∧ (tzNm L T t a b).1 ≤ b ∧ (tzNm L T t a b).2 = tzNt L T t := by
  unfold tzNm at h ⊢
  by_cases q : tkF t = 0
  · rw [if_pos q] at h ⊢
    by_cases q2 : tkK t = 2
    · rw [if_pos q2] at h ⊢
      by_cases q3 : a ≤ tzN T (tkS t) (tkE t - tkS t) ∧ tzN T (tkS t) (tkE t - tkS t) ≤ b
      · rw [if_pos q3]; exact ⟨q, q3.1, q3.2, rfl⟩
      · rw [if_neg q3] at h
        exact absurd h (tzSt_0 (by omega))
    · rw [if_neg q2] at h
      exact absurd h (tzSt_0 (by omega))
  · rw [if_neg q] at h; exact absurd h q
set_option maxHeartbeats 200000 in
theorem tzNm_bd {L : Nat} {T : Nat → Int} {t : TkS} {a b : Int} (ha : a ≤ b + 1000000) : (tzNm L T t a b).1 = 0 ∨ (a ≤ (tzNm L T t a b).1 ∧ (tzNm L T t a b).1 ≤ b) := by
  by_cases q : tkF (tzNm L T t a b).2 = 0
  · exact Or.inr ⟨(tzNm_0 q).2.1, (tzNm_0 q).2.2.1⟩
  · refine Or.inl ?_
    unfold tzNm at q ⊢
    by_cases q1 : tkF t = 0
    · rw [if_pos q1] at q ⊢
      by_cases q2 : tkK t = 2
      · rw [if_pos q2] at q ⊢
        by_cases q3 : a ≤ tzN T (tkS t) (tkE t - tkS t) ∧ tzN T (tkS t) (tkE t - tkS t) ≤ b
        · rw [if_pos q3] at q; exact absurd q1 q
        · rw [if_neg q3]
      · rw [if_neg q2]
    · rw [if_neg q1]
