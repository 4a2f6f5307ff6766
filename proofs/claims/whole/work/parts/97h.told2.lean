/-! NAMES THAT WERE TOLD AHEAD -/
set_option maxHeartbeats 200000 in
theorem tzFn_st {T : Nat → Int} {t : TkS} {nm : NmT} {n : Nat} {r : Int} : tzFn T (tzSt t r) nm n = tzFn T t nm n := by
  have : ∀ q, tzSm T (tzSt t r) q = tzSm T t q := fun q => by
    unfold tzSt
    split <;> rfl
  unfold tzFn
  rw [show (fun k => tzSm T (tzSt t r) (nm k)) = (fun k => tzSm T t (nm k)) from funext fun k => this _]
def tzTo (L : Nat) (T : Nat → Int) (t : TkS) (nm : NmT) (n : Nat) (fl : Nat → Bool) : Int × TkS :=
  if tkF t = 0 then (if tzNa T t = true then (if tzFn T t nm n = -1 then (-1, tzSt t 3) else if fl (tzFn T t nm n).toNat = true then (-1, tzSt t 5) else (tzFn T t nm n, tzNt L T t)) else (-1, tzSt t 2)) else (-1, t)
set_option maxHeartbeats 200000 in
theorem tzTo_ok {L : Nat} {T : Nat → Int} {t : TkS} {nm : NmT} {n : Nat} {fl : Nat → Bool} (o : tzOk L T t) : tzOk L T (tzTo L T t nm n fl).2 := by
  unfold tzTo
  split
  · split
    · split
      · exact tzSt_ok o
      · split
        · exact tzSt_ok o
        · exact tzNt_ok o
    · exact tzSt_ok o
  · exact o
set_option maxHeartbeats 200000 in
theorem tzTo_0 {L : Nat} {T : Nat → Int} {t : TkS} {nm : NmT} {n : Nat} {fl : Nat → Bool} (h : tkF (tzTo L T t nm n fl).2 = 0) : tkF t = 0 ∧ tzNa T t = true ∧ ¬ tzFn T t nm n = -1 ∧ fl (tzFn T t nm n).toNat = false ∧ tzTo L T t nm n fl = (tzFn T t nm n, tzNt L T t) := by
  unfold tzTo at h ⊢
  by_cases q : tkF t = 0
  · rw [if_pos q] at h ⊢
    cases q1 : tzNa T t with
    | true =>
      rw [q1, if_pos (rfl : true = true)] at h
      rw [if_pos (rfl : true = true)]
      by_cases q2 : tzFn T t nm n = -1
      · rw [if_pos q2] at h
        exact absurd h (tzSt_0 (by omega))
      · rw [if_neg q2] at h ⊢
        cases q3 : fl (tzFn T t nm n).toNat with
        | true =>
          rw [q3, if_pos (rfl : true = true)] at h
          exact absurd h (tzSt_0 (by omega))
        | false =>
          rw [if_neg Bool.false_ne_true]
          exact ⟨q, rfl, q2, rfl, rfl⟩
    | false =>
      rw [q1, if_neg Bool.false_ne_true] at h
      exact absurd h (tzSt_0 (by omega))
  · rw [if_neg q] at h
    exact absurd h q
set_option maxHeartbeats 200000 in
theorem tzTo_n {L : Nat} {T : Nat → Int} {t : TkS} {nm : NmT} {n : Nat} {fl : Nat → Bool} (h : ¬ tkF t = 0) : tzTo L T t nm n fl = (-1, t) := by unfold tzTo; rw [if_neg h]
set_option maxHeartbeats 200000 in
theorem tzTo_bd {L : Nat} {T : Nat → Int} {t : TkS} {nm : NmT} {n : Nat} {fl : Nat → Bool} : (tzTo L T t nm n fl).1 = -1 ∧ ¬ tkF (tzTo L T t nm n fl).2 = 0 ∨ (0 ≤ (tzTo L T t nm n fl).1 ∧ (tzTo L T t nm n fl).1 < (n : Int)) := by
  by_cases q : tkF (tzTo L T t nm n fl).2 = 0
  · have := tzTo_0 q
    rw [this.2.2.2.2]
    exact Or.inr (tzFn_m this.2.2.1)
  · refine Or.inl ⟨?_, q⟩
    unfold tzTo at q ⊢
    by_cases q0 : tkF t = 0
    · rw [if_pos q0] at q ⊢
      cases q1 : tzNa T t with
      | true =>
        rw [q1, if_pos (rfl : true = true)] at q
        rw [if_pos (rfl : true = true)]
        by_cases q2 : tzFn T t nm n = -1
        · rw [if_pos q2]
        · rw [if_neg q2] at q ⊢
          cases q3 : fl (tzFn T t nm n).toNat with
          | true => rw [if_pos (rfl : true = true)]
          | false =>
            rw [q3, if_neg Bool.false_ne_true] at q
            exact absurd q0 q
      | false => rw [if_neg Bool.false_ne_true]
    · rw [if_neg q0]
/-- what is asked of the jar: 1 whether it is filled, 0 nothing -/
def tzFl (h : Hp) (S : Nat) (a4 : Int) (j : Nat) : Bool := decide (a4 = 1) && decide (¬ gI h 6 (S + 5 + 3 * j) = 0)
set_option maxHeartbeats 200000 in
theorem tzFl_0 {h : Hp} {S j : Nat} : tzFl h S 0 j = false := rfl
set_option maxHeartbeats 200000 in
theorem tzx_b73n {X S L : Nat} {T : Nat → Int} {t : TkS} {h : Hp} {a b : Nat} {n a4 v : Int} (H : tzXt X L T t h) (R : XRd X S h) (q : ¬ tkF t = 0) : fX8_takeToldName_b73 (X + 12) a b n a4 h v = some (-1, h) := by
  unfold fX8_takeToldName_b73
  have e := tzx_hasF H
  rw [if_neg q] at e
  exact gdg (by rw [R.1.k12]) (nng R.1.r512 (gdg H.k (bdg e (iteF (by omega) (rfl)))))
set_option maxHeartbeats 200000 in
theorem tzx_told {X S L : Nat} {T : Nat → Int} {t : TkS} {h : Hp} {nm : NmT} {n a b : Nat} {a4 : Int} (H : tzXt X L T t h) (R : XRd X S h) (n8 : n ≤ 8) (N : tzNX h a b nm n) (G : tzG L T nm n) (ka : hK h a = (21, 8)) (kb : hK h b = (21, 8)) (ha : a4 = 0 ∨ a4 = 1) :
    ∃ h', FT X h h' ∧ tzXt X L T (tzTo L T t nm n (tzFl h S a4)).2 h' ∧ fX8_takeToldName h (X + 12) a b (n : Int) a4 = some ((tzTo L T t nm n (tzFl h S a4)).1, h') := by
  obtain ⟨HX, r517, XS1, HS⟩ := id R
  have k12 : (hK h (X + 12)).1 = 8 := by rw [HX.k12]
  have kS : (hK h S).1 = 7 := by rw [HS.1]
  -- the rest, behind a fault
  have b18n : ∀ {t : TkS} {h0 : Hp}, FT X h h0 → tzXt X L T t h0 → ¬ tkF t = 0 → ∃ h', FT X h0 h' ∧ tzXt X L T t h' ∧ fX8_takeToldName_b18 (X + 12) a b (n : Int) a4 h0 = some (-1, h') := fun {t} {h0} p0 H0 q => by
    have R0 := R.ft p0
    have N0 : tzNX h0 a b nm n := fun k hk => by rw [p0.a (fun z => z), p0.a (fun z => z)]; exact N k hk
    have k120 : (hK h0 (X + 12)).1 = 8 := by rw [R0.1.k12]
    have kS0 : (hK h0 S).1 = 7 := by rw [R0.2.2.2.1]
    have e1 := tzx_find H0 k120 R0.1.r512 (by rw [p0.k]; exact ka) (by rw [p0.k]; exact kb) n8 N0 G
    unfold fX8_takeToldName_b18
    by_cases q1 : tzFn T t nm n = -1
    · obtain ⟨h', p1, p2, p3⟩ := tzx_stop (r := 3) H0 (by omega)
      rw [tzSt_n q] at p2
      exact ⟨h', p1, p2, gdg k120 (bdg e1 (iteT q1 (nng R0.1.r512 (gdg H0.k (bdg p3 (tzx_b73n p2 (R0.ft p1) q))))))⟩
    · have m1 := tzFn_m q1
      rcases ha with h4 | h4
      · exact ⟨h0, Fr.rf h0, H0, gdg k120 (bdg e1 (iteF q1 (iteT h4 (tzx_b73n H0 R0 q))))⟩
      · obtain ⟨c1, c2⟩ := R0.2.2.2.2.2.2.2.2.2 (tzFn T t nm n).toNat (by omega)
        have ee : fX0_isEmpty h0 (S + 5 + 3 * (tzFn T t nm n).toNat) = some (if gI h0 6 (S + 5 + 3 * (tzFn T t nm n).toNat) = 0 then 1 else 0) := by
          unfold fX0_isEmpty
          exact gdg (by rw [c2]) rfl
        have k24 := R0.2.2.2.2.2.2.2.1
        by_cases q3 : gI h0 6 (S + 5 + 3 * (tzFn T t nm n).toNat) = 0
        · rw [if_pos q3] at ee
          exact ⟨h0, Fr.rf h0, H0, gdg k120 (bdg e1 (iteF q1 (iteF (by omega) (nng R0.2.1 (gdg kS0 (nng R0.2.2.2.2.2.1 (gdg (by rw [k24]) (gdg (by rw [k24]; show 0 ≤ _ ∧ _ < ((8 : Nat) : Int); omega) (nng c1 (gdg (by rw [c2]) (bdg ee (iteF (by omega) (tzx_b73n H0 R0 q)))))))))))))⟩
        · rw [if_neg q3] at ee
          obtain ⟨h', p1, p2, p3⟩ := tzx_stop (r := 5) H0 (by omega)
          rw [tzSt_n q] at p2
          exact ⟨h', p1, p2, gdg k120 (bdg e1 (iteF q1 (iteF (by omega) (nng R0.2.1 (gdg kS0 (nng R0.2.2.2.2.2.1 (gdg (by rw [k24]) (gdg (by rw [k24]; show 0 ≤ _ ∧ _ < ((8 : Nat) : Int); omega) (nng c1 (gdg (by rw [c2]) (bdg ee (iteT rfl (nng R0.1.r512 (gdg H0.k (bdg p3 (tzx_b73n p2 (R0.ft p1) q))))))))))))))))⟩
  have en := tzx_name H
  unfold fX8_takeToldName
  cases q : tzNa T t with
  | false =>
    rw [q] at en
    obtain ⟨h1, p1, p2, p3⟩ := tzx_stop (r := 2) H (by omega)
    obtain ⟨h', r1, r2, r3⟩ := b18n p1 p2 (tzSt_0 (by omega))
    have et : tzTo L T t nm n (tzFl h S a4) = (-1, tzSt t 2) := by
      unfold tzTo
      rw [q, if_neg Bool.false_ne_true]
      by_cases f0 : tkF t = 0
      · rw [if_pos f0]
      · rw [if_neg f0, tzSt_n f0]
    rw [et]
    exact ⟨h', p1.tr r1, r2, gdg k12 (nng HX.r512 (gdg H.k (bdg en (iteT rfl (bdg p3 (r3))))))⟩
  | true =>
    rw [q] at en
    by_cases f0 : tkF t = 0
    · have e1 := tzx_find H k12 HX.r512 ka kb n8 N G
      have b73 : ∀ v : Int, ∃ h', FT X h h' ∧ tzXt X L T (tzNt L T t) h' ∧ fX8_takeToldName_b73 (X + 12) a b (n : Int) a4 h v = some (v, h') := fun v => by
        have e := tzx_hasF H
        rw [if_pos f0] at e
        obtain ⟨h', p1, p2, p3⟩ := tzx_nt H
        refine ⟨h', p1, p2, ?_⟩
        unfold fX8_takeToldName_b73
        exact gdg k12 (nng HX.r512 (gdg H.k (bdg e (iteT rfl (bdg p3 (rfl))))))
      unfold tzTo
      rw [if_pos f0, q, if_pos (rfl : true = true)]
      unfold fX8_takeToldName_b18
      by_cases q1 : tzFn T t nm n = -1
      · rw [if_pos q1]
        obtain ⟨h', p1, p2, p3⟩ := tzx_stop (r := 3) H (by omega)
        exact ⟨h', p1, p2, gdg k12 (nng HX.r512 (gdg H.k (bdg en (iteF (by decide) (gdg k12 (bdg e1 (iteT q1 (nng HX.r512 (gdg H.k (bdg p3 (tzx_b73n p2 (R.ft p1) (tzSt_0 (by omega)))))))))))))⟩
      · have m1 := tzFn_m q1
        rw [if_neg q1]
        obtain ⟨c1, c2⟩ := HS.2.2.2.2.2.2 (tzFn T t nm n).toNat (by omega)
        have ee : fX0_isEmpty h (S + 5 + 3 * (tzFn T t nm n).toNat) = some (if gI h 6 (S + 5 + 3 * (tzFn T t nm n).toNat) = 0 then 1 else 0) := by
          unfold fX0_isEmpty
          exact gdg (by rw [c2]) rfl
        have k24 := HS.2.2.2.2.1
        rcases ha with h4 | h4
        · rw [h4, tzFl_0, if_neg Bool.false_ne_true]
          rw [h4] at b73
          obtain ⟨h', p1, p2, p3⟩ := b73 (tzFn T t nm n)
          exact ⟨h', p1, p2, gdg k12 (nng HX.r512 (gdg H.k (bdg en (iteF (by decide) (gdg k12 (bdg e1 (iteF q1 (iteT rfl (p3)))))))))⟩
        · by_cases q3 : gI h 6 (S + 5 + 3 * (tzFn T t nm n).toNat) = 0
          · rw [if_pos q3] at ee
            rw [show tzFl h S a4 (tzFn T t nm n).toNat = false by unfold tzFl; rw [decide_eq_false (show ¬ ¬ gI h 6 (S + 5 + 3 * (tzFn T t nm n).toNat) = 0 from fun z => z q3)]; exact Bool.and_false _, if_neg Bool.false_ne_true]
            obtain ⟨h', p1, p2, p3⟩ := b73 (tzFn T t nm n)
            exact ⟨h', p1, p2, gdg k12 (nng HX.r512 (gdg H.k (bdg en (iteF (by decide) (gdg k12 (bdg e1 (iteF q1 (iteF (by omega) (nng r517 (gdg kS (nng HS.2.2.1 (gdg (by rw [k24]) (gdg (by rw [k24]; show 0 ≤ _ ∧ _ < ((8 : Nat) : Int); omega) (nng c1 (gdg (by rw [c2]) (bdg ee (iteF (by omega) (p3))))))))))))))))))⟩
          · rw [if_neg q3] at ee
            rw [show tzFl h S a4 (tzFn T t nm n).toNat = true by unfold tzFl; rw [decide_eq_true q3, decide_eq_true h4]; rfl, if_pos (rfl : true = true)]
            obtain ⟨h', p1, p2, p3⟩ := tzx_stop (r := 5) H (by omega)
            exact ⟨h', p1, p2, gdg k12 (nng HX.r512 (gdg H.k (bdg en (iteF (by decide) (gdg k12 (bdg e1 (iteF q1 (iteF (by omega) (nng r517 (gdg kS (nng HS.2.2.1 (gdg (by rw [k24]) (gdg (by rw [k24]; show 0 ≤ _ ∧ _ < ((8 : Nat) : Int); omega) (nng c1 (gdg (by rw [c2]) (bdg ee (iteT rfl (nng HX.r512 (gdg H.k (bdg p3 (tzx_b73n p2 (R.ft p1) (tzSt_0 (by omega)))))))))))))))))))))))⟩
    · rw [tzTo_n f0]
      obtain ⟨h', r1, r2, r3⟩ := b18n (Fr.rf h) H f0
      exact ⟨h', r1, r2, gdg k12 (nng HX.r512 (gdg H.k (bdg en (iteF (by decide) (r3)))))⟩
/-- the reference's told name -/
def tzRt (T : Nat → Int) (t : TkS) (nm : NmT) (n : Nat) : Int × TkS := if tkF t = 0 then (if tzNa T t = true then (if tzFn T t nm n = -1 then (-1, tzSt t 3) else (tzFn T t nm n, t)) else (0, tzSt t 2)) else (0, t)
set_option maxHeartbeats 200000 in
theorem tzm_told {M L : Nat} {T : Nat → Int} {t : TkS} {m : Hp} {nm : NmT} {n o : Nat} (H : tzMt M L T t m) (o8 : o ≤ 8) (n8 : n ≤ 8) (N : tzNM M T m o nm n) (G : tzG L T nm n) :
    ∃ m', GT M m m' ∧ tzMt M L T (tzRt T t nm n).2 m' ∧ fX12_readTold m M (o : Int) (n : Int) = some ((tzRt T t nm n).1, m') := by
  have b18n : ∀ {t : TkS} {m : Hp}, tzMt M L T t m → ¬ tkF t = 0 → fX12_readTold_b18 M (o : Int) (n : Int) m = some (0, m) := fun {t} {m} H q => by
    unfold fX12_readTold_b18 fX12_readTold_b35
    rw [H.2.2.2.2.1]
    exact gdg H.k (iteF q (gdg H.k (iteF q (rfl))))
  have en := tzm_name H
  unfold fX12_readTold tzRt
  rw [H.2.2.2.2.1]
  by_cases f0 : tkF t = 0
  · rw [if_pos f0]
    cases q : tzNa T t with
    | false =>
      rw [q] at en
      rw [if_neg Bool.false_ne_true]
      obtain ⟨m', p1, p2, p3⟩ := tzm_wrong H
      exact ⟨m', p1, p2, gdg H.k (iteT f0 (bdg en (iteT rfl (bdg p3 (b18n p2 (tzSt_0 (by omega)))))))⟩
    | true =>
      rw [q] at en
      rw [if_pos (rfl : true = true)]
      obtain ⟨k1, l8⟩ := tzNa_1 q
      have e1 := tzm_named H o8 n8 N G k1 l8
      by_cases q1 : tzFn T t nm n = -1
      · rw [if_pos q1]
        rw [q1] at e1
        obtain ⟨m', p1, p2, p3⟩ := tzm_fail (r := 3) H (by omega) (by omega)
        refine ⟨m', p1, p2, gdg H.k (iteT f0 (bdg en (iteF (by decide) (?_))))⟩
        unfold fX12_readTold_b18 fX12_readTold_b35
        rw [H.2.2.2.2.1, H.2.2.1]
        exact gdg H.k (iteT f0 (bdg e1 (gdg H.k (iteT f0 (iteT (by omega) (bdg p3 (rfl)))))))
      · rw [if_neg q1]
        have m1 := tzFn_m q1
        refine ⟨m, Fr.rf m, H, gdg H.k (iteT f0 (bdg en (iteF (by decide) (?_))))⟩
        unfold fX12_readTold_b18 fX12_readTold_b35
        rw [H.2.2.2.2.1]
        exact gdg H.k (iteT f0 (bdg e1 (gdg H.k (iteT f0 (iteF (by omega) (rfl))))))
  · rw [if_neg f0]
    exact ⟨m, Fr.rf m, H, gdg H.k (iteF f0 (b18n H f0))⟩
set_option maxHeartbeats 200000 in
/-- both ways to the same token -/
theorem tzRt_to {L : Nat} {T : Nat → Int} {t : TkS} {nm : NmT} {n : Nat} {fl : Nat → Bool} : tzMu L T (if tkF (tzRt T t nm n).2 = 0 ∧ fl (tzRt T t nm n).1.toNat = true then tzSt (tzRt T t nm n).2 5 else (tzRt T t nm n).2) true = (tzTo L T t nm n fl).2 ∧ (tkF (tzTo L T t nm n fl).2 = 0 → (tzRt T t nm n).1 = (tzTo L T t nm n fl).1) := by
  unfold tzRt tzTo
  by_cases f0 : tkF t = 0
  · rw [if_pos f0, if_pos f0]
    cases q : tzNa T t with
    | true =>
      rw [if_pos (rfl : true = true), if_pos (rfl : true = true)]
      by_cases q1 : tzFn T t nm n = -1
      · rw [if_pos q1, if_pos q1]
        have nf : ¬ tkF (tzSt t 3) = 0 := tzSt_0 (by omega)
        rw [if_neg (fun z => nf z.1)]
        exact ⟨tzMu_n nf, fun z => absurd z nf⟩
      · rw [if_neg q1, if_neg q1]
        cases q2 : fl (tzFn T t nm n).toNat with
        | true =>
          have nf : ¬ tkF (tzSt t 5) = 0 := tzSt_0 (by omega)
          rw [if_pos ⟨f0, rfl⟩, if_pos (rfl : true = true)]
          exact ⟨tzMu_n nf, fun z => absurd z nf⟩
        | false =>
          rw [if_neg (fun z => by cases z.2), if_neg Bool.false_ne_true]
          refine ⟨?_, fun _ => rfl⟩
          unfold tzMu
          rw [if_pos f0, if_pos rfl]
    | false =>
      rw [if_neg Bool.false_ne_true, if_neg Bool.false_ne_true]
      have nf : ¬ tkF (tzSt t 2) = 0 := tzSt_0 (by omega)
      rw [if_neg (fun z => nf z.1)]
      exact ⟨tzMu_n nf, fun z => absurd z nf⟩
  · rw [if_neg f0, if_neg f0, if_neg (fun z => f0 z.1)]
    exact ⟨tzMu_n f0, fun z => absurd z f0⟩
set_option maxHeartbeats 200000 in
theorem tzRt_bd {T : Nat → Int} {t : TkS} {nm : NmT} {n : Nat} : (tkF (tzRt T t nm n).2 = 0 → 0 ≤ (tzRt T t nm n).1 ∧ (tzRt T t nm n).1 < (n : Int)) ∧ (-1 ≤ (tzRt T t nm n).1 ∧ (tzRt T t nm n).1 ≤ (n : Int)) := by
  unfold tzRt
  by_cases f0 : tkF t = 0
  · rw [if_pos f0]
    cases q : tzNa T t with
    | true =>
      rw [if_pos (rfl : true = true)]
      by_cases q1 : tzFn T t nm n = -1
      · rw [if_pos q1]
        exact ⟨fun z => absurd z (tzSt_0 (by omega)), by show -1 ≤ (-1 : Int) ∧ (-1 : Int) ≤ (n : Int); omega⟩
      · rw [if_neg q1]
        have m1 := tzFn_m q1
        exact ⟨fun _ => m1, by show -1 ≤ tzFn T t nm n ∧ tzFn T t nm n ≤ (n : Int); omega⟩
    | false =>
      rw [if_neg Bool.false_ne_true]
      exact ⟨fun z => absurd z (tzSt_0 (by omega)), by show -1 ≤ (0 : Int) ∧ (0 : Int) ≤ (n : Int); omega⟩
  · rw [if_neg f0]
    exact ⟨fun z => absurd z f0, by show -1 ≤ (0 : Int) ∧ (0 : Int) ≤ (n : Int); omega⟩
