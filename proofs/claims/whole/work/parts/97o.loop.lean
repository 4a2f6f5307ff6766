/-! THE PARTS OF A SHOP, one behind the other, both sides -/
set_option maxHeartbeats 200000 in
theorem tzp_stop {X S M L : Nat} {T : Nat → Int} {a1 : Int} {fu gu i : Nat} {t : TkS} {h m : Hp} (P : tzPi X S M L T t h m) (f0 : ¬ tkF t = 0) : ∃ h' m' t', FC X S h h' ∧ GK M m m' ∧ fX8_readShop_b21 (X + 12) (L : Int) (fu + 1) h 27 252 (i : Int) = some (S, h') ∧ fX12_shop_b49 M a1 (gu + 1) m = fX12_shop_b129 M a1 m' ∧ tzPi X S M L T t' h' m' ∧ (tkF t' = 0 → tkK t' = 0) := by
  obtain ⟨H, K, R, G⟩ := id P
  refine ⟨h, m, t, Fr.rf h, GK.rf m, ?_, ?_, P, fun z => absurd z f0⟩
  · have e := tzx_hasF H
    rw [if_neg f0] at e
    rw [fX8_readShop_b21.eq_2]
    by_cases y : (i : Int) ≤ (L : Int)
    · exact iteT y (gdg (by rw [R.1.k12]) (nng R.1.r512 (gdg H.k (gdg (by omega) (bdg e (iteF (by omega) (nng R.2.1 (gdg (by omega) (rfl)))))))))
    · exact iteF y (gdg (by rw [R.1.k12]) (nng R.2.1 (gdg (by omega) (rfl))))
  · rw [fX12_shop_b49.eq_2, K.2.2.2.2.1]
    exact gdg K.k (iteF f0 (rfl))
set_option maxHeartbeats 200000 in
theorem tzp_loop {X S M L : Nat} {T : Nat → Int} {a1 : Int} : ∀ n (i fu gu : Nat) (t : TkS) (h m : Hp), n + 1 < fu → n + 1 < gu → (tkF t = 0 → i ≤ tkS t ∧ L - tkS t ≤ n) → tzPi X S M L T t h m →
    ∃ h' m' t', FC X S h h' ∧ GK M m m' ∧ fX8_readShop_b21 (X + 12) (L : Int) fu h 27 252 (i : Int) = some (S, h') ∧ fX12_shop_b49 M a1 gu m = fX12_shop_b129 M a1 m' ∧ tzPi X S M L T t' h' m' ∧ (tkF t' = 0 → tkK t' = 0) := by
  -- the end
  have fin : ∀ (i fu gu : Nat) (t : TkS) (h m : Hp), tkK t = 0 → i ≤ tkS t → tkF t = 0 → tzPi X S M L T t h m → ∃ h' m' t', FC X S h h' ∧ GK M m m' ∧ fX8_readShop_b21 (X + 12) (L : Int) (fu + 1) h 27 252 (i : Int) = some (S, h') ∧ fX12_shop_b49 M a1 (gu + 1) m = fX12_shop_b129 M a1 m' ∧ tzPi X S M L T t' h' m' ∧ (tkF t' = 0 → tkK t' = 0) := by
    intro i fu gu t h m k0 hi f0 P
    obtain ⟨H, K, R, G⟩ := id P
    have o := H.ok
    have o1 := o.1
    have o2 := o.2.1
    refine ⟨h, m, t, Fr.rf h, GK.rf m, ?_, ?_, P, fun _ => k0⟩
    · have e := tzx_hasF H
      rw [if_pos f0] at e
      have e2 := tzx_atE H
      rw [if_pos k0] at e2
      rw [fX8_readShop_b21.eq_2]
      exact iteT (by omega) (gdg (by rw [R.1.k12]) (nng R.1.r512 (gdg H.k (gdg (by omega) (bdg e (iteT rfl (gdg (by omega) (bdg e2 (iteF (by omega) (nng R.2.1 (gdg (by omega) (rfl))))))))))))
    · rw [fX12_shop_b49.eq_2, K.2.2.2.2.1, K.2.1]
      exact gdg K.k (iteT f0 (iteT k0 (rfl)))
  intro n
  induction n with
  | zero =>
    intro i fu gu t h m h1 h2 h3 P
    obtain ⟨fu, rfl⟩ : ∃ k, fu = k + 1 := ⟨fu - 1, by omega⟩
    obtain ⟨gu, rfl⟩ : ∃ k, gu = k + 1 := ⟨gu - 1, by omega⟩
    by_cases f0 : tkF t = 0
    · have o := P.1.ok
      have o2 := o.2.1
      have o5 := o.2.2.2.2.1
      have h3' := h3 f0
      have k0 : tkK t = 0 := by
        by_cases y : tkK t = 0
        · exact y
        · have := o5 y; omega
      exact fin i fu gu t h m k0 h3'.1 f0 P
    · exact tzp_stop P f0
  | succ n ih =>
    intro i fu gu t h m h1 h2 h3 P
    obtain ⟨fu, rfl⟩ : ∃ k, fu = k + 1 := ⟨fu - 1, by omega⟩
    obtain ⟨gu, rfl⟩ : ∃ k, gu = k + 1 := ⟨gu - 1, by omega⟩
    by_cases f0 : tkF t = 0
    · have h3' := h3 f0
      by_cases k0 : tkK t = 0
      · exact fin i fu gu t h m k0 h3'.1 f0 P
      · obtain ⟨H, K, R, G⟩ := id P
        have o := H.ok
        have o2 := o.2.1
        have o5 := o.2.2.2.2.1 k0
        have l9 := H.l
        have ew : WE ((i : Int) + 1) := we (by omega) (by omega)
        have e := tzx_hasF H
        rw [if_pos f0] at e
        have e2 := tzx_atE H
        rw [if_neg k0] at e2
        -- behind a part
        have go : ∀ (f g : Option Hp), tzPe X S M L T t h m f g → (∀ h1 x, f = some h1 → fX8_readShop_b21 (X + 12) (L : Int) fu h1 27 252 ((i : Int) + 1) = x → fX8_readShop_b21 (X + 12) (L : Int) (fu + 1) h 27 252 (i : Int) = x) → (∀ m1 x, g = some m1 → fX12_shop_b109 M a1 (fX12_shop_b49 M a1 gu) m1 = x → fX12_shop_b49 M a1 (gu + 1) m = x) →
            ∃ h' m' t', FC X S h h' ∧ GK M m m' ∧ fX8_readShop_b21 (X + 12) (L : Int) (fu + 1) h 27 252 (i : Int) = some (S, h') ∧ fX12_shop_b49 M a1 (gu + 1) m = fX12_shop_b129 M a1 m' ∧ tzPi X S M L T t' h' m' ∧ (tkF t' = 0 → tkK t' = 0) := by
          intro f g E c1 c2
          obtain ⟨h1, m1, m2, t2, fc, gk, ef, eg, km, em, P2, pr⟩ := E
          obtain ⟨h', m', t', fc', gk', q1, q2, P', q3⟩ := ih (i + 1) fu gu t2 h1 m2 (by omega) (by omega) (fun z => by have := pr z; omega) P2
          refine ⟨h', m', t', fc.tr fc', gk.tr gk', c1 h1 _ ef ?_, c2 m1 _ eg ?_, P', q3⟩
          · rw [show ((i : Int) + 1) = ((i + 1 : Nat) : Int) by omega]; exact q1
          · unfold fX12_shop_b109
            exact gdg km (bdg em q2)
        have e3 := tzx_isB (w := [115, 111, 117, 110, 100]) H rfl
        have e4 := tzx_isB (w := [106, 97, 114]) H rfl
        have e5 := tzx_isB (w := [102, 105, 108, 108]) H rfl
        have g3 := tzm_isSound K
        have g4 := tzm_isJar K
        have g5 := tzm_isFill K
        cases q3 : tzI T t [115, 111, 117, 110, 100] with
        | true =>
          rw [q3] at e3 g3
          refine go _ _ (tzp_sound P f0 (tzI_1 q3).1) (fun h1 x ef ex => ?_) (fun m1 x eg ex => ?_)
          · rw [fX8_readShop_b21.eq_2]
            refine iteT (by omega) (gdg (by rw [R.1.k12]) (nng R.1.r512 (gdg H.k (gdg (by omega) (bdg e (iteT rfl (gdg (by omega) (bdg e2 (iteT rfl (gdg (by omega) (bdg e3 (iteF (by decide) (gdg (by omega) (bdg ef (?_)))))))))))))))
            unfold fX8_readShop_b111
            rw [ew.e]
            exact ex
          · rw [fX12_shop_b49.eq_2, K.2.2.2.2.1, K.2.1]
            exact gdg K.k (iteT f0 (iteF k0 (bdg g3 (iteF (by decide) (bdg eg (ex))))))
        | false =>
          rw [q3] at e3 g3
          cases q4 : tzI T t [106, 97, 114] with
          | true =>
            rw [q4] at e4 g4
            refine go _ _ (tzp_jar P f0 (tzI_1 q4).1) (fun h1 x ef ex => ?_) (fun m1 x eg ex => ?_)
            · rw [fX8_readShop_b21.eq_2]
              refine iteT (by omega) (gdg (by rw [R.1.k12]) (nng R.1.r512 (gdg H.k (gdg (by omega) (bdg e (iteT rfl (gdg (by omega) (bdg e2 (iteT rfl (gdg (by omega) (bdg e3 (iteT rfl (gdg (by omega) (bdg e4 (iteF (by decide) (gdg (by omega) (bdg ef (?_))))))))))))))))))
              unfold fX8_readShop_b111
              rw [ew.e]
              exact ex
            · rw [fX12_shop_b49.eq_2, K.2.2.2.2.1, K.2.1]
              exact gdg K.k (iteT f0 (iteF k0 (bdg g3 (iteT rfl (bdg g4 (iteF (by decide) (bdg eg (ex))))))))
          | false =>
            rw [q4] at e4 g4
            cases q5 : tzI T t [102, 105, 108, 108] with
            | true =>
              rw [q5] at e5 g5
              refine go _ _ (tzp_fill P f0 (tzI_1 q5).1) (fun h1 x ef ex => ?_) (fun m1 x eg ex => ?_)
              · rw [fX8_readShop_b21.eq_2]
                refine iteT (by omega) (gdg (by rw [R.1.k12]) (nng R.1.r512 (gdg H.k (gdg (by omega) (bdg e (iteT rfl (gdg (by omega) (bdg e2 (iteT rfl (gdg (by omega) (bdg e3 (iteT rfl (gdg (by omega) (bdg e4 (iteT rfl (gdg (by omega) (bdg e5 (iteF (by decide) (gdg (by omega) (bdg ef (?_)))))))))))))))))))))
                unfold fX8_readShop_b111
                rw [ew.e]
                exact ex
              · rw [fX12_shop_b49.eq_2, K.2.2.2.2.1, K.2.1]
                exact gdg K.k (iteT f0 (iteF k0 (bdg g3 (iteT rfl (bdg g4 (iteT rfl (bdg g5 (iteF (by decide) (bdg eg (ex))))))))))
            | false =>
              rw [q5] at e5 g5
              have E : tzPe X S M L T t h m (fX9_stop h (X + 10) 2) (fX12_wrong m M) := by
                obtain ⟨h1, p1, p2, p3⟩ := tzx_stop (r := 2) H (by omega)
                obtain ⟨m1, r1, r2, r3⟩ := tzm_wrong K
                obtain ⟨m2, s1, s2, s3⟩ := tzm_sign r2
                have nf : ¬ tkF (tzSt t 2) = 0 := tzSt_0 (by omega)
                rw [tzMu_n nf] at s2
                exact ⟨h1, m1, m2, tzSt t 2, ft_fc p1, (gt_gk r1).tr (gt_gk s1), p3, r3, r2.k, s3, ⟨p2, s2, R.ft p1, fun z => absurd z nf⟩, fun z => absurd z nf⟩
              refine go _ _ E (fun h1 x ef ex => ?_) (fun m1 x eg ex => ?_)
              · rw [fX8_readShop_b21.eq_2]
                refine iteT (by omega) (gdg (by rw [R.1.k12]) (nng R.1.r512 (gdg H.k (gdg (by omega) (bdg e (iteT rfl (gdg (by omega) (bdg e2 (iteT rfl (gdg (by omega) (bdg e3 (iteT rfl (gdg (by omega) (bdg e4 (iteT rfl (gdg (by omega) (bdg e5 (iteT rfl (gdg (by omega) (bdg ef (?_)))))))))))))))))))))
                unfold fX8_readShop_b111
                rw [ew.e]
                exact ex
              · rw [fX12_shop_b49.eq_2, K.2.2.2.2.1, K.2.1]
                exact gdg K.k (iteT f0 (iteF k0 (bdg g3 (iteT rfl (bdg g4 (iteT rfl (bdg g5 (iteT rfl (bdg eg (ex))))))))))
    · exact tzp_stop P f0
