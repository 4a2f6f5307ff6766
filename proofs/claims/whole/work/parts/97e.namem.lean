/-! NAMES: the reference (written by program) -/
set_option maxHeartbeats 200000 in
theorem tzm_isSound {M L : Nat} {T : Nat → Int} {t : TkS} {m : Hp} (H : tzMt M L T t m) : fX12_isSound m M = some (tzB (tzI T t [115, 111, 117, 110, 100])) := by
  unfold fX12_isSound
  exact bdg (q := tzC (tzW [115, 111, 117, 110, 100]) 0 5) (by decide +kernel) (gdg H.k (bdg (tzm_isV H rfl rfl) rfl))
set_option maxHeartbeats 200000 in
theorem tzm_isJar {M L : Nat} {T : Nat → Int} {t : TkS} {m : Hp} (H : tzMt M L T t m) : fX12_isJar m M = some (tzB (tzI T t [106, 97, 114])) := by
  unfold fX12_isJar
  exact bdg (q := tzC (tzW [106, 97, 114]) 0 3) (by decide +kernel) (gdg H.k (bdg (tzm_isV H rfl rfl) rfl))
set_option maxHeartbeats 200000 in
theorem tzm_isSize {M L : Nat} {T : Nat → Int} {t : TkS} {m : Hp} (H : tzMt M L T t m) : fX12_isSize m M = some (tzB (tzI T t [115, 105, 122, 101])) := by
  unfold fX12_isSize
  exact bdg (q := tzC (tzW [115, 105, 122, 101]) 0 4) (by decide +kernel) (gdg H.k (bdg (tzm_isV H rfl rfl) rfl))
set_option maxHeartbeats 200000 in
theorem tzm_isLeaks {M L : Nat} {T : Nat → Int} {t : TkS} {m : Hp} (H : tzMt M L T t m) : fX12_isLeaks m M = some (tzB (tzI T t [108, 101, 97, 107, 115])) := by
  unfold fX12_isLeaks
  exact bdg (q := tzC (tzW [108, 101, 97, 107, 115]) 0 5) (by decide +kernel) (gdg H.k (bdg (tzm_isV H rfl rfl) rfl))
set_option maxHeartbeats 200000 in
theorem tzm_isHead {M L : Nat} {T : Nat → Int} {t : TkS} {m : Hp} (H : tzMt M L T t m) : fX12_isHead m M = some (tzB (tzI T t [104, 101, 97, 100])) := by
  unfold fX12_isHead
  exact bdg (q := tzC (tzW [104, 101, 97, 100]) 0 4) (by decide +kernel) (gdg H.k (bdg (tzm_isV H rfl rfl) rfl))
set_option maxHeartbeats 200000 in
theorem tzm_isTail {M L : Nat} {T : Nat → Int} {t : TkS} {m : Hp} (H : tzMt M L T t m) : fX12_isTail m M = some (tzB (tzI T t [116, 97, 105, 108])) := by
  unfold fX12_isTail
  exact bdg (q := tzC (tzW [116, 97, 105, 108]) 0 4) (by decide +kernel) (gdg H.k (bdg (tzm_isV H rfl rfl) rfl))
set_option maxHeartbeats 200000 in
theorem tzm_isCosts {M L : Nat} {T : Nat → Int} {t : TkS} {m : Hp} (H : tzMt M L T t m) : fX12_isCosts m M = some (tzB (tzI T t [99, 111, 115, 116, 115])) := by
  unfold fX12_isCosts
  exact bdg (q := tzC (tzW [99, 111, 115, 116, 115]) 0 5) (by decide +kernel) (gdg H.k (bdg (tzm_isV H rfl rfl) rfl))
set_option maxHeartbeats 200000 in
theorem tzm_isWorth {M L : Nat} {T : Nat → Int} {t : TkS} {m : Hp} (H : tzMt M L T t m) : fX12_isWorth m M = some (tzB (tzI T t [119, 111, 114, 116, 104])) := by
  unfold fX12_isWorth
  exact bdg (q := tzC (tzW [119, 111, 114, 116, 104]) 0 5) (by decide +kernel) (gdg H.k (bdg (tzm_isV H rfl rfl) rfl))
set_option maxHeartbeats 200000 in
theorem tzm_isBreaks {M L : Nat} {T : Nat → Int} {t : TkS} {m : Hp} (H : tzMt M L T t m) : fX12_isBreaks m M = some (tzB (tzI T t [98, 114, 101, 97, 107, 115])) := by
  unfold fX12_isBreaks
  exact bdg (q := tzC (tzW [98, 114, 101, 97, 107, 115]) 0 6) (by decide +kernel) (gdg H.k (bdg (tzm_isV H rfl rfl) rfl))
set_option maxHeartbeats 200000 in
theorem tzm_isFill {M L : Nat} {T : Nat → Int} {t : TkS} {m : Hp} (H : tzMt M L T t m) : fX12_isFill m M = some (tzB (tzI T t [102, 105, 108, 108])) := by
  unfold fX12_isFill
  exact bdg (q := tzC (tzW [102, 105, 108, 108]) 0 4) (by decide +kernel) (gdg H.k (bdg (tzm_isV H rfl rfl) rfl))
set_option maxHeartbeats 200000 in
theorem tzm_isOf {M L : Nat} {T : Nat → Int} {t : TkS} {m : Hp} (H : tzMt M L T t m) : fX12_isOf m M = some (tzB (tzI T t [111, 102])) := by
  unfold fX12_isOf
  exact bdg (q := tzC (tzW [111, 102]) 0 2) (by decide +kernel) (gdg H.k (bdg (tzm_isV H rfl rfl) rfl))
set_option maxHeartbeats 200000 in
theorem tzm_isFrom {M L : Nat} {T : Nat → Int} {t : TkS} {m : Hp} (H : tzMt M L T t m) : fX12_isFrom m M = some (tzB (tzI T t [102, 114, 111, 109])) := by
  unfold fX12_isFrom
  exact bdg (q := tzC (tzW [102, 114, 111, 109]) 0 4) (by decide +kernel) (gdg H.k (bdg (tzm_isV H rfl rfl) rfl))
set_option maxHeartbeats 200000 in
theorem tzm_isOn {M L : Nat} {T : Nat → Int} {t : TkS} {m : Hp} (H : tzMt M L T t m) : fX12_isOn m M = some (tzB (tzI T t [111, 110])) := by
  unfold fX12_isOn
  exact bdg (q := tzC (tzW [111, 110]) 0 2) (by decide +kernel) (gdg H.k (bdg (tzm_isV H rfl rfl) rfl))
set_option maxHeartbeats 200000 in
theorem tzm_isMix {M L : Nat} {T : Nat → Int} {t : TkS} {m : Hp} (H : tzMt M L T t m) : fX12_isMix m M = some (tzB (tzI T t [109, 105, 120])) := by
  unfold fX12_isMix
  exact bdg (q := tzC (tzW [109, 105, 120]) 0 3) (by decide +kernel) (gdg H.k (bdg (tzm_isV H rfl rfl) rfl))
set_option maxHeartbeats 200000 in
theorem tzm_isWith {M L : Nat} {T : Nat → Int} {t : TkS} {m : Hp} (H : tzMt M L T t m) : fX12_isWith m M = some (tzB (tzI T t [119, 105, 116, 104])) := by
  unfold fX12_isWith
  exact bdg (q := tzC (tzW [119, 105, 116, 104]) 0 4) (by decide +kernel) (gdg H.k (bdg (tzm_isV H rfl rfl) rfl))
set_option maxHeartbeats 200000 in
theorem tzm_isGives {M L : Nat} {T : Nat → Int} {t : TkS} {m : Hp} (H : tzMt M L T t m) : fX12_isGives m M = some (tzB (tzI T t [103, 105, 118, 101, 115])) := by
  unfold fX12_isGives
  exact bdg (q := tzC (tzW [103, 105, 118, 101, 115]) 0 5) (by decide +kernel) (gdg H.k (bdg (tzm_isV H rfl rfl) rfl))
set_option maxHeartbeats 200000 in
theorem tzm_isAny {M L : Nat} {T : Nat → Int} {t : TkS} {m : Hp} (H : tzMt M L T t m) : fX12_isAny m M = some (tzB (tzI T t [97, 110, 121])) := by
  unfold fX12_isAny
  exact bdg (q := tzC (tzW [97, 110, 121]) 0 3) (by decide +kernel) (gdg H.k (bdg (tzm_isV H rfl rfl) rfl))
set_option maxHeartbeats 200000 in
theorem tzm_isSame {M L : Nat} {T : Nat → Int} {t : TkS} {m : Hp} (H : tzMt M L T t m) : fX12_isSame m M = some (tzB (tzI T t [115, 97, 109, 101])) := by
  unfold fX12_isSame
  exact bdg (q := tzC (tzW [115, 97, 109, 101]) 0 4) (by decide +kernel) (gdg H.k (bdg (tzm_isV H rfl rfl) rfl))
set_option maxHeartbeats 200000 in
theorem tzm_isRest {M L : Nat} {T : Nat → Int} {t : TkS} {m : Hp} (H : tzMt M L T t m) : fX12_isRest m M = some (tzB (tzI T t [114, 101, 115, 116])) := by
  unfold fX12_isRest
  exact bdg (q := tzC (tzW [114, 101, 115, 116]) 0 4) (by decide +kernel) (gdg H.k (bdg (tzm_isV H rfl rfl) rfl))
set_option maxHeartbeats 200000 in
theorem tzm_isFirst {M L : Nat} {T : Nat → Int} {t : TkS} {m : Hp} (H : tzMt M L T t m) : fX12_isFirst m M = some (tzB (tzI T t [102, 105, 114, 115, 116])) := by
  unfold fX12_isFirst
  exact bdg (q := tzC (tzW [102, 105, 114, 115, 116]) 0 5) (by decide +kernel) (gdg H.k (bdg (tzm_isV H rfl rfl) rfl))
set_option maxHeartbeats 200000 in
theorem tzm_isSecond {M L : Nat} {T : Nat → Int} {t : TkS} {m : Hp} (H : tzMt M L T t m) : fX12_isSecond m M = some (tzB (tzI T t [115, 101, 99, 111, 110, 100])) := by
  unfold fX12_isSecond
  exact bdg (q := tzC (tzW [115, 101, 99, 111, 110, 100]) 0 6) (by decide +kernel) (gdg H.k (bdg (tzm_isV H rfl rfl) rfl))
set_option maxHeartbeats 200000 in
theorem tzm_kept {M L : Nat} {T : Nat → Int} {t : TkS} {m : Hp} (H : tzMt M L T t m) : fX12_isKept m M = some (tzB (tzKp T t)) := by
  have e1 : ∀ {w : List Nat}, w ∈ tzWs → tzI T t w = true → (some 1 : Option Int) = some (tzB (tzKp T t)) := fun {w} a b => by rw [tzKp_1 a b]; rfl
  unfold fX12_isKept
  refine gdg H.k ?_
  refine bdg (tzm_isSound H) ?_
  cases q0 : tzI T t [115, 111, 117, 110, 100] with
  | true => exact iteF (show ¬ tzB true = 0 by decide) (e1 (by decide) q0)
  | false =>
    refine iteT rfl ?_
    refine bdg (tzm_isJar H) ?_
    cases q1 : tzI T t [106, 97, 114] with
    | true => exact iteF (show ¬ tzB true = 0 by decide) (e1 (by decide) q1)
    | false =>
      refine iteT rfl ?_
      refine bdg (tzm_isSize H) ?_
      cases q2 : tzI T t [115, 105, 122, 101] with
      | true => exact iteF (show ¬ tzB true = 0 by decide) (e1 (by decide) q2)
      | false =>
        refine iteT rfl ?_
        refine bdg (tzm_isLeaks H) ?_
        cases q3 : tzI T t [108, 101, 97, 107, 115] with
        | true => exact iteF (show ¬ tzB true = 0 by decide) (e1 (by decide) q3)
        | false =>
          refine iteT rfl ?_
          refine bdg (tzm_isHead H) ?_
          cases q4 : tzI T t [104, 101, 97, 100] with
          | true => exact iteF (show ¬ tzB true = 0 by decide) (e1 (by decide) q4)
          | false =>
            refine iteT rfl ?_
            refine bdg (tzm_isTail H) ?_
            cases q5 : tzI T t [116, 97, 105, 108] with
            | true => exact iteF (show ¬ tzB true = 0 by decide) (e1 (by decide) q5)
            | false =>
              refine iteT rfl ?_
              refine bdg (tzm_isCosts H) ?_
              cases q6 : tzI T t [99, 111, 115, 116, 115] with
              | true => exact iteF (show ¬ tzB true = 0 by decide) (e1 (by decide) q6)
              | false =>
                refine iteT rfl ?_
                refine bdg (tzm_isWorth H) ?_
                cases q7 : tzI T t [119, 111, 114, 116, 104] with
                | true => exact iteF (show ¬ tzB true = 0 by decide) (e1 (by decide) q7)
                | false =>
                  refine iteT rfl ?_
                  refine bdg (tzm_isBreaks H) ?_
                  cases q8 : tzI T t [98, 114, 101, 97, 107, 115] with
                  | true => exact iteF (show ¬ tzB true = 0 by decide) (e1 (by decide) q8)
                  | false =>
                    refine iteT rfl ?_
                    refine bdg (tzm_isFill H) ?_
                    cases q9 : tzI T t [102, 105, 108, 108] with
                    | true => exact iteF (show ¬ tzB true = 0 by decide) (e1 (by decide) q9)
                    | false =>
                      refine iteT rfl ?_
                      refine bdg (tzm_isOf H) ?_
                      cases q10 : tzI T t [111, 102] with
                      | true => exact iteF (show ¬ tzB true = 0 by decide) (e1 (by decide) q10)
                      | false =>
                        refine iteT rfl ?_
                        refine bdg (tzm_isFrom H) ?_
                        cases q11 : tzI T t [102, 114, 111, 109] with
                        | true => exact iteF (show ¬ tzB true = 0 by decide) (e1 (by decide) q11)
                        | false =>
                          refine iteT rfl ?_
                          refine bdg (tzm_isOn H) ?_
                          cases q12 : tzI T t [111, 110] with
                          | true => exact iteF (show ¬ tzB true = 0 by decide) (e1 (by decide) q12)
                          | false =>
                            refine iteT rfl ?_
                            refine bdg (tzm_isMix H) ?_
                            cases q13 : tzI T t [109, 105, 120] with
                            | true => exact iteF (show ¬ tzB true = 0 by decide) (e1 (by decide) q13)
                            | false =>
                              refine iteT rfl ?_
                              refine bdg (tzm_isWith H) ?_
                              cases q14 : tzI T t [119, 105, 116, 104] with
                              | true => exact iteF (show ¬ tzB true = 0 by decide) (e1 (by decide) q14)
                              | false =>
                                refine iteT rfl ?_
                                refine bdg (tzm_isGives H) ?_
                                cases q15 : tzI T t [103, 105, 118, 101, 115] with
                                | true => exact iteF (show ¬ tzB true = 0 by decide) (e1 (by decide) q15)
                                | false =>
                                  refine iteT rfl ?_
                                  refine bdg (tzm_isAny H) ?_
                                  cases q16 : tzI T t [97, 110, 121] with
                                  | true => exact iteF (show ¬ tzB true = 0 by decide) (e1 (by decide) q16)
                                  | false =>
                                    refine iteT rfl ?_
                                    refine bdg (tzm_isSame H) ?_
                                    cases q17 : tzI T t [115, 97, 109, 101] with
                                    | true => exact iteF (show ¬ tzB true = 0 by decide) (e1 (by decide) q17)
                                    | false =>
                                      refine iteT rfl ?_
                                      refine bdg (tzm_isRest H) ?_
                                      cases q18 : tzI T t [114, 101, 115, 116] with
                                      | true => exact iteF (show ¬ tzB true = 0 by decide) (e1 (by decide) q18)
                                      | false =>
                                        refine iteT rfl ?_
                                        refine bdg (tzm_isFirst H) ?_
                                        cases q19 : tzI T t [102, 105, 114, 115, 116] with
                                        | true => exact iteF (show ¬ tzB true = 0 by decide) (e1 (by decide) q19)
                                        | false =>
                                          refine iteT rfl ?_
                                          refine bdg (tzm_isSecond H) ?_
                                          cases q20 : tzI T t [115, 101, 99, 111, 110, 100] with
                                          | true => exact iteF (show ¬ tzB true = 0 by decide) (e1 (by decide) q20)
                                          | false =>
                                            refine iteT rfl ?_
                                            have e0 : tzKp T t = false := by
                                              unfold tzKp tzWs
                                              simp only [List.any_cons, List.any_nil, q0, q1, q2, q3, q4, q5, q6, q7, q8, q9, q10, q11, q12, q13, q14, q15, q16, q17, q18, q19, q20, Bool.or_false]
                                            rw [e0]
                                            rfl
set_option maxHeartbeats 200000 in
theorem tzm_name {M L : Nat} {T : Nat → Int} {t : TkS} {m : Hp} (H : tzMt M L T t m) : fX12_isName m M = some (tzB (tzNa T t)) := by
  unfold fX12_isName tzNa
  rw [H.2.1]
  by_cases q1 : tkK t = 1
  · rw [decide_eq_true q1, (H.2.2.2.2.2.2.2.1 q1).1]
    by_cases q2 : tkE t - tkS t ≤ 8
    · rw [decide_eq_true q2]
      refine gdg H.k (iteT q1 (iteT (by omega) (bdg (tzm_kept H) ?_)))
      cases tzKp T t with
      | true => exact iteF (by decide) rfl
      | false => exact iteT rfl rfl
    · rw [decide_eq_false q2]
      exact gdg H.k (iteT q1 (iteF (by omega) rfl))
  · rw [decide_eq_false q1]
    exact gdg H.k (iteF q1 rfl)
