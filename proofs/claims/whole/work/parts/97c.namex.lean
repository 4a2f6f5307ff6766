/-! NAMES: the class (written by the program in NOTES.md, part 97c) -/
def tzWs : List (List Nat) := [[115, 111, 117, 110, 100], [106, 97, 114], [115, 105, 122, 101], [108, 101, 97, 107, 115], [104, 101, 97, 100], [116, 97, 105, 108], [99, 111, 115, 116, 115], [119, 111, 114, 116, 104], [98, 114, 101, 97, 107, 115], [102, 105, 108, 108], [111, 102], [102, 114, 111, 109], [111, 110], [109, 105, 120], [119, 105, 116, 104], [103, 105, 118, 101, 115], [97, 110, 121], [115, 97, 109, 101], [114, 101, 115, 116], [102, 105, 114, 115, 116], [115, 101, 99, 111, 110, 100]]
def tzKp (T : Nat → Int) (t : TkS) : Bool := tzWs.any (fun w => tzI T t w)
def tzNa (T : Nat → Int) (t : TkS) : Bool := decide (tkK t = 1) && (decide (tkE t - tkS t ≤ 8) && !tzKp T t)
set_option maxHeartbeats 200000 in
theorem tzKp_1 {T : Nat → Int} {t : TkS} {w : List Nat} (m : w ∈ tzWs) (h : tzI T t w = true) : tzKp T t = true := List.any_eq_true.mpr ⟨w, m, h⟩
set_option maxHeartbeats 200000 in
theorem tzNa_k {T : Nat → Int} {t : TkS} (h : tzKp T t = true) : tzNa T t = false := by unfold tzNa; rw [h]; simp
set_option maxHeartbeats 200000 in
theorem tzx_n194 {X L : Nat} {T : Nat → Int} {t : TkS} {h : Hp} (H : tzXt X L T t h) (q : tzKp T t = false) : fX9_isName_b194 h (X + 10) 0 = some (tzB (tzNa T t)) := by
  unfold fX9_isName_b194 tzNa
  rw [q]
  by_cases q1 : tkK t = 1
  · by_cases q2 : tkE t - tkS t ≤ 8
    · rw [decide_eq_true q1, decide_eq_true q2]
      exact gdg H.k (bdg (tzx_up1 H q1 (by omega)) (iteF (by omega) (iteT rfl rfl)))
    · rw [decide_eq_true q1, decide_eq_false q2]
      exact gdg H.k (bdg (tzx_up0 H (fun z => q2 (by have := z.2; omega))) (iteT rfl rfl))
  · rw [decide_eq_false q1]
    exact gdg H.k (bdg (tzx_up0 H (fun z => q1 z.1)) (iteT rfl rfl))
set_option maxHeartbeats 200000 in
theorem tzx_n189 {X L : Nat} {T : Nat → Int} {t : TkS} {h : Hp} (H : tzXt X L T t h) (q : tzKp T t = true) : fX9_isName_b189 h (X + 10) = some (tzB (tzNa T t)) := by
  rw [tzNa_k q]
  unfold fX9_isName_b189 fX9_isName_b194
  by_cases q1 : tkK t = 1 ∧ ((tkE t - tkS t : Nat) : Int) ≤ 8
  · exact gdg H.k (bdg (tzx_up1 H q1.1 q1.2) (iteF (by omega) (iteF (by omega) rfl)))
  · exact gdg H.k (bdg (tzx_up0 H q1) (iteT rfl rfl))
set_option maxHeartbeats 200000 in
theorem tzx_name {X L : Nat} {T : Nat → Int} {t : TkS} {h : Hp} (H : tzXt X L T t h) : fX9_isName h (X + 10) = some (tzB (tzNa T t)) := by
  unfold fX9_isName
  refine gdg H.k ?_
  refine bdg (tzx_isB H rfl) ?_
  cases q0 : tzI T t [115, 111, 117, 110, 100] with
  | true => exact iteF (show ¬ tzB true = 0 by decide) (tzx_n189 H (tzKp_1 (by decide) q0))
  | false =>
    refine iteT rfl ?_
    refine bdg (tzx_isB H rfl) ?_
    cases q1 : tzI T t [106, 97, 114] with
    | true => exact iteF (show ¬ tzB true = 0 by decide) (tzx_n189 H (tzKp_1 (by decide) q1))
    | false =>
      refine iteT rfl ?_
      refine bdg (tzx_isB H rfl) ?_
      cases q2 : tzI T t [115, 105, 122, 101] with
      | true => exact iteF (show ¬ tzB true = 0 by decide) (tzx_n189 H (tzKp_1 (by decide) q2))
      | false =>
        refine iteT rfl ?_
        refine bdg (tzx_isB H rfl) ?_
        cases q3 : tzI T t [108, 101, 97, 107, 115] with
        | true => exact iteF (show ¬ tzB true = 0 by decide) (tzx_n189 H (tzKp_1 (by decide) q3))
        | false =>
          refine iteT rfl ?_
          refine bdg (tzx_isB H rfl) ?_
          cases q4 : tzI T t [104, 101, 97, 100] with
          | true => exact iteF (show ¬ tzB true = 0 by decide) (tzx_n189 H (tzKp_1 (by decide) q4))
          | false =>
            refine iteT rfl ?_
            refine bdg (tzx_isB H rfl) ?_
            cases q5 : tzI T t [116, 97, 105, 108] with
            | true => exact iteF (show ¬ tzB true = 0 by decide) (tzx_n189 H (tzKp_1 (by decide) q5))
            | false =>
              refine iteT rfl ?_
              refine bdg (tzx_isB H rfl) ?_
              cases q6 : tzI T t [99, 111, 115, 116, 115] with
              | true => exact iteF (show ¬ tzB true = 0 by decide) (tzx_n189 H (tzKp_1 (by decide) q6))
              | false =>
                refine iteT rfl ?_
                refine bdg (tzx_isB H rfl) ?_
                cases q7 : tzI T t [119, 111, 114, 116, 104] with
                | true => exact iteF (show ¬ tzB true = 0 by decide) (tzx_n189 H (tzKp_1 (by decide) q7))
                | false =>
                  refine iteT rfl ?_
                  refine bdg (tzx_isB H rfl) ?_
                  cases q8 : tzI T t [98, 114, 101, 97, 107, 115] with
                  | true => exact iteF (show ¬ tzB true = 0 by decide) (tzx_n189 H (tzKp_1 (by decide) q8))
                  | false =>
                    refine iteT rfl ?_
                    refine bdg (tzx_isB H rfl) ?_
                    cases q9 : tzI T t [102, 105, 108, 108] with
                    | true => exact iteF (show ¬ tzB true = 0 by decide) (tzx_n189 H (tzKp_1 (by decide) q9))
                    | false =>
                      refine iteT rfl ?_
                      refine bdg (tzx_isB H rfl) ?_
                      cases q10 : tzI T t [111, 102] with
                      | true => exact iteF (show ¬ tzB true = 0 by decide) (tzx_n189 H (tzKp_1 (by decide) q10))
                      | false =>
                        refine iteT rfl ?_
                        refine bdg (tzx_isB H rfl) ?_
                        cases q11 : tzI T t [102, 114, 111, 109] with
                        | true => exact iteF (show ¬ tzB true = 0 by decide) (tzx_n189 H (tzKp_1 (by decide) q11))
                        | false =>
                          refine iteT rfl ?_
                          refine bdg (tzx_isB H rfl) ?_
                          cases q12 : tzI T t [111, 110] with
                          | true => exact iteF (show ¬ tzB true = 0 by decide) (tzx_n189 H (tzKp_1 (by decide) q12))
                          | false =>
                            refine iteT rfl ?_
                            refine bdg (tzx_isB H rfl) ?_
                            cases q13 : tzI T t [109, 105, 120] with
                            | true => exact iteF (show ¬ tzB true = 0 by decide) (tzx_n189 H (tzKp_1 (by decide) q13))
                            | false =>
                              refine iteT rfl ?_
                              refine bdg (tzx_isB H rfl) ?_
                              cases q14 : tzI T t [119, 105, 116, 104] with
                              | true => exact iteF (show ¬ tzB true = 0 by decide) (tzx_n189 H (tzKp_1 (by decide) q14))
                              | false =>
                                refine iteT rfl ?_
                                refine bdg (tzx_isB H rfl) ?_
                                cases q15 : tzI T t [103, 105, 118, 101, 115] with
                                | true => exact iteF (show ¬ tzB true = 0 by decide) (tzx_n189 H (tzKp_1 (by decide) q15))
                                | false =>
                                  refine iteT rfl ?_
                                  refine bdg (tzx_isB H rfl) ?_
                                  cases q16 : tzI T t [97, 110, 121] with
                                  | true => exact iteF (show ¬ tzB true = 0 by decide) (tzx_n189 H (tzKp_1 (by decide) q16))
                                  | false =>
                                    refine iteT rfl ?_
                                    refine bdg (tzx_isB H rfl) ?_
                                    cases q17 : tzI T t [115, 97, 109, 101] with
                                    | true => exact iteF (show ¬ tzB true = 0 by decide) (tzx_n189 H (tzKp_1 (by decide) q17))
                                    | false =>
                                      refine iteT rfl ?_
                                      refine bdg (tzx_isB H rfl) ?_
                                      cases q18 : tzI T t [114, 101, 115, 116] with
                                      | true => exact iteF (show ¬ tzB true = 0 by decide) (tzx_n189 H (tzKp_1 (by decide) q18))
                                      | false =>
                                        refine iteT rfl ?_
                                        refine bdg (tzx_isB H rfl) ?_
                                        cases q19 : tzI T t [102, 105, 114, 115, 116] with
                                        | true => exact iteF (show ¬ tzB true = 0 by decide) (tzx_n189 H (tzKp_1 (by decide) q19))
                                        | false =>
                                          refine iteT rfl ?_
                                          refine bdg (tzx_isB H rfl) ?_
                                          cases q20 : tzI T t [115, 101, 99, 111, 110, 100] with
                                          | true => exact iteF (show ¬ tzB true = 0 by decide) (tzx_n189 H (tzKp_1 (by decide) q20))
                                          | false =>
                                            refine iteT rfl ?_
                                            refine tzx_n194 H ?_
                                            unfold tzKp tzWs
                                            simp only [List.any_cons, List.any_nil, q0, q1, q2, q3, q4, q5, q6, q7, q8, q9, q10, q11, q12, q13, q14, q15, q16, q17, q18, q19, q20, Bool.or_false]
