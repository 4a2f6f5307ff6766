/-! STEPS: a program's head is evaluated, then what stands behind it -/
set_option maxHeartbeats 200000 in
theorem gdg {α : Type} {p : Prop} [Decidable p] {k x : Option α} (h : p) (e : k = x) : gd p k = x := by rw [gd_pos h]; exact e
set_option maxHeartbeats 200000 in
theorem nng {β : Type} {v : Option Nat} {q : Nat} {k : Nat → Option β} {x : Option β} (h : v = some q) (e : k q = x) : nn v k = x := by rw [h]; exact e
set_option maxHeartbeats 200000 in
theorem bdg {α β : Type} {v : Option α} {q : α} {k : α → Option β} {x : Option β} (h : v = some q) (e : k q = x) : bd v k = x := by rw [h]; exact e
set_option maxHeartbeats 200000 in
theorem bd2g {α β γ : Type} {v : Option (α × β)} {a : α} {b : β} {k : α → β → Option γ} {x : Option γ} (h : v = some (a, b)) (e : k a b = x) : bd2 v k = x := by rw [h]; exact e
set_option maxHeartbeats 200000 in
theorem ltg {α β : Type} {v : α} {k : α → Option β} {x : Option β} (e : k v = x) : lt v k = x := e
set_option maxHeartbeats 200000 in
theorem iteT {α : Type} {c : Prop} [Decidable c] {a b x : α} (h : c) (e : a = x) : (if c then a else b) = x := by rw [if_pos h]; exact e
set_option maxHeartbeats 200000 in
theorem iteF {α : Type} {c : Prop} [Decidable c] {a b x : α} (h : ¬ c) (e : b = x) : (if c then a else b) = x := by rw [if_neg h]; exact e
/-! THE SPEC over a block c of the reference -/
def WJ (c : Nat → Int) (j : Int) : Prop :=
  (0 ≤ c (140 + j).toNat ∧ c (140 + j).toNat ≤ 12) ∧ (0 ≤ c (148 + j).toNat ∧ c (148 + j).toNat ≤ 99) ∧ (0 ≤ c (156 + j).toNat ∧ c (156 + j).toNat ≤ 2) ∧
  (0 ≤ c (164 + j).toNat ∧ c (164 + j).toNat ≤ 99) ∧ (0 ≤ c (172 + j).toNat ∧ c (172 + j).toNat ≤ 99) ∧ (0 ≤ c (180 + j).toNat ∧ c (180 + j).toNat ≤ 15) ∧
  (0 ≤ c (188 + j).toNat ∧ c (188 + j).toNat ≤ c (140 + j).toNat) ∧ (0 ≤ c (196 + j).toNat ∧ c (196 + j).toNat ≤ 999) ∧ (0 ≤ c (204 + j).toNat ∧ c (204 + j).toNat < 8)
def WF (c : Nat → Int) : Prop :=
  (0 ≤ c 0 ∧ c 0 ≤ 9999) ∧ (0 ≤ c 1 ∧ c 1 ≤ 8) ∧ (0 ≤ c 2 ∧ c 2 ≤ 8) ∧ (0 ≤ c 3 ∧ c 3 ≤ 12) ∧
  (∀ s : Int, 0 ≤ s → s < 8 → 0 ≤ c (4 + s).toNat ∧ c (4 + s).toNat ≤ 16) ∧
  (∀ s k : Int, 0 ≤ s → s < 8 → 0 ≤ k → k < c (4 + s).toNat → 1 ≤ c (12 + 16 * s + k).toNat ∧ c (12 + 16 * s + k).toNat ≤ 26) ∧
  (∀ j : Int, 0 ≤ j → j < 8 → WJ c j) ∧
  (∀ j k : Int, 0 ≤ j → j < 8 → 0 ≤ k → k < c (188 + j).toNat → 1 ≤ c (212 + 12 * j + k).toNat ∧ c (212 + 12 * j + k).toNat ≤ 26) ∧
  (∀ k : Int, 0 ≤ k → k < c 3 → (0 ≤ c (308 + 3 * k).toNat ∧ c (308 + 3 * k).toNat ≤ 27) ∧ (0 ≤ c (308 + 3 * k + 1).toNat ∧ c (308 + 3 * k + 1).toNat ≤ 27) ∧ (0 ≤ c (308 + 3 * k + 2).toNat ∧ c (308 + 3 * k + 2).toNat ≤ 28))
set_option maxHeartbeats 200000 in
theorem WF.day {c : Nat → Int} (w : WF c) : 0 ≤ c 0 ∧ c 0 ≤ 9999 := w.1
set_option maxHeartbeats 200000 in
theorem WF.ns {c : Nat → Int} (w : WF c) : 0 ≤ c 1 ∧ c 1 ≤ 8 := w.2.1
set_option maxHeartbeats 200000 in
theorem WF.nj {c : Nat → Int} (w : WF c) : 0 ≤ c 2 ∧ c 2 ≤ 8 := w.2.2.1
set_option maxHeartbeats 200000 in
theorem WF.nr {c : Nat → Int} (w : WF c) : 0 ≤ c 3 ∧ c 3 ≤ 12 := w.2.2.2.1
set_option maxHeartbeats 200000 in
theorem WF.sl {c : Nat → Int} (w : WF c) {s : Int} (h0 : 0 ≤ s) (h8 : s < 8) : 0 ≤ c (4 + s).toNat ∧ c (4 + s).toNat ≤ 16 := w.2.2.2.2.1 s h0 h8
set_option maxHeartbeats 200000 in
theorem WF.sc {c : Nat → Int} (w : WF c) {s k : Int} (h0 : 0 ≤ s) (h8 : s < 8) (k0 : 0 ≤ k) (k8 : k < c (4 + s).toNat) : 1 ≤ c (12 + 16 * s + k).toNat ∧ c (12 + 16 * s + k).toNat ≤ 26 := w.2.2.2.2.2.1 s k h0 h8 k0 k8
set_option maxHeartbeats 200000 in
theorem WF.wj {c : Nat → Int} (w : WF c) {j : Int} (h0 : 0 ≤ j) (h8 : j < 8) : WJ c j := w.2.2.2.2.2.2.1 j h0 h8
set_option maxHeartbeats 200000 in
theorem WF.hc {c : Nat → Int} (w : WF c) {j k : Int} (h0 : 0 ≤ j) (h8 : j < 8) (k0 : 0 ≤ k) (k8 : k < c (188 + j).toNat) : 1 ≤ c (212 + 12 * j + k).toNat ∧ c (212 + 12 * j + k).toNat ≤ 26 := w.2.2.2.2.2.2.2.1 j k h0 h8 k0 k8
set_option maxHeartbeats 200000 in
theorem WF.ru {c : Nat → Int} (w : WF c) {k : Int} (k0 : 0 ≤ k) (k8 : k < c 3) : (0 ≤ c (308 + 3 * k).toNat ∧ c (308 + 3 * k).toNat ≤ 27) ∧ (0 ≤ c (308 + 3 * k + 1).toNat ∧ c (308 + 3 * k + 1).toNat ≤ 27) ∧ (0 ≤ c (308 + 3 * k + 2).toNat ∧ c (308 + 3 * k + 2).toNat ≤ 28) := w.2.2.2.2.2.2.2.2 k k0 k8
/-- how many of m LETTERS of jar j have gone behind d days -/
def goneS (c : Nat → Int) (j m d : Int) : Int := if c (148 + j).toNat = 0 then 0 else min m (d / c (148 + j).toNat)
def leftS (c : Nat → Int) (j d : Int) : Int := if c (188 + j).toNat = 0 then 0 else if d < c (196 + j).toNat then 0 else c (188 + j).toNat - goneS c j (c (188 + j).toNat) (d - c (196 + j).toNat)
def headS (c : Nat → Int) (j g : Int) : Int := if c (156 + j).toNat = 0 then g else if c (156 + j).toNat = 1 then 0 else (g + 1) / 2
/-- HEARD now: how many, which -/
def hN (c : Nat → Int) (j : Int) : Int := leftS c j (c 0)
def hP (c : Nat → Int) (j : Int) : Int := headS c j (c (188 + j).toNat - hN c j)
def hL (c : Nat → Int) (j k : Int) : Int := if 0 ≤ k ∧ k < hN c j then c (212 + 12 * j + hP c j + k).toNat else 0
def sL (c : Nat → Int) (s k : Int) : Int := if 0 ≤ k ∧ k < c (4 + s).toNat then c (12 + 16 * s + k).toNat else 0
set_option maxHeartbeats 200000 in
theorem ediv_bd {d m : Int} (hd : 0 ≤ d) (hm : 0 < m) : 0 ≤ d / m ∧ d / m ≤ d := ⟨Int.ediv_nonneg hd (Int.le_of_lt hm), Int.ediv_le_self _ hd⟩
set_option maxHeartbeats 200000 in
theorem goneS_bd {c : Nat → Int} {j m d : Int} (w : WJ c j) (hm : 0 ≤ m) (hd : 0 ≤ d) : 0 ≤ goneS c j m d ∧ goneS c j m d ≤ m := by
  unfold goneS
  split
  · omega
  · have h := ediv_bd (d := d) (m := c (148 + j).toNat) hd (by have := w.2.1; omega)
    omega
set_option maxHeartbeats 200000 in
theorem leftS_bd {c : Nat → Int} {j d : Int} (w : WJ c j) : 0 ≤ leftS c j d ∧ leftS c j d ≤ c (188 + j).toNat := by
  have h6 := w.2.2.2.2.2.2.1
  unfold leftS
  split
  · omega
  · split
    · omega
    · have := goneS_bd (c := c) (j := j) (m := c (188 + j).toNat) (d := d - c (196 + j).toNat) w (by omega) (by omega)
      omega
set_option maxHeartbeats 200000 in
theorem headS_bd {c : Nat → Int} {j g : Int} (w : WJ c j) (hg : 0 ≤ g) : 0 ≤ headS c j g ∧ headS c j g ≤ g := by
  unfold headS
  split
  · omega
  · split <;> omega
set_option maxHeartbeats 200000 in
theorem hN_bd {c : Nat → Int} {j : Int} (w : WF c) (h0 : 0 ≤ j) (h8 : j < 8) : 0 ≤ hN c j ∧ hN c j ≤ c (188 + j).toNat ∧ hN c j ≤ 12 := by
  have h := w.wj h0 h8
  have h1 := leftS_bd (d := c 0) h
  have h2 := h.1
  have h3 := h.2.2.2.2.2.2.1
  unfold hN
  omega
set_option maxHeartbeats 200000 in
theorem hP_bd {c : Nat → Int} {j : Int} (w : WF c) (h0 : 0 ≤ j) (h8 : j < 8) : 0 ≤ hP c j ∧ hP c j + hN c j ≤ c (188 + j).toNat := by
  have h := w.wj h0 h8
  have h1 := hN_bd w h0 h8
  have h2 := headS_bd (g := c (188 + j).toNat - hN c j) h (by omega)
  unfold hP
  omega
set_option maxHeartbeats 200000 in
theorem hL_bd {c : Nat → Int} {j k : Int} (w : WF c) (h0 : 0 ≤ j) (h8 : j < 8) : 0 ≤ hL c j k ∧ hL c j k ≤ 26 := by
  unfold hL
  split
  · have h1 := hP_bd w h0 h8
    have h2 := w.hc (k := hP c j + k) h0 h8 (by omega) (by omega)
    rw [← Int.add_assoc] at h2
    omega
  · omega
set_option maxHeartbeats 200000 in
theorem hL_1 {c : Nat → Int} {j k : Int} (w : WF c) (h0 : 0 ≤ j) (h8 : j < 8) (k0 : 0 ≤ k) (k8 : k < hN c j) : 1 ≤ hL c j k ∧ hL c j k ≤ 26 := by
  unfold hL
  rw [if_pos ⟨k0, k8⟩]
  have h1 := hP_bd w h0 h8
  have h2 := w.hc (k := hP c j + k) h0 h8 (by omega) (by omega)
  rw [← Int.add_assoc] at h2
  omega
set_option maxHeartbeats 200000 in
theorem hL_o {c : Nat → Int} {j k : Int} (h : k < 0 ∨ hN c j ≤ k) : hL c j k = 0 := by unfold hL; rw [if_neg (by omega)]
set_option maxHeartbeats 200000 in
theorem sL_o {c : Nat → Int} {s k : Int} (h : k < 0 ∨ c (4 + s).toNat ≤ k) : sL c s k = 0 := by unfold sL; rw [if_neg (by omega)]
set_option maxHeartbeats 200000 in
theorem sL_bd {c : Nat → Int} {s k : Int} (w : WF c) (h0 : 0 ≤ s) (h8 : s < 8) : 0 ≤ sL c s k ∧ sL c s k ≤ 26 := by
  unfold sL
  split
  · have h2 := w.sc (s := s) (k := k) h0 h8 (by omega) (by omega)
    omega
  · omega
set_option maxHeartbeats 200000 in
theorem sL_1 {c : Nat → Int} {s k : Int} (w : WF c) (h0 : 0 ≤ s) (h8 : s < 8) (k0 : 0 ≤ k) (k8 : k < c (4 + s).toNat) : 1 ≤ sL c s k ∧ sL c s k ≤ 26 := by
  unfold sL
  rw [if_pos ⟨k0, k8⟩]
  exact w.sc h0 h8 k0 k8
/-! THE REFERENCE's leaves -/
set_option maxHeartbeats 200000 in
theorem rIn1 {a b d : Int} (h1 : b ≤ a) (h2 : a ≤ d) : fX12_isIn a b d = some 1 := by
  unfold fX12_isIn
  (repeat' (first | (with_reducible refine ltg ?_) | ((with_reducible refine iteT ?_ ?_); omega) | ((with_reducible refine iteF ?_ ?_); omega) | ((with_reducible refine gdg ?_ ?_); first | omega)))
  rfl
set_option maxHeartbeats 200000 in
theorem rIn0 {a b d : Int} (h : a < b ∨ d < a) : fX12_isIn a b d = some 0 := by
  unfold fX12_isIn
  by_cases h1 : a < b
  · (repeat' (first | (with_reducible refine ltg ?_) | ((with_reducible refine iteT ?_ ?_); omega) | ((with_reducible refine iteF ?_ ?_); omega) | ((with_reducible refine gdg ?_ ?_); first | omega)))
    rfl
  · (repeat' (first | (with_reducible refine ltg ?_) | ((with_reducible refine iteT ?_ ?_); omega) | ((with_reducible refine iteF ?_ ?_); omega) | ((with_reducible refine gdg ?_ ?_); first | omega)))
    rfl
set_option maxHeartbeats 200000 in
theorem goneS_0 {c : Nat → Int} {j m d : Int} (h : c (148 + j).toNat = 0) : goneS c j m d = 0 := by unfold goneS; rw [if_pos h]
set_option maxHeartbeats 200000 in
theorem goneS_1 {c : Nat → Int} {j m d : Int} (h : ¬ c (148 + j).toNat = 0) : goneS c j m d = min m (d / c (148 + j).toNat) := by unfold goneS; rw [if_neg h]
set_option maxHeartbeats 200000 in
theorem leftS_0 {c : Nat → Int} {j d : Int} (h : c (188 + j).toNat = 0) : leftS c j d = 0 := by unfold leftS; rw [if_pos h]
set_option maxHeartbeats 200000 in
theorem leftS_1 {c : Nat → Int} {j d : Int} (h : d < c (196 + j).toNat) : leftS c j d = 0 := by unfold leftS; rw [if_pos h]; split <;> rfl
set_option maxHeartbeats 200000 in
theorem leftS_2 {c : Nat → Int} {j d : Int} (h : ¬ c (188 + j).toNat = 0) (h2 : ¬ d < c (196 + j).toNat) : leftS c j d = c (188 + j).toNat - goneS c j (c (188 + j).toNat) (d - c (196 + j).toNat) := by unfold leftS; rw [if_neg h, if_neg h2]
set_option maxHeartbeats 200000 in
theorem headS_0 {c : Nat → Int} {j g : Int} (h : c (156 + j).toNat = 0) : headS c j g = g := by unfold headS; rw [if_pos h]
set_option maxHeartbeats 200000 in
theorem headS_1 {c : Nat → Int} {j g : Int} (h : c (156 + j).toNat = 1) : headS c j g = 0 := by unfold headS; rw [if_neg (by omega), if_pos h]
set_option maxHeartbeats 200000 in
theorem headS_2 {c : Nat → Int} {j g : Int} (h : ¬ c (156 + j).toNat = 0) (h2 : ¬ c (156 + j).toNat = 1) : headS c j g = (g + 1) / 2 := by unfold headS; rw [if_neg h, if_neg h2]
set_option maxHeartbeats 200000 in
theorem rGone {c : Nat → Int} {j m d : Int} (w : WJ c j) (h0 : 0 ≤ j) (h8 : j < 8) (hd : 0 ≤ d) (hd2 : d < 2147483648) : fX12_goneOf c j m d = some (goneS c j m d) := by
  have e : w32 (148 + j) = 148 + j := w32_id (by omega) (by omega)
  have h1 := w.2.1
  by_cases h : c (148 + j).toNat = 0
  · rw [goneS_0 h]
    unfold fX12_goneOf
    rw [e]
    (repeat' (first | (with_reducible refine ltg ?_) | ((with_reducible refine iteT ?_ ?_); omega) | ((with_reducible refine iteF ?_ ?_); omega) | ((with_reducible refine gdg ?_ ?_); first | omega)))
    rfl
  · rw [goneS_1 h]
    unfold fX12_goneOf
    rw [e]
    (repeat' (first | (with_reducible refine ltg ?_) | ((with_reducible refine iteT ?_ ?_); omega) | ((with_reducible refine iteF ?_ ?_); omega) | ((with_reducible refine gdg ?_ ?_); first | with_reducible exact h | omega) | ((with_reducible apply nng); first | with_reducible exact h) | ((with_reducible apply bdg); first | with_reducible exact h) | ((with_reducible apply bd2g); first | with_reducible exact h)))
    rw [idv_i hd hd2 (by omega) (by omega)]
set_option maxHeartbeats 200000 in
theorem rLeft {c : Nat → Int} {j d : Int} (w : WJ c j) (h0 : 0 ≤ j) (h8 : j < 8) (hd : 0 ≤ d) (hd2 : d < 1000000) : fX12_heardOn c j d = some (leftS c j d) := by
  have e1 : w32 (188 + j) = 188 + j := w32_id (by omega) (by omega)
  have e2 : w32 (196 + j) = 196 + j := w32_id (by omega) (by omega)
  have h7 := w.2.2.2.2.2.2.2.1
  have h6 := w.2.2.2.2.2.2.1
  have h5 := w.1
  have b := leftS_bd (d := d) w
  by_cases h : c (188 + j).toNat = 0
  · rw [leftS_0 h]
    unfold fX12_heardOn
    rw [e1, e2]
    (repeat' (first | (with_reducible refine ltg ?_) | ((with_reducible refine iteT ?_ ?_); omega) | ((with_reducible refine iteF ?_ ?_); omega) | ((with_reducible refine gdg ?_ ?_); first | omega)))
    rfl
  · by_cases h2 : d < c (196 + j).toNat
    · rw [leftS_1 h2]
      unfold fX12_heardOn
      rw [e1, e2]
      (repeat' (first | (with_reducible refine ltg ?_) | ((with_reducible refine iteT ?_ ?_); omega) | ((with_reducible refine iteF ?_ ?_); omega) | ((with_reducible refine gdg ?_ ?_); first | omega)))
      rfl
    · rw [leftS_2 h h2] at b ⊢
      have e3 : w32 (d - c (196 + j).toNat) = d - c (196 + j).toNat := w32_id (by omega) (by omega)
      unfold fX12_heardOn
      rw [e1, e2, e3]
      (repeat' (first | (with_reducible refine ltg ?_) | ((with_reducible refine iteT ?_ ?_); omega) | ((with_reducible refine iteF ?_ ?_); omega) | ((with_reducible refine gdg ?_ ?_); first | exact rGone w h0 h8 (by omega) (by omega) | omega) | ((with_reducible apply nng); first | exact rGone w h0 h8 (by omega) (by omega)) | ((with_reducible apply bdg); first | exact rGone w h0 h8 (by omega) (by omega)) | ((with_reducible apply bd2g); first | exact rGone w h0 h8 (by omega) (by omega))))
      rw [w32_id (by omega) (by omega)]
set_option maxHeartbeats 200000 in
theorem rNow {c : Nat → Int} {j : Int} (w : WF c) (h0 : 0 ≤ j) (h8 : j < 8) : fX12_heardNow c j = some (hN c j) := by
  have h := w.day
  exact gdg (by omega) (bdg (rLeft (w.wj h0 h8) h0 h8 h.1 (show c 0 < 1000000 by omega)) rfl)
set_option maxHeartbeats 200000 in
theorem rHead {c : Nat → Int} {j g : Int} (h0 : 0 ≤ j) (h8 : j < 8) (hg : 0 ≤ g) (hg2 : g < 1000) : fX12_headGone c j g = some (headS c j g) := by
  have e1 : w32 (156 + j) = 156 + j := w32_id (by omega) (by omega)
  by_cases h : c (156 + j).toNat = 0
  · rw [headS_0 h]
    unfold fX12_headGone
    rw [e1]
    (repeat' (first | (with_reducible refine ltg ?_) | ((with_reducible refine iteT ?_ ?_); omega) | ((with_reducible refine iteF ?_ ?_); omega) | ((with_reducible refine gdg ?_ ?_); first | omega)))
    rfl
  · by_cases h2 : c (156 + j).toNat = 1
    · rw [headS_1 h2]
      unfold fX12_headGone
      rw [e1]
      (repeat' (first | (with_reducible refine ltg ?_) | ((with_reducible refine iteT ?_ ?_); omega) | ((with_reducible refine iteF ?_ ?_); omega) | ((with_reducible refine gdg ?_ ?_); first | omega)))
      rfl
    · rw [headS_2 h h2]
      unfold fX12_headGone
      rw [e1]
      (repeat' (first | (with_reducible refine ltg ?_) | ((with_reducible refine iteT ?_ ?_); omega) | ((with_reducible refine iteF ?_ ?_); omega) | ((with_reducible refine gdg ?_ ?_); first | omega)))
      rw [w32_id (by omega) (by omega), idv_i (by omega) (by omega) (by omega) (by omega)]
set_option maxHeartbeats 200000 in
theorem rLet {c : Nat → Int} {j k : Int} (w : WF c) (h0 : 0 ≤ j) (h8 : j < 8) (k0 : 0 ≤ k) (k8 : k < hN c j) : fX12_heardLetter c j k = some (hL c j k) := by
  have e1 : w32 (188 + j) = 188 + j := w32_id (by omega) (by omega)
  have e2 : w32 (12 * j) = 12 * j := w32_id (by omega) (by omega)
  have e3 : w32 (212 + 12 * j) = 212 + 12 * j := w32_id (by omega) (by omega)
  have b1 := hN_bd w h0 h8
  have b2 := hP_bd w h0 h8
  have b3 := (w.wj h0 h8).2.2.2.2.2.2.1
  have b4 := (w.wj h0 h8).1
  have e4 : w32 (c (188 + j).toNat - hN c j) = c (188 + j).toNat - hN c j := w32_id (by omega) (by omega)
  have hh : fX12_headGone c j (c (188 + j).toNat - hN c j) = some (hP c j) := rHead h0 h8 (by omega) (by omega)
  have e5 : w32 (212 + 12 * j + hP c j) = 212 + 12 * j + hP c j := w32_id (by omega) (by omega)
  have e6 : w32 (212 + 12 * j + hP c j + k) = 212 + 12 * j + hP c j + k := w32_id (by omega) (by omega)
  unfold fX12_heardLetter
  rw [e1, e2, e3]
  refine gdg (by omega) (bdg (rNow w h0 h8) ?_)
  rw [e4]
  refine bdg hh ?_
  rw [e5, e6]
  refine gdg (by omega) ?_
  unfold hL
  rw [if_pos ⟨k0, k8⟩]
set_option maxHeartbeats 200000 in
theorem rLetO {c : Nat → Int} {j k : Int} (w : WF c) (h0 : 0 ≤ j) (h8 : j < 8) (hk : rg k) : fX12_heardOrRest c j k = some (hL c j k) := by
  have b1 := hN_bd w h0 h8
  have e1 : w32 (hN c j - 1) = hN c j - 1 := w32_id (by omega) (by omega)
  unfold fX12_heardOrRest
  refine bdg (rNow w h0 h8) ?_
  rw [e1]
  by_cases h : 0 ≤ k ∧ k < hN c j
  · refine bdg (rIn1 h.1 (by omega)) (iteF (by omega) (bdg (rLet w h0 h8 h.1 h.2) rfl))
  · refine bdg (rIn0 (by omega)) (iteT rfl ?_)
    rw [hL_o (by omega)]
set_option maxHeartbeats 200000 in
theorem rSnd {c : Nat → Int} {s k : Int} (h0 : 0 ≤ s) (h8 : s < 8) (k0 : 0 ≤ k) (k8 : k < c (4 + s).toNat) (k9 : k < 16) : fX12_soundAt c s k = some (sL c s k) := by
  have e2 : w32 (16 * s) = 16 * s := w32_id (by omega) (by omega)
  have e3 : w32 (12 + 16 * s) = 12 + 16 * s := w32_id (by omega) (by omega)
  have e6 : w32 (12 + 16 * s + k) = 12 + 16 * s + k := w32_id (by omega) (by omega)
  unfold fX12_soundAt sL
  rw [e2, e3, e6, if_pos ⟨k0, k8⟩]
  exact gdg (by omega) rfl
set_option maxHeartbeats 200000 in
theorem rSndO {c : Nat → Int} {s k : Int} (w : WF c) (h0 : 0 ≤ s) (h8 : s < 8) (hk : rg k) : fX12_soundOrRest c s k = some (sL c s k) := by
  have b1 := w.sl h0 h8
  have e0 : w32 (4 + s) = 4 + s := w32_id (by omega) (by omega)
  have e1 : w32 (c (4 + s).toNat - 1) = c (4 + s).toNat - 1 := w32_id (by omega) (by omega)
  unfold fX12_soundOrRest
  rw [e0, e1]
  refine gdg (by omega) ?_
  by_cases h : 0 ≤ k ∧ k < c (4 + s).toNat
  · refine bdg (rIn1 h.1 (by omega)) (iteF (by omega) (bdg (rSnd h0 h8 h.1 h.2 (by omega)) rfl))
  · refine bdg (rIn0 (by omega)) (iteT rfl ?_)
    rw [sL_o (by omega)]
