/-! THE CLASS'S OWN OBJECTS: X + i: kinds, references (written by wip/whole/g35.py) -/
def kT : List (Nat × Nat) := [(11, 0), (27, 4), (10, 0), (22, 60), (10, 0), (22, 60), (10, 0), (22, 60), (10, 0), (22, 60), (9, 0), (20, 900), (8, 0), (21, 8), (21, 8), (21, 8), (21, 8), (7, 0), (26, 8), (24, 8), (6, 0), (21, 16), (0, 0), (6, 0), (21, 16), (0, 0), (6, 0), (21, 16), (0, 0), (6, 0), (21, 16), (0, 0), (6, 0), (21, 16), (0, 0), (6, 0), (21, 16), (0, 0), (6, 0), (21, 16), (0, 0), (6, 0), (21, 16), (0, 0), (2, 0), (7, 0), (26, 8), (24, 8), (6, 0), (21, 16), (0, 0), (6, 0), (21, 16), (0, 0), (6, 0), (21, 16), (0, 0), (6, 0), (21, 16), (0, 0), (6, 0), (21, 16), (0, 0), (6, 0), (21, 16), (0, 0), (6, 0), (21, 16), (0, 0), (6, 0), (21, 16), (0, 0), (1, 0), (21, 12), (21, 12), (21, 12), (25, 3), (3, 0), (3, 0), (3, 0), (26, 8), (6, 0), (21, 0), (6, 0), (21, 0), (6, 0), (21, 0), (6, 0), (21, 0), (6, 0), (21, 0), (6, 0), (21, 0), (6, 0), (21, 0), (6, 0), (21, 0), (6, 0), (21, 0), (6, 0), (21, 31), (21, 27), (21, 8), (21, 8), (4, 0), (26, 6), (21, 36), (21, 384), (23, 384), (21, 384), (21, 384), (6, 0), (21, 72), (5, 0), (21, 8), (21, 2048), (21, 256), (6, 0), (21, 8), (6, 0), (21, 8)]
def rT : List (Nat × Nat × Nat) := [(704, 0, 1), (705, 0, 10), (706, 0, 12), (707, 0, 44), (708, 0, 76), (709, 0, 80), (710, 0, 97), (711, 0, 99), (712, 0, 101), (713, 0, 102), (714, 0, 103), (715, 0, 104), (716, 0, 113), (640, 2, 3), (640, 4, 5), (640, 6, 7), (640, 8, 9), (576, 10, 11), (512, 12, 10), (513, 12, 13), (514, 12, 14), (515, 12, 15), (516, 12, 16), (128, 44, 10), (384, 99, 100), (256, 104, 105), (257, 104, 106), (258, 104, 107), (259, 104, 108), (264, 104, 111), (384, 111, 112), (320, 113, 114), (321, 113, 115), (322, 113, 116), (323, 113, 117), (324, 113, 119), (384, 117, 118), (384, 119, 120)]
def cT : List (Nat × Nat × Nat) := [(1, 0, 2), (1, 1, 4), (1, 2, 6), (1, 3, 8), (76, 0, 77), (76, 1, 78), (76, 2, 79), (80, 0, 81), (80, 1, 83), (80, 2, 85), (80, 3, 87), (80, 4, 89), (80, 5, 91), (80, 6, 93), (80, 7, 95)]
def XS (h : Hp) (X : Nat) : Prop := (∀ i, i < 121 → hK h (X + i) = kT.getD i (99, 0)) ∧ (∀ q ∈ rT, gR h q.1 (X + q.2.1) = some (X + q.2.2)) ∧ (∀ q ∈ cT, gC h (X + q.1) q.2.1 = some (X + q.2.2)) ∧ (gI h 385 (X + 99) = 0 ∧ gI h 385 (X + 111) = 0 ∧ gI h 385 (X + 117) = 0 ∧ gI h 385 (X + 119) = 0)
set_option maxHeartbeats 200000 in
theorem XS.k0 {h : Hp} {X : Nat} (H : XS h X) : hK h X = (11, 0) := H.1 0 (by decide)
set_option maxHeartbeats 200000 in
theorem XS.k1 {h : Hp} {X : Nat} (H : XS h X) : hK h (X + 1) = (27, 4) := H.1 1 (by decide)
set_option maxHeartbeats 200000 in
theorem XS.k2 {h : Hp} {X : Nat} (H : XS h X) : hK h (X + 2) = (10, 0) := H.1 2 (by decide)
set_option maxHeartbeats 200000 in
theorem XS.k3 {h : Hp} {X : Nat} (H : XS h X) : hK h (X + 3) = (22, 60) := H.1 3 (by decide)
set_option maxHeartbeats 200000 in
theorem XS.k4 {h : Hp} {X : Nat} (H : XS h X) : hK h (X + 4) = (10, 0) := H.1 4 (by decide)
set_option maxHeartbeats 200000 in
theorem XS.k5 {h : Hp} {X : Nat} (H : XS h X) : hK h (X + 5) = (22, 60) := H.1 5 (by decide)
set_option maxHeartbeats 200000 in
theorem XS.k6 {h : Hp} {X : Nat} (H : XS h X) : hK h (X + 6) = (10, 0) := H.1 6 (by decide)
set_option maxHeartbeats 200000 in
theorem XS.k7 {h : Hp} {X : Nat} (H : XS h X) : hK h (X + 7) = (22, 60) := H.1 7 (by decide)
set_option maxHeartbeats 200000 in
theorem XS.k8 {h : Hp} {X : Nat} (H : XS h X) : hK h (X + 8) = (10, 0) := H.1 8 (by decide)
set_option maxHeartbeats 200000 in
theorem XS.k9 {h : Hp} {X : Nat} (H : XS h X) : hK h (X + 9) = (22, 60) := H.1 9 (by decide)
set_option maxHeartbeats 200000 in
theorem XS.k10 {h : Hp} {X : Nat} (H : XS h X) : hK h (X + 10) = (9, 0) := H.1 10 (by decide)
set_option maxHeartbeats 200000 in
theorem XS.k11 {h : Hp} {X : Nat} (H : XS h X) : hK h (X + 11) = (20, 900) := H.1 11 (by decide)
set_option maxHeartbeats 200000 in
theorem XS.k12 {h : Hp} {X : Nat} (H : XS h X) : hK h (X + 12) = (8, 0) := H.1 12 (by decide)
set_option maxHeartbeats 200000 in
theorem XS.k13 {h : Hp} {X : Nat} (H : XS h X) : hK h (X + 13) = (21, 8) := H.1 13 (by decide)
set_option maxHeartbeats 200000 in
theorem XS.k14 {h : Hp} {X : Nat} (H : XS h X) : hK h (X + 14) = (21, 8) := H.1 14 (by decide)
set_option maxHeartbeats 200000 in
theorem XS.k15 {h : Hp} {X : Nat} (H : XS h X) : hK h (X + 15) = (21, 8) := H.1 15 (by decide)
set_option maxHeartbeats 200000 in
theorem XS.k16 {h : Hp} {X : Nat} (H : XS h X) : hK h (X + 16) = (21, 8) := H.1 16 (by decide)
set_option maxHeartbeats 200000 in
theorem XS.k44 {h : Hp} {X : Nat} (H : XS h X) : hK h (X + 44) = (2, 0) := H.1 44 (by decide)
set_option maxHeartbeats 200000 in
theorem XS.k76 {h : Hp} {X : Nat} (H : XS h X) : hK h (X + 76) = (25, 3) := H.1 76 (by decide)
set_option maxHeartbeats 200000 in
theorem XS.k77 {h : Hp} {X : Nat} (H : XS h X) : hK h (X + 77) = (3, 0) := H.1 77 (by decide)
set_option maxHeartbeats 200000 in
theorem XS.k78 {h : Hp} {X : Nat} (H : XS h X) : hK h (X + 78) = (3, 0) := H.1 78 (by decide)
set_option maxHeartbeats 200000 in
theorem XS.k79 {h : Hp} {X : Nat} (H : XS h X) : hK h (X + 79) = (3, 0) := H.1 79 (by decide)
set_option maxHeartbeats 200000 in
theorem XS.k80 {h : Hp} {X : Nat} (H : XS h X) : hK h (X + 80) = (26, 8) := H.1 80 (by decide)
set_option maxHeartbeats 200000 in
theorem XS.k97 {h : Hp} {X : Nat} (H : XS h X) : hK h (X + 97) = (6, 0) := H.1 97 (by decide)
set_option maxHeartbeats 200000 in
theorem XS.k98 {h : Hp} {X : Nat} (H : XS h X) : hK h (X + 98) = (21, 0) := H.1 98 (by decide)
set_option maxHeartbeats 200000 in
theorem XS.k99 {h : Hp} {X : Nat} (H : XS h X) : hK h (X + 99) = (6, 0) := H.1 99 (by decide)
set_option maxHeartbeats 200000 in
theorem XS.k100 {h : Hp} {X : Nat} (H : XS h X) : hK h (X + 100) = (21, 31) := H.1 100 (by decide)
set_option maxHeartbeats 200000 in
theorem XS.k101 {h : Hp} {X : Nat} (H : XS h X) : hK h (X + 101) = (21, 27) := H.1 101 (by decide)
set_option maxHeartbeats 200000 in
theorem XS.k102 {h : Hp} {X : Nat} (H : XS h X) : hK h (X + 102) = (21, 8) := H.1 102 (by decide)
set_option maxHeartbeats 200000 in
theorem XS.k103 {h : Hp} {X : Nat} (H : XS h X) : hK h (X + 103) = (21, 8) := H.1 103 (by decide)
set_option maxHeartbeats 200000 in
theorem XS.k104 {h : Hp} {X : Nat} (H : XS h X) : hK h (X + 104) = (4, 0) := H.1 104 (by decide)
set_option maxHeartbeats 200000 in
theorem XS.k105 {h : Hp} {X : Nat} (H : XS h X) : hK h (X + 105) = (26, 6) := H.1 105 (by decide)
set_option maxHeartbeats 200000 in
theorem XS.k106 {h : Hp} {X : Nat} (H : XS h X) : hK h (X + 106) = (21, 36) := H.1 106 (by decide)
set_option maxHeartbeats 200000 in
theorem XS.k107 {h : Hp} {X : Nat} (H : XS h X) : hK h (X + 107) = (21, 384) := H.1 107 (by decide)
set_option maxHeartbeats 200000 in
theorem XS.k108 {h : Hp} {X : Nat} (H : XS h X) : hK h (X + 108) = (23, 384) := H.1 108 (by decide)
set_option maxHeartbeats 200000 in
theorem XS.k109 {h : Hp} {X : Nat} (H : XS h X) : hK h (X + 109) = (21, 384) := H.1 109 (by decide)
set_option maxHeartbeats 200000 in
theorem XS.k110 {h : Hp} {X : Nat} (H : XS h X) : hK h (X + 110) = (21, 384) := H.1 110 (by decide)
set_option maxHeartbeats 200000 in
theorem XS.k111 {h : Hp} {X : Nat} (H : XS h X) : hK h (X + 111) = (6, 0) := H.1 111 (by decide)
set_option maxHeartbeats 200000 in
theorem XS.k112 {h : Hp} {X : Nat} (H : XS h X) : hK h (X + 112) = (21, 72) := H.1 112 (by decide)
set_option maxHeartbeats 200000 in
theorem XS.k113 {h : Hp} {X : Nat} (H : XS h X) : hK h (X + 113) = (5, 0) := H.1 113 (by decide)
set_option maxHeartbeats 200000 in
theorem XS.k114 {h : Hp} {X : Nat} (H : XS h X) : hK h (X + 114) = (21, 8) := H.1 114 (by decide)
set_option maxHeartbeats 200000 in
theorem XS.k115 {h : Hp} {X : Nat} (H : XS h X) : hK h (X + 115) = (21, 2048) := H.1 115 (by decide)
set_option maxHeartbeats 200000 in
theorem XS.k116 {h : Hp} {X : Nat} (H : XS h X) : hK h (X + 116) = (21, 256) := H.1 116 (by decide)
set_option maxHeartbeats 200000 in
theorem XS.k117 {h : Hp} {X : Nat} (H : XS h X) : hK h (X + 117) = (6, 0) := H.1 117 (by decide)
set_option maxHeartbeats 200000 in
theorem XS.k118 {h : Hp} {X : Nat} (H : XS h X) : hK h (X + 118) = (21, 8) := H.1 118 (by decide)
set_option maxHeartbeats 200000 in
theorem XS.k119 {h : Hp} {X : Nat} (H : XS h X) : hK h (X + 119) = (6, 0) := H.1 119 (by decide)
set_option maxHeartbeats 200000 in
theorem XS.k120 {h : Hp} {X : Nat} (H : XS h X) : hK h (X + 120) = (21, 8) := H.1 120 (by decide)
set_option maxHeartbeats 200000 in
theorem XS.r704 {h : Hp} {X : Nat} (H : XS h X) : gR h 704 X = some (X + 1) := H.2.1 (704, 0, 1) (by decide)
set_option maxHeartbeats 200000 in
theorem XS.r705 {h : Hp} {X : Nat} (H : XS h X) : gR h 705 X = some (X + 10) := H.2.1 (705, 0, 10) (by decide)
set_option maxHeartbeats 200000 in
theorem XS.r706 {h : Hp} {X : Nat} (H : XS h X) : gR h 706 X = some (X + 12) := H.2.1 (706, 0, 12) (by decide)
set_option maxHeartbeats 200000 in
theorem XS.r707 {h : Hp} {X : Nat} (H : XS h X) : gR h 707 X = some (X + 44) := H.2.1 (707, 0, 44) (by decide)
set_option maxHeartbeats 200000 in
theorem XS.r708 {h : Hp} {X : Nat} (H : XS h X) : gR h 708 X = some (X + 76) := H.2.1 (708, 0, 76) (by decide)
set_option maxHeartbeats 200000 in
theorem XS.r709 {h : Hp} {X : Nat} (H : XS h X) : gR h 709 X = some (X + 80) := H.2.1 (709, 0, 80) (by decide)
set_option maxHeartbeats 200000 in
theorem XS.r710 {h : Hp} {X : Nat} (H : XS h X) : gR h 710 X = some (X + 97) := H.2.1 (710, 0, 97) (by decide)
set_option maxHeartbeats 200000 in
theorem XS.r711 {h : Hp} {X : Nat} (H : XS h X) : gR h 711 X = some (X + 99) := H.2.1 (711, 0, 99) (by decide)
set_option maxHeartbeats 200000 in
theorem XS.r712 {h : Hp} {X : Nat} (H : XS h X) : gR h 712 X = some (X + 101) := H.2.1 (712, 0, 101) (by decide)
set_option maxHeartbeats 200000 in
theorem XS.r713 {h : Hp} {X : Nat} (H : XS h X) : gR h 713 X = some (X + 102) := H.2.1 (713, 0, 102) (by decide)
set_option maxHeartbeats 200000 in
theorem XS.r714 {h : Hp} {X : Nat} (H : XS h X) : gR h 714 X = some (X + 103) := H.2.1 (714, 0, 103) (by decide)
set_option maxHeartbeats 200000 in
theorem XS.r715 {h : Hp} {X : Nat} (H : XS h X) : gR h 715 X = some (X + 104) := H.2.1 (715, 0, 104) (by decide)
set_option maxHeartbeats 200000 in
theorem XS.r716 {h : Hp} {X : Nat} (H : XS h X) : gR h 716 X = some (X + 113) := H.2.1 (716, 0, 113) (by decide)
set_option maxHeartbeats 200000 in
theorem XS.r640_2 {h : Hp} {X : Nat} (H : XS h X) : gR h 640 (X + 2) = some (X + 3) := H.2.1 (640, 2, 3) (by decide)
set_option maxHeartbeats 200000 in
theorem XS.r640_4 {h : Hp} {X : Nat} (H : XS h X) : gR h 640 (X + 4) = some (X + 5) := H.2.1 (640, 4, 5) (by decide)
set_option maxHeartbeats 200000 in
theorem XS.r640_6 {h : Hp} {X : Nat} (H : XS h X) : gR h 640 (X + 6) = some (X + 7) := H.2.1 (640, 6, 7) (by decide)
set_option maxHeartbeats 200000 in
theorem XS.r640_8 {h : Hp} {X : Nat} (H : XS h X) : gR h 640 (X + 8) = some (X + 9) := H.2.1 (640, 8, 9) (by decide)
set_option maxHeartbeats 200000 in
theorem XS.r576 {h : Hp} {X : Nat} (H : XS h X) : gR h 576 (X + 10) = some (X + 11) := H.2.1 (576, 10, 11) (by decide)
set_option maxHeartbeats 200000 in
theorem XS.r512 {h : Hp} {X : Nat} (H : XS h X) : gR h 512 (X + 12) = some (X + 10) := H.2.1 (512, 12, 10) (by decide)
set_option maxHeartbeats 200000 in
theorem XS.r513 {h : Hp} {X : Nat} (H : XS h X) : gR h 513 (X + 12) = some (X + 13) := H.2.1 (513, 12, 13) (by decide)
set_option maxHeartbeats 200000 in
theorem XS.r514 {h : Hp} {X : Nat} (H : XS h X) : gR h 514 (X + 12) = some (X + 14) := H.2.1 (514, 12, 14) (by decide)
set_option maxHeartbeats 200000 in
theorem XS.r515 {h : Hp} {X : Nat} (H : XS h X) : gR h 515 (X + 12) = some (X + 15) := H.2.1 (515, 12, 15) (by decide)
set_option maxHeartbeats 200000 in
theorem XS.r516 {h : Hp} {X : Nat} (H : XS h X) : gR h 516 (X + 12) = some (X + 16) := H.2.1 (516, 12, 16) (by decide)
set_option maxHeartbeats 200000 in
theorem XS.r128 {h : Hp} {X : Nat} (H : XS h X) : gR h 128 (X + 44) = some (X + 10) := H.2.1 (128, 44, 10) (by decide)
set_option maxHeartbeats 200000 in
theorem XS.r384_99 {h : Hp} {X : Nat} (H : XS h X) : gR h 384 (X + 99) = some (X + 100) := H.2.1 (384, 99, 100) (by decide)
set_option maxHeartbeats 200000 in
theorem XS.r256 {h : Hp} {X : Nat} (H : XS h X) : gR h 256 (X + 104) = some (X + 105) := H.2.1 (256, 104, 105) (by decide)
set_option maxHeartbeats 200000 in
theorem XS.r257 {h : Hp} {X : Nat} (H : XS h X) : gR h 257 (X + 104) = some (X + 106) := H.2.1 (257, 104, 106) (by decide)
set_option maxHeartbeats 200000 in
theorem XS.r258 {h : Hp} {X : Nat} (H : XS h X) : gR h 258 (X + 104) = some (X + 107) := H.2.1 (258, 104, 107) (by decide)
set_option maxHeartbeats 200000 in
theorem XS.r259 {h : Hp} {X : Nat} (H : XS h X) : gR h 259 (X + 104) = some (X + 108) := H.2.1 (259, 104, 108) (by decide)
set_option maxHeartbeats 200000 in
theorem XS.r264 {h : Hp} {X : Nat} (H : XS h X) : gR h 264 (X + 104) = some (X + 111) := H.2.1 (264, 104, 111) (by decide)
set_option maxHeartbeats 200000 in
theorem XS.r384_111 {h : Hp} {X : Nat} (H : XS h X) : gR h 384 (X + 111) = some (X + 112) := H.2.1 (384, 111, 112) (by decide)
set_option maxHeartbeats 200000 in
theorem XS.r320 {h : Hp} {X : Nat} (H : XS h X) : gR h 320 (X + 113) = some (X + 114) := H.2.1 (320, 113, 114) (by decide)
set_option maxHeartbeats 200000 in
theorem XS.r321 {h : Hp} {X : Nat} (H : XS h X) : gR h 321 (X + 113) = some (X + 115) := H.2.1 (321, 113, 115) (by decide)
set_option maxHeartbeats 200000 in
theorem XS.r322 {h : Hp} {X : Nat} (H : XS h X) : gR h 322 (X + 113) = some (X + 116) := H.2.1 (322, 113, 116) (by decide)
set_option maxHeartbeats 200000 in
theorem XS.r323 {h : Hp} {X : Nat} (H : XS h X) : gR h 323 (X + 113) = some (X + 117) := H.2.1 (323, 113, 117) (by decide)
set_option maxHeartbeats 200000 in
theorem XS.r324 {h : Hp} {X : Nat} (H : XS h X) : gR h 324 (X + 113) = some (X + 119) := H.2.1 (324, 113, 119) (by decide)
set_option maxHeartbeats 200000 in
theorem XS.r384_117 {h : Hp} {X : Nat} (H : XS h X) : gR h 384 (X + 117) = some (X + 118) := H.2.1 (384, 117, 118) (by decide)
set_option maxHeartbeats 200000 in
theorem XS.r384_119 {h : Hp} {X : Nat} (H : XS h X) : gR h 384 (X + 119) = some (X + 120) := H.2.1 (384, 119, 120) (by decide)
set_option maxHeartbeats 200000 in
theorem XS.cTray {h : Hp} {X : Nat} (H : XS h X) {t : Nat} (ht : t < 4) : gC h (X + 1) t = some (X + 2 + 2 * t) := by
  have : t = 0 ∨ t = 1 ∨ t = 2 ∨ t = 3 := by omega
  rcases this with rfl | rfl | rfl | rfl
  · exact H.2.2.1 (1, 0, 2) (by decide)
  · exact H.2.2.1 (1, 1, 4) (by decide)
  · exact H.2.2.1 (1, 2, 6) (by decide)
  · exact H.2.2.1 (1, 3, 8) (by decide)
set_option maxHeartbeats 200000 in
theorem XS.kTray {h : Hp} {X : Nat} (H : XS h X) {t : Nat} (ht : t < 4) : hK h (X + 2 + 2 * t) = (10, 0) ∧ hK h (X + 3 + 2 * t) = (22, 60) ∧ gR h 640 (X + 2 + 2 * t) = some (X + 3 + 2 * t) := by
  have : t = 0 ∨ t = 1 ∨ t = 2 ∨ t = 3 := by omega
  rcases this with rfl | rfl | rfl | rfl
  · exact ⟨H.k2, H.k3, H.r640_2⟩
  · exact ⟨H.k4, H.k5, H.r640_4⟩
  · exact ⟨H.k6, H.k7, H.r640_6⟩
  · exact ⟨H.k8, H.k9, H.r640_8⟩
set_option maxHeartbeats 200000 in
theorem XS.cMark {h : Hp} {X : Nat} (H : XS h X) {t : Nat} (ht : t < 3) : gC h (X + 76) t = some (X + 77 + t) ∧ hK h (X + 77 + t) = (3, 0) := by
  have : t = 0 ∨ t = 1 ∨ t = 2 := by omega
  rcases this with rfl | rfl | rfl
  · exact ⟨H.2.2.1 (76, 0, 77) (by decide), H.k77⟩
  · exact ⟨H.2.2.1 (76, 1, 78) (by decide), H.k78⟩
  · exact ⟨H.2.2.1 (76, 2, 79) (by decide), H.k79⟩
set_option maxHeartbeats 200000 in
theorem XS.cView {h : Hp} {X : Nat} (H : XS h X) {t : Nat} (ht : t < 8) : gC h (X + 80) t = some (X + 81 + 2 * t) ∧ hK h (X + 81 + 2 * t) = (6, 0) := by
  have : t = 0 ∨ t = 1 ∨ t = 2 ∨ t = 3 ∨ t = 4 ∨ t = 5 ∨ t = 6 ∨ t = 7 := by omega
  rcases this with rfl | rfl | rfl | rfl | rfl | rfl | rfl | rfl
  · exact ⟨H.2.2.1 (80, 0, 81) (by decide), H.1 81 (by decide)⟩
  · exact ⟨H.2.2.1 (80, 1, 83) (by decide), H.1 83 (by decide)⟩
  · exact ⟨H.2.2.1 (80, 2, 85) (by decide), H.1 85 (by decide)⟩
  · exact ⟨H.2.2.1 (80, 3, 87) (by decide), H.1 87 (by decide)⟩
  · exact ⟨H.2.2.1 (80, 4, 89) (by decide), H.1 89 (by decide)⟩
  · exact ⟨H.2.2.1 (80, 5, 91) (by decide), H.1 91 (by decide)⟩
  · exact ⟨H.2.2.1 (80, 6, 93) (by decide), H.1 93 (by decide)⟩
  · exact ⟨H.2.2.1 (80, 7, 95) (by decide), H.1 95 (by decide)⟩
/-! FRAMES: only cells of W have changed -/
def On (W : Nat → Prop) (h h' : Hp) : Prop := hZ h' = hZ h ∧ hK h' = hK h ∧ ∀ a, ¬ W a → (∀ f, gI h' f a = gI h f a ∧ gJ h' f a = gJ h f a ∧ gR h' f a = gR h f a) ∧ (∀ i, gA h' a i = gA h a i ∧ gB h' a i = gB h a i ∧ gC h' a i = gC h a i)
set_option maxHeartbeats 200000 in
theorem On.rf {W : Nat → Prop} (h : Hp) : On W h h := ⟨rfl, rfl, fun _ _ => ⟨fun _ => ⟨rfl, rfl, rfl⟩, fun _ => ⟨rfl, rfl, rfl⟩⟩⟩
set_option maxHeartbeats 200000 in
theorem On.tr {W : Nat → Prop} {h h1 h2 : Hp} (p : On W h h1) (q : On W h1 h2) : On W h h2 :=
  ⟨q.1.trans p.1, q.2.1.trans p.2.1, fun a w => ⟨fun f => ⟨((q.2.2 a w).1 f).1.trans ((p.2.2 a w).1 f).1, ((q.2.2 a w).1 f).2.1.trans ((p.2.2 a w).1 f).2.1, ((q.2.2 a w).1 f).2.2.trans ((p.2.2 a w).1 f).2.2⟩, fun i => ⟨((q.2.2 a w).2 i).1.trans ((p.2.2 a w).2 i).1, ((q.2.2 a w).2 i).2.1.trans ((p.2.2 a w).2 i).2.1, ((q.2.2 a w).2 i).2.2.trans ((p.2.2 a w).2 i).2.2⟩⟩⟩
set_option maxHeartbeats 200000 in
theorem On.mono {W V : Nat → Prop} {h h' : Hp} (p : On W h h') (m : ∀ a, W a → V a) : On V h h' := ⟨p.1, p.2.1, fun a w => p.2.2 a (fun z => w (m a z))⟩
set_option maxHeartbeats 200000 in
theorem On.z {W : Nat → Prop} {h h' : Hp} (p : On W h h') : hZ h' = hZ h := p.1
set_option maxHeartbeats 200000 in
theorem On.k {W : Nat → Prop} {h h' : Hp} (p : On W h h') : hK h' = hK h := p.2.1
set_option maxHeartbeats 200000 in
theorem On.ka {W : Nat → Prop} {h h' : Hp} (p : On W h h') {a : Nat} {v : Nat × Nat} (e : hK h a = v) : hK h' a = v := by rw [p.2.1]; exact e
set_option maxHeartbeats 200000 in
theorem On.i {W : Nat → Prop} {h h' : Hp} (p : On W h h') {f a : Nat} (w : ¬ W a) : gI h' f a = gI h f a := ((p.2.2 a w).1 f).1
set_option maxHeartbeats 200000 in
theorem On.j {W : Nat → Prop} {h h' : Hp} (p : On W h h') {f a : Nat} (w : ¬ W a) : gJ h' f a = gJ h f a := ((p.2.2 a w).1 f).2.1
set_option maxHeartbeats 200000 in
theorem On.r {W : Nat → Prop} {h h' : Hp} (p : On W h h') {f a : Nat} (w : ¬ W a) : gR h' f a = gR h f a := ((p.2.2 a w).1 f).2.2
set_option maxHeartbeats 200000 in
theorem On.a {W : Nat → Prop} {h h' : Hp} (p : On W h h') {a i : Nat} (w : ¬ W a) : gA h' a i = gA h a i := ((p.2.2 a w).2 i).1
set_option maxHeartbeats 200000 in
theorem On.b {W : Nat → Prop} {h h' : Hp} (p : On W h h') {a i : Nat} (w : ¬ W a) : gB h' a i = gB h a i := ((p.2.2 a w).2 i).2.1
set_option maxHeartbeats 200000 in
theorem On.c {W : Nat → Prop} {h h' : Hp} (p : On W h h') {a i : Nat} (w : ¬ W a) : gC h' a i = gC h a i := ((p.2.2 a w).2 i).2.2
set_option maxHeartbeats 200000 in
theorem On.af {W : Nat → Prop} {h h' : Hp} (p : On W h h') {a : Nat} (w : ¬ W a) : gA h' a = gA h a := funext fun _ => p.a w
set_option maxHeartbeats 200000 in
theorem on_pI {W : Nat → Prop} (h : Hp) {f a : Nat} {v : Int} (w : W a) : On W h (pI h f a v) :=
  ⟨rfl, rfl, fun b hb => ⟨fun f' => ⟨by rw [gI_pI, if_neg (fun (e : _ ∧ b = a) => hb (e.2 ▸ w))], rfl, rfl⟩, fun _ => ⟨rfl, rfl, rfl⟩⟩⟩
set_option maxHeartbeats 200000 in
theorem on_pJ {W : Nat → Prop} (h : Hp) {f a : Nat} {v : Int} (w : W a) : On W h (pJ h f a v) :=
  ⟨rfl, rfl, fun b hb => ⟨fun f' => ⟨rfl, by rw [gJ_pJ, if_neg (fun (e : _ ∧ b = a) => hb (e.2 ▸ w))], rfl⟩, fun _ => ⟨rfl, rfl, rfl⟩⟩⟩
set_option maxHeartbeats 200000 in
theorem on_pR {W : Nat → Prop} (h : Hp) {f a v : Nat} (w : W a) : On W h (pR h f a v) :=
  ⟨rfl, rfl, fun b hb => ⟨fun f' => ⟨rfl, rfl, by rw [gR_pR, if_neg (fun (e : _ ∧ b = a) => hb (e.2 ▸ w))]⟩, fun _ => ⟨rfl, rfl, rfl⟩⟩⟩
set_option maxHeartbeats 200000 in
theorem on_sA {W : Nat → Prop} (h : Hp) {a : Nat} {i v : Int} (w : W a) : On W h (sA h a i v) :=
  ⟨rfl, rfl, fun b hb => ⟨fun _ => ⟨rfl, rfl, rfl⟩, fun j => ⟨by rw [gA_sA, if_neg (fun (e : b = a ∧ _) => hb (e.1 ▸ w))], rfl, rfl⟩⟩⟩
set_option maxHeartbeats 200000 in
theorem on_sB {W : Nat → Prop} (h : Hp) {a : Nat} {i v : Int} (w : W a) : On W h (sB h a i v) :=
  ⟨rfl, rfl, fun b hb => ⟨fun _ => ⟨rfl, rfl, rfl⟩, fun j => ⟨rfl, by rw [gB_sB, if_neg (fun (e : b = a ∧ _) => hb (e.1 ▸ w))], rfl⟩⟩⟩
set_option maxHeartbeats 200000 in
theorem on_sC {W : Nat → Prop} (h : Hp) {a v : Nat} {i : Int} (w : W a) : On W h (sC h a i v) :=
  ⟨rfl, rfl, fun b hb => ⟨fun _ => ⟨rfl, rfl, rfl⟩, fun j => ⟨rfl, rfl, by rw [gC_sC, if_neg (fun (e : b = a ∧ _) => hb (e.1 ▸ w))]⟩⟩⟩
/-! a row with its array told -/
def RVa (h : Hp) (a q : Nat) (n : Int) (L : Int → Int) : Prop :=
  (hK h a).1 = 6 ∧ gI h 386 a = n ∧ 0 ≤ n ∧ n ≤ 1000 ∧ (∀ k : Int, (k < 0 ∨ n ≤ k) → L k = 0) ∧
  gR h 384 a = some q ∧ (hK h q).1 = 21 ∧ 0 ≤ gI h 385 a ∧ gI h 385 a + n ≤ ((hK h q).2 : Int) ∧ ((hK h q).2 : Int) < 100000 ∧ ∀ k : Int, 0 ≤ k → k < n → gA h q (gI h 385 a + k).toNat = L k
set_option maxHeartbeats 200000 in
theorem RVa.v {h : Hp} {a q : Nat} {n : Int} {L : Int → Int} (r : RVa h a q n L) : RV h a n L := ⟨r.1, r.2.1, r.2.2.1, r.2.2.2.1, r.2.2.2.2.1, q, r.2.2.2.2.2⟩
set_option maxHeartbeats 200000 in
theorem RVa.on {W : Nat → Prop} {h h' : Hp} {a q : Nat} {n : Int} {L : Int → Int} (r : RVa h a q n L) (p : On W h h') (wa : ¬ W a) (wq : ¬ W q) : RVa h' a q n L := by
  obtain ⟨r1, r2, r3, r4, r5, r6, r7, r8, r9, r10, r11⟩ := r
  unfold RVa
  rw [p.k, p.i wa, p.i wa, p.r wa]
  exact ⟨r1, r2, r3, r4, r5, r6, r7, r8, r9, r10, fun k k0 k8 => by rw [p.a wq]; exact r11 k k0 k8⟩
/-! JARS and SHOPS of the class, told by a block of the reference -/
def JV (h : Hp) (a : Nat) (c : Nat → Int) (j : Int) : Prop :=
  gI h 0 a = c (140 + j).toNat ∧ gI h 1 a = c (148 + j).toNat ∧ gI h 2 a = c (156 + j).toNat ∧ gI h 3 a = c (164 + j).toNat ∧ gI h 4 a = c (172 + j).toNat ∧ gI h 5 a = c (180 + j).toNat ∧
  gI h 6 a = c (188 + j).toNat ∧ gI h 7 a = c (196 + j).toNat ∧ gI h 8 a = c (204 + j).toNat ∧ 0 ≤ gI h 9 a ∧ gI h 9 a + c (188 + j).toNat ≤ c (4 + c (204 + j).toNat).toNat ∧
  ∀ k : Int, 0 ≤ k → k < c (188 + j).toNat → sL c (c (204 + j).toNat) (gI h 9 a + k) = c (212 + 12 * j + k).toNat
set_option maxHeartbeats 200000 in
theorem JV.on {W : Nat → Prop} {h h' : Hp} {a : Nat} {c : Nat → Int} {j : Int} (v : JV h a c j) (p : On W h h') (w : ¬ W a) : JV h' a c j := by
  unfold JV
  rw [p.i w, p.i w, p.i w, p.i w, p.i w, p.i w, p.i w, p.i w, p.i w, p.i w]
  exact v
def SV (h : Hp) (S : Nat) (c : Nat → Int) : Prop :=
  hK h S = (7, 0) ∧ gR h 448 S = some (S + 1) ∧ gR h 449 S = some (S + 2) ∧ hK h (S + 1) = (26, 8) ∧ hK h (S + 2) = (24, 8) ∧ gI h 450 S = c 1 ∧ gI h 451 S = c 2 ∧
  (∀ s : Int, 0 ≤ s → s < 8 → gC h (S + 1) s.toNat = some (S + 3 + 3 * s.toNat) ∧ RVa h (S + 3 + 3 * s.toNat) (S + 4 + 3 * s.toNat) (c (4 + s).toNat) (sL c s) ∧ hK h (S + 4 + 3 * s.toNat) = (21, 16) ∧ gI h 385 (S + 3 + 3 * s.toNat) = 0) ∧
  (∀ j : Int, 0 ≤ j → j < 8 → gC h (S + 2) j.toNat = some (S + 5 + 3 * j.toNat) ∧ hK h (S + 5 + 3 * j.toNat) = (0, 0)) ∧
  (∀ j : Int, 0 ≤ j → j < c 2 → JV h (S + 5 + 3 * j.toNat) c j)
set_option maxHeartbeats 200000 in
theorem SV.on {W : Nat → Prop} {h h' : Hp} {S : Nat} {c : Nat → Int} (v : SV h S c) (p : On W h h') (w : ∀ a, S ≤ a → a < S + 27 → ¬ W a) (w2 : c 2 ≤ 8) : SV h' S c := by
  obtain ⟨v1, v2, v3, v4, v5, v6, v7, v8, v9, v10⟩ := v
  have w0 := w S (by omega) (by omega)
  refine ⟨p.ka v1, by rw [p.r w0]; exact v2, by rw [p.r w0]; exact v3, p.ka v4, p.ka v5, by rw [p.i w0]; exact v6, by rw [p.i w0]; exact v7, fun s s0 s8 => ?_, fun j j0 j8 => ?_, fun j j0 j8 => ?_⟩
  · obtain ⟨q1, q2, q3, q4⟩ := v8 s s0 s8
    exact ⟨by rw [p.c (w _ (by omega) (by omega))]; exact q1, q2.on p (w _ (by omega) (by omega)) (w _ (by omega) (by omega)), p.ka q3, by rw [p.i (w _ (by omega) (by omega))]; exact q4⟩
  · obtain ⟨q1, q2⟩ := v9 j j0 j8
    exact ⟨by rw [p.c (w _ (by omega) (by omega))]; exact q1, p.ka q2⟩
  · exact (v10 j j0 j8).on p (w _ (by omega) (by omega))
/-- the law -/
def LV (h : Hp) (R : Nat) (c : Nat → Int) : Prop :=
  hK h R = (1, 0) ∧ gR h 64 R = some (R + 1) ∧ gR h 65 R = some (R + 2) ∧ gR h 66 R = some (R + 3) ∧ hK h (R + 1) = (21, 12) ∧ hK h (R + 2) = (21, 12) ∧ hK h (R + 3) = (21, 12) ∧ gI h 67 R = c 3 ∧
  (∀ k : Int, 0 ≤ k → k < c 3 → gA h (R + 1) k.toNat = c (308 + 3 * k).toNat ∧ gA h (R + 2) k.toNat = c (308 + 3 * k + 1).toNat ∧ gA h (R + 3) k.toNat = c (308 + 3 * k + 2).toNat)
set_option maxHeartbeats 200000 in
theorem LV.on {W : Nat → Prop} {h h' : Hp} {R : Nat} {c : Nat → Int} (v : LV h R c) (p : On W h h') (w : ∀ a, R ≤ a → a < R + 4 → ¬ W a) : LV h' R c := by
  obtain ⟨v1, v2, v3, v4, v5, v6, v7, v8, v9⟩ := v
  have w0 := w R (by omega) (by omega)
  have w1 := w (R + 1) (by omega) (by omega)
  have w2 := w (R + 2) (by omega) (by omega)
  have w3 := w (R + 3) (by omega) (by omega)
  refine ⟨p.ka v1, by rw [p.r w0]; exact v2, by rw [p.r w0]; exact v3, by rw [p.r w0]; exact v4, p.ka v5, p.ka v6, p.ka v7, by rw [p.i w0]; exact v8, fun k k0 k8 => ?_⟩
  rw [p.a w1, p.a w2, p.a w3]
  exact v9 k k0 k8
/-! JAR's own methods -/
set_option maxHeartbeats 200000 in
theorem xGon0 {h : Hp} {a : Nat} {c : Nat → Int} {j d : Int} (k : (hK h a).1 = 0) (v : JV h a c j) (q : c (148 + j).toNat = 0) : fX0_goneAfter h a d = some 0 := by
  unfold fX0_goneAfter
  rw [v.2.1]
  exact gdg k (iteT q rfl)
set_option maxHeartbeats 200000 in
theorem xGon1 {h : Hp} {a : Nat} {c : Nat → Int} {j d : Int} (k : (hK h a).1 = 0) (v : JV h a c j) (w : WJ c j) (hd : 0 ≤ d) (hd2 : d < 1000000) (q : ¬ c (148 + j).toNat = 0) : fX0_goneAfter h a d = some (d / c (148 + j).toNat) := by
  unfold fX0_goneAfter
  rw [v.2.1]
  have h2 := w.2.1
  refine gdg k (iteF q (gdg q ?_))
  rw [idv_i hd (by omega) (by omega) (by omega)]
/-- LOST by a day -/
def lostS (c : Nat → Int) (j d : Int) : Int := if d < c (196 + j).toNat then 0 else goneS c j (c (188 + j).toNat) (d - c (196 + j).toNat)
set_option maxHeartbeats 200000 in
theorem lostS_0 {c : Nat → Int} {j d : Int} (q : d < c (196 + j).toNat) : lostS c j d = 0 := by unfold lostS; rw [if_pos q]
set_option maxHeartbeats 200000 in
theorem lostS_1 {c : Nat → Int} {j d : Int} (q : ¬ d < c (196 + j).toNat) : lostS c j d = goneS c j (c (188 + j).toNat) (d - c (196 + j).toNat) := by unfold lostS; rw [if_neg q]
set_option maxHeartbeats 200000 in
theorem lostS_bd {c : Nat → Int} {j d : Int} (w : WJ c j) : 0 ≤ lostS c j d ∧ lostS c j d ≤ c (188 + j).toNat := by
  have h6 := w.2.2.2.2.2.2.1
  unfold lostS
  split
  · omega
  · exact goneS_bd w (by omega) (by omega)
set_option maxHeartbeats 200000 in
theorem left_lost {c : Nat → Int} {j d : Int} (w : WJ c j) : leftS c j d = if d < c (196 + j).toNat then 0 else c (188 + j).toNat - lostS c j d := by
  have h6 := w.2.2.2.2.2.2.1
  by_cases q : d < c (196 + j).toNat
  · rw [if_pos q, leftS_1 q]
  · rw [if_neg q, lostS_1 q]
    have h1 := goneS_bd (c := c) (j := j) (m := c (188 + j).toNat) (d := d - c (196 + j).toNat) w (by omega) (by omega)
    by_cases q2 : c (188 + j).toNat = 0
    · rw [leftS_0 q2]; omega
    · rw [leftS_2 q2 q]
set_option maxHeartbeats 200000 in
theorem xLos {h : Hp} {a : Nat} {c : Nat → Int} {j d : Int} (k : (hK h a).1 = 0) (v : JV h a c j) (w : WJ c j) (hd : 0 ≤ d) (hd2 : d < 1000000) : fX0_lostBy h a d = some (lostS c j d) := by
  have h7 := w.2.2.2.2.2.2.2.1
  have h6 := w.2.2.2.2.2.2.1
  by_cases q : d < c (196 + j).toNat
  · rw [lostS_0 q]
    unfold fX0_lostBy
    rw [v.2.2.2.2.2.2.1, v.2.2.2.2.2.2.2.1]
    exact gdg k (iteT q rfl)
  · rw [lostS_1 q]
    unfold fX0_lostBy
    rw [v.2.2.2.2.2.2.1, v.2.2.2.2.2.2.2.1, w32_id (x := d - c (196 + j).toNat) (by omega) (by omega)]
    refine gdg k (iteF q ?_)
    by_cases q2 : c (148 + j).toNat = 0
    · rw [goneS_0 q2]
      refine bdg (xGon0 k v q2) ?_
      rw [show min (c (188 + j).toNat) 0 = 0 by omega]
    · rw [goneS_1 q2]
      exact bdg (xGon1 k v w (by omega) (by omega) q2) rfl
set_option maxHeartbeats 200000 in
theorem xLef {h : Hp} {a : Nat} {c : Nat → Int} {j d : Int} (k : (hK h a).1 = 0) (v : JV h a c j) (w : WJ c j) (hd : 0 ≤ d) (hd2 : d < 1000000) : fX0_leftOn h a d = some (leftS c j d) := by
  have h7 := w.2.2.2.2.2.2.2.1
  have h6 := w.2.2.2.2.2.2.1
  have h5 := w.1
  have h1 := lostS_bd (d := d) w
  have el := left_lost (d := d) w
  by_cases q : d < c (196 + j).toNat
  · rw [leftS_1 q]
    unfold fX0_leftOn
    rw [v.2.2.2.2.2.2.1, v.2.2.2.2.2.2.2.1]
    exact gdg k (iteT q rfl)
  · rw [if_neg q] at el
    rw [el]
    unfold fX0_leftOn
    rw [v.2.2.2.2.2.2.1, v.2.2.2.2.2.2.2.1]
    refine gdg k (iteF q (bdg (xLos k v w hd hd2) ?_))
    rw [w32_id (by omega) (by omega)]
set_option maxHeartbeats 200000 in
theorem xHea {h : Hp} {a : Nat} {c : Nat → Int} {j g : Int} (k : (hK h a).1 = 0) (v : JV h a c j) (hg : 0 ≤ g) (hg2 : g < 1000000) : fX0_fromHead h a g = some (headS c j g) := by
  by_cases q : c (156 + j).toNat = 0
  · rw [headS_0 q]
    unfold fX0_fromHead
    rw [v.2.2.1]
    exact gdg k (iteT q rfl)
  · by_cases q2 : c (156 + j).toNat = 1
    · rw [headS_1 q2]
      unfold fX0_fromHead
      rw [v.2.2.1]
      exact gdg k (iteF q (iteT q2 rfl))
    · rw [headS_2 q q2]
      unfold fX0_fromHead
      rw [v.2.2.1]
      refine gdg k (iteF q (iteF q2 ?_))
      rw [w32_id (by omega) (by omega), idv_i (by omega) (by omega) (by omega) (by omega)]
/-! showing a part of a row -/
set_option maxHeartbeats 200000 in
theorem xShow {h : Hp} {a q : Nat} {st n N : Int} (k : (hK h a).1 = 6) (kq : (hK h q).1 = 21) (kn : ((hK h q).2 : Int) = N) (s0 : 0 ≤ st) (n0 : 0 ≤ n) (hN : st + n ≤ N) (hN2 : N < 100000) :
    fX6_show h a q st n = some (pI (pI (pR h 384 a q) 385 a st) 386 a n) := by
  unfold fX6_show
  refine iteF (by omega) (iteF (by omega) (gdg kq (gdg (by omega) (iteT (by rw [w32_id (by omega) (by omega)]; omega) ?_))))
  rw [fX6_show_b21]
  refine gdg k (ltg (iteF (by omega) ?_))
  rw [fX6_show_b39]
  exact gdg k (ltg (iteF (by omega) (gdg k (ltg rfl))))
set_option maxHeartbeats 200000 in
theorem rva_show {h : Hp} {a q : Nat} {st n N : Int} {L : Int → Int} (k : (hK h a).1 = 6) (kq : (hK h q).1 = 21) (kn : ((hK h q).2 : Int) = N) (s0 : 0 ≤ st) (n0 : 0 ≤ n) (n8 : n ≤ 1000) (hN : st + n ≤ N) (hN2 : N < 100000)
    (o : ∀ k : Int, (k < 0 ∨ n ≤ k) → L k = 0) (e : ∀ k : Int, 0 ≤ k → k < n → gA h q (st + k).toNat = L k) : RVa (pI (pI (pR h 384 a q) 385 a st) 386 a n) a q n L := by
  have e1 : gI (pI (pI (pR h 384 a q) 385 a st) 386 a n) 386 a = n := gI_pIs (show rg n by unfold rg; omega)
  have e2 : gI (pI (pI (pR h 384 a q) 385 a st) 386 a n) 385 a = st := by
    rw [gI_pI, if_neg (by omega)]
    exact gI_pIs (show rg st by unfold rg; omega)
  have e3 : gR (pI (pI (pR h 384 a q) 385 a st) 386 a n) 384 a = some q := by
    show gR (pR h 384 a q) 384 a = some q
    rw [gR_pR, if_pos ⟨rfl, rfl⟩]
  unfold RVa
  rw [e1, e2, e3]
  exact ⟨k, rfl, n0, n8, o, rfl, kq, s0, by show st + n ≤ ((hK h q).2 : Int); omega, by show ((hK h q).2 : Int) < 100000; omega, e⟩
set_option maxHeartbeats 200000 in
theorem on_show {W : Nat → Prop} (h : Hp) {a q : Nat} {st n : Int} (w : W a) : On W h (pI (pI (pR h 384 a q) 385 a st) 386 a n) := ((on_pR h w).tr (on_pI _ w)).tr (on_pI _ w)
set_option maxHeartbeats 200000 in
/-- LISTEN: a view shows what is HEARD of jar j -/
theorem xLis {h : Hp} {S a : Nat} {c : Nat → Int} {j : Int} (v : SV h S c) (w : WF c) (ka : (hK h a).1 = 6) (j0 : 0 ≤ j) (j8 : j < c 2) :
    ∃ h', fX7_listen h S a (S + 5 + 3 * j.toNat) (c 0) = some h' ∧ On (fun b => b = a) h h' ∧ RVa h' a (S + 4 + 3 * (c (204 + j).toNat).toNat) (hN c j) (hL c j) := by
  have hj := w.nj
  have wj := w.wj (j := j) j0 (by omega)
  obtain ⟨v1, v2, v3, v4, v5, v6, v7, v8, v9, v10⟩ := v
  obtain ⟨c1, c2⟩ := v9 j j0 (by omega)
  have jv := v10 j j0 j8
  have hd := w.day
  have hs := wj.2.2.2.2.2.2.2.2
  have hf := wj.2.2.2.2.2.2.1
  have hz := wj.1
  obtain ⟨s1, s2, s3, s4⟩ := v8 (c (204 + j).toNat) hs.1 hs.2
  have hsl := w.sl hs.1 hs.2
  have kj : (hK h (S + 5 + 3 * j.toNat)).1 = 0 := by rw [c2]
  have bl := lostS_bd (d := c 0) wj
  have bh := headS_bd (g := lostS c j (c 0)) wj bl.1
  have bn := hN_bd w j0 (show j < 8 by omega)
  have bp := hP_bd w j0 (show j < 8 by omega)
  have f1 := jv.2.2.2.2.2.2.2.2.2.1
  have f2 := jv.2.2.2.2.2.2.2.2.2.2.1
  have f3 := jv.2.2.2.2.2.2.2.2.2.2.2
  have el : hN c j = if c 0 < c (196 + j).toNat then 0 else c (188 + j).toNat - lostS c j (c 0) := left_lost wj
  have bx : headS c j (lostS c j (c 0)) + hN c j ≤ c (188 + j).toNat := by
    by_cases q : c 0 < c (196 + j).toNat
    · rw [if_pos q] at el; omega
    · rw [if_neg q] at el; omega
  have ehp : 0 < hN c j → headS c j (lostS c j (c 0)) = hP c j := by
    intro q0
    by_cases q : c 0 < c (196 + j).toNat
    · rw [if_pos q] at el; omega
    · rw [if_neg q] at el
      unfold hP
      rw [show c (188 + j).toNat - hN c j = lostS c j (c 0) by omega]
  have ks : (hK h (S + 3 + 3 * (c (204 + j).toNat).toNat)).1 = 6 := s2.1
  have ea : w32 (0 + gI h 9 (S + 5 + 3 * j.toNat)) = gI h 9 (S + 5 + 3 * j.toNat) := by rw [w32_id (by omega) (by omega)]; omega
  have eb : WE (gI h 9 (S + 5 + 3 * j.toNat) + headS c j (lostS c j (c 0))) := we (by omega) (by omega)
  have kq : (hK h (S + 4 + 3 * (c (204 + j).toNat).toNat)).1 = 21 := by rw [s3]
  have kn : ((hK h (S + 4 + 3 * (c (204 + j).toNat).toNat)).2 : Int) = 16 := by rw [s3]; rfl
  refine ⟨_, ?_, on_show h rfl, rva_show ka kq kn (st := gI h 9 (S + 5 + 3 * j.toNat) + headS c j (lostS c j (c 0))) (by omega) bn.1 (by omega) (by omega) (by omega) (fun k hk => hL_o (by omega)) ?_⟩
  · unfold fX7_listen
    rw [jv.2.2.2.2.2.2.2.2.1]
    refine gdg (by rw [v1]) (nng v2 (gdg kj (gdg (by rw [v4]) (gdg (by rw [v4]; show 0 ≤ _ ∧ _ < (8 : Int); omega) (nng s1 (bdg (xLos kj jv wj hd.1 (by omega)) (bdg (xHea kj jv bl.1 (by omega)) (gdg ks (nng s2.2.2.2.2.2.1 (bdg (xLef kj jv wj hd.1 (by omega)) (gdg ka ?_)))))))))))
    rw [s4, ea, eb.e]
    exact bdg (xShow ka kq kn (by omega) bn.1 (by unfold hN at *; omega) (by omega)) rfl
  · intro k k0 k8
    have e9 := s2.2.2.2.2.2.2.2.2.2.2 (gI h 9 (S + 5 + 3 * j.toNat) + headS c j (lostS c j (c 0)) + k) (by omega) (by omega)
    rw [s4, Int.zero_add] at e9
    rw [e9, ehp (by omega)]
    have e10 := f3 (hP c j + k) (by omega) (by omega)
    rw [← Int.add_assoc] at e10
    rw [e10]
    unfold hL
    rw [if_pos ⟨k0, k8⟩, ← Int.add_assoc]
set_option maxHeartbeats 200000 in
/-- HEAR -/
theorem xHear {h : Hp} {X S : Nat} {c : Nat → Int} {j : Int} (H : XS h X) (hS : gR h 717 X = some S) (hd : gI h 719 X = c 0) (v : SV h S c) (w : WF c) (j0 : 0 ≤ j) (j8 : j < c 2) :
    ∃ h', fX11_hear h X j = some (X + 81 + 2 * j.toNat, h') ∧ On (fun b => b = X + 81 + 2 * j.toNat) h h' ∧ RVa h' (X + 81 + 2 * j.toNat) (S + 4 + 3 * (c (204 + j).toNat).toNat) (hN c j) (hL c j) := by
  have hj := w.nj
  obtain ⟨v1, v2, v3, v4, v5, v6, v7, v8, v9, v10⟩ := id v
  obtain ⟨c1, c2⟩ := v9 j j0 (by omega)
  obtain ⟨d1, d2⟩ := H.cView (t := j.toNat) (by omega)
  have k6 : (hK h (X + 81 + 2 * j.toNat)).1 = 6 := by rw [d2]
  obtain ⟨h', e1, e2, e3⟩ := xLis v w k6 j0 j8
  refine ⟨h', ?_, e2, e3⟩
  unfold fX11_hear
  have k80 : hK h' (X + 80) = (26, 8) := e2.ka H.k80
  refine gdg (by rw [H.k0]) (nng hS (nng H.r709 (gdg (by rw [H.k80]) (gdg (by rw [H.k80]; show 0 ≤ _ ∧ _ < (8 : Int); omega) (nng d1 (gdg (by rw [v1]) (nng v3 (gdg (by rw [v5]) (gdg (by rw [v5]; show 0 ≤ _ ∧ _ < (8 : Int); omega) (nng c1 ?_))))))))))
  rw [hd]
  refine bdg e1 (gdg (by rw [e2.k, H.k0]) (nng (q := X + 80) (by rw [e2.r (by omega)]; exact H.r709) (gdg (by rw [k80]) (gdg (by rw [k80]; show 0 ≤ _ ∧ _ < (8 : Int); omega) (nng (q := X + 81 + 2 * j.toNat) (by rw [e2.c (by omega)]; exact d1) rfl)))))

