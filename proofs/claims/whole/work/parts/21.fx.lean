def fX10_init (h : Hp) (t0 : Nat) : Option Hp :=
    lt (α := Nat) (hZ h) fun q1 =>
    lt (α := Hp) (nw h 22 60) fun h2 =>
    gd ((hK h2 t0).1 = 10) <|
    lt (α := Hp) (pR h2 640 t0 q1) fun h5 =>
    lt (α := Hp) (pI h5 641 t0 (-1)) fun h6 =>
    some h6

def fX9_init (h : Hp) (t0 : Nat) : Option Hp :=
    lt (α := Nat) (hZ h) fun q1 =>
    lt (α := Hp) (nw h 20 900) fun h2 =>
    gd ((hK h2 t0).1 = 9) <|
    lt (α := Hp) (pR h2 576 t0 q1) fun h5 =>
    lt (α := Hp) (pI h5 578 t0 (-1)) fun h6 =>
    lt (α := Hp) (pI h6 579 t0 (-1)) fun h7 =>
    some h7

def fX6_init (h : Hp) (t0 : Nat) (a1 : Nat) : Option Hp :=
    gd ((hK h t0).1 = 6) <|
    lt (α := Hp) (pR h 384 t0 a1) fun h2 =>
    some h2

def fX0_init (h : Hp) (t0 : Nat) : Option Hp :=
    gd ((hK h t0).1 = 0) <|
    lt (α := Hp) (pI h 4 t0 1) fun h2 =>
    some h2

def fX7_init_b24 (t0 : Nat) : Nat → Hp → Nat → Nat → Int → Option Hp
  | 0, _, _, _, _ => none
  | fu + 1, h, k, n, v1 =>
    if v1 < 8 then (
      gd ((hK h t0).1 = 7) <|
      nn (gR h 448 t0) fun q4 =>
      gd ((k + 1) ≤ 26 ∧ (n + 3) ≤ 248) <|
      lt (α := Nat) (hZ h) fun q6 =>
      lt (α := Hp) (nw h 6 0) fun h7 =>
      gd ((k + 2) ≤ 26 ∧ (n + 19) ≤ 248) <|
      lt (α := Nat) (hZ h7) fun q10 =>
      lt (α := Hp) (nw h7 21 16) fun h11 =>
      gd ((k + 2) + 0 ≤ 26 ∧ (n + 19) + 0 ≤ 248) <|
      bd (fX6_init h11 q6 q10) fun h16 =>
      gd ((hK h16 q4).1 = 26) <|
      gd (inA v1 (hK h16 q4).2) <|
      gd ((hK h16 q6).1 = 6) <|
      lt (α := Hp) (sC h16 q4 v1 q6) fun h20 =>
      gd ((hK h20 t0).1 = 7) <|
      nn (gR h20 449 t0) fun q22 =>
      gd ((k + 3) ≤ 26 ∧ (n + 29) ≤ 248) <|
      lt (α := Nat) (hZ h20) fun q24 =>
      lt (α := Hp) (nw h20 0 0) fun h25 =>
      gd ((k + 3) + 0 ≤ 26 ∧ (n + 29) + 0 ≤ 248) <|
      bd (fX0_init h25 q24) fun h30 =>
      gd ((hK h30 q22).1 = 24) <|
      gd (inA v1 (hK h30 q22).2) <|
      gd ((hK h30 q24).1 = 0) <|
      lt (α := Hp) (sC h30 q22 v1 q24) fun h34 =>
      lt (α := Int) (w32 (v1 + 1)) fun x35 =>
      fX7_init_b24 t0 fu h34 (k + 3) (n + 29) x35)
    else
    gd (k ≤ 26 ∧ n ≤ 248) <|
    some h

def fX7_init (h : Hp) (t0 : Nat) : Option Hp :=
    lt (α := Nat) (hZ h) fun q1 =>
    lt (α := Hp) (nw h 26 8) fun h2 =>
    gd ((hK h2 t0).1 = 7) <|
    lt (α := Hp) (pR h2 448 t0 q1) fun h5 =>
    lt (α := Nat) (hZ h5) fun q6 =>
    lt (α := Hp) (nw h5 24 8) fun h7 =>
    gd ((hK h7 t0).1 = 7) <|
    lt (α := Hp) (pR h7 449 t0 q6) fun h10 =>
    fX7_init_b24 t0 FU h10 2 16 0

def fX8_init (h : Hp) (t0 : Nat) (a1 : Nat) : Option Hp :=
    lt (α := Nat) (hZ h) fun q1 =>
    lt (α := Hp) (nw h 21 8) fun h2 =>
    gd ((hK h2 t0).1 = 8) <|
    lt (α := Hp) (pR h2 513 t0 q1) fun h5 =>
    lt (α := Nat) (hZ h5) fun q6 =>
    lt (α := Hp) (nw h5 21 8) fun h7 =>
    gd ((hK h7 t0).1 = 8) <|
    lt (α := Hp) (pR h7 514 t0 q6) fun h10 =>
    lt (α := Nat) (hZ h10) fun q11 =>
    lt (α := Hp) (nw h10 21 8) fun h12 =>
    gd ((hK h12 t0).1 = 8) <|
    lt (α := Hp) (pR h12 515 t0 q11) fun h15 =>
    lt (α := Nat) (hZ h15) fun q16 =>
    lt (α := Hp) (nw h15 21 8) fun h17 =>
    gd ((hK h17 t0).1 = 8) <|
    lt (α := Hp) (pR h17 516 t0 q16) fun h20 =>
    lt (α := Hp) (pR h20 512 t0 a1) fun h21 =>
    lt (α := Nat) (hZ h21) fun q22 =>
    lt (α := Hp) (nw h21 7 0) fun h23 =>
    bd (fX7_init h23 q22) fun h27 =>
    gd ((hK h27 t0).1 = 8) <|
    lt (α := Hp) (pR h27 517 t0 q22) fun h29 =>
    some h29

def fX2_init (h : Hp) (t0 : Nat) (a1 : Nat) : Option Hp :=
    gd ((hK h t0).1 = 2) <|
    lt (α := Hp) (pR h 128 t0 a1) fun h2 =>
    some h2

def fX1_init (h : Hp) (t0 : Nat) : Option Hp :=
    lt (α := Nat) (hZ h) fun q1 =>
    lt (α := Hp) (nw h 21 12) fun h2 =>
    gd ((hK h2 t0).1 = 1) <|
    lt (α := Hp) (pR h2 64 t0 q1) fun h5 =>
    lt (α := Nat) (hZ h5) fun q6 =>
    lt (α := Hp) (nw h5 21 12) fun h7 =>
    gd ((hK h7 t0).1 = 1) <|
    lt (α := Hp) (pR h7 65 t0 q6) fun h10 =>
    lt (α := Nat) (hZ h10) fun q11 =>
    lt (α := Hp) (nw h10 21 12) fun h12 =>
    gd ((hK h12 t0).1 = 1) <|
    lt (α := Hp) (pR h12 66 t0 q11) fun h15 =>
    some h15

def fX3_init (h : Hp) (t0 : Nat) (a1 : Nat) (a2 : Nat) : Option Hp :=
    gd ((hK h t0).1 = 3) <|
    lt (α := Hp) (pR h 192 t0 a1) fun h2 =>
    lt (α := Hp) (pR h2 193 t0 a2) fun h3 =>
    some h3

def fX4_init_b74 (t0 : Nat) : Nat → Hp → Nat → Nat → Int → Option Hp
  | 0, _, _, _, _ => none
  | fu + 1, h, k, n, v1 =>
    if v1 < 6 then (
      gd ((hK h t0).1 = 4) <|
      nn (gR h 256 t0) fun q4 =>
      nn (gR h 264 t0) fun q5 =>
      gd ((hK h q4).1 = 26) <|
      gd (inA v1 (hK h q4).2) <|
      gd ((hK h q5).1 = 6) <|
      lt (α := Hp) (sC h q4 v1 q5) fun h9 =>
      lt (α := Int) (w32 (v1 + 1)) fun x10 =>
      fX4_init_b74 t0 fu h9 k n x10)
    else
    gd (k ≤ 8 ∧ n ≤ 1653) <|
    some h

def fX4_init (h : Hp) (t0 : Nat) : Option Hp :=
    lt (α := Nat) (hZ h) fun q1 =>
    lt (α := Hp) (nw h 26 6) fun h2 =>
    gd ((hK h2 t0).1 = 4) <|
    lt (α := Hp) (pR h2 256 t0 q1) fun h5 =>
    lt (α := Nat) (hZ h5) fun q6 =>
    lt (α := Hp) (nw h5 21 36) fun h7 =>
    gd ((hK h7 t0).1 = 4) <|
    lt (α := Hp) (pR h7 257 t0 q6) fun h10 =>
    lt (α := Nat) (hZ h10) fun q11 =>
    lt (α := Hp) (nw h10 21 384) fun h12 =>
    gd ((hK h12 t0).1 = 4) <|
    lt (α := Hp) (pR h12 258 t0 q11) fun h15 =>
    lt (α := Nat) (hZ h15) fun q16 =>
    lt (α := Hp) (nw h15 23 384) fun h17 =>
    gd ((hK h17 t0).1 = 4) <|
    lt (α := Hp) (pR h17 259 t0 q16) fun h20 =>
    lt (α := Nat) (hZ h20) fun q21 =>
    lt (α := Hp) (nw h20 21 384) fun h22 =>
    gd ((hK h22 t0).1 = 4) <|
    lt (α := Hp) (pR h22 260 t0 q21) fun h25 =>
    lt (α := Nat) (hZ h25) fun q26 =>
    lt (α := Hp) (nw h25 21 384) fun h27 =>
    gd ((hK h27 t0).1 = 4) <|
    lt (α := Hp) (pR h27 261 t0 q26) fun h30 =>
    lt (α := Nat) (hZ h30) fun q31 =>
    lt (α := Hp) (nw h30 6 0) fun h32 =>
    lt (α := Nat) (hZ h32) fun q34 =>
    lt (α := Hp) (nw h32 21 72) fun h35 =>
    bd (fX6_init h35 q31 q34) fun h39 =>
    gd ((hK h39 t0).1 = 4) <|
    lt (α := Hp) (pR h39 264 t0 q31) fun h41 =>
    fX4_init_b74 t0 FU h41 8 1653 0

def fX5_init (h : Hp) (t0 : Nat) : Option Hp :=
    lt (α := Nat) (hZ h) fun q1 =>
    lt (α := Hp) (nw h 21 8) fun h2 =>
    gd ((hK h2 t0).1 = 5) <|
    lt (α := Hp) (pR h2 320 t0 q1) fun h5 =>
    lt (α := Nat) (hZ h5) fun q6 =>
    lt (α := Hp) (nw h5 21 2048) fun h7 =>
    gd ((hK h7 t0).1 = 5) <|
    lt (α := Hp) (pR h7 321 t0 q6) fun h10 =>
    lt (α := Nat) (hZ h10) fun q11 =>
    lt (α := Hp) (nw h10 21 256) fun h12 =>
    gd ((hK h12 t0).1 = 5) <|
    lt (α := Hp) (pR h12 322 t0 q11) fun h15 =>
    lt (α := Nat) (hZ h15) fun q16 =>
    lt (α := Hp) (nw h15 6 0) fun h17 =>
    lt (α := Nat) (hZ h17) fun q19 =>
    lt (α := Hp) (nw h17 21 8) fun h20 =>
    bd (fX6_init h20 q16 q19) fun h24 =>
    gd ((hK h24 t0).1 = 5) <|
    lt (α := Hp) (pR h24 323 t0 q16) fun h26 =>
    lt (α := Nat) (hZ h26) fun q27 =>
    lt (α := Hp) (nw h26 6 0) fun h28 =>
    lt (α := Nat) (hZ h28) fun q30 =>
    lt (α := Hp) (nw h28 21 8) fun h31 =>
    bd (fX6_init h31 q27 q30) fun h35 =>
    gd ((hK h35 t0).1 = 5) <|
    lt (α := Hp) (pR h35 324 t0 q27) fun h37 =>
    some h37

def fX11_init_b188 (t0 : Nat) : Nat → Hp → Nat → Nat → Int → Option Hp
  | 0, _, _, _, _ => none
  | fu + 1, h, k, n, v1 =>
    if v1 < 8 then (
      gd ((hK h t0).1 = 11) <|
      nn (gR h 709 t0) fun q71 =>
      gd ((k + 1) ≤ 120 ∧ (n + 3) ≤ 5872) <|
      lt (α := Nat) (hZ h) fun q73 =>
      lt (α := Hp) (nw h 6 0) fun h74 =>
      gd ((k + 2) ≤ 120 ∧ (n + 3) ≤ 5872) <|
      lt (α := Nat) (hZ h74) fun q77 =>
      lt (α := Hp) (nw h74 21 0) fun h78 =>
      gd ((k + 2) + 0 ≤ 120 ∧ (n + 3) + 0 ≤ 5872) <|
      bd (fX6_init h78 q73 q77) fun h83 =>
      gd ((hK h83 q71).1 = 26) <|
      gd (inA v1 (hK h83 q71).2) <|
      gd ((hK h83 q73).1 = 6) <|
      lt (α := Hp) (sC h83 q71 v1 q73) fun h87 =>
      lt (α := Int) (w32 (v1 + 1)) fun x88 =>
      fX11_init_b188 t0 fu h87 (k + 2) (n + 3) x88)
    else
    gd ((k + 1) ≤ 120 ∧ (n + 3) ≤ 5872) <|
    lt (α := Nat) (hZ h) fun q3 =>
    lt (α := Hp) (nw h 6 0) fun h4 =>
    gd ((k + 2) ≤ 120 ∧ (n + 3) ≤ 5872) <|
    lt (α := Nat) (hZ h4) fun q7 =>
    lt (α := Hp) (nw h4 21 0) fun h8 =>
    gd ((k + 2) + 0 ≤ 120 ∧ (n + 3) + 0 ≤ 5872) <|
    bd (fX6_init h8 q3 q7) fun h13 =>
    gd ((hK h13 t0).1 = 11) <|
    lt (α := Hp) (pR h13 710 t0 q3) fun h15 =>
    gd ((k + 3) ≤ 120 ∧ (n + 6) ≤ 5872) <|
    lt (α := Nat) (hZ h15) fun q17 =>
    lt (α := Hp) (nw h15 6 0) fun h18 =>
    gd ((k + 4) ≤ 120 ∧ (n + 37) ≤ 5872) <|
    lt (α := Nat) (hZ h18) fun q21 =>
    lt (α := Hp) (nw h18 21 31) fun h22 =>
    gd ((k + 4) + 0 ≤ 120 ∧ (n + 37) + 0 ≤ 5872) <|
    bd (fX6_init h22 q17 q21) fun h27 =>
    gd ((hK h27 t0).1 = 11) <|
    lt (α := Hp) (pR h27 711 t0 q17) fun h29 =>
    gd ((k + 5) ≤ 120 ∧ (n + 64) ≤ 5872) <|
    lt (α := Nat) (hZ h29) fun q31 =>
    lt (α := Hp) (nw h29 21 27) fun h32 =>
    gd ((hK h32 t0).1 = 11) <|
    lt (α := Hp) (pR h32 712 t0 q31) fun h35 =>
    gd ((k + 6) ≤ 120 ∧ (n + 72) ≤ 5872) <|
    lt (α := Nat) (hZ h35) fun q37 =>
    lt (α := Hp) (nw h35 21 8) fun h38 =>
    gd ((hK h38 t0).1 = 11) <|
    lt (α := Hp) (pR h38 713 t0 q37) fun h41 =>
    gd ((k + 7) ≤ 120 ∧ (n + 80) ≤ 5872) <|
    lt (α := Nat) (hZ h41) fun q43 =>
    lt (α := Hp) (nw h41 21 8) fun h44 =>
    gd ((hK h44 t0).1 = 11) <|
    lt (α := Hp) (pR h44 714 t0 q43) fun h47 =>
    gd ((k + 8) ≤ 120 ∧ (n + 89) ≤ 5872) <|
    lt (α := Nat) (hZ h47) fun q49 =>
    lt (α := Hp) (nw h47 4 0) fun h50 =>
    gd ((k + 8) + 8 ≤ 120 ∧ (n + 89) + 1653 ≤ 5872) <|
    bd (fX4_init h50 q49) fun h55 =>
    gd ((hK h55 t0).1 = 11) <|
    lt (α := Hp) (pR h55 715 t0 q49) fun h57 =>
    gd ((k + 17) ≤ 120 ∧ (n + 1747) ≤ 5872) <|
    lt (α := Nat) (hZ h57) fun q59 =>
    lt (α := Hp) (nw h57 5 0) fun h60 =>
    gd ((k + 17) + 7 ≤ 120 ∧ (n + 1747) + 2334 ≤ 5872) <|
    bd (fX5_init h60 q59) fun h65 =>
    gd ((hK h65 t0).1 = 11) <|
    lt (α := Hp) (pR h65 716 t0 q59) fun h67 =>
    lt (α := Hp) (pJ h67 723 t0 1) fun h68 =>
    gd ((k + 24) ≤ 120 ∧ (n + 4081) ≤ 5872) <|
    some h68

def fX11_init (h : Hp) (t0 : Nat) : Option Hp :=
    lt (α := Nat) (hZ h) fun q1 =>
    lt (α := Hp) (nw h 27 4) fun h2 =>
    lt (α := Nat) (hZ h2) fun q4 =>
    lt (α := Hp) (nw h2 10 0) fun h5 =>
    bd (fX10_init h5 q4) fun h9 =>
    gd ((hK h9 q1).1 = 27) <|
    gd (inA 0 (hK h9 q1).2) <|
    gd ((hK h9 q4).1 = 10) <|
    lt (α := Hp) (sC h9 q1 0 q4) fun h13 =>
    lt (α := Nat) (hZ h13) fun q14 =>
    lt (α := Hp) (nw h13 10 0) fun h15 =>
    bd (fX10_init h15 q14) fun h19 =>
    gd ((hK h19 q1).1 = 27) <|
    gd (inA 1 (hK h19 q1).2) <|
    gd ((hK h19 q14).1 = 10) <|
    lt (α := Hp) (sC h19 q1 1 q14) fun h23 =>
    lt (α := Nat) (hZ h23) fun q24 =>
    lt (α := Hp) (nw h23 10 0) fun h25 =>
    bd (fX10_init h25 q24) fun h29 =>
    gd ((hK h29 q1).1 = 27) <|
    gd (inA 2 (hK h29 q1).2) <|
    gd ((hK h29 q24).1 = 10) <|
    lt (α := Hp) (sC h29 q1 2 q24) fun h33 =>
    lt (α := Nat) (hZ h33) fun q34 =>
    lt (α := Hp) (nw h33 10 0) fun h35 =>
    bd (fX10_init h35 q34) fun h39 =>
    gd ((hK h39 q1).1 = 27) <|
    gd (inA 3 (hK h39 q1).2) <|
    gd ((hK h39 q34).1 = 10) <|
    lt (α := Hp) (sC h39 q1 3 q34) fun h43 =>
    gd ((hK h43 t0).1 = 11) <|
    lt (α := Hp) (pR h43 704 t0 q1) fun h45 =>
    lt (α := Nat) (hZ h45) fun q46 =>
    lt (α := Hp) (nw h45 9 0) fun h47 =>
    bd (fX9_init h47 q46) fun h51 =>
    gd ((hK h51 t0).1 = 11) <|
    lt (α := Hp) (pR h51 705 t0 q46) fun h53 =>
    lt (α := Nat) (hZ h53) fun q54 =>
    lt (α := Hp) (nw h53 8 0) fun h55 =>
    gd ((hK h55 t0).1 = 11) <|
    nn (gR h55 705 t0) fun q58 =>
    bd (fX8_init h55 q54 q58) fun h61 =>
    gd ((hK h61 t0).1 = 11) <|
    lt (α := Hp) (pR h61 706 t0 q54) fun h63 =>
    lt (α := Nat) (hZ h63) fun q64 =>
    lt (α := Hp) (nw h63 2 0) fun h65 =>
    gd ((hK h65 t0).1 = 11) <|
    nn (gR h65 705 t0) fun q68 =>
    bd (fX2_init h65 q64 q68) fun h71 =>
    gd ((hK h71 t0).1 = 11) <|
    lt (α := Hp) (pR h71 707 t0 q64) fun h73 =>
    lt (α := Nat) (hZ h73) fun q74 =>
    lt (α := Hp) (nw h73 7 0) fun h75 =>
    bd (fX7_init h75 q74) fun h79 =>
    gd ((hK h79 t0).1 = 11) <|
    lt (α := Hp) (pR h79 717 t0 q74) fun h81 =>
    lt (α := Nat) (hZ h81) fun q82 =>
    lt (α := Hp) (nw h81 1 0) fun h83 =>
    bd (fX1_init h83 q82) fun h87 =>
    gd ((hK h87 t0).1 = 11) <|
    lt (α := Hp) (pR h87 718 t0 q82) fun h89 =>
    lt (α := Nat) (hZ h89) fun q90 =>
    lt (α := Hp) (nw h89 25 3) fun h91 =>
    lt (α := Nat) (hZ h91) fun q93 =>
    lt (α := Hp) (nw h91 3 0) fun h94 =>
    gd ((hK h94 t0).1 = 11) <|
    nn (gR h94 717 t0) fun q97 =>
    nn (gR h94 718 t0) fun q98 =>
    bd (fX3_init h94 q93 q97 q98) fun h101 =>
    gd ((hK h101 q90).1 = 25) <|
    gd (inA 0 (hK h101 q90).2) <|
    gd ((hK h101 q93).1 = 3) <|
    lt (α := Hp) (sC h101 q90 0 q93) fun h105 =>
    lt (α := Nat) (hZ h105) fun q106 =>
    lt (α := Hp) (nw h105 3 0) fun h107 =>
    gd ((hK h107 t0).1 = 11) <|
    nn (gR h107 717 t0) fun q110 =>
    nn (gR h107 718 t0) fun q111 =>
    bd (fX3_init h107 q106 q110 q111) fun h114 =>
    gd ((hK h114 q90).1 = 25) <|
    gd (inA 1 (hK h114 q90).2) <|
    gd ((hK h114 q106).1 = 3) <|
    lt (α := Hp) (sC h114 q90 1 q106) fun h118 =>
    lt (α := Nat) (hZ h118) fun q119 =>
    lt (α := Hp) (nw h118 3 0) fun h120 =>
    gd ((hK h120 t0).1 = 11) <|
    nn (gR h120 717 t0) fun q123 =>
    nn (gR h120 718 t0) fun q124 =>
    bd (fX3_init h120 q119 q123 q124) fun h127 =>
    gd ((hK h127 q90).1 = 25) <|
    gd (inA 2 (hK h127 q90).2) <|
    gd ((hK h127 q119).1 = 3) <|
    lt (α := Hp) (sC h127 q90 2 q119) fun h131 =>
    gd ((hK h131 t0).1 = 11) <|
    lt (α := Hp) (pR h131 708 t0 q90) fun h133 =>
    lt (α := Nat) (hZ h133) fun q134 =>
    lt (α := Hp) (nw h133 26 8) fun h135 =>
    gd ((hK h135 t0).1 = 11) <|
    lt (α := Hp) (pR h135 709 t0 q134) fun h138 =>
    fX11_init_b188 t0 FU h138 80 1767 0

def fX11_status (h : Hp) (t0 : Nat) : Option Int :=
    gd ((hK h t0).1 = 11) <|
    some (gI h 721 t0)

def fX11_top (h : Hp) (t0 : Nat) : Option Int :=
    gd ((hK h t0).1 = 11) <|
    some (gJ h 722 t0)

def fX11_bottom (h : Hp) (t0 : Nat) : Option Int :=
    gd ((hK h t0).1 = 11) <|
    some (gJ h 723 t0)

def fX11_within (a1 : Int) (a2 : Int) (a3 : Int) : Option Int :=
    if a1 < a2 then (
      some 0)
    else
    if a3 < a1 then (
      some 0)
    else
    some 1

def fX11_isTray (a1 : Int) : Option Int :=
    bd (fX11_within a1 0 3) fun r1 =>
    some r1

def fX11_deny (h : Hp) (t0 : Nat) (a1 : Int) : Option (Int × Hp) :=
    gd ((hK h t0).1 = 11) <|
    lt (α := Hp) (pI h 721 t0 a1) fun h2 =>
    some (0, h2)

def fX10_lay_b17 (t0 : Nat) (a1 : Int) (a2 : Int) : Nat → Hp → Int → Option Hp
  | 0, _, _ => none
  | fu + 1, h, v3 =>
    if v3 < 60 then (
      gd ((hK h t0).1 = 10) <|
      nn (gR h 640 t0) fun q3 =>
      gd ((hK h q3).1 = 22) <|
      gd (inA v3 (hK h q3).2) <|
      lt (α := Hp) (sB h q3 v3 0) fun h6 =>
      lt (α := Int) (w32 (v3 + 1)) fun x7 =>
      fX10_lay_b17 t0 a1 a2 fu h6 x7)
    else
    some h

def fX10_lay (h : Hp) (t0 : Nat) (a1 : Int) (a2 : Int) : Option Hp :=
    gd ((hK h t0).1 = 10) <|
    lt (α := Hp) (pI h 641 t0 a1) fun h2 =>
    lt (α := Hp) (pI h2 642 t0 (min a2 60)) fun h3 =>
    fX10_lay_b17 t0 a1 a2 FU h3 0

def fX11_allow (h : Hp) (t0 : Nat) : Option (Int × Hp) :=
    gd ((hK h t0).1 = 11) <|
    lt (α := Hp) (pI h 721 t0 0) fun h2 =>
    some (1, h2)

def fX11_tray (h : Hp) (t0 : Nat) (a1 : Int) (a2 : Int) (a3 : Int) : Option (Int × Hp) :=
    bd (fX11_isTray a1) fun r1 =>
    if r1 = 0 then (
      gd ((hK h t0).1 = 11) <|
      bd2 (fX11_deny h t0 1) fun r5 h7 =>
      some (r5, h7))
    else
    bd (fX11_within a2 0 3) fun r8 =>
    if r8 = 0 then (
      gd ((hK h t0).1 = 11) <|
      bd2 (fX11_deny h t0 1) fun r35 h37 =>
      some (r35, h37))
    else
    if a3 ≤ 60 then (
      if a3 < 0 then (
        gd ((hK h t0).1 = 11) <|
        bd2 (fX11_deny h t0 6) fun r27 h29 =>
        some (r27, h29))
      else
      gd ((hK h t0).1 = 11) <|
      nn (gR h 704 t0) fun q14 =>
      gd ((hK h q14).1 = 27) <|
      gd (inA a1 (hK h q14).2) <|
      nn (gC h q14 a1.toNat) fun q17 =>
      gd ((hK h q17).1 = 10) <|
      bd (fX10_lay h q17 a2 a3) fun h21 =>
      gd ((hK h21 t0).1 = 11) <|
      bd2 (fX11_allow h21 t0) fun r23 h25 =>
      some (r23, h25))
    else
    gd ((hK h t0).1 = 11) <|
    bd2 (fX11_deny h t0 5) fun r31 h33 =>
    some (r31, h33)

def fX10_isMissing (h : Hp) (t0 : Nat) : Option Int :=
    gd ((hK h t0).1 = 10) <|
    some (if (gI h 641 t0) = (-1) then 1 else 0)

def fX10_hasRun (h : Hp) (t0 : Nat) (a1 : Int) (a2 : Int) : Option Int :=
    if a1 < 0 then (
      some 0)
    else
    if a2 < 0 then (
      some 0)
    else
    gd ((hK h t0).1 = 10) <|
    if (gI h 642 t0) < (w64 (a1 + a2)) then (
      some 0)
    else
    some 1

def fX11_placeReason (h : Hp) (t0 : Nat) (a1 : Int) (a2 : Int) : Option Int :=
    bd (fX11_isTray a1) fun r1 =>
    if r1 = 0 then (
      some 1)
    else
    gd ((hK h t0).1 = 11) <|
    nn (gR h 704 t0) fun q5 =>
    gd ((hK h q5).1 = 27) <|
    gd (inA a1 (hK h q5).2) <|
    nn (gC h q5 a1.toNat) fun q8 =>
    gd ((hK h q8).1 = 10) <|
    bd (fX10_isMissing h q8) fun r10 =>
    if r10 = 0 then (
      gd (inA a1 (hK h q5).2) <|
      nn (gC h q5 a1.toNat) fun q14 =>
      gd ((hK h q14).1 = 10) <|
      bd (fX10_hasRun h q14 a2 1) fun r16 =>
      some (if r16 = 0 then 4 else 0))
    else
    some 3

def fX10_cut (h : Hp) (t0 : Nat) (a1 : Int) : Option Int :=
    gd ((hK h t0).1 = 10) <|
    if (gI h 641 t0) = 0 then (
      some (tby (w32 a1)))
    else
    if (gI h 641 t0) = 1 then (
      some (tsh (w32 a1)))
    else
    if (gI h 641 t0) = 2 then (
      some (w32 a1))
    else
    some a1

def fX10_put (h : Hp) (t0 : Nat) (a1 : Int) (a2 : Int) : Option Hp :=
    gd ((hK h t0).1 = 10) <|
    bd (fX10_hasRun h t0 a1 1) fun r2 =>
    if r2 = 0 then (
      some h)
    else
    nn (gR h 640 t0) fun q5 =>
    bd (fX10_cut h t0 a2) fun r6 =>
    gd ((hK h q5).1 = 22) <|
    gd (inA a1 (hK h q5).2) <|
    lt (α := Hp) (sB h q5 a1 r6) fun h10 =>
    some h10

def fX11_write (h : Hp) (t0 : Nat) (a1 : Int) (a2 : Int) (a3 : Int) : Option (Int × Hp) :=
    gd ((hK h t0).1 = 11) <|
    bd (fX11_placeReason h t0 a1 a2) fun r2 =>
    if r2 = 0 then (
      nn (gR h 704 t0) fun q5 =>
      gd ((hK h q5).1 = 27) <|
      gd (inA a1 (hK h q5).2) <|
      nn (gC h q5 a1.toNat) fun q8 =>
      gd ((hK h q8).1 = 10) <|
      bd (fX10_put h q8 a2 a3) fun h12 =>
      gd ((hK h12 t0).1 = 11) <|
      bd2 (fX11_allow h12 t0) fun r14 h16 =>
      some (r14, h16))
    else
    bd2 (fX11_deny h t0 r2) fun r17 h19 =>
    some (r17, h19)

def fX11_refuse (h : Hp) (t0 : Nat) (a1 : Int) : Option (Int × Hp) :=
    gd ((hK h t0).1 = 11) <|
    lt (α := Hp) (pI h 721 t0 a1) fun h2 =>
    some ((-1), h2)

def fX10_get (h : Hp) (t0 : Nat) (a1 : Int) : Option Int :=
    gd ((hK h t0).1 = 10) <|
    bd (fX10_hasRun h t0 a1 1) fun r2 =>
    if r2 = 0 then (
      some (-1))
    else
    nn (gR h 640 t0) fun q5 =>
    gd ((hK h q5).1 = 22) <|
    gd (inA a1 (hK h q5).2) <|
    some (gB h q5 a1.toNat)

def fX11_read (h : Hp) (t0 : Nat) (a1 : Int) (a2 : Int) : Option (Int × Hp) :=
    gd ((hK h t0).1 = 11) <|
    bd (fX11_placeReason h t0 a1 a2) fun r2 =>
    if r2 = 0 then (
      lt (α := Hp) (pI h 721 t0 0) fun h5 =>
      nn (gR h5 704 t0) fun q6 =>
      gd ((hK h5 q6).1 = 27) <|
      gd (inA a1 (hK h5 q6).2) <|
      nn (gC h5 q6 a1.toNat) fun q9 =>
      gd ((hK h5 q9).1 = 10) <|
      bd (fX10_get h5 q9 a2) fun r11 =>
      some (r11, h5))
    else
    bd2 (fX11_refuse h t0 r2) fun r13 h15 =>
    some (r13, h15)

def fX11_pour (h : Hp) (t0 : Nat) (a1 : Int) (a2 : Int) (a3 : Int) (a4 : Int) (a5 : Int) : Option (Int × Hp) :=
    bd (fX11_isTray a1) fun r1 =>
    if r1 = 0 then (
      gd ((hK h t0).1 = 11) <|
      bd2 (fX11_deny h t0 1) fun r5 h7 =>
      some (r5, h7))
    else
    bd (fX11_isTray a3) fun r8 =>
    if r8 = 0 then (
      gd ((hK h t0).1 = 11) <|
      bd2 (fX11_deny h t0 1) fun r62 h64 =>
      some (r62, h64))
    else
    gd ((hK h t0).1 = 11) <|
    nn (gR h 704 t0) fun q12 =>
    gd ((hK h q12).1 = 27) <|
    gd (inA a1 (hK h q12).2) <|
    nn (gC h q12 a1.toNat) fun q15 =>
    gd (inA a3 (hK h q12).2) <|
    nn (gC h q12 a3.toNat) fun q17 =>
    gd ((hK h q15).1 = 10) <|
    bd (fX10_isMissing h q15) fun r19 =>
    if r19 = 0 then (
      gd ((hK h q17).1 = 10) <|
      bd (fX10_isMissing h q17) fun r26 =>
      if r26 = 0 then (
        if (gI h 641 q15) = (gI h 641 q17) then (
          if a5 < 0 then (
            bd2 (fX11_deny h t0 6) fun r52 h54 =>
            some (r52, h54))
          else
          bd (fX10_hasRun h q15 a2 a5) fun r31 =>
          if r31 = 0 then (
            bd2 (fX11_deny h t0 4) fun r34 h36 =>
            some (r34, h36))
          else
          bd (fX10_hasRun h q17 a4 a5) fun r37 =>
          if r37 = 0 then (
            bd2 (fX11_deny h t0 4) fun r49 h51 =>
            some (r49, h51))
          else
          nn (gR h 640 q15) fun q40 =>
          nn (gR h 640 q17) fun q41 =>
          gd ((hK h q40).1 = 22) <|
          gd ((hK h q41).1 = 22) <|
          gd (0 ≤ a2 ∧ 0 ≤ a4 ∧ 0 ≤ a5 ∧ a2 + a5 ≤ ((hK h q40).2 : Int) ∧ a4 + a5 ≤ ((hK h q41).2 : Int)) <|
          lt (α := Hp) (cpB h q40 a2 q41 a4 a5) fun h45 =>
          bd2 (fX11_allow h45 t0) fun r46 h48 =>
          some (r46, h48))
        else
        bd2 (fX11_deny h t0 11) fun r55 h57 =>
        some (r55, h57))
      else
      bd2 (fX11_deny h t0 3) fun r58 h60 =>
      some (r58, h60))
    else
    bd2 (fX11_deny h t0 3) fun r22 h24 =>
    some (r22, h24)

def fX9_hasRoomFor (h : Hp) (t0 : Nat) (a1 : Int) : Option Int :=
    gd ((hK h t0).1 = 9) <|
    some (if (w32 ((gI h 577 t0) + a1)) ≤ 900 then 1 else 0)

def fX9_addInt_b3 (t0 : Nat) (a1 : Int) : Nat → Hp → Int → Option Hp
  | 0, _, _ => none
  | fu + 1, h, v2 =>
    if v2 < 0 then (
      some h)
    else
    gd ((hK h t0).1 = 9) <|
    if (gI h 577 t0) < 900 then (
      nn (gR h 576 t0) fun q4 =>
      gd ((hK h q4).1 = 20) <|
      gd (inA (gI h 577 t0) (hK h q4).2) <|
      lt (α := Hp) (sA h q4 (gI h 577 t0) (tby (shr a1 v2))) fun h7 =>
      lt (α := Hp) (pI h7 577 t0 (w32 ((gI h7 577 t0) + 1))) fun h8 =>
      lt (α := Int) (w32 (v2 + (-8))) fun x9 =>
      fX9_addInt_b3 t0 a1 fu h8 x9)
    else
    some h

def fX9_addInt (h : Hp) (t0 : Nat) (a1 : Int) : Option Hp :=
    fX9_addInt_b3 t0 a1 FU h 24

def fX11_feed (h : Hp) (t0 : Nat) (a1 : Int) (a2 : Int) (a3 : Int) (a4 : Int) (a5 : Int) : Option (Int × Hp) :=
    gd ((hK h t0).1 = 11) <|
    nn (gR h 705 t0) fun q2 =>
    gd ((hK h q2).1 = 9) <|
    bd (fX9_hasRoomFor h q2 20) fun r4 =>
    if r4 = 0 then (
      some ((-1), h))
    else
    bd (fX9_addInt h q2 a1) fun h9 =>
    gd ((hK h9 t0).1 = 11) <|
    nn (gR h9 705 t0) fun q11 =>
    gd ((hK h9 q11).1 = 9) <|
    bd (fX9_addInt h9 q11 a2) fun h15 =>
    gd ((hK h15 t0).1 = 11) <|
    nn (gR h15 705 t0) fun q17 =>
    gd ((hK h15 q17).1 = 9) <|
    bd (fX9_addInt h15 q17 a3) fun h21 =>
    gd ((hK h21 t0).1 = 11) <|
    nn (gR h21 705 t0) fun q23 =>
    gd ((hK h21 q23).1 = 9) <|
    bd (fX9_addInt h21 q23 a4) fun h27 =>
    gd ((hK h27 t0).1 = 11) <|
    nn (gR h27 705 t0) fun q29 =>
    gd ((hK h27 q29).1 = 9) <|
    bd (fX9_addInt h27 q29 a5) fun h33 =>
    gd ((hK h33 t0).1 = 11) <|
    nn (gR h33 705 t0) fun q35 =>
    gd ((hK h33 q35).1 = 9) <|
    some (gI h33 577 q35, h33)

def fX9_isBlank (a1 : Int) : Option Int :=
    if a1 = 10 then (
      some 1)
    else
    if a1 = 32 then (
      some 1)
    else
    some 0

def fX9_isSmallLetter (a1 : Int) : Option Int :=
    if a1 < 97 then (
      some 0)
    else
    if a1 ≤ 122 then (
      some 1)
    else
    some 0

def fX9_isDigit (a1 : Int) : Option Int :=
    if a1 < 48 then (
      some 0)
    else
    if a1 ≤ 57 then (
      some 1)
    else
    some 0

def fX9_size (h : Hp) (t0 : Nat) : Option Int :=
    gd ((hK h t0).1 = 9) <|
    some (w32 ((gI h 582 t0) - (gI h 580 t0)))

def fX9_next_b86 (t0 : Nat) : Nat → Hp → Option Hp
  | 0, _ => none
  | fu + 1, h =>
    gd ((hK h t0).1 = 9) <|
    if (gI h 582 t0) < (gI h 581 t0) then (
      nn (gR h 576 t0) fun q3 =>
      gd ((hK h q3).1 = 20) <|
      gd (inA (gI h 582 t0) (hK h q3).2) <|
      bd (fX9_isSmallLetter (gA h q3 (gI h 582 t0).toNat)) fun r6 =>
      if r6 = 0 then (
        some h)
      else
      lt (α := Hp) (pI h 582 t0 (w32 ((gI h 582 t0) + 1))) fun h9 =>
      fX9_next_b86 t0 fu h9)
    else
    some h

def fX9_next_b179 (t0 : Nat) (h : Hp) : Option Hp :=
    gd ((hK h t0).1 = 9) <|
    bd (fX9_size h t0) fun r2 =>
    lt (α := Hp) (pI h 583 t0 (if r2 ≤ 4 then 2 else 4)) fun h5 =>
    some h5

def fX9_next_b140 (t0 : Nat) : Nat → Hp → Option Hp
  | 0, _ => none
  | fu + 1, h =>
    gd ((hK h t0).1 = 9) <|
    if (gI h 582 t0) < (gI h 581 t0) then (
      nn (gR h 576 t0) fun q3 =>
      gd ((hK h q3).1 = 20) <|
      gd (inA (gI h 582 t0) (hK h q3).2) <|
      bd (fX9_isDigit (gA h q3 (gI h 582 t0).toNat)) fun r6 =>
      if r6 = 0 then (
        fX9_next_b179 t0 h)
      else
      lt (α := Hp) (pI h 582 t0 (w32 ((gI h 582 t0) + 1))) fun h9 =>
      fX9_next_b140 t0 fu h9)
    else
    fX9_next_b179 t0 h

def fX9_next_b39 (t0 : Nat) (h : Hp) : Option Hp :=
    gd ((hK h t0).1 = 9) <|
    lt (α := Hp) (pI h 580 t0 (gI h 582 t0)) fun h2 =>
    if (gI h2 580 t0) < (gI h2 581 t0) then (
      nn (gR h2 576 t0) fun q4 =>
      gd ((hK h2 q4).1 = 20) <|
      gd (inA (gI h2 580 t0) (hK h2 q4).2) <|
      bd (fX9_isSmallLetter (gA h2 q4 (gI h2 580 t0).toNat)) fun r7 =>
      if r7 = 0 then (
        gd (inA (gI h2 580 t0) (hK h2 q4).2) <|
        bd (fX9_isDigit (gA h2 q4 (gI h2 580 t0).toNat)) fun r11 =>
        if r11 = 0 then (
          gd (inA (gI h2 580 t0) (hK h2 q4).2) <|
          lt (α := Hp) (pI h2 583 t0 (if (gA h2 q4 (gI h2 580 t0).toNat) = 59 then 3 else 4)) fun h16 =>
          lt (α := Hp) (pI h16 582 t0 (w32 ((gI h16 582 t0) + 1))) fun h17 =>
          some h17)
        else
        fX9_next_b140 t0 FU h2)
      else
      lt (α := Hp) (pI h2 583 t0 1) fun h19 =>
      fX9_next_b86 t0 FU h19)
    else
    lt (α := Hp) (pI h2 583 t0 0) fun h20 =>
    some h20

def fX9_next_b0 (t0 : Nat) : Nat → Hp → Option Hp
  | 0, _ => none
  | fu + 1, h =>
    gd ((hK h t0).1 = 9) <|
    if (gI h 582 t0) < (gI h 581 t0) then (
      nn (gR h 576 t0) fun q3 =>
      gd ((hK h q3).1 = 20) <|
      gd (inA (gI h 582 t0) (hK h q3).2) <|
      bd (fX9_isBlank (gA h q3 (gI h 582 t0).toNat)) fun r6 =>
      if r6 = 0 then (
        fX9_next_b39 t0 h)
      else
      lt (α := Hp) (pI h 582 t0 (w32 ((gI h 582 t0) + 1))) fun h9 =>
      fX9_next_b0 t0 fu h9)
    else
    fX9_next_b39 t0 h

def fX9_next (h : Hp) (t0 : Nat) : Option Hp :=
    gd ((hK h t0).1 = 9) <|
    if (gI h 582 t0) < (gI h 581 t0) then (
      nn (gR h 576 t0) fun q3 =>
      gd ((hK h q3).1 = 20) <|
      gd (inA (gI h 582 t0) (hK h q3).2) <|
      bd (fX9_isBlank (gA h q3 (gI h 582 t0).toNat)) fun r6 =>
      if r6 = 0 then (
        fX9_next_b39 t0 h)
      else
      lt (α := Hp) (pI h 582 t0 (w32 ((gI h 582 t0) + 1))) fun h9 =>
      fX9_next_b0 t0 FU h9)
    else
    fX9_next_b39 t0 h

def fX9_open (h : Hp) (t0 : Nat) (a1 : Int) : Option Hp :=
    gd ((hK h t0).1 = 9) <|
    lt (α := Hp) (pI h 581 t0 (min a1 (gI h 577 t0))) fun h2 =>
    lt (α := Hp) (pI h2 582 t0 0) fun h3 =>
    lt (α := Hp) (pI h3 578 t0 0) fun h4 =>
    lt (α := Hp) (pI h4 579 t0 (-1)) fun h5 =>
    bd (fX9_next h5 t0) fun h8 =>
    some h8

def fX9_hasFault (h : Hp) (t0 : Nat) : Option Int :=
    gd ((hK h t0).1 = 9) <|
    some (if (gI h 578 t0) = 0 then 0 else 1)

def fX9_isAtEnd (h : Hp) (t0 : Nat) : Option Int :=
    gd ((hK h t0).1 = 9) <|
    some (if (gI h 583 t0) = 0 then 1 else 0)

def fX9_letterAt (h : Hp) (t0 : Nat) (a1 : Int) : Option Int :=
    gd ((hK h t0).1 = 9) <|
    lt (α := Int) (w32 ((gI h 580 t0) + a1)) fun x2 =>
    if x2 < 0 then (
      some 0)
    else
    if x2 < (gI h 581 t0) then (
      nn (gR h 576 t0) fun q5 =>
      gd ((hK h q5).1 = 20) <|
      gd (inA x2 (hK h q5).2) <|
      some (w32 ((w32 ((gA h q5 x2.toNat) - 97)) + 1)))
    else
    some 0

def fX9_isWord_b27 (h : Hp) (t0 : Nat) (a1 : List Nat) : Nat → Int → Int → Option Int
  | 0, _, _ => none
  | fu + 1, v2, v3 =>
    if v2 = 0 then (
      gd (v2 = 0 ∨ v2 = 1) <|
      some v2)
    else
    if v3 < ((a1.length : Nat) : Int) then (
      gd ((hK h t0).1 = 9) <|
      bd (fX9_letterAt h t0 v3) fun r6 =>
      gd (inA v3 a1.length) <|
      lt (α := Int) (if r6 = (w32 ((w32 (((a1.getD v3.toNat 0 : Nat) : Int) - 97)) + 1)) then 1 else 0) fun x10 =>
      lt (α := Int) (w32 (v3 + 1)) fun x11 =>
      fX9_isWord_b27 h t0 a1 fu x10 x11)
    else
    gd (v2 = 0 ∨ v2 = 1) <|
    some v2

def fX9_isWord_b24 (h : Hp) (t0 : Nat) (a1 : List Nat) (s0 : Int) : Option Int :=
    fX9_isWord_b27 h t0 a1 FU s0 0

def fX9_isWord_b23 (h : Hp) (t0 : Nat) (a1 : List Nat) : Option Int :=
    fX9_isWord_b24 h t0 a1 0

def fX9_isWord (h : Hp) (t0 : Nat) (a1 : List Nat) : Option Int :=
    gd ((hK h t0).1 = 9) <|
    if (gI h 583 t0) = 1 then (
      bd (fX9_size h t0) fun r3 =>
      if r3 = ((a1.length : Nat) : Int) then (
        fX9_isWord_b24 h t0 a1 1)
      else
      fX9_isWord_b23 h t0 a1)
    else
    fX9_isWord_b23 h t0 a1

def fX9_stop (h : Hp) (t0 : Nat) (a1 : Int) : Option Hp :=
    gd ((hK h t0).1 = 9) <|
    if (gI h 578 t0) = 0 then (
      if (gI h 583 t0) = 4 then (
        lt (α := Hp) (pI h 578 t0 1) fun h6 =>
        lt (α := Hp) (pI h6 579 t0 (gI h6 580 t0)) fun h7 =>
        some h7)
      else
      lt (α := Hp) (pI h 578 t0 a1) fun h4 =>
      lt (α := Hp) (pI h4 579 t0 (gI h4 580 t0)) fun h5 =>
      some h5)
    else
    some h

def fX9_isWordUpTo (h : Hp) (t0 : Nat) (a1 : Int) : Option Int :=
    gd ((hK h t0).1 = 9) <|
    if (gI h 583 t0) = 1 then (
      bd (fX9_size h t0) fun r3 =>
      if r3 ≤ a1 then (
        some 1)
      else
      some 0)
    else
    some 0

def fX9_isName_b194 (h : Hp) (t0 : Nat) (s0 : Int) : Option Int :=
    gd ((hK h t0).1 = 9) <|
    bd (fX9_isWordUpTo h t0 8) fun r2 =>
    if r2 = 0 then (
      some 0)
    else
    if s0 = 0 then (
      some 1)
    else
    some 0

def fX9_isName_b189 (h : Hp) (t0 : Nat) : Option Int :=
    fX9_isName_b194 h t0 1

def fX9_isName (h : Hp) (t0 : Nat) : Option Int :=
    gd ((hK h t0).1 = 9) <|
    bd (fX9_isWord h t0 [115, 111, 117, 110, 100]) fun r2 =>
    if r2 = 0 then (
      bd (fX9_isWord h t0 [106, 97, 114]) fun r5 =>
      if r5 = 0 then (
        bd (fX9_isWord h t0 [115, 105, 122, 101]) fun r8 =>
        if r8 = 0 then (
          bd (fX9_isWord h t0 [108, 101, 97, 107, 115]) fun r11 =>
          if r11 = 0 then (
            bd (fX9_isWord h t0 [104, 101, 97, 100]) fun r14 =>
            if r14 = 0 then (
              bd (fX9_isWord h t0 [116, 97, 105, 108]) fun r17 =>
              if r17 = 0 then (
                bd (fX9_isWord h t0 [99, 111, 115, 116, 115]) fun r20 =>
                if r20 = 0 then (
                  bd (fX9_isWord h t0 [119, 111, 114, 116, 104]) fun r23 =>
                  if r23 = 0 then (
                    bd (fX9_isWord h t0 [98, 114, 101, 97, 107, 115]) fun r26 =>
                    if r26 = 0 then (
                      bd (fX9_isWord h t0 [102, 105, 108, 108]) fun r29 =>
                      if r29 = 0 then (
                        bd (fX9_isWord h t0 [111, 102]) fun r32 =>
                        if r32 = 0 then (
                          bd (fX9_isWord h t0 [102, 114, 111, 109]) fun r35 =>
                          if r35 = 0 then (
                            bd (fX9_isWord h t0 [111, 110]) fun r38 =>
                            if r38 = 0 then (
                              bd (fX9_isWord h t0 [109, 105, 120]) fun r41 =>
                              if r41 = 0 then (
                                bd (fX9_isWord h t0 [119, 105, 116, 104]) fun r44 =>
                                if r44 = 0 then (
                                  bd (fX9_isWord h t0 [103, 105, 118, 101, 115]) fun r47 =>
                                  if r47 = 0 then (
                                    bd (fX9_isWord h t0 [97, 110, 121]) fun r50 =>
                                    if r50 = 0 then (
                                      bd (fX9_isWord h t0 [115, 97, 109, 101]) fun r53 =>
                                      if r53 = 0 then (
                                        bd (fX9_isWord h t0 [114, 101, 115, 116]) fun r56 =>
                                        if r56 = 0 then (
                                          bd (fX9_isWord h t0 [102, 105, 114, 115, 116]) fun r59 =>
                                          if r59 = 0 then (
                                            bd (fX9_isWord h t0 [115, 101, 99, 111, 110, 100]) fun r62 =>
                                            if r62 = 0 then (
                                              fX9_isName_b194 h t0 0)
                                            else
                                            fX9_isName_b189 h t0)
                                          else
                                          fX9_isName_b189 h t0)
                                        else
                                        fX9_isName_b189 h t0)
                                      else
                                      fX9_isName_b189 h t0)
                                    else
                                    fX9_isName_b189 h t0)
                                  else
                                  fX9_isName_b189 h t0)
                                else
                                fX9_isName_b189 h t0)
                              else
                              fX9_isName_b189 h t0)
                            else
                            fX9_isName_b189 h t0)
                          else
                          fX9_isName_b189 h t0)
                        else
                        fX9_isName_b189 h t0)
                      else
                      fX9_isName_b189 h t0)
                    else
                    fX9_isName_b189 h t0)
                  else
                  fX9_isName_b189 h t0)
                else
                fX9_isName_b189 h t0)
              else
              fX9_isName_b189 h t0)
            else
            fX9_isName_b189 h t0)
          else
          fX9_isName_b189 h t0)
        else
        fX9_isName_b189 h t0)
      else
      fX9_isName_b189 h t0)
    else
    fX9_isName_b189 h t0

def fX9_isWordOf_b39 (h : Hp) (t0 : Nat) (a1 : Int) (a2 : Int) : Nat → Int → Int → Option Int
  | 0, _, _ => none
  | fu + 1, v3, v4 =>
    if v3 = 0 then (
      gd (v3 = 0 ∨ v3 = 1) <|
      some v3)
    else
    if v4 < a2 then (
      gd ((hK h t0).1 = 9) <|
      bd (fX9_letterAt h t0 v4) fun r6 =>
      nn (gR h 576 t0) fun q8 =>
      gd ((hK h q8).1 = 20) <|
      gd (inA (w32 (a1 + v4)) (hK h q8).2) <|
      lt (α := Int) (if r6 = (w32 ((w32 ((gA h q8 (w32 (a1 + v4)).toNat) - 97)) + 1)) then 1 else 0) fun x12 =>
      lt (α := Int) (w32 (v4 + 1)) fun x13 =>
      fX9_isWordOf_b39 h t0 a1 a2 fu x12 x13)
    else
    gd (v3 = 0 ∨ v3 = 1) <|
    some v3

def fX9_isWordOf_b35 (h : Hp) (t0 : Nat) (a1 : Int) (a2 : Int) (s0 : Int) : Option Int :=
    fX9_isWordOf_b39 h t0 a1 a2 FU s0 0

def fX9_isWordOf_b34 (h : Hp) (t0 : Nat) (a1 : Int) (a2 : Int) : Option Int :=
    fX9_isWordOf_b35 h t0 a1 a2 0

def fX9_isWordOf (h : Hp) (t0 : Nat) (a1 : Int) (a2 : Int) : Option Int :=
    gd ((hK h t0).1 = 9) <|
    if (gI h 583 t0) = 1 then (
      bd (fX9_size h t0) fun r3 =>
      if r3 = a2 then (
        if a1 < 0 then (
          fX9_isWordOf_b34 h t0 a1 a2)
        else
        if (w32 (a1 + a2)) ≤ (gI h 581 t0) then (
          fX9_isWordOf_b35 h t0 a1 a2 1)
        else
        fX9_isWordOf_b34 h t0 a1 a2)
      else
      fX9_isWordOf_b34 h t0 a1 a2)
    else
    fX9_isWordOf_b34 h t0 a1 a2

def fX8_findName_b3 (h : Hp) (t0 : Nat) (a1 : Nat) (a2 : Nat) (a3 : Int) : Nat → Int → Option Int
  | 0, _ => none
  | fu + 1, v4 =>
    if v4 < a3 then (
      gd ((hK h a1).1 = 21) <|
      gd (((hK h a1).2 : Int) < 2147483648) <|
      if v4 < ((hK h a1).2 : Int) then (
        gd ((hK h a2).1 = 21) <|
        gd (((hK h a2).2 : Int) < 2147483648) <|
        if v4 < ((hK h a2).2 : Int) then (
          gd ((hK h t0).1 = 8) <|
          nn (gR h 512 t0) fun q9 =>
          gd (inA v4 (hK h a1).2) <|
          gd (inA v4 (hK h a2).2) <|
          gd ((hK h q9).1 = 9) <|
          bd (fX9_isWordOf h q9 (gA h a1 v4.toNat) (gA h a2 v4.toNat)) fun r13 =>
          if r13 = 0 then (
            lt (α := Int) (w32 (v4 + 1)) fun x16 =>
            fX8_findName_b3 h t0 a1 a2 a3 fu x16)
          else
          some v4)
        else
        some (-1))
      else
      some (-1))
    else
    some (-1)

def fX8_findName (h : Hp) (t0 : Nat) (a1 : Nat) (a2 : Nat) (a3 : Int) : Option Int :=
    fX8_findName_b3 h t0 a1 a2 a3 FU 0

def fX8_takeNewName (h : Hp) (t0 : Nat) (a1 : Nat) (a2 : Nat) (a3 : Int) : Option Hp :=
    gd ((hK h t0).1 = 8) <|
    nn (gR h 512 t0) fun q2 =>
    gd ((hK h q2).1 = 9) <|
    bd (fX9_isName h q2) fun r4 =>
    if r4 = 0 then (
      bd (fX9_stop h q2 2) fun h47 =>
      some h47)
    else
    nn (gR h 513 t0) fun q7 =>
    nn (gR h 514 t0) fun q8 =>
    nn (gR h 517 t0) fun q9 =>
    gd ((hK h q9).1 = 7) <|
    bd (fX8_findName h t0 q7 q8 (gI h 450 q9)) fun r11 =>
    if r11 = (-1) then (
      nn (gR h 515 t0) fun q17 =>
      nn (gR h 516 t0) fun q18 =>
      bd (fX8_findName h t0 q17 q18 (gI h 451 q9)) fun r19 =>
      if r19 = (-1) then (
        if a3 < 0 then (
          some h)
        else
        gd ((hK h a1).1 = 21) <|
        gd (((hK h a1).2 : Int) < 2147483648) <|
        if a3 < ((hK h a1).2 : Int) then (
          gd ((hK h a2).1 = 21) <|
          gd (((hK h a2).2 : Int) < 2147483648) <|
          if a3 < ((hK h a2).2 : Int) then (
            gd (inA a3 (hK h a1).2) <|
            lt (α := Hp) (sA h a1 a3 (gI h 580 q2)) fun h30 =>
            nn (gR h30 512 t0) fun q31 =>
            gd ((hK h30 q31).1 = 9) <|
            bd (fX9_size h30 q31) fun r33 =>
            gd (inA a3 (hK h30 a2).2) <|
            lt (α := Hp) (sA h30 a2 a3 r33) fun h36 =>
            nn (gR h36 512 t0) fun q37 =>
            gd ((hK h36 q37).1 = 9) <|
            bd (fX9_next h36 q37) fun h41 =>
            some h41)
          else
          some h)
        else
        some h)
      else
      bd (fX9_stop h q2 3) fun h44 =>
      some h44)
    else
    bd (fX9_stop h q2 3) fun h16 =>
    some h16

def fX6_add (h : Hp) (t0 : Nat) (a1 : Int) : Option Hp :=
    gd ((hK h t0).1 = 6) <|
    nn (gR h 384 t0) fun q2 =>
    gd ((hK h q2).1 = 21) <|
    gd (((hK h q2).2 : Int) < 2147483648) <|
    if (w32 ((gI h 385 t0) + (gI h 386 t0))) < ((hK h q2).2 : Int) then (
      gd (inA (w32 ((gI h 385 t0) + (gI h 386 t0))) (hK h q2).2) <|
      lt (α := Hp) (sA h q2 (w32 ((gI h 385 t0) + (gI h 386 t0))) a1) fun h7 =>
      lt (α := Hp) (pI h7 386 t0 (w32 ((gI h7 386 t0) + 1))) fun h8 =>
      some h8)
    else
    some h

def fX8_takeLetters_b32 (t0 : Nat) (a1 : Nat) : Nat → Hp → Int → Option Hp
  | 0, _, _ => none
  | fu + 1, h, v2 =>
    gd ((hK h t0).1 = 8) <|
    nn (gR h 512 t0) fun q2 =>
    gd ((hK h q2).1 = 9) <|
    bd (fX9_size h q2) fun r4 =>
    if v2 < r4 then (
      bd (fX9_letterAt h q2 v2) fun r10 =>
      gd ((hK h a1).1 = 6) <|
      bd (fX6_add h a1 r10) fun h15 =>
      lt (α := Int) (w32 (v2 + 1)) fun x16 =>
      fX8_takeLetters_b32 t0 a1 fu h15 x16)
    else
    bd (fX9_next h q2) fun h9 =>
    some h9

def fX8_takeLetters_b20 (t0 : Nat) (a1 : Nat) (h : Hp) : Option Hp :=
    gd ((hK h t0).1 = 8) <|
    nn (gR h 512 t0) fun q2 =>
    gd ((hK h q2).1 = 9) <|
    bd (fX9_hasFault h q2) fun r4 =>
    if r4 = 0 then (
      fX8_takeLetters_b32 t0 a1 FU h 0)
    else
    some h

def fX8_takeLetters (h : Hp) (t0 : Nat) (a1 : Nat) : Option Hp :=
    gd ((hK h t0).1 = 8) <|
    nn (gR h 512 t0) fun q2 =>
    gd ((hK h q2).1 = 9) <|
    bd (fX9_isWordUpTo h q2 16) fun r4 =>
    if r4 = 0 then (
      bd (fX9_stop h q2 2) fun h9 =>
      fX8_takeLetters_b20 t0 a1 h9)
    else
    fX8_takeLetters_b20 t0 a1 h

def fX9_takeSign_b13 (t0 : Nat) (h : Hp) : Option Hp :=
    gd ((hK h t0).1 = 9) <|
    if (gI h 578 t0) = 0 then (
      bd (fX9_next h t0) fun h5 =>
      some h5)
    else
    some h

def fX9_takeSign (h : Hp) (t0 : Nat) : Option Hp :=
    gd ((hK h t0).1 = 9) <|
    if (gI h 583 t0) = 3 then (
      fX9_takeSign_b13 t0 h)
    else
    bd (fX9_stop h t0 2) fun h5 =>
    fX9_takeSign_b13 t0 h5

def fX8_readSound (h : Hp) (t0 : Nat) : Option Hp :=
    gd ((hK h t0).1 = 8) <|
    nn (gR h 517 t0) fun q2 =>
    gd ((hK h q2).1 = 7) <|
    if (gI h 450 q2) < 8 then (
      nn (gR h 512 t0) fun q5 =>
      gd ((hK h q5).1 = 9) <|
      bd (fX9_next h q5) fun h9 =>
      gd ((hK h9 t0).1 = 8) <|
      nn (gR h9 513 t0) fun q11 =>
      nn (gR h9 514 t0) fun q12 =>
      nn (gR h9 517 t0) fun q13 =>
      gd ((hK h9 q13).1 = 7) <|
      bd (fX8_takeNewName h9 t0 q11 q12 (gI h9 450 q13)) fun h17 =>
      gd ((hK h17 t0).1 = 8) <|
      nn (gR h17 517 t0) fun q19 =>
      gd ((hK h17 q19).1 = 7) <|
      nn (gR h17 448 q19) fun q21 =>
      gd ((hK h17 q21).1 = 26) <|
      gd (inA (gI h17 450 q19) (hK h17 q21).2) <|
      nn (gC h17 q21 (gI h17 450 q19).toNat) fun q24 =>
      bd (fX8_takeLetters h17 t0 q24) fun h27 =>
      gd ((hK h27 t0).1 = 8) <|
      nn (gR h27 512 t0) fun q29 =>
      gd ((hK h27 q29).1 = 9) <|
      bd (fX9_takeSign h27 q29) fun h33 =>
      gd ((hK h33 t0).1 = 8) <|
      nn (gR h33 517 t0) fun q35 =>
      gd ((hK h33 q35).1 = 7) <|
      lt (α := Hp) (pI h33 450 q35 (w32 ((gI h33 450 q35) + 1))) fun h37 =>
      some h37)
    else
    nn (gR h 512 t0) fun q38 =>
    gd ((hK h q38).1 = 9) <|
    bd (fX9_stop h q38 6) fun h42 =>
    some h42

def fX9_skipWord_b20 (t0 : Nat) (a1 : List Nat) (h : Hp) (s0 : Int) : Option (Int × Hp) :=
    if s0 = 0 then (
      gd (s0 = 0 ∨ s0 = 1) <|
      some (s0, h))
    else
    gd ((hK h t0).1 = 9) <|
    bd (fX9_next h t0) fun h6 =>
    gd (s0 = 0 ∨ s0 = 1) <|
    some (s0, h6)

def fX9_skipWord_b19 (t0 : Nat) (a1 : List Nat) (h : Hp) : Option (Int × Hp) :=
    fX9_skipWord_b20 t0 a1 h 0

def fX9_skipWord (h : Hp) (t0 : Nat) (a1 : List Nat) : Option (Int × Hp) :=
    gd ((hK h t0).1 = 9) <|
    if (gI h 578 t0) = 0 then (
      bd (fX9_isWord h t0 a1) fun r3 =>
      if r3 = 0 then (
        fX9_skipWord_b19 t0 a1 h)
      else
      fX9_skipWord_b20 t0 a1 h 1)
    else
    fX9_skipWord_b19 t0 a1 h

def fX9_takeWord (h : Hp) (t0 : Nat) (a1 : List Nat) : Option Hp :=
    gd ((hK h t0).1 = 9) <|
    bd2 (fX9_skipWord h t0 a1) fun r2 h4 =>
    if r2 = 0 then (
      gd ((hK h4 t0).1 = 9) <|
      bd (fX9_stop h4 t0 2) fun h9 =>
      some h9)
    else
    some h4

def fX9_takeNumber_b30 (t0 : Nat) (a1 : Int) (a2 : Int) : Nat → Hp → Int → Int → Option (Int × Hp)
  | 0, _, _, _ => none
  | fu + 1, h, v3, v4 =>
    gd ((hK h t0).1 = 9) <|
    if v4 < (gI h 582 t0) then (
      nn (gR h 576 t0) fun q12 =>
      gd ((hK h q12).1 = 20) <|
      gd (inA v4 (hK h q12).2) <|
      lt (α := Int) (w32 ((w32 ((w32 (v3 * 10)) + (gA h q12 v4.toNat))) - 48)) fun x15 =>
      lt (α := Int) (w32 (v4 + 1)) fun x16 =>
      fX9_takeNumber_b30 t0 a1 a2 fu h x15 x16)
    else
    bd (fX11_within v3 a1 a2) fun r3 =>
    if r3 = 0 then (
      bd (fX9_stop h t0 4) fun h11 =>
      some (0, h11))
    else
    bd (fX9_next h t0) fun h8 =>
    some (v3, h8)

def fX9_takeNumber_b13 (t0 : Nat) (a1 : Int) (a2 : Int) (h : Hp) : Option (Int × Hp) :=
    gd ((hK h t0).1 = 9) <|
    if (gI h 578 t0) = 0 then (
      lt (α := Int) (gI h 580 t0) fun x3 =>
      fX9_takeNumber_b30 t0 a1 a2 FU h 0 x3)
    else
    some (0, h)

def fX9_takeNumber (h : Hp) (t0 : Nat) (a1 : Int) (a2 : Int) : Option (Int × Hp) :=
    gd ((hK h t0).1 = 9) <|
    if (gI h 583 t0) = 2 then (
      fX9_takeNumber_b13 t0 a1 a2 h)
    else
    bd (fX9_stop h t0 2) fun h5 =>
    fX9_takeNumber_b13 t0 a1 a2 h5

def fX8_takeSide (h : Hp) (t0 : Nat) : Option (Int × Hp) :=
    gd ((hK h t0).1 = 8) <|
    nn (gR h 512 t0) fun q2 =>
    gd ((hK h q2).1 = 9) <|
    bd2 (fX9_skipWord h q2 [104, 101, 97, 100]) fun r4 h6 =>
    gd ((hK h6 t0).1 = 8) <|
    nn (gR h6 512 t0) fun q8 =>
    gd ((hK h6 q8).1 = 9) <|
    bd2 (fX9_skipWord h6 q8 [116, 97, 105, 108]) fun r10 h12 =>
    if r4 = r10 then (
      some (2, h12))
    else
    some ((if r4 = 0 then 1 else 0), h12)

def fX8_readJar_b196 (t0 : Nat) (h : Hp) : Option Hp :=
    gd ((hK h t0).1 = 8) <|
    nn (gR h 512 t0) fun q2 =>
    gd ((hK h q2).1 = 9) <|
    bd (fX9_takeSign h q2) fun h6 =>
    gd ((hK h6 t0).1 = 8) <|
    nn (gR h6 517 t0) fun q8 =>
    gd ((hK h6 q8).1 = 7) <|
    lt (α := Hp) (pI h6 451 q8 (w32 ((gI h6 451 q8) + 1))) fun h10 =>
    some h10

def fX8_readJar_b170 (t0 : Nat) (h : Hp) (v1 : Nat) : Option Hp :=
    gd ((hK h t0).1 = 8) <|
    nn (gR h 512 t0) fun q2 =>
    gd ((hK h q2).1 = 9) <|
    bd2 (fX9_skipWord h q2 [98, 114, 101, 97, 107, 115]) fun r4 h6 =>
    if r4 = 0 then (
      fX8_readJar_b196 t0 h6)
    else
    gd ((hK h6 t0).1 = 8) <|
    nn (gR h6 512 t0) fun q9 =>
    gd ((hK h6 q9).1 = 9) <|
    bd2 (fX9_takeNumber h6 q9 0 15) fun r11 h13 =>
    gd ((hK h13 v1).1 = 0) <|
    lt (α := Hp) (pI h13 5 v1 r11) fun h15 =>
    fX8_readJar_b196 t0 h15

def fX8_readJar_b144 (t0 : Nat) (h : Hp) (v1 : Nat) : Option Hp :=
    gd ((hK h t0).1 = 8) <|
    nn (gR h 512 t0) fun q2 =>
    gd ((hK h q2).1 = 9) <|
    bd2 (fX9_skipWord h q2 [119, 111, 114, 116, 104]) fun r4 h6 =>
    if r4 = 0 then (
      fX8_readJar_b170 t0 h6 v1)
    else
    gd ((hK h6 t0).1 = 8) <|
    nn (gR h6 512 t0) fun q9 =>
    gd ((hK h6 q9).1 = 9) <|
    bd2 (fX9_takeNumber h6 q9 0 99) fun r11 h13 =>
    gd ((hK h13 v1).1 = 0) <|
    lt (α := Hp) (pI h13 4 v1 r11) fun h15 =>
    fX8_readJar_b170 t0 h15 v1

def fX8_readJar (h : Hp) (t0 : Nat) : Option Hp :=
    gd ((hK h t0).1 = 8) <|
    nn (gR h 517 t0) fun q2 =>
    gd ((hK h q2).1 = 7) <|
    if (gI h 451 q2) < 8 then (
      nn (gR h 512 t0) fun q5 =>
      gd ((hK h q5).1 = 9) <|
      bd (fX9_next h q5) fun h9 =>
      gd ((hK h9 t0).1 = 8) <|
      nn (gR h9 515 t0) fun q11 =>
      nn (gR h9 516 t0) fun q12 =>
      nn (gR h9 517 t0) fun q13 =>
      gd ((hK h9 q13).1 = 7) <|
      bd (fX8_takeNewName h9 t0 q11 q12 (gI h9 451 q13)) fun h17 =>
      gd ((hK h17 t0).1 = 8) <|
      nn (gR h17 517 t0) fun q19 =>
      gd ((hK h17 q19).1 = 7) <|
      nn (gR h17 449 q19) fun q21 =>
      gd ((hK h17 q21).1 = 24) <|
      gd (inA (gI h17 451 q19) (hK h17 q21).2) <|
      nn (gC h17 q21 (gI h17 451 q19).toNat) fun q24 =>
      nn (gR h17 512 t0) fun q25 =>
      gd ((hK h17 q25).1 = 9) <|
      bd (fX9_takeWord h17 q25 [115, 105, 122, 101]) fun h29 =>
      gd ((hK h29 t0).1 = 8) <|
      nn (gR h29 512 t0) fun q31 =>
      gd ((hK h29 q31).1 = 9) <|
      bd2 (fX9_takeNumber h29 q31 1 12) fun r33 h35 =>
      gd ((hK h35 q24).1 = 0) <|
      lt (α := Hp) (pI h35 0 q24 r33) fun h37 =>
      gd ((hK h37 t0).1 = 8) <|
      nn (gR h37 512 t0) fun q39 =>
      gd ((hK h37 q39).1 = 9) <|
      bd (fX9_takeWord h37 q39 [108, 101, 97, 107, 115]) fun h43 =>
      gd ((hK h43 t0).1 = 8) <|
      nn (gR h43 512 t0) fun q45 =>
      gd ((hK h43 q45).1 = 9) <|
      bd2 (fX9_takeNumber h43 q45 0 99) fun r47 h49 =>
      gd ((hK h49 q24).1 = 0) <|
      lt (α := Hp) (pI h49 1 q24 r47) fun h51 =>
      gd ((hK h51 t0).1 = 8) <|
      bd2 (fX8_takeSide h51 t0) fun r53 h55 =>
      gd ((hK h55 q24).1 = 0) <|
      lt (α := Hp) (pI h55 2 q24 r53) fun h57 =>
      gd ((hK h57 t0).1 = 8) <|
      nn (gR h57 512 t0) fun q59 =>
      gd ((hK h57 q59).1 = 9) <|
      bd2 (fX9_skipWord h57 q59 [99, 111, 115, 116, 115]) fun r61 h63 =>
      if r61 = 0 then (
        fX8_readJar_b144 t0 h63 q24)
      else
      gd ((hK h63 t0).1 = 8) <|
      nn (gR h63 512 t0) fun q66 =>
      gd ((hK h63 q66).1 = 9) <|
      bd2 (fX9_takeNumber h63 q66 0 99) fun r68 h70 =>
      gd ((hK h70 q24).1 = 0) <|
      lt (α := Hp) (pI h70 3 q24 r68) fun h72 =>
      fX8_readJar_b144 t0 h72 q24)
    else
    nn (gR h 512 t0) fun q73 =>
    gd ((hK h q73).1 = 9) <|
    bd (fX9_stop h q73 6) fun h77 =>
    some h77

def fX0_isEmpty (h : Hp) (t0 : Nat) : Option Int :=
    gd ((hK h t0).1 = 0) <|
    some (if (gI h 6 t0) = 0 then 1 else 0)

def fX8_takeToldName_b73 (t0 : Nat) (a1 : Nat) (a2 : Nat) (a3 : Int) (a4 : Int) (h : Hp) (v5 : Int) : Option (Int × Hp) :=
    gd ((hK h t0).1 = 8) <|
    nn (gR h 512 t0) fun q2 =>
    gd ((hK h q2).1 = 9) <|
    bd (fX9_hasFault h q2) fun r4 =>
    if r4 = 0 then (
      bd (fX9_next h q2) fun h9 =>
      some (v5, h9))
    else
    some ((-1), h)

def fX8_takeToldName_b18 (t0 : Nat) (a1 : Nat) (a2 : Nat) (a3 : Int) (a4 : Int) (h : Hp) : Option (Int × Hp) :=
    gd ((hK h t0).1 = 8) <|
    bd (fX8_findName h t0 a1 a2 a3) fun r2 =>
    if r2 = (-1) then (
      nn (gR h 512 t0) fun q21 =>
      gd ((hK h q21).1 = 9) <|
      bd (fX9_stop h q21 3) fun h25 =>
      fX8_takeToldName_b73 t0 a1 a2 a3 a4 h25 r2)
    else
    if a4 = 0 then (
      fX8_takeToldName_b73 t0 a1 a2 a3 a4 h r2)
    else
    nn (gR h 517 t0) fun q6 =>
    gd ((hK h q6).1 = 7) <|
    nn (gR h 449 q6) fun q8 =>
    gd ((hK h q8).1 = 24) <|
    gd (inA r2 (hK h q8).2) <|
    nn (gC h q8 r2.toNat) fun q11 =>
    gd ((hK h q11).1 = 0) <|
    bd (fX0_isEmpty h q11) fun r13 =>
    if r13 = 0 then (
      nn (gR h 512 t0) fun q16 =>
      gd ((hK h q16).1 = 9) <|
      bd (fX9_stop h q16 5) fun h20 =>
      fX8_takeToldName_b73 t0 a1 a2 a3 a4 h20 r2)
    else
    fX8_takeToldName_b73 t0 a1 a2 a3 a4 h r2

def fX8_takeToldName (h : Hp) (t0 : Nat) (a1 : Nat) (a2 : Nat) (a3 : Int) (a4 : Int) : Option (Int × Hp) :=
    gd ((hK h t0).1 = 8) <|
    nn (gR h 512 t0) fun q2 =>
    gd ((hK h q2).1 = 9) <|
    bd (fX9_isName h q2) fun r4 =>
    if r4 = 0 then (
      bd (fX9_stop h q2 2) fun h9 =>
      fX8_takeToldName_b18 t0 a1 a2 a3 a4 h9)
    else
    fX8_takeToldName_b18 t0 a1 a2 a3 a4 h

def fX8_readFill_b88 (t0 : Nat) (h : Hp) (v1 : Int) (v2 : Int) (s0 : Int) : Option Hp :=
    gd ((hK h t0).1 = 8) <|
    nn (gR h 512 t0) fun q2 =>
    gd ((hK h q2).1 = 9) <|
    bd2 (fX9_takeNumber h q2 0 (w32 (s0 - 1))) fun r4 h6 =>
    gd ((hK h6 t0).1 = 8) <|
    nn (gR h6 512 t0) fun q8 =>
    gd ((hK h6 q8).1 = 9) <|
    bd (fX9_takeWord h6 q8 [111, 110]) fun h12 =>
    gd ((hK h12 t0).1 = 8) <|
    nn (gR h12 512 t0) fun q14 =>
    gd ((hK h12 q14).1 = 9) <|
    bd2 (fX9_takeNumber h12 q14 0 999) fun r16 h18 =>
    gd ((hK h18 t0).1 = 8) <|
    nn (gR h18 512 t0) fun q20 =>
    gd ((hK h18 q20).1 = 9) <|
    bd (fX9_takeSign h18 q20) fun h24 =>
    gd ((hK h24 t0).1 = 8) <|
    nn (gR h24 512 t0) fun q26 =>
    gd ((hK h24 q26).1 = 9) <|
    bd (fX9_hasFault h24 q26) fun r28 =>
    if r28 = 0 then (
      if v1 = (-1) then (
        some h24)
      else
      nn (gR h24 517 t0) fun q32 =>
      gd ((hK h24 q32).1 = 7) <|
      nn (gR h24 449 q32) fun q34 =>
      gd ((hK h24 q34).1 = 24) <|
      gd (inA v1 (hK h24 q34).2) <|
      nn (gC h24 q34 v1.toNat) fun q37 =>
      gd ((hK h24 q37).1 = 0) <|
      lt (α := Hp) (pI h24 8 q37 v2) fun h39 =>
      lt (α := Hp) (pI h39 9 q37 r4) fun h40 =>
      lt (α := Hp) (pI h40 6 q37 (min (gI h40 0 q37) (w32 (s0 - r4)))) fun h41 =>
      lt (α := Hp) (pI h41 7 q37 r16) fun h42 =>
      some h42)
    else
    some h24

def fX8_readFill (h : Hp) (t0 : Nat) : Option Hp :=
    gd ((hK h t0).1 = 8) <|
    nn (gR h 512 t0) fun q2 =>
    gd ((hK h q2).1 = 9) <|
    bd (fX9_next h q2) fun h6 =>
    gd ((hK h6 t0).1 = 8) <|
    nn (gR h6 515 t0) fun q8 =>
    nn (gR h6 516 t0) fun q9 =>
    nn (gR h6 517 t0) fun q10 =>
    gd ((hK h6 q10).1 = 7) <|
    bd2 (fX8_takeToldName h6 t0 q8 q9 (gI h6 451 q10) 1) fun r12 h14 =>
    gd ((hK h14 t0).1 = 8) <|
    nn (gR h14 512 t0) fun q16 =>
    gd ((hK h14 q16).1 = 9) <|
    bd (fX9_takeWord h14 q16 [111, 102]) fun h20 =>
    gd ((hK h20 t0).1 = 8) <|
    nn (gR h20 513 t0) fun q22 =>
    nn (gR h20 514 t0) fun q23 =>
    nn (gR h20 517 t0) fun q24 =>
    gd ((hK h20 q24).1 = 7) <|
    bd2 (fX8_takeToldName h20 t0 q22 q23 (gI h20 450 q24) 0) fun r26 h28 =>
    gd ((hK h28 t0).1 = 8) <|
    nn (gR h28 512 t0) fun q30 =>
    gd ((hK h28 q30).1 = 9) <|
    bd (fX9_takeWord h28 q30 [102, 114, 111, 109]) fun h34 =>
    if r26 = (-1) then (
      fX8_readFill_b88 t0 h34 r12 r26 0)
    else
    gd ((hK h34 t0).1 = 8) <|
    nn (gR h34 517 t0) fun q37 =>
    gd ((hK h34 q37).1 = 7) <|
    nn (gR h34 448 q37) fun q39 =>
    gd ((hK h34 q39).1 = 26) <|
    gd (inA r26 (hK h34 q39).2) <|
    nn (gC h34 q39 r26.toNat) fun q42 =>
    gd ((hK h34 q42).1 = 6) <|
    fX8_readFill_b88 t0 h34 r12 r26 (gI h34 386 q42)

def fX8_readShop_b111 (t0 : Nat) (a1 : Int) (k21 : Hp → Nat → Nat → Int → Option (Nat × Hp)) (h : Hp) (k : Nat) (n : Nat) (v2 : Int) : Option (Nat × Hp) :=
    lt (α := Int) (w32 (v2 + 1)) fun x1 =>
    k21 h k n x1

def fX8_readShop_b21 (t0 : Nat) (a1 : Int) : Nat → Hp → Nat → Nat → Int → Option (Nat × Hp)
  | 0, _, _, _, _ => none
  | fu + 1, h, k, n, v2 =>
    if v2 ≤ a1 then (
      gd ((hK h t0).1 = 8) <|
      nn (gR h 512 t0) fun q6 =>
      gd ((hK h q6).1 = 9) <|
      gd (k + 0 ≤ 27 ∧ n + 0 ≤ 252) <|
      bd (fX9_hasFault h q6) fun r9 =>
      if r9 = 0 then (
        gd (k + 0 ≤ 27 ∧ n + 0 ≤ 252) <|
        bd (fX9_isAtEnd h q6) fun r15 =>
        if r15 = 0 then (
          gd (k + 0 ≤ 27 ∧ n + 0 ≤ 252) <|
          bd (fX9_isWord h q6 [115, 111, 117, 110, 100]) fun r21 =>
          if r21 = 0 then (
            gd (k + 0 ≤ 27 ∧ n + 0 ≤ 252) <|
            bd (fX9_isWord h q6 [106, 97, 114]) fun r25 =>
            if r25 = 0 then (
              gd (k + 0 ≤ 27 ∧ n + 0 ≤ 252) <|
              bd (fX9_isWord h q6 [102, 105, 108, 108]) fun r29 =>
              if r29 = 0 then (
                gd (k + 0 ≤ 27 ∧ n + 0 ≤ 252) <|
                bd (fX9_stop h q6 2) fun h35 =>
                fX8_readShop_b111 t0 a1 (fX8_readShop_b21 t0 a1 fu) h35 k n v2)
              else
              gd (k + 0 ≤ 27 ∧ n + 0 ≤ 252) <|
              bd (fX8_readFill h t0) fun h39 =>
              fX8_readShop_b111 t0 a1 (fX8_readShop_b21 t0 a1 fu) h39 k n v2)
            else
            gd (k + 0 ≤ 27 ∧ n + 0 ≤ 252) <|
            bd (fX8_readJar h t0) fun h43 =>
            fX8_readShop_b111 t0 a1 (fX8_readShop_b21 t0 a1 fu) h43 k n v2)
          else
          gd (k + 0 ≤ 27 ∧ n + 0 ≤ 252) <|
          bd (fX8_readSound h t0) fun h47 =>
          fX8_readShop_b111 t0 a1 (fX8_readShop_b21 t0 a1 fu) h47 k n v2)
        else
        nn (gR h 517 t0) fun q18 =>
        gd (k ≤ 27 ∧ n ≤ 252) <|
        some (q18, h))
      else
      nn (gR h 517 t0) fun q12 =>
      gd (k ≤ 27 ∧ n ≤ 252) <|
      some (q12, h))
    else
    gd ((hK h t0).1 = 8) <|
    nn (gR h 517 t0) fun q3 =>
    gd (k ≤ 27 ∧ n ≤ 252) <|
    some (q3, h)

def fX8_readShop (h : Hp) (t0 : Nat) (a1 : Int) : Option (Nat × Hp) :=
    lt (α := Nat) (hZ h) fun q1 =>
    lt (α := Hp) (nw h 7 0) fun h2 =>
    bd (fX7_init h2 q1) fun h6 =>
    gd ((hK h6 t0).1 = 8) <|
    lt (α := Hp) (pR h6 517 t0 q1) fun h8 =>
    nn (gR h8 512 t0) fun q9 =>
    gd ((hK h8 q9).1 = 9) <|
    bd (fX9_open h8 q9 a1) fun h13 =>
    fX8_readShop_b21 t0 a1 FU h13 27 252 0

def fX9_empty (h : Hp) (t0 : Nat) : Option Hp :=
    gd ((hK h t0).1 = 9) <|
    lt (α := Hp) (pI h 577 t0 0) fun h2 =>
    some h2

def fX11_answer (h : Hp) (t0 : Nat) (a1 : Int) : Option (Int × Hp) :=
    gd ((hK h t0).1 = 11) <|
    lt (α := Hp) (pI h 721 t0 0) fun h2 =>
    some (a1, h2)

def fX11_shop_b79 (t0 : Nat) (a1 : Int) : Nat → Hp → Nat → Nat → Int → Option (Int × Hp)
  | 0, _, _, _, _ => none
  | fu + 1, h, k, n, v3 =>
    if v3 < 8 then (
      gd ((hK h t0).1 = 11) <|
      nn (gR h 713 t0) fun q11 =>
      gd ((hK h q11).1 = 21) <|
      gd (inA v3 (hK h q11).2) <|
      lt (α := Hp) (sA h q11 v3 0) fun h14 =>
      lt (α := Int) (w32 (v3 + 1)) fun x15 =>
      fX11_shop_b79 t0 a1 fu h14 k n x15)
    else
    gd ((hK h t0).1 = 11) <|
    nn (gR h 717 t0) fun q3 =>
    gd ((hK h q3).1 = 7) <|
    gd (k + 0 ≤ 31 ∧ n + 0 ≤ 292) <|
    bd2 (fX11_answer h t0 (gI h 451 q3)) fun r6 h8 =>
    gd (k ≤ 31 ∧ n ≤ 292) <|
    some (r6, h8)

def fX11_shop (h : Hp) (t0 : Nat) (a1 : Int) : Option (Int × Hp) :=
    gd ((hK h t0).1 = 11) <|
    nn (gR h 705 t0) fun q2 =>
    gd ((hK h q2).1 = 9) <|
    bd (fX11_within a1 0 (gI h 577 q2)) fun r4 =>
    if r4 = 0 then (
      bd2 (fX11_refuse h t0 5) fun r37 h39 =>
      some (r37, h39))
    else
    nn (gR h 706 t0) fun q7 =>
    gd ((hK h q7).1 = 8) <|
    bd2 (fX8_readShop h q7 a1) fun r9 h11 =>
    gd ((hK h11 t0).1 = 11) <|
    nn (gR h11 705 t0) fun q13 =>
    gd ((hK h11 q13).1 = 9) <|
    bd (fX9_empty h11 q13) fun h17 =>
    gd ((hK h17 t0).1 = 11) <|
    nn (gR h17 705 t0) fun q19 =>
    gd ((hK h17 q19).1 = 9) <|
    bd (fX9_hasFault h17 q19) fun r21 =>
    if r21 = 0 then (
      lt (α := Hp) (pR h17 717 t0 r9) fun h24 =>
      lt (α := Nat) (hZ h24) fun q25 =>
      lt (α := Hp) (nw h24 1 0) fun h26 =>
      bd (fX1_init h26 q25) fun h30 =>
      gd ((hK h30 t0).1 = 11) <|
      lt (α := Hp) (pR h30 718 t0 q25) fun h32 =>
      lt (α := Hp) (pI h32 719 t0 0) fun h33 =>
      fX11_shop_b79 t0 a1 FU h33 31 292 0)
    else
    bd2 (fX11_refuse h17 t0 10) fun r34 h36 =>
    some (r34, h36)

def fX2_takeLetterOrRest_b33 (t0 : Nat) (h : Hp) : Option (Int × Hp) :=
    gd ((hK h t0).1 = 2) <|
    nn (gR h 128 t0) fun q2 =>
    gd ((hK h q2).1 = 9) <|
    bd (fX9_hasFault h q2) fun r4 =>
    if r4 = 0 then (
      bd (fX9_letterAt h q2 0) fun r7 =>
      bd (fX9_next h q2) fun h11 =>
      some (r7, h11))
    else
    some (0, h)

def fX2_takeLetterOrRest (h : Hp) (t0 : Nat) : Option (Int × Hp) :=
    gd ((hK h t0).1 = 2) <|
    nn (gR h 128 t0) fun q2 =>
    gd ((hK h q2).1 = 9) <|
    bd2 (fX9_skipWord h q2 [114, 101, 115, 116]) fun r4 h6 =>
    if r4 = 0 then (
      gd ((hK h6 t0).1 = 2) <|
      nn (gR h6 128 t0) fun q9 =>
      gd ((hK h6 q9).1 = 9) <|
      bd (fX9_isWordUpTo h6 q9 1) fun r11 =>
      if r11 = 0 then (
        bd (fX9_stop h6 q9 2) fun h16 =>
        fX2_takeLetterOrRest_b33 t0 h16)
      else
      fX2_takeLetterOrRest_b33 t0 h6)
    else
    some (0, h6)

def fX2_takeKind (h : Hp) (t0 : Nat) : Option (Int × Hp) :=
    gd ((hK h t0).1 = 2) <|
    nn (gR h 128 t0) fun q2 =>
    gd ((hK h q2).1 = 9) <|
    bd2 (fX9_skipWord h q2 [97, 110, 121]) fun r4 h6 =>
    if r4 = 0 then (
      gd ((hK h6 t0).1 = 2) <|
      bd2 (fX2_takeLetterOrRest h6 t0) fun r9 h11 =>
      some (r9, h11))
    else
    some (27, h6)

def fX2_takeGift (h : Hp) (t0 : Nat) : Option (Int × Hp) :=
    gd ((hK h t0).1 = 2) <|
    nn (gR h 128 t0) fun q2 =>
    gd ((hK h q2).1 = 9) <|
    bd2 (fX9_skipWord h q2 [102, 105, 114, 115, 116]) fun r4 h6 =>
    if r4 = 0 then (
      gd ((hK h6 t0).1 = 2) <|
      nn (gR h6 128 t0) fun q9 =>
      gd ((hK h6 q9).1 = 9) <|
      bd2 (fX9_skipWord h6 q9 [115, 101, 99, 111, 110, 100]) fun r11 h13 =>
      if r11 = 0 then (
        gd ((hK h13 t0).1 = 2) <|
        bd2 (fX2_takeLetterOrRest h13 t0) fun r16 h18 =>
        some (r16, h18))
      else
      some (28, h13))
    else
    some (27, h6)

def fX1_add (h : Hp) (t0 : Nat) (a1 : Int) (a2 : Int) (a3 : Int) : Option Hp :=
    gd ((hK h t0).1 = 1) <|
    if (gI h 67 t0) < 12 then (
      nn (gR h 64 t0) fun q3 =>
      gd ((hK h q3).1 = 21) <|
      gd (inA (gI h 67 t0) (hK h q3).2) <|
      lt (α := Hp) (sA h q3 (gI h 67 t0) a1) fun h6 =>
      nn (gR h6 65 t0) fun q7 =>
      gd ((hK h6 q7).1 = 21) <|
      gd (inA (gI h6 67 t0) (hK h6 q7).2) <|
      lt (α := Hp) (sA h6 q7 (gI h6 67 t0) a2) fun h10 =>
      nn (gR h10 66 t0) fun q11 =>
      gd ((hK h10 q11).1 = 21) <|
      gd (inA (gI h10 67 t0) (hK h10 q11).2) <|
      lt (α := Hp) (sA h10 q11 (gI h10 67 t0) a3) fun h14 =>
      lt (α := Hp) (pI h14 67 t0 (w32 ((gI h14 67 t0) + 1))) fun h15 =>
      some h15)
    else
    some h

def fX2_readRule_b30 (t0 : Nat) (a1 : Nat) (h : Hp) : Option Hp :=
    gd ((hK h t0).1 = 2) <|
    nn (gR h 128 t0) fun q2 =>
    gd ((hK h q2).1 = 9) <|
    bd (fX9_takeWord h q2 [109, 105, 120]) fun h6 =>
    gd ((hK h6 t0).1 = 2) <|
    bd2 (fX2_takeKind h6 t0) fun r8 h10 =>
    gd ((hK h10 t0).1 = 2) <|
    nn (gR h10 128 t0) fun q12 =>
    gd ((hK h10 q12).1 = 9) <|
    bd (fX9_takeWord h10 q12 [119, 105, 116, 104]) fun h16 =>
    gd ((hK h16 t0).1 = 2) <|
    bd2 (fX2_takeKind h16 t0) fun r18 h20 =>
    gd ((hK h20 t0).1 = 2) <|
    nn (gR h20 128 t0) fun q22 =>
    gd ((hK h20 q22).1 = 9) <|
    bd (fX9_takeWord h20 q22 [103, 105, 118, 101, 115]) fun h26 =>
    gd ((hK h26 t0).1 = 2) <|
    bd2 (fX2_takeGift h26 t0) fun r28 h30 =>
    gd ((hK h30 t0).1 = 2) <|
    nn (gR h30 128 t0) fun q32 =>
    gd ((hK h30 q32).1 = 9) <|
    bd (fX9_takeSign h30 q32) fun h36 =>
    gd ((hK h36 a1).1 = 1) <|
    bd (fX1_add h36 a1 r8 r18 r28) fun h40 =>
    some h40

def fX2_readRule (h : Hp) (t0 : Nat) (a1 : Nat) : Option Hp :=
    gd ((hK h a1).1 = 1) <|
    if (gI h 67 a1) < 12 then (
      fX2_readRule_b30 t0 a1 h)
    else
    gd ((hK h t0).1 = 2) <|
    nn (gR h 128 t0) fun q4 =>
    gd ((hK h q4).1 = 9) <|
    bd (fX9_isWord h q4 [109, 105, 120]) fun r6 =>
    if r6 = 0 then (
      fX2_readRule_b30 t0 a1 h)
    else
    bd (fX9_stop h q4 6) fun h11 =>
    fX2_readRule_b30 t0 a1 h11

def fX2_readLaw_b18 (t0 : Nat) (a1 : Int) : Nat → Hp → Nat → Nat → Nat → Int → Option (Nat × Hp)
  | 0, _, _, _, _, _ => none
  | fu + 1, h, k, n, v2, v3 =>
    if v3 ≤ a1 then (
      gd ((hK h t0).1 = 2) <|
      nn (gR h 128 t0) fun q4 =>
      gd ((hK h q4).1 = 9) <|
      gd (k + 0 ≤ 4 ∧ n + 0 ≤ 40) <|
      bd (fX9_hasFault h q4) fun r7 =>
      if r7 = 0 then (
        gd (k + 0 ≤ 4 ∧ n + 0 ≤ 40) <|
        bd (fX9_isAtEnd h q4) fun r12 =>
        if r12 = 0 then (
          gd (k + 0 ≤ 4 ∧ n + 0 ≤ 40) <|
          bd (fX2_readRule h t0 v2) fun h19 =>
          lt (α := Int) (w32 (v3 + 1)) fun x20 =>
          fX2_readLaw_b18 t0 a1 fu h19 k n v2 x20)
        else
        gd (k ≤ 4 ∧ n ≤ 40) <|
        some (v2, h))
      else
      gd (k ≤ 4 ∧ n ≤ 40) <|
      some (v2, h))
    else
    gd (k ≤ 4 ∧ n ≤ 40) <|
    some (v2, h)

def fX2_readLaw (h : Hp) (t0 : Nat) (a1 : Int) : Option (Nat × Hp) :=
    lt (α := Nat) (hZ h) fun q1 =>
    lt (α := Hp) (nw h 1 0) fun h2 =>
    bd (fX1_init h2 q1) fun h6 =>
    gd ((hK h6 t0).1 = 2) <|
    nn (gR h6 128 t0) fun q8 =>
    gd ((hK h6 q8).1 = 9) <|
    bd (fX9_open h6 q8 a1) fun h12 =>
    fX2_readLaw_b18 t0 a1 FU h12 4 40 q1 0

def fX11_law (h : Hp) (t0 : Nat) (a1 : Int) : Option (Int × Hp) :=
    gd ((hK h t0).1 = 11) <|
    nn (gR h 705 t0) fun q2 =>
    gd ((hK h q2).1 = 9) <|
    bd (fX11_within a1 0 (min (gI h 577 q2) 300)) fun r4 =>
    if r4 = 0 then (
      bd2 (fX11_refuse h t0 5) fun r33 h35 =>
      some (r33, h35))
    else
    nn (gR h 707 t0) fun q7 =>
    gd ((hK h q7).1 = 2) <|
    bd2 (fX2_readLaw h q7 a1) fun r9 h11 =>
    gd ((hK h11 t0).1 = 11) <|
    nn (gR h11 705 t0) fun q13 =>
    gd ((hK h11 q13).1 = 9) <|
    bd (fX9_empty h11 q13) fun h17 =>
    gd ((hK h17 t0).1 = 11) <|
    nn (gR h17 705 t0) fun q19 =>
    gd ((hK h17 q19).1 = 9) <|
    bd (fX9_hasFault h17 q19) fun r21 =>
    if r21 = 0 then (
      lt (α := Hp) (pR h17 718 t0 r9) fun h24 =>
      nn (gR h24 718 t0) fun q25 =>
      gd ((hK h24 q25).1 = 1) <|
      bd2 (fX11_answer h24 t0 (gI h24 67 q25)) fun r27 h29 =>
      some (r27, h29))
    else
    bd2 (fX11_refuse h17 t0 10) fun r30 h32 =>
    some (r30, h32)

def fX11_fault (h : Hp) (t0 : Nat) (a1 : Int) : Option Int :=
    if a1 = 0 then (
      gd ((hK h t0).1 = 11) <|
      nn (gR h 705 t0) fun q7 =>
      gd ((hK h q7).1 = 9) <|
      some (gI h 578 q7))
    else
    if a1 = 1 then (
      gd ((hK h t0).1 = 11) <|
      nn (gR h 705 t0) fun q4 =>
      gd ((hK h q4).1 = 9) <|
      some (gI h 579 q4))
    else
    some (-1)

def fX7_filledJars_b30 (h : Hp) (t0 : Nat) (k4 : Int → Int → Option Int) (v1 : Int) (v2 : Int) : Option Int :=
    lt (α := Int) (w32 (v2 + 1)) fun x1 =>
    k4 v1 x1

def fX7_filledJars_b4 (h : Hp) (t0 : Nat) : Nat → Int → Int → Option Int
  | 0, _, _ => none
  | fu + 1, v1, v2 =>
    gd ((hK h t0).1 = 7) <|
    if v2 < (gI h 451 t0) then (
      nn (gR h 449 t0) fun q3 =>
      gd ((hK h q3).1 = 24) <|
      gd (inA v2 (hK h q3).2) <|
      nn (gC h q3 v2.toNat) fun q6 =>
      gd ((hK h q6).1 = 0) <|
      bd (fX0_isEmpty h q6) fun r8 =>
      if r8 = 0 then (
        lt (α := Int) (bor v1 (shl 1 v2)) fun x11 =>
        fX7_filledJars_b30 h t0 (fX7_filledJars_b4 h t0 fu) x11 v2)
      else
      fX7_filledJars_b30 h t0 (fX7_filledJars_b4 h t0 fu) v1 v2)
    else
    some v1

def fX7_filledJars (h : Hp) (t0 : Nat) : Option Int :=
    fX7_filledJars_b4 h t0 FU 0 0

def fJ6_bitCount_0f7a4 (a1 : Int) : Option Int :=
    lt (α := Int) (w32 (a1 - (bnd (ushr a1 1) 1431655765))) fun x1 =>
    lt (α := Int) (w32 ((bnd x1 858993459) + (bnd (ushr x1 2) 858993459))) fun x2 =>
    lt (α := Int) (bnd (w32 (x2 + (ushr x2 4))) 252645135) fun x3 =>
    lt (α := Int) (w32 (x3 + (ushr x3 8))) fun x4 =>
    lt (α := Int) (w32 (x4 + (ushr x4 16))) fun x5 =>
    some (bnd x5 63)

def fX11_many (h : Hp) (t0 : Nat) (a1 : Int) : Option (Int × Hp) :=
    if a1 = 0 then (
      gd ((hK h t0).1 = 11) <|
      nn (gR h 717 t0) fun q3 =>
      gd ((hK h q3).1 = 7) <|
      bd2 (fX11_answer h t0 (gI h 450 q3)) fun r5 h7 =>
      some (r5, h7))
    else
    if a1 = 1 then (
      gd ((hK h t0).1 = 11) <|
      nn (gR h 717 t0) fun q10 =>
      gd ((hK h q10).1 = 7) <|
      bd2 (fX11_answer h t0 (gI h 451 q10)) fun r12 h14 =>
      some (r12, h14))
    else
    if a1 = 2 then (
      gd ((hK h t0).1 = 11) <|
      nn (gR h 718 t0) fun q17 =>
      gd ((hK h q17).1 = 1) <|
      bd2 (fX11_answer h t0 (gI h 67 q17)) fun r19 h21 =>
      some (r19, h21))
    else
    if a1 = 3 then (
      gd ((hK h t0).1 = 11) <|
      bd2 (fX11_answer h t0 (gI h 719 t0)) fun r24 h26 =>
      some (r24, h26))
    else
    if a1 = 4 then (
      gd ((hK h t0).1 = 11) <|
      nn (gR h 717 t0) fun q29 =>
      gd ((hK h q29).1 = 7) <|
      bd (fX7_filledJars h q29) fun r31 =>
      bd (fJ6_bitCount_0f7a4 r31) fun r33 =>
      bd2 (fX11_answer h t0 (w32 ((gI h 451 q29) - r33))) fun r35 h37 =>
      some (r35, h37))
    else
    gd ((hK h t0).1 = 11) <|
    bd2 (fX11_refuse h t0 5) fun r39 h41 =>
    some (r39, h41)

def fX11_isSound (h : Hp) (t0 : Nat) (a1 : Int) : Option Int :=
    gd ((hK h t0).1 = 11) <|
    nn (gR h 717 t0) fun q2 =>
    gd ((hK h q2).1 = 7) <|
    bd (fX11_within a1 0 (w32 ((gI h 450 q2) - 1))) fun r4 =>
    some r4

def fX6_has (h : Hp) (t0 : Nat) (a1 : Int) : Option Int :=
    if a1 < 0 then (
      some 0)
    else
    gd ((hK h t0).1 = 6) <|
    if a1 < (gI h 386 t0) then (
      some 1)
    else
    some 0

def fX6_at (h : Hp) (t0 : Nat) (a1 : Int) : Option Int :=
    gd ((hK h t0).1 = 6) <|
    bd (fX6_has h t0 a1) fun r2 =>
    if r2 = 0 then (
      some 0)
    else
    nn (gR h 384 t0) fun q5 =>
    gd ((hK h q5).1 = 21) <|
    gd (inA (w32 ((gI h 385 t0) + a1)) (hK h q5).2) <|
    some (gA h q5 (w32 ((gI h 385 t0) + a1)).toNat)

def fX11_answerAt (h : Hp) (t0 : Nat) (a1 : Nat) (a2 : Int) : Option (Int × Hp) :=
    gd ((hK h a1).1 = 6) <|
    bd (fX6_has h a1 a2) fun r2 =>
    if r2 = 0 then (
      gd ((hK h t0).1 = 11) <|
      bd2 (fX11_refuse h t0 8) fun r6 h8 =>
      some (r6, h8))
    else
    bd (fX6_at h a1 a2) fun r9 =>
    gd ((hK h t0).1 = 11) <|
    bd2 (fX11_answer h t0 r9) fun r12 h14 =>
    some (r12, h14)

def fX11_letter (h : Hp) (t0 : Nat) (a1 : Int) (a2 : Int) : Option (Int × Hp) :=
    gd ((hK h t0).1 = 11) <|
    bd (fX11_isSound h t0 a1) fun r2 =>
    if r2 = 0 then (
      bd2 (fX11_refuse h t0 2) fun r14 h16 =>
      some (r14, h16))
    else
    nn (gR h 717 t0) fun q5 =>
    gd ((hK h q5).1 = 7) <|
    nn (gR h 448 q5) fun q7 =>
    gd ((hK h q7).1 = 26) <|
    gd (inA a1 (hK h q7).2) <|
    nn (gC h q7 a1.toNat) fun q10 =>
    bd2 (fX11_answerAt h t0 q10 a2) fun r11 h13 =>
    some (r11, h13)

def fX11_isJar (h : Hp) (t0 : Nat) (a1 : Int) : Option Int :=
    gd ((hK h t0).1 = 11) <|
    nn (gR h 717 t0) fun q2 =>
    gd ((hK h q2).1 = 7) <|
    bd (fX11_within a1 0 (w32 ((gI h 451 q2) - 1))) fun r4 =>
    some r4

def fX0_told (h : Hp) (t0 : Nat) (a1 : Int) : Option Int :=
    if a1 = 0 then (
      gd ((hK h t0).1 = 0) <|
      some (gI h 0 t0))
    else
    if a1 = 1 then (
      gd ((hK h t0).1 = 0) <|
      some (gI h 1 t0))
    else
    if a1 = 2 then (
      gd ((hK h t0).1 = 0) <|
      some (gI h 2 t0))
    else
    if a1 = 3 then (
      gd ((hK h t0).1 = 0) <|
      some (gI h 3 t0))
    else
    if a1 = 4 then (
      gd ((hK h t0).1 = 0) <|
      some (gI h 4 t0))
    else
    if a1 = 5 then (
      gd ((hK h t0).1 = 0) <|
      some (gI h 5 t0))
    else
    if a1 = 6 then (
      gd ((hK h t0).1 = 0) <|
      some (gI h 6 t0))
    else
    if a1 = 7 then (
      gd ((hK h t0).1 = 0) <|
      some (gI h 7 t0))
    else
    gd ((hK h t0).1 = 0) <|
    some (gI h 8 t0)

def fX11_jar (h : Hp) (t0 : Nat) (a1 : Int) (a2 : Int) : Option (Int × Hp) :=
    gd ((hK h t0).1 = 11) <|
    bd (fX11_isJar h t0 a1) fun r2 =>
    if r2 = 0 then (
      bd2 (fX11_refuse h t0 2) fun r36 h38 =>
      some (r36, h38))
    else
    bd (fX11_within a2 0 8) fun r5 =>
    if r5 = 0 then (
      bd2 (fX11_refuse h t0 5) fun r33 h35 =>
      some (r33, h35))
    else
    nn (gR h 717 t0) fun q8 =>
    gd ((hK h q8).1 = 7) <|
    nn (gR h 449 q8) fun q10 =>
    gd ((hK h q10).1 = 24) <|
    gd (inA a1 (hK h q10).2) <|
    nn (gC h q10 a1.toNat) fun q13 =>
    if a2 < 7 then (
      gd ((hK h q13).1 = 0) <|
      bd (fX0_told h q13 a2) fun r16 =>
      bd2 (fX11_answer h t0 r16) fun r18 h20 =>
      some (r18, h20))
    else
    gd ((hK h q13).1 = 0) <|
    bd (fX0_isEmpty h q13) fun r22 =>
    if r22 = 0 then (
      bd (fX0_told h q13 a2) fun r25 =>
      bd2 (fX11_answer h t0 r25) fun r27 h29 =>
      some (r27, h29))
    else
    bd2 (fX11_refuse h t0 8) fun r30 h32 =>
    some (r30, h32)

def fX11_day (h : Hp) (t0 : Nat) (a1 : Int) : Option (Int × Hp) :=
    bd (fX11_within a1 0 9999) fun r1 =>
    if r1 = 0 then (
      gd ((hK h t0).1 = 11) <|
      bd2 (fX11_deny h t0 5) fun r10 h12 =>
      some (r10, h12))
    else
    gd ((hK h t0).1 = 11) <|
    lt (α := Hp) (pI h 719 t0 a1) fun h5 =>
    bd2 (fX11_allow h5 t0) fun r6 h8 =>
    some (r6, h8)

def fX0_goneAfter (h : Hp) (t0 : Nat) (a1 : Int) : Option Int :=
    gd ((hK h t0).1 = 0) <|
    if (gI h 1 t0) = 0 then (
      some 0)
    else
    gd (¬ (gI h 1 t0) = 0) <|
    some (idv a1 (gI h 1 t0))

def fX0_lostBy (h : Hp) (t0 : Nat) (a1 : Int) : Option Int :=
    gd ((hK h t0).1 = 0) <|
    if a1 < (gI h 7 t0) then (
      some 0)
    else
    bd (fX0_goneAfter h t0 (w32 (a1 - (gI h 7 t0)))) fun r3 =>
    some (min (gI h 6 t0) r3)

def fX0_fromHead (h : Hp) (t0 : Nat) (a1 : Int) : Option Int :=
    gd ((hK h t0).1 = 0) <|
    if (gI h 2 t0) = 0 then (
      some a1)
    else
    if (gI h 2 t0) = 1 then (
      some 0)
    else
    some (idv (w32 (a1 + 1)) 2)

def fX0_leftOn (h : Hp) (t0 : Nat) (a1 : Int) : Option Int :=
    gd ((hK h t0).1 = 0) <|
    if a1 < (gI h 7 t0) then (
      some 0)
    else
    bd (fX0_lostBy h t0 a1) fun r3 =>
    some (w32 ((gI h 6 t0) - r3))

def fX6_show_b39 (t0 : Nat) (a1 : Nat) (a2 : Int) (a3 : Int) (h : Hp) (v4 : Int) (s0 : Int) (s1 : Nat) : Option Hp :=
    gd ((hK h s1).1 = 6) <|
    lt (α := Hp) (pI h 385 s1 s0) fun h2 =>
    if v4 = 0 then (
      gd ((hK h2 t0).1 = 6) <|
      lt (α := Hp) (pI h2 386 t0 0) fun h5 =>
      some h5)
    else
    gd ((hK h2 t0).1 = 6) <|
    lt (α := Hp) (pI h2 386 t0 a3) fun h7 =>
    some h7

def fX6_show_b21 (t0 : Nat) (a1 : Nat) (a2 : Int) (a3 : Int) (h : Hp) (s0 : Int) : Option Hp :=
    gd ((hK h t0).1 = 6) <|
    lt (α := Hp) (pR h 384 t0 a1) fun h2 =>
    if s0 = 0 then (
      fX6_show_b39 t0 a1 a2 a3 h2 s0 0 t0)
    else
    fX6_show_b39 t0 a1 a2 a3 h2 s0 a2 t0

def fX6_show_b20 (t0 : Nat) (a1 : Nat) (a2 : Int) (a3 : Int) (h : Hp) : Option Hp :=
    fX6_show_b21 t0 a1 a2 a3 h 0

def fX6_show (h : Hp) (t0 : Nat) (a1 : Nat) (a2 : Int) (a3 : Int) : Option Hp :=
    if a2 < 0 then (
      fX6_show_b20 t0 a1 a2 a3 h)
    else
    if a3 < 0 then (
      fX6_show_b20 t0 a1 a2 a3 h)
    else
    gd ((hK h a1).1 = 21) <|
    gd (((hK h a1).2 : Int) < 2147483648) <|
    if a2 ≤ (w32 (((hK h a1).2 : Int) - a3)) then (
      fX6_show_b21 t0 a1 a2 a3 h 1)
    else
    fX6_show_b20 t0 a1 a2 a3 h

def fX7_listen (h : Hp) (t0 : Nat) (a1 : Nat) (a2 : Nat) (a3 : Int) : Option Hp :=
    gd ((hK h t0).1 = 7) <|
    nn (gR h 448 t0) fun q2 =>
    gd ((hK h a2).1 = 0) <|
    gd ((hK h q2).1 = 26) <|
    gd (inA (gI h 8 a2) (hK h q2).2) <|
    nn (gC h q2 (gI h 8 a2).toNat) fun q6 =>
    bd (fX0_lostBy h a2 a3) fun r7 =>
    bd (fX0_fromHead h a2 r7) fun r9 =>
    gd ((hK h q6).1 = 6) <|
    nn (gR h 384 q6) fun q12 =>
    bd (fX0_leftOn h a2 a3) fun r13 =>
    gd ((hK h a1).1 = 6) <|
    bd (fX6_show h a1 q12 (w32 ((w32 ((gI h 385 q6) + (gI h 9 a2))) + r9)) r13) fun h18 =>
    some h18

def fX11_hear (h : Hp) (t0 : Nat) (a1 : Int) : Option (Nat × Hp) :=
    gd ((hK h t0).1 = 11) <|
    nn (gR h 717 t0) fun q2 =>
    nn (gR h 709 t0) fun q3 =>
    gd ((hK h q3).1 = 26) <|
    gd (inA a1 (hK h q3).2) <|
    nn (gC h q3 a1.toNat) fun q6 =>
    gd ((hK h q2).1 = 7) <|
    nn (gR h 449 q2) fun q8 =>
    gd ((hK h q8).1 = 24) <|
    gd (inA a1 (hK h q8).2) <|
    nn (gC h q8 a1.toNat) fun q11 =>
    bd (fX7_listen h q2 q6 q11 (gI h 719 t0)) fun h14 =>
    gd ((hK h14 t0).1 = 11) <|
    nn (gR h14 709 t0) fun q16 =>
    gd ((hK h14 q16).1 = 26) <|
    gd (inA a1 (hK h14 q16).2) <|
    nn (gC h14 q16 a1.toNat) fun q19 =>
    some (q19, h14)

def fX11_heard (h : Hp) (t0 : Nat) (a1 : Int) : Option (Int × Hp) :=
    gd ((hK h t0).1 = 11) <|
    bd (fX11_isJar h t0 a1) fun r2 =>
    if r2 = 0 then (
      bd2 (fX11_refuse h t0 2) fun r13 h15 =>
      some (r13, h15))
    else
    bd2 (fX11_hear h t0 a1) fun r5 h7 =>
    gd ((hK h7 r5).1 = 6) <|
    gd ((hK h7 t0).1 = 11) <|
    bd2 (fX11_answer h7 t0 (gI h7 386 r5)) fun r10 h12 =>
    some (r10, h12)

def fX11_heardAt (h : Hp) (t0 : Nat) (a1 : Int) (a2 : Int) : Option (Int × Hp) :=
    gd ((hK h t0).1 = 11) <|
    bd (fX11_isJar h t0 a1) fun r2 =>
    if r2 = 0 then (
      bd2 (fX11_refuse h t0 2) fun r12 h14 =>
      some (r12, h14))
    else
    bd2 (fX11_hear h t0 a1) fun r5 h7 =>
    gd ((hK h7 t0).1 = 11) <|
    bd2 (fX11_answerAt h7 t0 r5 a2) fun r9 h11 =>
    some (r9, h11)

def fX11_bring_b40 (t0 : Nat) (a1 : Nat) (a2 : Int) : Nat → Hp → Nat → Int → Option (Int × Hp)
  | 0, _, _, _ => none
  | fu + 1, h, v3, v4 =>
    gd ((hK h a1).1 = 6) <|
    if v4 < (gI h 386 a1) then (
      bd (fX6_at h a1 v4) fun r7 =>
      gd ((hK h v3).1 = 10) <|
      bd (fX10_put h v3 v4 r7) fun h12 =>
      lt (α := Int) (w32 (v4 + 1)) fun x13 =>
      fX11_bring_b40 t0 a1 a2 fu h12 v3 x13)
    else
    gd ((hK h t0).1 = 11) <|
    bd2 (fX11_answer h t0 (gI h 386 a1)) fun r4 h6 =>
    some (r4, h6)

def fX11_bring (h : Hp) (t0 : Nat) (a1 : Nat) (a2 : Int) : Option (Int × Hp) :=
    gd ((hK h t0).1 = 11) <|
    nn (gR h 704 t0) fun q2 =>
    gd ((hK h q2).1 = 27) <|
    gd (inA a2 (hK h q2).2) <|
    nn (gC h q2 a2.toNat) fun q5 =>
    gd ((hK h q5).1 = 10) <|
    bd (fX10_isMissing h q5) fun r7 =>
    if r7 = 0 then (
      gd ((hK h a1).1 = 6) <|
      if (gI h 386 a1) ≤ (gI h 642 q5) then (
        fX11_bring_b40 t0 a1 a2 FU h q5 0)
      else
      bd2 (fX11_refuse h t0 4) fun r12 h14 =>
      some (r12, h14))
    else
    bd2 (fX11_refuse h t0 3) fun r15 h17 =>
    some (r15, h17)

def fX11_pourOut (h : Hp) (t0 : Nat) (a1 : Int) (a2 : Int) : Option (Int × Hp) :=
    bd (fX11_isTray a2) fun r1 =>
    if r1 = 0 then (
      gd ((hK h t0).1 = 11) <|
      bd2 (fX11_refuse h t0 1) fun r19 h21 =>
      some (r19, h21))
    else
    gd ((hK h t0).1 = 11) <|
    bd (fX11_isJar h t0 a1) fun r5 =>
    if r5 = 0 then (
      bd2 (fX11_refuse h t0 2) fun r15 h17 =>
      some (r15, h17))
    else
    bd2 (fX11_hear h t0 a1) fun r8 h10 =>
    gd ((hK h10 t0).1 = 11) <|
    bd2 (fX11_bring h10 t0 r8 a2) fun r12 h14 =>
    some (r12, h14)

def fX11_lost (h : Hp) (t0 : Nat) (a1 : Int) : Option (Int × Hp) :=
    gd ((hK h t0).1 = 11) <|
    bd (fX11_isJar h t0 a1) fun r2 =>
    if r2 = 0 then (
      bd2 (fX11_refuse h t0 2) fun r17 h19 =>
      some (r17, h19))
    else
    nn (gR h 717 t0) fun q5 =>
    gd ((hK h q5).1 = 7) <|
    nn (gR h 449 q5) fun q7 =>
    gd ((hK h q7).1 = 24) <|
    gd (inA a1 (hK h q7).2) <|
    nn (gC h q7 a1.toNat) fun q10 =>
    gd ((hK h q10).1 = 0) <|
    bd (fX0_lostBy h q10 (gI h 719 t0)) fun r12 =>
    bd2 (fX11_answer h t0 r12) fun r14 h16 =>
    some (r14, h16)

def fX0_firstDayWith_b32 (h : Hp) (t0 : Nat) (a1 : Int) : Option Int :=
    gd ((hK h t0).1 = 0) <|
    some (w32 ((gI h 7 t0) + (w32 ((w32 ((gI h 6 t0) - a1)) * (gI h 1 t0)))))

def fX0_firstDayWith (h : Hp) (t0 : Nat) (a1 : Int) : Option Int :=
    gd ((hK h t0).1 = 0) <|
    bd (fX0_isEmpty h t0) fun r2 =>
    if r2 = 0 then (
      if a1 ≤ (gI h 6 t0) then (
        if (gI h 1 t0) = 0 then (
          if a1 < (gI h 6 t0) then (
            some (-1))
          else
          fX0_firstDayWith_b32 h t0 a1)
        else
        fX0_firstDayWith_b32 h t0 a1)
      else
      some (-1))
    else
    some (-1)

def fX11_answerOrNoSuch (h : Hp) (t0 : Nat) (a1 : Int) : Option (Int × Hp) :=
    if a1 = (-1) then (
      gd ((hK h t0).1 = 11) <|
      bd2 (fX11_refuse h t0 8) fun r7 h9 =>
      some (r7, h9))
    else
    gd ((hK h t0).1 = 11) <|
    bd2 (fX11_answer h t0 a1) fun r3 h5 =>
    some (r3, h5)

def fX11_silent (h : Hp) (t0 : Nat) (a1 : Int) : Option (Int × Hp) :=
    gd ((hK h t0).1 = 11) <|
    bd (fX11_isJar h t0 a1) fun r2 =>
    if r2 = 0 then (
      bd2 (fX11_refuse h t0 2) fun r17 h19 =>
      some (r17, h19))
    else
    nn (gR h 717 t0) fun q5 =>
    gd ((hK h q5).1 = 7) <|
    nn (gR h 449 q5) fun q7 =>
    gd ((hK h q7).1 = 24) <|
    gd (inA a1 (hK h q7).2) <|
    nn (gC h q7 a1.toNat) fun q10 =>
    gd ((hK h q10).1 = 0) <|
    bd (fX0_firstDayWith h q10 0) fun r12 =>
    bd2 (fX11_answerOrNoSuch h t0 r12) fun r14 h16 =>
    some (r14, h16)

def fX7_lettersOn_b4 (h : Hp) (t0 : Nat) (a1 : Int) : Nat → Int → Int → Option Int
  | 0, _, _ => none
  | fu + 1, v2, v3 =>
    gd ((hK h t0).1 = 7) <|
    if v3 < (gI h 451 t0) then (
      nn (gR h 449 t0) fun q3 =>
      gd ((hK h q3).1 = 24) <|
      gd (inA v3 (hK h q3).2) <|
      nn (gC h q3 v3.toNat) fun q6 =>
      gd ((hK h q6).1 = 0) <|
      bd (fX0_leftOn h q6 a1) fun r8 =>
      lt (α := Int) (w32 (v2 + r8)) fun x10 =>
      lt (α := Int) (w32 (v3 + 1)) fun x11 =>
      fX7_lettersOn_b4 h t0 a1 fu x10 x11)
    else
    some v2

def fX7_lettersOn (h : Hp) (t0 : Nat) (a1 : Int) : Option Int :=
    fX7_lettersOn_b4 h t0 a1 FU 0 0

def fX7_loudestDay_b80 (h : Hp) (t0 : Nat) (a1 : Int) (a2 : Int) (k12 : Int → Int → Int → Option Int) (v3 : Int) (v4 : Int) (v5 : Int) : Option Int :=
    lt (α := Int) (w32 (v5 + 1)) fun x1 =>
    k12 v3 v4 x1

def fX7_loudestDay_b73 (h : Hp) (t0 : Nat) (a1 : Int) (a2 : Int) (k12 : Int → Int → Int → Option Int) (v5 : Int) (v6 : Int) (v7 : Int) : Option Int :=
    fX7_loudestDay_b80 h t0 a1 a2 k12 v6 v7 v5

def fX7_loudestDay_b12 (h : Hp) (t0 : Nat) (a1 : Int) (a2 : Int) : Nat → Int → Int → Int → Option Int
  | 0, _, _, _ => none
  | fu + 1, v3, v4, v5 =>
    gd ((hK h t0).1 = 7) <|
    if v5 < (gI h 451 t0) then (
      nn (gR h 449 t0) fun q3 =>
      gd ((hK h q3).1 = 24) <|
      gd (inA v5 (hK h q3).2) <|
      nn (gC h q3 v5.toNat) fun q6 =>
      gd ((hK h q6).1 = 0) <|
      lt (α := Int) (gI h 7 q6) fun x8 =>
      if x8 ≤ a1 then (
        fX7_loudestDay_b80 h t0 a1 a2 (fX7_loudestDay_b12 h t0 a1 a2 fu) v3 v4 v5)
      else
      if x8 ≤ a2 then (
        bd (fX7_lettersOn h t0 x8) fun r11 =>
        if r11 ≤ v4 then (
          if r11 = v4 then (
            if x8 < v3 then (
              fX7_loudestDay_b73 h t0 a1 a2 (fX7_loudestDay_b12 h t0 a1 a2 fu) v5 x8 r11)
            else
            fX7_loudestDay_b80 h t0 a1 a2 (fX7_loudestDay_b12 h t0 a1 a2 fu) v3 v4 v5)
          else
          fX7_loudestDay_b80 h t0 a1 a2 (fX7_loudestDay_b12 h t0 a1 a2 fu) v3 v4 v5)
        else
        fX7_loudestDay_b73 h t0 a1 a2 (fX7_loudestDay_b12 h t0 a1 a2 fu) v5 x8 r11)
      else
      fX7_loudestDay_b80 h t0 a1 a2 (fX7_loudestDay_b12 h t0 a1 a2 fu) v3 v4 v5)
    else
    some v3

def fX7_loudestDay (h : Hp) (t0 : Nat) (a1 : Int) (a2 : Int) : Option Int :=
    gd ((hK h t0).1 = 7) <|
    bd (fX7_lettersOn h t0 a1) fun r2 =>
    fX7_loudestDay_b12 h t0 a1 a2 FU a1 r2 0

def fX11_loudest (h : Hp) (t0 : Nat) (a1 : Int) (a2 : Int) : Option (Int × Hp) :=
    bd (fX11_within a1 0 999) fun r1 =>
    if r1 = 0 then (
      gd ((hK h t0).1 = 11) <|
      bd2 (fX11_refuse h t0 5) fun r5 h7 =>
      some (r5, h7))
    else
    bd (fX11_within a2 0 1) fun r8 =>
    if r8 = 0 then (
      gd ((hK h t0).1 = 11) <|
      bd2 (fX11_refuse h t0 5) fun r26 h28 =>
      some (r26, h28))
    else
    gd ((hK h t0).1 = 11) <|
    nn (gR h 717 t0) fun q12 =>
    gd ((hK h q12).1 = 7) <|
    bd (fX7_loudestDay h q12 (gI h 719 t0) (w32 ((gI h 719 t0) + a1))) fun r14 =>
    if a2 = 0 then (
      bd2 (fX11_answer h t0 r14) fun r22 h24 =>
      some (r22, h24))
    else
    bd (fX7_lettersOn h q12 r14) fun r17 =>
    bd2 (fX11_answer h t0 r17) fun r19 h21 =>
    some (r19, h21)

def fX6_clear (h : Hp) (t0 : Nat) : Option Hp :=
    gd ((hK h t0).1 = 6) <|
    lt (α := Hp) (pI h 386 t0 0) fun h2 =>
    some h2

def fX1_suits (a1 : Int) (a2 : Int) : Option Int :=
    if a1 = 27 then (
      some 1)
    else
    if a1 = a2 then (
      some 1)
    else
    some 0

def fX1_given (a1 : Int) (a2 : Int) (a3 : Int) : Option Int :=
    if a1 = 27 then (
      some a2)
    else
    if a1 = 28 then (
      some a3)
    else
    some a1

def fX1_mix_b48 (h : Hp) (t0 : Nat) (a1 : Int) (a2 : Int) (k2 : Int → Option Int) (v3 : Int) : Option Int :=
    lt (α := Int) (w32 (v3 + 1)) fun x1 =>
    k2 x1

def fX1_mix_b2 (h : Hp) (t0 : Nat) (a1 : Int) (a2 : Int) : Nat → Int → Option Int
  | 0, _ => none
  | fu + 1, v3 =>
    gd ((hK h t0).1 = 1) <|
    if v3 < (gI h 67 t0) then (
      nn (gR h 64 t0) fun q6 =>
      gd ((hK h q6).1 = 21) <|
      gd (inA v3 (hK h q6).2) <|
      bd (fX1_suits (gA h q6 v3.toNat) a1) fun r9 =>
      if r9 = 0 then (
        fX1_mix_b48 h t0 a1 a2 (fX1_mix_b2 h t0 a1 a2 fu) v3)
      else
      nn (gR h 65 t0) fun q12 =>
      gd ((hK h q12).1 = 21) <|
      gd (inA v3 (hK h q12).2) <|
      bd (fX1_suits (gA h q12 v3.toNat) a2) fun r15 =>
      if r15 = 0 then (
        fX1_mix_b48 h t0 a1 a2 (fX1_mix_b2 h t0 a1 a2 fu) v3)
      else
      nn (gR h 66 t0) fun q18 =>
      gd ((hK h q18).1 = 21) <|
      gd (inA v3 (hK h q18).2) <|
      bd (fX1_given (gA h q18 v3.toNat) a1 a2) fun r21 =>
      some r21)
    else
    if a1 = a2 then (
      some a1)
    else
    if a2 = 0 then (
      some a1)
    else
    if a1 = 0 then (
      some a2)
    else
    some 0

def fX1_mix (h : Hp) (t0 : Nat) (a1 : Int) (a2 : Int) : Option Int :=
    fX1_mix_b2 h t0 a1 a2 FU 0

def fX11_mixRows_b25 (t0 : Nat) (a1 : Nat) (a2 : Nat) (a3 : Int) : Nat → Hp → Int → Int → Option (Nat × Hp)
  | 0, _, _, _ => none
  | fu + 1, h, v4, v5 =>
    if v5 < v4 then (
      gd ((hK h t0).1 = 11) <|
      nn (gR h 711 t0) fun q5 =>
      nn (gR h 718 t0) fun q6 =>
      gd ((hK h a1).1 = 6) <|
      bd (fX6_at h a1 v5) fun r8 =>
      gd ((hK h a2).1 = 6) <|
      bd (fX6_at h a2 (w32 (v5 - a3))) fun r11 =>
      gd ((hK h q6).1 = 1) <|
      bd (fX1_mix h q6 r8 r11) fun r14 =>
      gd ((hK h q5).1 = 6) <|
      bd (fX6_add h q5 r14) fun h19 =>
      lt (α := Int) (w32 (v5 + 1)) fun x20 =>
      fX11_mixRows_b25 t0 a1 a2 a3 fu h19 v4 x20)
    else
    gd ((hK h t0).1 = 11) <|
    nn (gR h 711 t0) fun q3 =>
    some (q3, h)

def fX11_mixRows (h : Hp) (t0 : Nat) (a1 : Nat) (a2 : Nat) (a3 : Int) : Option (Nat × Hp) :=
    gd ((hK h a1).1 = 6) <|
    gd ((hK h a2).1 = 6) <|
    lt (α := Int) (max (gI h 386 a1) (w32 (a3 + (gI h 386 a2)))) fun x3 =>
    gd ((hK h t0).1 = 11) <|
    nn (gR h 711 t0) fun q5 =>
    gd ((hK h q5).1 = 6) <|
    bd (fX6_clear h q5) fun h9 =>
    fX11_mixRows_b25 t0 a1 a2 a3 FU h9 x3 0

def fX11_atOnce (h : Hp) (t0 : Nat) (a1 : Int) (a2 : Int) (a3 : Int) : Option (Int × Hp) :=
    bd (fX11_isTray a3) fun r1 =>
    if r1 = 0 then (
      gd ((hK h t0).1 = 11) <|
      bd2 (fX11_refuse h t0 1) fun r33 h35 =>
      some (r33, h35))
    else
    gd ((hK h t0).1 = 11) <|
    bd (fX11_isJar h t0 a1) fun r5 =>
    if r5 = 0 then (
      bd2 (fX11_refuse h t0 2) fun r8 h10 =>
      some (r8, h10))
    else
    bd (fX11_isJar h t0 a2) fun r11 =>
    if r11 = 0 then (
      bd2 (fX11_refuse h t0 2) fun r29 h31 =>
      some (r29, h31))
    else
    bd2 (fX11_hear h t0 a1) fun r14 h16 =>
    gd ((hK h16 t0).1 = 11) <|
    bd2 (fX11_hear h16 t0 a2) fun r18 h20 =>
    gd ((hK h20 t0).1 = 11) <|
    bd2 (fX11_mixRows h20 t0 r14 r18 0) fun r22 h24 =>
    gd ((hK h24 t0).1 = 11) <|
    bd2 (fX11_bring h24 t0 r22 a3) fun r26 h28 =>
    some (r26, h28)

def fX10_holdsOnly_b18 (h : Hp) (t0 : Nat) (a1 : Int) (a2 : Int) (a3 : Int) : Nat → Int → Int → Option Int
  | 0, _, _ => none
  | fu + 1, v4, v5 =>
    if v4 = 0 then (
      gd (v4 = 0 ∨ v4 = 1) <|
      some v4)
    else
    if v5 < a1 then (
      gd ((hK h t0).1 = 10) <|
      nn (gR h 640 t0) fun q6 =>
      gd ((hK h q6).1 = 22) <|
      gd (inA v5 (hK h q6).2) <|
      bd (fX11_within (gB h q6 v5.toNat) a2 a3) fun r9 =>
      lt (α := Int) (w32 (v5 + 1)) fun x11 =>
      fX10_holdsOnly_b18 h t0 a1 a2 a3 fu r9 x11)
    else
    gd (v4 = 0 ∨ v4 = 1) <|
    some v4

def fX10_holdsOnly (h : Hp) (t0 : Nat) (a1 : Int) (a2 : Int) (a3 : Int) : Option Int :=
    gd ((hK h t0).1 = 10) <|
    lt (α := Int) (if a1 ≤ (gI h 642 t0) then 1 else 0) fun x3 =>
    fX10_holdsOnly_b18 h t0 a1 a2 a3 FU x3 0

def fX11_rowReason_b71 (h : Hp) (t0 : Nat) (a1 : Int) (a2 : Int) (a3 : Int) (a4 : Int) (s0 : Int) : Option Int :=
    some (if s0 = 0 then 5 else 0)

def fX11_rowReason_b70 (h : Hp) (t0 : Nat) (a1 : Int) (a2 : Int) (a3 : Int) (a4 : Int) : Option Int :=
    fX11_rowReason_b71 h t0 a1 a2 a3 a4 0

def fX11_rowReason (h : Hp) (t0 : Nat) (a1 : Int) (a2 : Int) (a3 : Int) (a4 : Int) : Option Int :=
    bd (fX11_isTray a1) fun r1 =>
    if r1 = 0 then (
      some 1)
    else
    gd ((hK h t0).1 = 11) <|
    nn (gR h 704 t0) fun q5 =>
    gd ((hK h q5).1 = 27) <|
    gd (inA a1 (hK h q5).2) <|
    nn (gC h q5 a1.toNat) fun q8 =>
    gd ((hK h q8).1 = 10) <|
    bd (fX10_isMissing h q8) fun r10 =>
    if r10 = 0 then (
      gd (inA a1 (hK h q5).2) <|
      nn (gC h q5 a1.toNat) fun q14 =>
      gd ((hK h q14).1 = 10) <|
      if a2 ≤ (gI h 642 q14) then (
        bd (fX11_within a2 1 a3) fun r17 =>
        if r17 = 0 then (
          fX11_rowReason_b70 h t0 a1 a2 a3 a4)
        else
        gd (inA a1 (hK h q5).2) <|
        nn (gC h q5 a1.toNat) fun q21 =>
        gd ((hK h q21).1 = 10) <|
        bd (fX10_holdsOnly h q21 a2 a4 26) fun r23 =>
        if r23 = 0 then (
          fX11_rowReason_b70 h t0 a1 a2 a3 a4)
        else
        fX11_rowReason_b71 h t0 a1 a2 a3 a4 1)
      else
      some 4)
    else
    some 3

def fX11_countCouples_b31 (t0 : Nat) (k23 : Hp → Int → Option Hp) : Nat → Hp → Int → Int → Option Hp
  | 0, _, _, _ => none
  | fu + 1, h, v1, v2 =>
    if v2 ≤ 26 then (
      gd ((hK h t0).1 = 11) <|
      nn (gR h 712 t0) fun q4 =>
      nn (gR h 718 t0) fun q5 =>
      gd ((hK h q5).1 = 1) <|
      bd (fX1_mix h q5 v1 v2) fun r7 =>
      gd ((hK h q4).1 = 21) <|
      gd (inA r7 (hK h q4).2) <|
      gd (inA r7 (hK h q4).2) <|
      lt (α := Hp) (sA h q4 r7 (w32 ((gA h q4 r7.toNat) + 1))) fun h12 =>
      lt (α := Int) (w32 (v2 + 1)) fun x13 =>
      fX11_countCouples_b31 t0 k23 fu h12 v1 x13)
    else
    lt (α := Int) (w32 (v1 + 1)) fun x2 =>
    k23 h x2

def fX11_countCouples_b23 (t0 : Nat) : Nat → Hp → Int → Option Hp
  | 0, _, _ => none
  | fu + 1, h, v1 =>
    if v1 ≤ 26 then (
      fX11_countCouples_b31 t0 (fX11_countCouples_b23 t0 fu) FU h v1 1)
    else
    some h

def fX11_countCouples_b2 (t0 : Nat) : Nat → Hp → Int → Option Hp
  | 0, _, _ => none
  | fu + 1, h, v1 =>
    if v1 ≤ 26 then (
      gd ((hK h t0).1 = 11) <|
      nn (gR h 712 t0) fun q3 =>
      gd ((hK h q3).1 = 21) <|
      gd (inA v1 (hK h q3).2) <|
      lt (α := Hp) (sA h q3 v1 0) fun h6 =>
      lt (α := Int) (w32 (v1 + 1)) fun x7 =>
      fX11_countCouples_b2 t0 fu h6 x7)
    else
    fX11_countCouples_b23 t0 FU h 1

def fX11_countCouples (h : Hp) (t0 : Nat) : Option Hp :=
    fX11_countCouples_b2 t0 FU h 0

def fX11_couples_b31 (t0 : Nat) (a1 : Int) (a2 : Int) : Nat → Hp → Int → Int → Option (Int × Hp)
  | 0, _, _, _ => none
  | fu + 1, h, v4, v6 =>
    if v6 < a2 then (
      gd ((hK h t0).1 = 11) <|
      nn (gR h 712 t0) fun q5 =>
      nn (gR h 704 t0) fun q6 =>
      gd ((hK h q6).1 = 27) <|
      gd (inA a1 (hK h q6).2) <|
      nn (gC h q6 a1.toNat) fun q9 =>
      gd ((hK h q9).1 = 10) <|
      bd (fX10_get h q9 v6) fun r11 =>
      gd ((hK h q5).1 = 21) <|
      gd (inA (w32 r11) (hK h q5).2) <|
      lt (α := Int) (w64 (v4 * (gA h q5 (w32 r11).toNat))) fun x15 =>
      lt (α := Int) (w32 (v6 + 1)) fun x16 =>
      fX11_couples_b31 t0 a1 a2 fu h x15 x16)
    else
    gd ((hK h t0).1 = 11) <|
    lt (α := Hp) (pI h 721 t0 0) fun h3 =>
    some (v4, h3)

def fX11_couples (h : Hp) (t0 : Nat) (a1 : Int) (a2 : Int) : Option (Int × Hp) :=
    gd ((hK h t0).1 = 11) <|
    bd (fX11_rowReason h t0 a1 a2 6 0) fun r2 =>
    if r2 = 0 then (
      bd (fX11_countCouples h t0) fun h7 =>
      fX11_couples_b31 t0 a1 a2 FU h7 1 0)
    else
    bd2 (fX11_refuse h t0 r2) fun r8 h10 =>
    some (r8, h10)

def fX11_isLetterOrRest (a1 : Int) : Option Int :=
    bd (fX11_within a1 0 26) fun r1 =>
    some r1

def fX11_mixes (h : Hp) (t0 : Nat) (a1 : Int) (a2 : Int) : Option (Int × Hp) :=
    bd (fX11_isLetterOrRest a1) fun r1 =>
    if r1 = 0 then (
      gd ((hK h t0).1 = 11) <|
      bd2 (fX11_refuse h t0 5) fun r5 h7 =>
      some (r5, h7))
    else
    bd (fX11_isLetterOrRest a2) fun r8 =>
    if r8 = 0 then (
      gd ((hK h t0).1 = 11) <|
      bd2 (fX11_refuse h t0 5) fun r20 h22 =>
      some (r20, h22))
    else
    gd ((hK h t0).1 = 11) <|
    nn (gR h 718 t0) fun q12 =>
    gd ((hK h q12).1 = 1) <|
    bd (fX1_mix h q12 a1 a2) fun r14 =>
    bd2 (fX11_answer h t0 r14) fun r16 h18 =>
    some (r16, h18)

def fX1_partners_b30 (h : Hp) (t0 : Nat) (a1 : Int) (a2 : Int) (k5 : Int → Int → Option Int) (v3 : Int) (v4 : Int) : Option Int :=
    lt (α := Int) (w32 (v4 + 1)) fun x1 =>
    k5 v3 x1

def fX1_partners_b5 (h : Hp) (t0 : Nat) (a1 : Int) (a2 : Int) : Nat → Int → Int → Option Int
  | 0, _, _ => none
  | fu + 1, v3, v4 =>
    if v4 ≤ 26 then (
      gd ((hK h t0).1 = 1) <|
      bd (fX1_mix h t0 a1 v4) fun r3 =>
      if r3 = a2 then (
        lt (α := Int) (bor v3 (shl 1 v4)) fun x6 =>
        fX1_partners_b30 h t0 a1 a2 (fX1_partners_b5 h t0 a1 a2 fu) x6 v4)
      else
      fX1_partners_b30 h t0 a1 a2 (fX1_partners_b5 h t0 a1 a2 fu) v3 v4)
    else
    some v3

def fX1_partners (h : Hp) (t0 : Nat) (a1 : Int) (a2 : Int) : Option Int :=
    fX1_partners_b5 h t0 a1 a2 FU 0 0

def fX11_others (h : Hp) (t0 : Nat) (a1 : Int) (a2 : Int) : Option (Int × Hp) :=
    bd (fX11_isLetterOrRest a1) fun r1 =>
    if r1 = 0 then (
      gd ((hK h t0).1 = 11) <|
      bd2 (fX11_refuse h t0 5) fun r5 h7 =>
      some (r5, h7))
    else
    bd (fX11_isLetterOrRest a2) fun r8 =>
    if r8 = 0 then (
      gd ((hK h t0).1 = 11) <|
      bd2 (fX11_refuse h t0 5) fun r20 h22 =>
      some (r20, h22))
    else
    gd ((hK h t0).1 = 11) <|
    nn (gR h 718 t0) fun q12 =>
    gd ((hK h q12).1 = 1) <|
    bd (fX1_partners h q12 a1 a2) fun r14 =>
    bd2 (fX11_answer h t0 r14) fun r16 h18 =>
    some (r16, h18)

def fX11_echoed (h : Hp) (t0 : Nat) (a1 : Int) (a2 : Int) (a3 : Int) : Option (Int × Hp) :=
    bd (fX11_isTray a3) fun r1 =>
    if r1 = 0 then (
      gd ((hK h t0).1 = 11) <|
      bd2 (fX11_refuse h t0 1) fun r31 h33 =>
      some (r31, h33))
    else
    gd ((hK h t0).1 = 11) <|
    bd (fX11_isSound h t0 a1) fun r5 =>
    if r5 = 0 then (
      bd2 (fX11_refuse h t0 2) fun r27 h29 =>
      some (r27, h29))
    else
    bd (fX11_within a2 0 15) fun r8 =>
    if r8 = 0 then (
      bd2 (fX11_refuse h t0 5) fun r24 h26 =>
      some (r24, h26))
    else
    nn (gR h 717 t0) fun q11 =>
    gd ((hK h q11).1 = 7) <|
    nn (gR h 448 q11) fun q13 =>
    gd ((hK h q13).1 = 26) <|
    gd (inA a1 (hK h q13).2) <|
    nn (gC h q13 a1.toNat) fun q16 =>
    bd2 (fX11_mixRows h t0 q16 q16 a2) fun r17 h19 =>
    gd ((hK h19 t0).1 = 11) <|
    bd2 (fX11_bring h19 t0 r17 a3) fun r21 h23 =>
    some (r21, h23)

def fX6_countLetters_b23 (h : Hp) (t0 : Nat) (k4 : Int → Int → Option Int) (v1 : Int) (v2 : Int) : Option Int :=
    lt (α := Int) (w32 (v2 + 1)) fun x1 =>
    k4 v1 x1

def fX6_countLetters_b4 (h : Hp) (t0 : Nat) : Nat → Int → Int → Option Int
  | 0, _, _ => none
  | fu + 1, v1, v2 =>
    gd ((hK h t0).1 = 6) <|
    if v2 < (gI h 386 t0) then (
      bd (fX6_at h t0 v2) fun r3 =>
      if r3 = 0 then (
        fX6_countLetters_b23 h t0 (fX6_countLetters_b4 h t0 fu) v1 v2)
      else
      lt (α := Int) (w32 (v1 + 1)) fun x6 =>
      fX6_countLetters_b23 h t0 (fX6_countLetters_b4 h t0 fu) x6 v2)
    else
    some v1

def fX6_countLetters (h : Hp) (t0 : Nat) : Option Int :=
    fX6_countLetters_b4 h t0 FU 0 0

def fX11_clearest_b98 (t0 : Nat) (a1 : Int) (a2 : Int) (a3 : Int) (k61 : Hp → Nat → Nat → Int → Int → Int → Option (Int × Hp)) (h : Hp) (v4 : Nat) (v5 : Nat) (v6 : Int) (v7 : Int) (v8 : Int) : Option (Int × Hp) :=
    lt (α := Int) (w32 (v8 + 1)) fun x1 =>
    k61 h v4 v5 v6 v7 x1

def fX11_clearest_b61 (t0 : Nat) (a1 : Int) (a2 : Int) (a3 : Int) : Nat → Hp → Nat → Nat → Int → Int → Int → Option (Int × Hp)
  | 0, _, _, _, _, _, _ => none
  | fu + 1, h, v4, v5, v6, v7, v8 =>
    if v8 ≤ 12 then (
      gd ((hK h t0).1 = 11) <|
      bd2 (fX11_mixRows h t0 v4 v5 v8) fun r12 h14 =>
      gd ((hK h14 r12).1 = 6) <|
      bd (fX6_countLetters h14 r12) fun r16 =>
      if r16 ≤ v6 then (
        fX11_clearest_b98 t0 a1 a2 a3 (fX11_clearest_b61 t0 a1 a2 a3 fu) h14 v4 v5 v6 v7 v8)
      else
      fX11_clearest_b98 t0 a1 a2 a3 (fX11_clearest_b61 t0 a1 a2 a3 fu) h14 v4 v5 r16 v8 v8)
    else
    if a3 = 0 then (
      gd ((hK h t0).1 = 11) <|
      bd2 (fX11_answer h t0 v7) fun r8 h10 =>
      some (r8, h10))
    else
    gd ((hK h t0).1 = 11) <|
    bd2 (fX11_answer h t0 v6) fun r4 h6 =>
    some (r4, h6)

def fX11_clearest (h : Hp) (t0 : Nat) (a1 : Int) (a2 : Int) (a3 : Int) : Option (Int × Hp) :=
    gd ((hK h t0).1 = 11) <|
    bd (fX11_isJar h t0 a1) fun r2 =>
    if r2 = 0 then (
      bd2 (fX11_refuse h t0 2) fun r5 h7 =>
      some (r5, h7))
    else
    bd (fX11_isJar h t0 a2) fun r8 =>
    if r8 = 0 then (
      bd2 (fX11_refuse h t0 2) fun r24 h26 =>
      some (r24, h26))
    else
    bd (fX11_within a3 0 1) fun r11 =>
    if r11 = 0 then (
      bd2 (fX11_refuse h t0 5) fun r21 h23 =>
      some (r21, h23))
    else
    bd2 (fX11_hear h t0 a1) fun r14 h16 =>
    gd ((hK h16 t0).1 = 11) <|
    bd2 (fX11_hear h16 t0 a2) fun r18 h20 =>
    fX11_clearest_b61 t0 a1 a2 a3 FU h20 r14 r18 (-1) 0 0

def fX11_beside_b80 (t0 : Nat) (a1 : Int) (a2 : Int) (a3 : Int) (a4 : Int) : Nat → Hp → Int → Int → Option (Int × Hp)
  | 0, _, _, _ => none
  | fu + 1, h, v6, v8 =>
    if v8 < a2 then (
      gd ((hK h t0).1 = 11) <|
      nn (gR h 717 t0) fun q5 =>
      gd ((hK h q5).1 = 7) <|
      nn (gR h 448 q5) fun q7 =>
      gd ((hK h q7).1 = 26) <|
      gd (inA a3 (hK h q7).2) <|
      nn (gC h q7 a3.toNat) fun q10 =>
      gd ((hK h q10).1 = 6) <|
      bd (fX6_at h q10 (w32 (a4 + v8))) fun r12 =>
      nn (gR h 718 t0) fun q14 =>
      nn (gR h 704 t0) fun q15 =>
      gd ((hK h q15).1 = 27) <|
      gd (inA a1 (hK h q15).2) <|
      nn (gC h q15 a1.toNat) fun q18 =>
      gd ((hK h q18).1 = 10) <|
      bd (fX10_get h q18 v8) fun r20 =>
      gd ((hK h q14).1 = 1) <|
      bd (fX1_partners h q14 r12 (w32 r20)) fun r23 =>
      bd (fJ6_bitCount_0f7a4 r23) fun r25 =>
      lt (α := Int) (w64 (v6 * r25)) fun x27 =>
      lt (α := Int) (w32 (v8 + 1)) fun x28 =>
      fX11_beside_b80 t0 a1 a2 a3 a4 fu h x27 x28)
    else
    gd ((hK h t0).1 = 11) <|
    lt (α := Hp) (pI h 721 t0 0) fun h3 =>
    some (v6, h3)

def fX11_beside_b61 (t0 : Nat) (a1 : Int) (a2 : Int) (a3 : Int) (a4 : Int) (h : Hp) (v5 : Int) : Option (Int × Hp) :=
    if v5 = 0 then (
      fX11_beside_b80 t0 a1 a2 a3 a4 FU h 1 0)
    else
    gd ((hK h t0).1 = 11) <|
    bd2 (fX11_refuse h t0 v5) fun r3 h5 =>
    some (r3, h5)

def fX11_beside (h : Hp) (t0 : Nat) (a1 : Int) (a2 : Int) (a3 : Int) (a4 : Int) : Option (Int × Hp) :=
    bd (fX11_isTray a1) fun r1 =>
    if r1 = 0 then (
      gd ((hK h t0).1 = 11) <|
      bd2 (fX11_refuse h t0 1) fun r18 h20 =>
      some (r18, h20))
    else
    gd ((hK h t0).1 = 11) <|
    bd (fX11_isSound h t0 a3) fun r5 =>
    if r5 = 0 then (
      bd2 (fX11_refuse h t0 2) fun r14 h16 =>
      some (r14, h16))
    else
    bd (fX11_rowReason h t0 a1 a2 8 0) fun r8 =>
    if r8 = 0 then (
      bd (fX11_within a4 0 15) fun r11 =>
      if r11 = 0 then (
        fX11_beside_b61 t0 a1 a2 a3 a4 h 5)
      else
      fX11_beside_b61 t0 a1 a2 a3 a4 h r8)
    else
    fX11_beside_b61 t0 a1 a2 a3 a4 h r8

def fX7_allJars (h : Hp) (t0 : Nat) : Option Int :=
    gd ((hK h t0).1 = 7) <|
    some (w32 ((shl 1 (gI h 451 t0)) - 1))

def fX11_isJarSet (h : Hp) (t0 : Nat) (a1 : Int) : Option Int :=
    gd ((hK h t0).1 = 11) <|
    nn (gR h 717 t0) fun q2 =>
    gd ((hK h q2).1 = 7) <|
    bd (fX7_allJars h q2) fun r4 =>
    bd (fX11_within a1 0 r4) fun r6 =>
    some r6

def fX7_allSounds (h : Hp) (t0 : Nat) : Option Int :=
    gd ((hK h t0).1 = 7) <|
    some (w32 ((shl 1 (gI h 450 t0)) - 1))

def fX11_isIn (a1 : Int) (a2 : Int) : Option Int :=
    some (if (bnd (shr a1 a2) 1) = 0 then 0 else 1)

def fX6_standsAt_b5 (h : Hp) (t0 : Nat) (a1 : Nat) (a2 : Int) : Nat → Int → Int → Option Int
  | 0, _, _ => none
  | fu + 1, v3, v4 =>
    if v3 = 0 then (
      gd (v3 = 0 ∨ v3 = 1) <|
      some v3)
    else
    gd ((hK h t0).1 = 6) <|
    if v4 < (gI h 386 t0) then (
      bd (fX6_at h t0 v4) fun r6 =>
      gd ((hK h a1).1 = 6) <|
      bd (fX6_at h a1 (w32 (a2 + v4))) fun r9 =>
      lt (α := Int) (if r6 = r9 then 1 else 0) fun x12 =>
      lt (α := Int) (w32 (v4 + 1)) fun x13 =>
      fX6_standsAt_b5 h t0 a1 a2 fu x12 x13)
    else
    gd (v3 = 0 ∨ v3 = 1) <|
    some v3

def fX6_standsAt (h : Hp) (t0 : Nat) (a1 : Nat) (a2 : Int) : Option Int :=
    fX6_standsAt_b5 h t0 a1 a2 FU 1 0

def fX6_timesIn_b36 (h : Hp) (t0 : Nat) (a1 : Nat) (k4 : Int → Int → Option Int) (v2 : Int) (v3 : Int) : Option Int :=
    lt (α := Int) (w32 (v3 + 1)) fun x1 =>
    k4 v2 x1

def fX6_timesIn_b4 (h : Hp) (t0 : Nat) (a1 : Nat) : Nat → Int → Int → Option Int
  | 0, _, _ => none
  | fu + 1, v2, v3 =>
    gd ((hK h t0).1 = 6) <|
    if 0 < (gI h 386 t0) then (
      gd ((hK h a1).1 = 6) <|
      if v3 ≤ (w32 ((gI h 386 a1) - (gI h 386 t0))) then (
        bd (fX6_standsAt h t0 a1 v3) fun r5 =>
        if r5 = 0 then (
          fX6_timesIn_b36 h t0 a1 (fX6_timesIn_b4 h t0 a1 fu) v2 v3)
        else
        lt (α := Int) (w32 (v2 + 1)) fun x8 =>
        fX6_timesIn_b36 h t0 a1 (fX6_timesIn_b4 h t0 a1 fu) x8 v3)
      else
      some v2)
    else
    some v2

def fX6_timesIn (h : Hp) (t0 : Nat) (a1 : Nat) : Option Int :=
    fX6_timesIn_b4 h t0 a1 FU 0 0

def fX6_standsIn (h : Hp) (t0 : Nat) (a1 : Nat) : Option Int :=
    gd ((hK h t0).1 = 6) <|
    if (gI h 386 t0) = 0 then (
      some 1)
    else
    bd (fX6_timesIn h t0 a1) fun r3 =>
    if 0 < r3 then (
      some 1)
    else
    some 0

def fX7_soundsWith_b31 (h : Hp) (t0 : Nat) (a1 : Nat) (k4 : Int → Int → Option Int) (v2 : Int) (v3 : Int) : Option Int :=
    lt (α := Int) (w32 (v3 + 1)) fun x1 =>
    k4 v2 x1

def fX7_soundsWith_b4 (h : Hp) (t0 : Nat) (a1 : Nat) : Nat → Int → Int → Option Int
  | 0, _, _ => none
  | fu + 1, v2, v3 =>
    gd ((hK h t0).1 = 7) <|
    if v3 < (gI h 450 t0) then (
      nn (gR h 448 t0) fun q3 =>
      gd ((hK h q3).1 = 26) <|
      gd (inA v3 (hK h q3).2) <|
      nn (gC h q3 v3.toNat) fun q6 =>
      gd ((hK h a1).1 = 6) <|
      bd (fX6_standsIn h a1 q6) fun r8 =>
      if r8 = 0 then (
        fX7_soundsWith_b31 h t0 a1 (fX7_soundsWith_b4 h t0 a1 fu) v2 v3)
      else
      lt (α := Int) (bor v2 (shl 1 v3)) fun x11 =>
      fX7_soundsWith_b31 h t0 a1 (fX7_soundsWith_b4 h t0 a1 fu) x11 v3)
    else
    some v2

def fX7_soundsWith (h : Hp) (t0 : Nat) (a1 : Nat) : Option Int :=
    fX7_soundsWith_b4 h t0 a1 FU 0 0

def fX11_fits_b58 (t0 : Nat) (a1 : Int) (k24 : Hp → Int → Int → Option (Int × Hp)) (h : Hp) (v2 : Int) (v3 : Int) : Option (Int × Hp) :=
    lt (α := Int) (w32 (v3 + 1)) fun x1 =>
    k24 h v2 x1

def fX11_fits_b24 (t0 : Nat) (a1 : Int) : Nat → Hp → Int → Int → Option (Int × Hp)
  | 0, _, _, _ => none
  | fu + 1, h, v2, v3 =>
    gd ((hK h t0).1 = 11) <|
    nn (gR h 717 t0) fun q2 =>
    gd ((hK h q2).1 = 7) <|
    if v3 < (gI h 451 q2) then (
      bd (fX11_isIn a1 v3) fun r8 =>
      if r8 = 0 then (
        fX11_fits_b58 t0 a1 (fX11_fits_b24 t0 a1 fu) h v2 v3)
      else
      bd2 (fX11_hear h t0 v3) fun r11 h13 =>
      gd ((hK h13 q2).1 = 7) <|
      bd (fX7_soundsWith h13 q2 r11) fun r15 =>
      lt (α := Int) (bnd v2 r15) fun x17 =>
      fX11_fits_b58 t0 a1 (fX11_fits_b24 t0 a1 fu) h13 x17 v3)
    else
    bd2 (fX11_answer h t0 v2) fun r5 h7 =>
    some (r5, h7)

def fX11_fits (h : Hp) (t0 : Nat) (a1 : Int) : Option (Int × Hp) :=
    gd ((hK h t0).1 = 11) <|
    bd (fX11_isJarSet h t0 a1) fun r2 =>
    if r2 = 0 then (
      bd2 (fX11_refuse h t0 2) fun r9 h11 =>
      some (r9, h11))
    else
    nn (gR h 717 t0) fun q5 =>
    gd ((hK h q5).1 = 7) <|
    bd (fX7_allSounds h q5) fun r7 =>
    fX11_fits_b24 t0 a1 FU h r7 0

def fX11_places (h : Hp) (t0 : Nat) (a1 : Int) (a2 : Int) : Option (Int × Hp) :=
    gd ((hK h t0).1 = 11) <|
    bd (fX11_isJar h t0 a1) fun r2 =>
    if r2 = 0 then (
      bd2 (fX11_refuse h t0 2) fun r5 h7 =>
      some (r5, h7))
    else
    bd (fX11_isSound h t0 a2) fun r8 =>
    if r8 = 0 then (
      bd2 (fX11_refuse h t0 2) fun r27 h29 =>
      some (r27, h29))
    else
    bd2 (fX11_hear h t0 a1) fun r11 h13 =>
    gd ((hK h13 t0).1 = 11) <|
    nn (gR h13 717 t0) fun q15 =>
    gd ((hK h13 q15).1 = 7) <|
    nn (gR h13 448 q15) fun q17 =>
    gd ((hK h13 q17).1 = 26) <|
    gd (inA a2 (hK h13 q17).2) <|
    nn (gC h13 q17 a2.toNat) fun q20 =>
    gd ((hK h13 r11).1 = 6) <|
    bd (fX6_timesIn h13 r11 q20) fun r22 =>
    bd2 (fX11_answer h13 t0 r22) fun r24 h26 =>
    some (r24, h26)

def fX11_speakers_b41 (t0 : Nat) (a1 : Int) (k4 : Hp → Int → Int → Option (Int × Hp)) (h : Hp) (v2 : Int) (v3 : Int) : Option (Int × Hp) :=
    lt (α := Int) (w32 (v3 + 1)) fun x1 =>
    k4 h v2 x1

def fX11_speakers_b4 (t0 : Nat) (a1 : Int) : Nat → Hp → Int → Int → Option (Int × Hp)
  | 0, _, _, _ => none
  | fu + 1, h, v2, v3 =>
    gd ((hK h t0).1 = 11) <|
    nn (gR h 717 t0) fun q2 =>
    gd ((hK h q2).1 = 7) <|
    if v3 < (gI h 451 q2) then (
      bd2 (fX11_hear h t0 v3) fun r5 h7 =>
      gd ((hK h7 t0).1 = 11) <|
      nn (gR h7 717 t0) fun q9 =>
      gd ((hK h7 q9).1 = 7) <|
      nn (gR h7 448 q9) fun q11 =>
      gd ((hK h7 q11).1 = 26) <|
      gd (inA a1 (hK h7 q11).2) <|
      nn (gC h7 q11 a1.toNat) fun q14 =>
      gd ((hK h7 r5).1 = 6) <|
      bd (fX6_timesIn h7 r5 q14) fun r16 =>
      if 0 < r16 then (
        lt (α := Int) (bor v2 (shl 1 v3)) fun x19 =>
        fX11_speakers_b41 t0 a1 (fX11_speakers_b4 t0 a1 fu) h7 x19 v3)
      else
      fX11_speakers_b41 t0 a1 (fX11_speakers_b4 t0 a1 fu) h7 v2 v3)
    else
    some (v2, h)

def fX11_speakers (h : Hp) (t0 : Nat) (a1 : Int) : Option (Int × Hp) :=
    fX11_speakers_b4 t0 a1 FU h 0 0

def fX11_speaks (h : Hp) (t0 : Nat) (a1 : Int) : Option (Int × Hp) :=
    gd ((hK h t0).1 = 11) <|
    bd (fX11_isSound h t0 a1) fun r2 =>
    if r2 = 0 then (
      bd2 (fX11_refuse h t0 2) fun r12 h14 =>
      some (r12, h14))
    else
    bd2 (fX11_speakers h t0 a1) fun r5 h7 =>
    gd ((hK h7 t0).1 = 11) <|
    bd2 (fX11_answer h7 t0 r5) fun r9 h11 =>
    some (r9, h11)

def fX6_letterSet_b4 (h : Hp) (t0 : Nat) : Nat → Int → Int → Option Int
  | 0, _, _ => none
  | fu + 1, v1, v2 =>
    gd ((hK h t0).1 = 6) <|
    if v2 < (gI h 386 t0) then (
      bd (fX6_at h t0 v2) fun r3 =>
      lt (α := Int) (bor v1 (shl 1 r3)) fun x5 =>
      lt (α := Int) (w32 (v2 + 1)) fun x6 =>
      fX6_letterSet_b4 h t0 fu x5 x6)
    else
    some v1

def fX6_letterSet (h : Hp) (t0 : Nat) : Option Int :=
    fX6_letterSet_b4 h t0 FU 0 0

def fX11_kinds_b48 (t0 : Nat) (a1 : Int) (k18 : Hp → Int → Int → Option (Int × Hp)) (h : Hp) (v2 : Int) (v3 : Int) : Option (Int × Hp) :=
    lt (α := Int) (w32 (v3 + 1)) fun x1 =>
    k18 h v2 x1

def fX11_kinds_b18 (t0 : Nat) (a1 : Int) : Nat → Hp → Int → Int → Option (Int × Hp)
  | 0, _, _, _ => none
  | fu + 1, h, v2, v3 =>
    gd ((hK h t0).1 = 11) <|
    nn (gR h 717 t0) fun q2 =>
    gd ((hK h q2).1 = 7) <|
    if v3 < (gI h 451 q2) then (
      bd (fX11_isIn a1 v3) fun r10 =>
      if r10 = 0 then (
        fX11_kinds_b48 t0 a1 (fX11_kinds_b18 t0 a1 fu) h v2 v3)
      else
      bd2 (fX11_hear h t0 v3) fun r13 h15 =>
      gd ((hK h15 r13).1 = 6) <|
      bd (fX6_letterSet h15 r13) fun r17 =>
      lt (α := Int) (bor v2 r17) fun x19 =>
      fX11_kinds_b48 t0 a1 (fX11_kinds_b18 t0 a1 fu) h15 x19 v3)
    else
    bd (fJ6_bitCount_0f7a4 v2) fun r5 =>
    bd2 (fX11_answer h t0 r5) fun r7 h9 =>
    some (r7, h9)

def fX11_kinds (h : Hp) (t0 : Nat) (a1 : Int) : Option (Int × Hp) :=
    gd ((hK h t0).1 = 11) <|
    bd (fX11_isJarSet h t0 a1) fun r2 =>
    if r2 = 0 then (
      bd2 (fX11_refuse h t0 2) fun r5 h7 =>
      some (r5, h7))
    else
    fX11_kinds_b18 t0 a1 FU h 0 0

def fX6_tailIsHead_b5 (h : Hp) (t0 : Nat) (a1 : Nat) (a2 : Int) : Nat → Int → Int → Option Int
  | 0, _, _ => none
  | fu + 1, v3, v4 =>
    if v3 = 0 then (
      gd (v3 = 0 ∨ v3 = 1) <|
      some v3)
    else
    if v4 < a2 then (
      gd ((hK h t0).1 = 6) <|
      bd (fX6_at h t0 (w32 ((w32 ((gI h 386 t0) - a2)) + v4))) fun r6 =>
      gd ((hK h a1).1 = 6) <|
      bd (fX6_at h a1 v4) fun r9 =>
      lt (α := Int) (if r6 = r9 then 1 else 0) fun x12 =>
      lt (α := Int) (w32 (v4 + 1)) fun x13 =>
      fX6_tailIsHead_b5 h t0 a1 a2 fu x12 x13)
    else
    gd (v3 = 0 ∨ v3 = 1) <|
    some v3

def fX6_tailIsHead (h : Hp) (t0 : Nat) (a1 : Nat) (a2 : Int) : Option Int :=
    fX6_tailIsHead_b5 h t0 a1 a2 FU 1 0

def fX6_overlap_b14 (h : Hp) (t0 : Nat) (a1 : Nat) : Nat → Int → Option Int
  | 0, _ => none
  | fu + 1, v2 =>
    if 0 < v2 then (
      gd ((hK h t0).1 = 6) <|
      bd (fX6_tailIsHead h t0 a1 v2) fun r3 =>
      if r3 = 0 then (
        lt (α := Int) (w32 (v2 + (-1))) fun x6 =>
        fX6_overlap_b14 h t0 a1 fu x6)
      else
      some v2)
    else
    some 0

def fX6_overlap (h : Hp) (t0 : Nat) (a1 : Nat) : Option Int :=
    gd ((hK h t0).1 = 6) <|
    gd ((hK h a1).1 = 6) <|
    lt (α := Int) (w32 ((min (gI h 386 t0) (gI h 386 a1)) - 1)) fun x3 =>
    fX6_overlap_b14 h t0 a1 FU x3

def fX11_laps (h : Hp) (t0 : Nat) (a1 : Int) (a2 : Int) : Option (Int × Hp) :=
    gd ((hK h t0).1 = 11) <|
    bd (fX11_isJar h t0 a1) fun r2 =>
    if r2 = 0 then (
      bd2 (fX11_refuse h t0 2) fun r5 h7 =>
      some (r5, h7))
    else
    bd (fX11_isJar h t0 a2) fun r8 =>
    if r8 = 0 then (
      bd2 (fX11_refuse h t0 2) fun r25 h27 =>
      some (r25, h27))
    else
    bd2 (fX11_hear h t0 a1) fun r11 h13 =>
    gd ((hK h13 t0).1 = 11) <|
    bd2 (fX11_hear h13 t0 a2) fun r15 h17 =>
    gd ((hK h17 r11).1 = 6) <|
    bd (fX6_overlap h17 r11 r15) fun r19 =>
    gd ((hK h17 t0).1 = 11) <|
    bd2 (fX11_answer h17 t0 r19) fun r22 h24 =>
    some (r22, h24)

def fX4_clear (h : Hp) (t0 : Nat) : Option Hp :=
    gd ((hK h t0).1 = 4) <|
    lt (α := Hp) (pI h 263 t0 0) fun h2 =>
    some h2

def fX4_add_b70 (t0 : Nat) (a1 : Nat) (k34 : Hp → Int → Int → Option Hp) (h : Hp) (v2 : Int) (v3 : Int) : Option Hp :=
    lt (α := Int) (w32 (v3 + 1)) fun x1 =>
    k34 h v2 x1

def fX4_add_b34 (t0 : Nat) (a1 : Nat) : Nat → Hp → Int → Int → Option Hp
  | 0, _, _, _ => none
  | fu + 1, h, v2, v3 =>
    gd ((hK h t0).1 = 4) <|
    if v3 < (gI h 263 t0) then (
      nn (gR h 256 t0) fun q14 =>
      gd ((hK h q14).1 = 26) <|
      gd (inA v3 (hK h q14).2) <|
      nn (gC h q14 v3.toNat) fun q17 =>
      gd ((hK h q17).1 = 6) <|
      bd (fX6_standsIn h q17 a1) fun r19 =>
      if r19 = 0 then (
        gd (inA v3 (hK h q14).2) <|
        nn (gC h q14 v3.toNat) fun q23 =>
        gd (inA v2 (hK h q14).2) <|
        gd ((hK h q23).1 = 6) <|
        lt (α := Hp) (sC h q14 v2 q23) fun h26 =>
        lt (α := Int) (w32 (v2 + 1)) fun x27 =>
        fX4_add_b70 t0 a1 (fX4_add_b34 t0 a1 fu) h26 x27 v3)
      else
      fX4_add_b70 t0 a1 (fX4_add_b34 t0 a1 fu) h v2 v3)
    else
    if v2 < 6 then (
      gd ((hK h a1).1 = 6) <|
      if 0 < (gI h 386 a1) then (
        nn (gR h 256 t0) fun q8 =>
        gd ((hK h q8).1 = 26) <|
        gd (inA v2 (hK h q8).2) <|
        lt (α := Hp) (sC h q8 v2 a1) fun h11 =>
        lt (α := Int) (w32 (v2 + 1)) fun x12 =>
        lt (α := Hp) (pI h11 263 t0 x12) fun h13 =>
        some h13)
      else
      lt (α := Hp) (pI h 263 t0 v2) fun h7 =>
      some h7)
    else
    lt (α := Hp) (pI h 263 t0 v2) fun h4 =>
    some h4

def fX4_add_b2 (t0 : Nat) (a1 : Nat) : Nat → Hp → Int → Option Hp
  | 0, _, _ => none
  | fu + 1, h, v2 =>
    gd ((hK h t0).1 = 4) <|
    if v2 < (gI h 263 t0) then (
      nn (gR h 256 t0) fun q3 =>
      gd ((hK h q3).1 = 26) <|
      gd (inA v2 (hK h q3).2) <|
      nn (gC h q3 v2.toNat) fun q6 =>
      gd ((hK h a1).1 = 6) <|
      bd (fX6_standsIn h a1 q6) fun r8 =>
      if r8 = 0 then (
        lt (α := Int) (w32 (v2 + 1)) fun x11 =>
        fX4_add_b2 t0 a1 fu h x11)
      else
      some h)
    else
    fX4_add_b34 t0 a1 FU h 0 0

def fX4_add (h : Hp) (t0 : Nat) (a1 : Nat) : Option Hp :=
    fX4_add_b2 t0 a1 FU h 0

def fX4_measureOverlaps_b54 (t0 : Nat) (k2 : Hp → Int → Option Hp) (k12 : Hp → Int → Int → Option Hp) (h : Hp) (v1 : Int) (v2 : Int) (s0 : Int) (s1 : Int) (s2 : Nat) : Option Hp :=
    gd ((hK h s2).1 = 21) <|
    gd (inA s1 (hK h s2).2) <|
    lt (α := Hp) (sA h s2 s1 s0) fun h3 =>
    lt (α := Int) (w32 (v2 + 1)) fun x4 =>
    k12 h3 v1 x4

def fX4_measureOverlaps_b12 (t0 : Nat) (k2 : Hp → Int → Option Hp) : Nat → Hp → Int → Int → Option Hp
  | 0, _, _, _ => none
  | fu + 1, h, v1, v2 =>
    gd ((hK h t0).1 = 4) <|
    if v2 < (gI h 263 t0) then (
      nn (gR h 257 t0) fun q4 =>
      if v1 = v2 then (
        fX4_measureOverlaps_b54 t0 k2 (fX4_measureOverlaps_b12 t0 k2 fu) h v1 v2 0 (w32 ((w32 (v1 * 6)) + v2)) q4)
      else
      nn (gR h 256 t0) fun q6 =>
      gd ((hK h q6).1 = 26) <|
      gd (inA v1 (hK h q6).2) <|
      nn (gC h q6 v1.toNat) fun q9 =>
      gd (inA v2 (hK h q6).2) <|
      nn (gC h q6 v2.toNat) fun q11 =>
      gd ((hK h q9).1 = 6) <|
      bd (fX6_overlap h q9 q11) fun r13 =>
      fX4_measureOverlaps_b54 t0 k2 (fX4_measureOverlaps_b12 t0 k2 fu) h v1 v2 r13 (w32 ((w32 (v1 * 6)) + v2)) q4)
    else
    lt (α := Int) (w32 (v1 + 1)) fun x3 =>
    k2 h x3

def fX4_measureOverlaps_b2 (t0 : Nat) : Nat → Hp → Int → Option Hp
  | 0, _, _ => none
  | fu + 1, h, v1 =>
    gd ((hK h t0).1 = 4) <|
    if v1 < (gI h 263 t0) then (
      fX4_measureOverlaps_b12 t0 (fX4_measureOverlaps_b2 t0 fu) FU h v1 0)
    else
    some h

def fX4_measureOverlaps (h : Hp) (t0 : Nat) : Option Hp :=
    fX4_measureOverlaps_b2 t0 FU h 0

def fX4_stateWith (a1 : Int) (a2 : Int) : Option Int :=
    some (w32 ((w32 ((bor a1 (shl 1 a2)) * 6)) + a2))

def fX4_restWith (h : Hp) (t0 : Nat) (a1 : Int) (a2 : Int) (a3 : Int) : Option Int :=
    gd ((hK h t0).1 = 4) <|
    nn (gR h 256 t0) fun q2 =>
    gd ((hK h q2).1 = 26) <|
    gd (inA a3 (hK h q2).2) <|
    nn (gC h q2 a3.toNat) fun q5 =>
    gd ((hK h q5).1 = 6) <|
    nn (gR h 257 t0) fun q7 =>
    gd ((hK h q7).1 = 21) <|
    gd (inA (w32 ((w32 (a2 * 6)) + a3)) (hK h q7).2) <|
    nn (gR h 258 t0) fun q10 =>
    bd (fX4_stateWith a1 a3) fun r11 =>
    gd ((hK h q10).1 = 21) <|
    gd (inA r11 (hK h q10).2) <|
    some (w32 ((w32 ((gI h 386 q5) - (gA h q7 (w32 ((w32 (a2 * 6)) + a3)).toNat))) + (gA h q10 r11.toNat)))

def fX4_measureRests_b82 (t0 : Nat) (k11 : Hp → Int → Int → Option Hp) (k17 : Hp → Int → Int → Int → Option Hp) (k41 : Hp → Int → Int → Int → Int → Int → Option Hp) (h : Hp) (v1 : Int) (v2 : Int) (v3 : Int) (v4 : Int) (v5 : Int) : Option Hp :=
    lt (α := Int) (w32 (v5 + 1)) fun x1 =>
    k41 h v1 v2 v3 v4 x1

def fX4_measureRests_b41 (t0 : Nat) (k11 : Hp → Int → Int → Option Hp) (k17 : Hp → Int → Int → Int → Option Hp) : Nat → Hp → Int → Int → Int → Int → Int → Option Hp
  | 0, _, _, _, _, _, _ => none
  | fu + 1, h, v1, v2, v3, v4, v5 =>
    gd ((hK h t0).1 = 4) <|
    if v5 < (gI h 263 t0) then (
      bd (fX11_isIn v2 v3) fun r8 =>
      if r8 = 0 then (
        fX4_measureRests_b82 t0 k11 k17 (fX4_measureRests_b41 t0 k11 k17 fu) h v1 v2 v3 v4 v5)
      else
      bd (fX11_isIn v2 v5) fun r11 =>
      if r11 = 0 then (
        bd (fX4_restWith h t0 v2 v3 v5) fun r14 =>
        lt (α := Int) (min v4 r14) fun x16 =>
        fX4_measureRests_b82 t0 k11 k17 (fX4_measureRests_b41 t0 k11 k17 fu) h v1 v2 v3 x16 v5)
      else
      fX4_measureRests_b82 t0 k11 k17 (fX4_measureRests_b41 t0 k11 k17 fu) h v1 v2 v3 v4 v5)
    else
    nn (gR h 258 t0) fun q3 =>
    gd ((hK h q3).1 = 21) <|
    gd (inA (w32 ((w32 (v2 * 6)) + v3)) (hK h q3).2) <|
    lt (α := Hp) (sA h q3 (w32 ((w32 (v2 * 6)) + v3)) v4) fun h6 =>
    lt (α := Int) (w32 (v3 + 1)) fun x7 =>
    k17 h6 v1 v2 x7

def fX4_measureRests_b36 (t0 : Nat) (k11 : Hp → Int → Int → Option Hp) (k17 : Hp → Int → Int → Int → Option Hp) (h : Hp) (v1 : Int) (v2 : Int) (v3 : Int) (s0 : Int) : Option Hp :=
    fX4_measureRests_b41 t0 k11 k17 FU h v1 v2 v3 s0 0

def fX4_measureRests_b17 (t0 : Nat) (k11 : Hp → Int → Int → Option Hp) : Nat → Hp → Int → Int → Int → Option Hp
  | 0, _, _, _, _ => none
  | fu + 1, h, v1, v2, v3 =>
    gd ((hK h t0).1 = 4) <|
    if v3 < (gI h 263 t0) then (
      if v2 = v1 then (
        fX4_measureRests_b36 t0 k11 (fX4_measureRests_b17 t0 k11 fu) h v1 v2 v3 0)
      else
      fX4_measureRests_b36 t0 k11 (fX4_measureRests_b17 t0 k11 fu) h v1 v2 v3 1000000)
    else
    lt (α := Int) (w32 (v2 + (-1))) fun x3 =>
    k11 h v1 x3

def fX4_measureRests_b11 (t0 : Nat) : Nat → Hp → Int → Int → Option Hp
  | 0, _, _, _ => none
  | fu + 1, h, v1, v2 =>
    if 0 < v2 then (
      fX4_measureRests_b17 t0 (fX4_measureRests_b11 t0 fu) FU h v1 v2 0)
    else
    some h

def fX4_measureRests (h : Hp) (t0 : Nat) : Option Hp :=
    gd ((hK h t0).1 = 4) <|
    lt (α := Int) (w32 ((shl 1 (gI h 263 t0)) - 1)) fun x2 =>
    fX4_measureRests_b11 t0 FU h x2 x2

def fX4_addOpen (h : Hp) (t0 : Nat) (a1 : Int) : Option Hp :=
    gd ((hK h t0).1 = 4) <|
    nn (gR h 259 t0) fun q2 =>
    gd ((hK h q2).1 = 23) <|
    gd (inA a1 (hK h q2).2) <|
    if (gA h q2 a1.toNat) = 0 then (
      if (gI h 262 t0) < 384 then (
        gd (inA a1 (hK h q2).2) <|
        lt (α := Hp) (sA h q2 a1 1) fun h8 =>
        nn (gR h8 260 t0) fun q9 =>
        gd ((hK h8 q9).1 = 21) <|
        gd (inA (gI h8 262 t0) (hK h8 q9).2) <|
        lt (α := Hp) (sA h8 q9 (gI h8 262 t0) a1) fun h12 =>
        lt (α := Hp) (pI h12 262 t0 (w32 ((gI h12 262 t0) + 1))) fun h13 =>
        some h13)
      else
      some h)
    else
    some h

def fX4_openFirsts_b103 (t0 : Nat) (k62 : Hp → Int → Int → Option (Int × Hp)) (h : Hp) (v1 : Int) (v2 : Int) : Option (Int × Hp) :=
    lt (α := Int) (w32 (v2 + 1)) fun x1 =>
    k62 h v1 x1

def fX4_openFirsts_b62 (t0 : Nat) : Nat → Hp → Int → Int → Option (Int × Hp)
  | 0, _, _, _ => none
  | fu + 1, h, v1, v2 =>
    gd ((hK h t0).1 = 4) <|
    if v2 < (gI h 263 t0) then (
      nn (gR h 256 t0) fun q3 =>
      gd ((hK h q3).1 = 26) <|
      gd (inA v2 (hK h q3).2) <|
      nn (gC h q3 v2.toNat) fun q6 =>
      gd ((hK h q6).1 = 6) <|
      nn (gR h 258 t0) fun q8 =>
      bd (fX4_stateWith 0 v2) fun r9 =>
      gd ((hK h q8).1 = 21) <|
      gd (inA r9 (hK h q8).2) <|
      if (w32 ((gI h 386 q6) + (gA h q8 r9.toNat))) = v1 then (
        bd (fX4_stateWith 0 v2) fun r14 =>
        bd (fX4_addOpen h t0 r14) fun h18 =>
        fX4_openFirsts_b103 t0 (fX4_openFirsts_b62 t0 fu) h18 v1 v2)
      else
      fX4_openFirsts_b103 t0 (fX4_openFirsts_b62 t0 fu) h v1 v2)
    else
    some (v1, h)

def fX4_openFirsts_b16 (t0 : Nat) : Nat → Hp → Int → Int → Option (Int × Hp)
  | 0, _, _, _ => none
  | fu + 1, h, v1, v2 =>
    gd ((hK h t0).1 = 4) <|
    if v2 < (gI h 263 t0) then (
      nn (gR h 256 t0) fun q4 =>
      gd ((hK h q4).1 = 26) <|
      gd (inA v2 (hK h q4).2) <|
      nn (gC h q4 v2.toNat) fun q7 =>
      gd ((hK h q7).1 = 6) <|
      nn (gR h 258 t0) fun q9 =>
      bd (fX4_stateWith 0 v2) fun r10 =>
      gd ((hK h q9).1 = 21) <|
      gd (inA r10 (hK h q9).2) <|
      lt (α := Int) (min v1 (w32 ((gI h 386 q7) + (gA h q9 r10.toNat)))) fun x14 =>
      lt (α := Int) (w32 (v2 + 1)) fun x15 =>
      fX4_openFirsts_b16 t0 fu h x14 x15)
    else
    lt (α := Hp) (pI h 262 t0 0) fun h3 =>
    fX4_openFirsts_b62 t0 FU h3 v1 0

def fX4_openFirsts_b13 (t0 : Nat) (h : Hp) (s0 : Int) : Option (Int × Hp) :=
    fX4_openFirsts_b16 t0 FU h s0 0

def fX4_openFirsts (h : Hp) (t0 : Nat) : Option (Int × Hp) :=
    gd ((hK h t0).1 = 4) <|
    if (gI h 263 t0) = 0 then (
      fX4_openFirsts_b13 t0 h 0)
    else
    fX4_openFirsts_b13 t0 h 1000000

def fX4_placeIn (h : Hp) (t0 : Nat) (a1 : Int) (a2 : Int) : Option Int :=
    gd ((hK h t0).1 = 4) <|
    nn (gR h 256 t0) fun q2 =>
    gd ((hK h q2).1 = 26) <|
    gd (inA (irm a1 6) (hK h q2).2) <|
    nn (gC h q2 (irm a1 6).toNat) fun q5 =>
    gd ((hK h q5).1 = 6) <|
    nn (gR h 258 t0) fun q7 =>
    gd ((hK h q7).1 = 21) <|
    gd (inA a1 (hK h q7).2) <|
    some (w32 ((w32 ((gI h 386 q5) + (gA h q7 a1.toNat))) - a2))

def fX4_letterOf (h : Hp) (t0 : Nat) (a1 : Int) (a2 : Int) : Option Int :=
    gd ((hK h t0).1 = 4) <|
    nn (gR h 256 t0) fun q2 =>
    gd ((hK h q2).1 = 26) <|
    gd (inA (irm a1 6) (hK h q2).2) <|
    nn (gC h q2 (irm a1 6).toNat) fun q5 =>
    bd (fX4_placeIn h t0 a1 a2) fun r6 =>
    gd ((hK h q5).1 = 6) <|
    bd (fX6_at h q5 r6) fun r9 =>
    some r9

def fX4_leastLetter_b5 (h : Hp) (t0 : Nat) (a1 : Int) : Nat → Int → Int → Option Int
  | 0, _, _ => none
  | fu + 1, v2, v3 =>
    gd ((hK h t0).1 = 4) <|
    if v3 < (gI h 262 t0) then (
      nn (gR h 260 t0) fun q3 =>
      gd ((hK h q3).1 = 21) <|
      gd (inA v3 (hK h q3).2) <|
      bd (fX4_letterOf h t0 (gA h q3 v3.toNat) a1) fun r6 =>
      lt (α := Int) (min v2 r6) fun x8 =>
      lt (α := Int) (w32 (v3 + 1)) fun x9 =>
      fX4_leastLetter_b5 h t0 a1 fu x8 x9)
    else
    some v2

def fX4_leastLetter (h : Hp) (t0 : Nat) (a1 : Int) : Option Int :=
    fX4_leastLetter_b5 h t0 a1 FU 26 0

def fX4_addNexts_b51 (t0 : Nat) (a1 : Int) (k7 : Hp → Int → Int → Option Hp) (h : Hp) (v2 : Int) (v3 : Int) : Option Hp :=
    lt (α := Int) (w32 (v3 + 1)) fun x1 =>
    k7 h v2 x1

def fX4_addNexts_b7 (t0 : Nat) (a1 : Int) : Nat → Hp → Int → Int → Option Hp
  | 0, _, _, _ => none
  | fu + 1, h, v2, v3 =>
    gd ((hK h t0).1 = 4) <|
    if v3 < (gI h 263 t0) then (
      bd (fX11_isIn v2 v3) fun r3 =>
      if r3 = 0 then (
        bd (fX4_restWith h t0 v2 (irm a1 6) v3) fun r6 =>
        nn (gR h 258 t0) fun q8 =>
        gd ((hK h q8).1 = 21) <|
        gd (inA a1 (hK h q8).2) <|
        if r6 = (gA h q8 a1.toNat) then (
          bd (fX4_stateWith v2 v3) fun r12 =>
          bd (fX4_addOpen h t0 r12) fun h16 =>
          fX4_addNexts_b51 t0 a1 (fX4_addNexts_b7 t0 a1 fu) h16 v2 v3)
        else
        fX4_addNexts_b51 t0 a1 (fX4_addNexts_b7 t0 a1 fu) h v2 v3)
      else
      fX4_addNexts_b51 t0 a1 (fX4_addNexts_b7 t0 a1 fu) h v2 v3)
    else
    some h

def fX4_addNexts (h : Hp) (t0 : Nat) (a1 : Int) : Option Hp :=
    lt (α := Int) (idv a1 6) fun x1 =>
    fX4_addNexts_b7 t0 a1 FU h x1 0

def fX4_follow_b122 (t0 : Nat) (a1 : Int) (a2 : Int) (k58 : Hp → Nat → Int → Int → Option Hp) (h : Hp) (v3 : Nat) (v4 : Int) (v5 : Int) : Option Hp :=
    lt (α := Int) (w32 (v5 + 1)) fun x1 =>
    k58 h v3 v4 x1

def fX4_follow_b58 (t0 : Nat) (a1 : Int) (a2 : Int) : Nat → Hp → Nat → Int → Int → Option Hp
  | 0, _, _, _, _ => none
  | fu + 1, h, v3, v4, v5 =>
    if v5 < v4 then (
      gd ((hK h v3).1 = 21) <|
      gd (inA v5 (hK h v3).2) <|
      lt (α := Int) (gA h v3 v5.toNat) fun x4 =>
      gd ((hK h t0).1 = 4) <|
      bd (fX4_letterOf h t0 x4 a2) fun r6 =>
      if r6 = a1 then (
        bd (fX4_placeIn h t0 x4 a2) fun r9 =>
        nn (gR h 256 t0) fun q11 =>
        gd ((hK h q11).1 = 26) <|
        gd (inA (irm x4 6) (hK h q11).2) <|
        nn (gC h q11 (irm x4 6).toNat) fun q14 =>
        gd ((hK h q14).1 = 6) <|
        if (w32 (r9 + 1)) < (gI h 386 q14) then (
          bd (fX4_addOpen h t0 x4) fun h22 =>
          fX4_follow_b122 t0 a1 a2 (fX4_follow_b58 t0 a1 a2 fu) h22 v3 v4 v5)
        else
        bd (fX4_addNexts h t0 x4) fun h19 =>
        fX4_follow_b122 t0 a1 a2 (fX4_follow_b58 t0 a1 a2 fu) h19 v3 v4 v5)
      else
      fX4_follow_b122 t0 a1 a2 (fX4_follow_b58 t0 a1 a2 fu) h v3 v4 v5)
    else
    some h

def fX4_follow_b32 (t0 : Nat) (a1 : Int) (a2 : Int) : Nat → Hp → Nat → Int → Int → Option Hp
  | 0, _, _, _, _ => none
  | fu + 1, h, v3, v4, v5 =>
    if v5 < v4 then (
      gd ((hK h t0).1 = 4) <|
      nn (gR h 259 t0) fun q3 =>
      gd ((hK h v3).1 = 21) <|
      gd (inA v5 (hK h v3).2) <|
      gd ((hK h q3).1 = 23) <|
      gd (inA (gA h v3 v5.toNat) (hK h q3).2) <|
      lt (α := Hp) (sA h q3 (gA h v3 v5.toNat) 0) fun h8 =>
      lt (α := Int) (w32 (v5 + 1)) fun x9 =>
      fX4_follow_b32 t0 a1 a2 fu h8 v3 v4 x9)
    else
    fX4_follow_b58 t0 a1 a2 FU h v3 v4 0

def fX4_follow (h : Hp) (t0 : Nat) (a1 : Int) (a2 : Int) : Option Hp :=
    gd ((hK h t0).1 = 4) <|
    nn (gR h 260 t0) fun q2 =>
    lt (α := Int) (gI h 262 t0) fun x3 =>
    nn (gR h 261 t0) fun q4 =>
    lt (α := Hp) (pR h 260 t0 q4) fun h5 =>
    lt (α := Hp) (pR h5 261 t0 q2) fun h6 =>
    lt (α := Hp) (pI h6 262 t0 0) fun h7 =>
    fX4_follow_b32 t0 a1 a2 FU h7 q2 x3 0

def fX4_mergeAll_b22 (t0 : Nat) : Nat → Hp → Int → Option Hp
  | 0, _, _ => none
  | fu + 1, h, v2 =>
    if 0 < v2 then (
      gd ((hK h t0).1 = 4) <|
      bd (fX4_leastLetter h t0 v2) fun r3 =>
      nn (gR h 264 t0) fun q5 =>
      gd ((hK h q5).1 = 6) <|
      bd (fX6_add h q5 r3) fun h9 =>
      gd ((hK h9 t0).1 = 4) <|
      bd (fX4_follow h9 t0 r3 v2) fun h13 =>
      lt (α := Int) (w32 (v2 + (-1))) fun x14 =>
      fX4_mergeAll_b22 t0 fu h13 x14)
    else
    some h

def fX4_mergeAll (h : Hp) (t0 : Nat) : Option Hp :=
    gd ((hK h t0).1 = 4) <|
    bd (fX4_measureOverlaps h t0) fun h4 =>
    gd ((hK h4 t0).1 = 4) <|
    bd (fX4_measureRests h4 t0) fun h8 =>
    gd ((hK h8 t0).1 = 4) <|
    bd2 (fX4_openFirsts h8 t0) fun r10 h12 =>
    gd ((hK h12 t0).1 = 4) <|
    nn (gR h12 264 t0) fun q14 =>
    gd ((hK h12 q14).1 = 6) <|
    bd (fX6_clear h12 q14) fun h18 =>
    fX4_mergeAll_b22 t0 FU h18 r10

def fX11_merged_b69 (t0 : Nat) (a1 : Int) (k38 : Hp → Int → Option (Int × Hp)) (h : Hp) (v2 : Int) : Option (Int × Hp) :=
    lt (α := Int) (w32 (v2 + 1)) fun x1 =>
    k38 h x1

def fX11_merged_b38 (t0 : Nat) (a1 : Int) : Nat → Hp → Int → Option (Int × Hp)
  | 0, _, _ => none
  | fu + 1, h, v2 =>
    gd ((hK h t0).1 = 11) <|
    nn (gR h 717 t0) fun q2 =>
    gd ((hK h q2).1 = 7) <|
    if v2 < (gI h 451 q2) then (
      bd (fX11_isIn a1 v2) fun r18 =>
      if r18 = 0 then (
        fX11_merged_b69 t0 a1 (fX11_merged_b38 t0 a1 fu) h v2)
      else
      nn (gR h 715 t0) fun q21 =>
      bd2 (fX11_hear h t0 v2) fun r22 h24 =>
      gd ((hK h24 q21).1 = 4) <|
      bd (fX4_add h24 q21 r22) fun h28 =>
      fX11_merged_b69 t0 a1 (fX11_merged_b38 t0 a1 fu) h28 v2)
    else
    nn (gR h 715 t0) fun q5 =>
    gd ((hK h q5).1 = 4) <|
    bd (fX4_mergeAll h q5) fun h9 =>
    gd ((hK h9 t0).1 = 11) <|
    nn (gR h9 715 t0) fun q11 =>
    gd ((hK h9 q11).1 = 4) <|
    nn (gR h9 264 q11) fun q13 =>
    gd ((hK h9 q13).1 = 6) <|
    bd2 (fX11_answer h9 t0 (gI h9 386 q13)) fun r15 h17 =>
    some (r15, h17)

def fX11_merged (h : Hp) (t0 : Nat) (a1 : Int) : Option (Int × Hp) :=
    gd ((hK h t0).1 = 11) <|
    bd (fX11_isJarSet h t0 a1) fun r2 =>
    if r2 = 0 then (
      bd2 (fX11_refuse h t0 2) fun r16 h18 =>
      some (r16, h18))
    else
    bd (fJ6_bitCount_0f7a4 a1) fun r5 =>
    if r5 ≤ 6 then (
      nn (gR h 715 t0) fun q8 =>
      gd ((hK h q8).1 = 4) <|
      bd (fX4_clear h q8) fun h12 =>
      fX11_merged_b38 t0 a1 FU h12 0)
    else
    bd2 (fX11_refuse h t0 5) fun r13 h15 =>
    some (r13, h15)

def fX11_mergedAt (h : Hp) (t0 : Nat) (a1 : Int) : Option (Int × Hp) :=
    gd ((hK h t0).1 = 11) <|
    nn (gR h 715 t0) fun q2 =>
    gd ((hK h q2).1 = 4) <|
    nn (gR h 264 q2) fun q4 =>
    bd2 (fX11_answerAt h t0 q4 a1) fun r5 h7 =>
    some (r5, h7)

def fX0_lastDayWith (h : Hp) (t0 : Nat) (a1 : Int) : Option Int :=
    gd ((hK h t0).1 = 0) <|
    bd (fX0_firstDayWith h t0 a1) fun r2 =>
    if r2 = (-1) then (
      some (-1))
    else
    if (gI h 1 t0) = 0 then (
      some (-1))
    else
    if a1 = 0 then (
      some (-1))
    else
    some (w32 ((w32 (r2 + (gI h 1 t0))) - 1))

def fX11_since (h : Hp) (t0 : Nat) (a1 : Int) (a2 : Int) (a3 : Int) : Option (Int × Hp) :=
    gd ((hK h t0).1 = 11) <|
    bd (fX11_isJar h t0 a1) fun r2 =>
    if r2 = 0 then (
      bd2 (fX11_refuse h t0 2) fun r36 h38 =>
      some (r36, h38))
    else
    bd (fX11_within a2 0 12) fun r5 =>
    if r5 = 0 then (
      bd2 (fX11_refuse h t0 5) fun r8 h10 =>
      some (r8, h10))
    else
    bd (fX11_within a3 0 1) fun r11 =>
    if r11 = 0 then (
      bd2 (fX11_refuse h t0 5) fun r33 h35 =>
      some (r33, h35))
    else
    nn (gR h 717 t0) fun q14 =>
    gd ((hK h q14).1 = 7) <|
    nn (gR h 449 q14) fun q16 =>
    gd ((hK h q16).1 = 24) <|
    gd (inA a1 (hK h q16).2) <|
    nn (gC h q16 a1.toNat) fun q19 =>
    if a3 = 0 then (
      gd ((hK h q19).1 = 0) <|
      bd (fX0_firstDayWith h q19 a2) fun r28 =>
      bd2 (fX11_answerOrNoSuch h t0 r28) fun r30 h32 =>
      some (r30, h32))
    else
    gd ((hK h q19).1 = 0) <|
    bd (fX0_lastDayWith h q19 a2) fun r22 =>
    bd2 (fX11_answerOrNoSuch h t0 r22) fun r24 h26 =>
    some (r24, h26)

def fX6_editsTo_b60 (t0 : Nat) (a1 : Nat) (a2 : Nat) (k36 : Hp → Int → Int → Option (Int × Hp)) : Nat → Hp → Int → Int → Int → Int → Option (Int × Hp)
  | 0, _, _, _, _, _ => none
  | fu + 1, h, v3, v4, v5, v6 =>
    if v6 ≤ v3 then (
      gd ((hK h t0).1 = 6) <|
      bd (fX6_at h t0 v4) fun r4 =>
      gd ((hK h a1).1 = 6) <|
      bd (fX6_at h a1 (w32 (v6 - 1))) fun r7 =>
      lt (α := Int) (w32 (v5 + (if r4 = r7 then 0 else 1))) fun x10 =>
      gd ((hK h a2).1 = 21) <|
      gd (inA v6 (hK h a2).2) <|
      lt (α := Int) (gA h a2 v6.toNat) fun x13 =>
      gd (inA (w32 (v6 - 1)) (hK h a2).2) <|
      gd (inA v6 (hK h a2).2) <|
      lt (α := Hp) (sA h a2 v6 (min x10 (w32 ((min x13 (gA h a2 (w32 (v6 - 1)).toNat)) + 1)))) fun h16 =>
      lt (α := Int) (w32 (v6 + 1)) fun x17 =>
      fX6_editsTo_b60 t0 a1 a2 k36 fu h16 v3 v4 x13 x17)
    else
    lt (α := Int) (w32 (v4 + 1)) fun x2 =>
    k36 h v3 x2

def fX6_editsTo_b36 (t0 : Nat) (a1 : Nat) (a2 : Nat) : Nat → Hp → Int → Int → Option (Int × Hp)
  | 0, _, _, _ => none
  | fu + 1, h, v3, v4 =>
    gd ((hK h t0).1 = 6) <|
    if v4 < (gI h 386 t0) then (
      gd ((hK h a2).1 = 21) <|
      gd (inA 0 (hK h a2).2) <|
      lt (α := Int) (gA h a2 ((0 : Int).toNat)) fun x7 =>
      gd (inA 0 (hK h a2).2) <|
      lt (α := Hp) (sA h a2 0 (w32 (v4 + 1))) fun h9 =>
      fX6_editsTo_b60 t0 a1 a2 (fX6_editsTo_b36 t0 a1 a2 fu) FU h9 v3 v4 x7 1)
    else
    gd ((hK h a2).1 = 21) <|
    gd (inA v3 (hK h a2).2) <|
    some (gA h a2 v3.toNat, h)

def fX6_editsTo_b15 (t0 : Nat) (a1 : Nat) (a2 : Nat) : Nat → Hp → Int → Int → Option (Int × Hp)
  | 0, _, _, _ => none
  | fu + 1, h, v3, v4 =>
    if v4 ≤ v3 then (
      gd ((hK h a2).1 = 21) <|
      gd (inA v4 (hK h a2).2) <|
      lt (α := Hp) (sA h a2 v4 v4) fun h4 =>
      lt (α := Int) (w32 (v4 + 1)) fun x5 =>
      fX6_editsTo_b15 t0 a1 a2 fu h4 v3 x5)
    else
    fX6_editsTo_b36 t0 a1 a2 FU h v3 0

def fX6_editsTo (h : Hp) (t0 : Nat) (a1 : Nat) (a2 : Nat) : Option (Int × Hp) :=
    gd ((hK h a1).1 = 6) <|
    gd ((hK h a2).1 = 21) <|
    gd (((hK h a2).2 : Int) < 2147483648) <|
    lt (α := Int) (min (gI h 386 a1) (w32 (((hK h a2).2 : Int) - 1))) fun x4 =>
    fX6_editsTo_b15 t0 a1 a2 FU h x4 0

def fX11_far (h : Hp) (t0 : Nat) (a1 : Int) (a2 : Int) : Option (Int × Hp) :=
    gd ((hK h t0).1 = 11) <|
    bd (fX11_isJar h t0 a1) fun r2 =>
    if r2 = 0 then (
      bd2 (fX11_refuse h t0 2) fun r5 h7 =>
      some (r5, h7))
    else
    bd (fX11_isSound h t0 a2) fun r8 =>
    if r8 = 0 then (
      bd2 (fX11_refuse h t0 2) fun r30 h32 =>
      some (r30, h32))
    else
    bd2 (fX11_hear h t0 a1) fun r11 h13 =>
    gd ((hK h13 t0).1 = 11) <|
    nn (gR h13 717 t0) fun q15 =>
    gd ((hK h13 q15).1 = 7) <|
    nn (gR h13 448 q15) fun q17 =>
    gd ((hK h13 q17).1 = 26) <|
    gd (inA a2 (hK h13 q17).2) <|
    nn (gC h13 q17 a2.toNat) fun q20 =>
    nn (gR h13 712 t0) fun q21 =>
    gd ((hK h13 r11).1 = 6) <|
    bd2 (fX6_editsTo h13 r11 q20 q21) fun r23 h25 =>
    gd ((hK h25 t0).1 = 11) <|
    bd2 (fX11_answer h25 t0 r23) fun r27 h29 =>
    some (r27, h29)

def fX6_stretchIn_b66 (h : Hp) (t0 : Nat) (a1 : Nat) (a2 : Int) (k5 : Int → Int → Option Int) (v3 : Int) (v4 : Int) (v5 : Int) : Option Int :=
    lt (α := Int) (max v3 v5) fun x1 =>
    lt (α := Int) (w32 (v4 + 1)) fun x2 =>
    k5 x1 x2

def fX6_stretchIn_b17 (h : Hp) (t0 : Nat) (a1 : Nat) (a2 : Int) (k5 : Int → Int → Option Int) : Nat → Int → Int → Int → Option Int
  | 0, _, _, _ => none
  | fu + 1, v3, v4, v5 =>
    gd ((hK h t0).1 = 6) <|
    if (w32 (a2 + v5)) < (gI h 386 t0) then (
      gd ((hK h a1).1 = 6) <|
      if (w32 (v4 + v5)) < (gI h 386 a1) then (
        bd (fX6_at h t0 (w32 (a2 + v5))) fun r5 =>
        bd (fX6_at h a1 (w32 (v4 + v5))) fun r7 =>
        if r5 = r7 then (
          lt (α := Int) (w32 (v5 + 1)) fun x10 =>
          fX6_stretchIn_b17 h t0 a1 a2 k5 fu v3 v4 x10)
        else
        fX6_stretchIn_b66 h t0 a1 a2 k5 v3 v4 v5)
      else
      fX6_stretchIn_b66 h t0 a1 a2 k5 v3 v4 v5)
    else
    fX6_stretchIn_b66 h t0 a1 a2 k5 v3 v4 v5

def fX6_stretchIn_b5 (h : Hp) (t0 : Nat) (a1 : Nat) (a2 : Int) : Nat → Int → Int → Option Int
  | 0, _, _ => none
  | fu + 1, v3, v4 =>
    gd ((hK h a1).1 = 6) <|
    if v4 < (gI h 386 a1) then (
      fX6_stretchIn_b17 h t0 a1 a2 (fX6_stretchIn_b5 h t0 a1 a2 fu) FU v3 v4 0)
    else
    some v3

def fX6_stretchIn (h : Hp) (t0 : Nat) (a1 : Nat) (a2 : Int) : Option Int :=
    fX6_stretchIn_b5 h t0 a1 a2 FU 0 0

def fX11_common_b41 (t0 : Nat) (a1 : Int) (a2 : Int) : Nat → Hp → Nat → Nat → Int → Int → Option (Int × Hp)
  | 0, _, _, _, _, _ => none
  | fu + 1, h, v3, v4, v5, v6 =>
    gd ((hK h v3).1 = 6) <|
    if v6 < (gI h 386 v3) then (
      bd (fX6_stretchIn h v3 v4 v6) fun r7 =>
      lt (α := Int) (max v5 r7) fun x9 =>
      lt (α := Int) (w32 (v6 + 1)) fun x10 =>
      fX11_common_b41 t0 a1 a2 fu h v3 v4 x9 x10)
    else
    gd ((hK h t0).1 = 11) <|
    bd2 (fX11_answer h t0 v5) fun r4 h6 =>
    some (r4, h6)

def fX11_common (h : Hp) (t0 : Nat) (a1 : Int) (a2 : Int) : Option (Int × Hp) :=
    gd ((hK h t0).1 = 11) <|
    bd (fX11_isJar h t0 a1) fun r2 =>
    if r2 = 0 then (
      bd2 (fX11_refuse h t0 2) fun r5 h7 =>
      some (r5, h7))
    else
    bd (fX11_isJar h t0 a2) fun r8 =>
    if r8 = 0 then (
      bd2 (fX11_refuse h t0 2) fun r18 h20 =>
      some (r18, h20))
    else
    bd2 (fX11_hear h t0 a1) fun r11 h13 =>
    gd ((hK h13 t0).1 = 11) <|
    bd2 (fX11_hear h13 t0 a2) fun r15 h17 =>
    fX11_common_b41 t0 a1 a2 FU h17 r11 r15 0 0

def fX11_followers_b53 (t0 : Nat) (a1 : Int) (a2 : Int) (k12 : Hp → Nat → Int → Int → Option (Int × Hp)) (h : Hp) (v3 : Nat) (v4 : Int) (v5 : Int) : Option (Int × Hp) :=
    lt (α := Int) (w32 (v5 + 1)) fun x1 =>
    k12 h v3 v4 x1

def fX11_followers_b12 (t0 : Nat) (a1 : Int) (a2 : Int) : Nat → Hp → Nat → Int → Int → Option (Int × Hp)
  | 0, _, _, _, _ => none
  | fu + 1, h, v3, v4, v5 =>
    gd ((hK h t0).1 = 11) <|
    nn (gR h 717 t0) fun q2 =>
    gd ((hK h q2).1 = 7) <|
    if v5 < (gI h 451 q2) then (
      if v5 = a1 then (
        fX11_followers_b53 t0 a1 a2 (fX11_followers_b12 t0 a1 a2 fu) h v3 v4 v5)
      else
      bd2 (fX11_hear h t0 v5) fun r6 h8 =>
      gd ((hK h8 v3).1 = 6) <|
      bd (fX6_overlap h8 v3 r6) fun r10 =>
      if r10 < a2 then (
        fX11_followers_b53 t0 a1 a2 (fX11_followers_b12 t0 a1 a2 fu) h8 v3 v4 v5)
      else
      lt (α := Int) (bor v4 (shl 1 v5)) fun x13 =>
      fX11_followers_b53 t0 a1 a2 (fX11_followers_b12 t0 a1 a2 fu) h8 v3 x13 v5)
    else
    some (v4, h)

def fX11_followers (h : Hp) (t0 : Nat) (a1 : Int) (a2 : Int) : Option (Int × Hp) :=
    gd ((hK h t0).1 = 11) <|
    bd2 (fX11_hear h t0 a1) fun r2 h4 =>
    fX11_followers_b12 t0 a1 a2 FU h4 r2 0 0

def fX5_link (h : Hp) (t0 : Nat) (a1 : Int) (a2 : Int) : Option Hp :=
    if a1 < 0 then (
      some h)
    else
    if a1 < 8 then (
      gd ((hK h t0).1 = 5) <|
      nn (gR h 320 t0) fun q4 =>
      gd ((hK h q4).1 = 21) <|
      gd (inA a1 (hK h q4).2) <|
      lt (α := Hp) (sA h q4 a1 a2) fun h7 =>
      some h7)
    else
    some h

def fX5_lengthWith (h : Hp) (t0 : Nat) (a1 : Int) (a2 : Int) : Option Int :=
    gd ((hK h t0).1 = 5) <|
    nn (gR h 321 t0) fun q2 =>
    gd ((hK h q2).1 = 21) <|
    gd (inA (w32 ((w32 ((bor a1 (shl 1 a2)) * 8)) + a2)) (hK h q2).2) <|
    some (gA h q2 (w32 ((w32 ((bor a1 (shl 1 a2)) * 8)) + a2)).toNat)

def fX5_bestLink_b60 (h : Hp) (t0 : Nat) (a1 : Int) (a2 : Int) (k15 : Int → Int → Int → Int → Option Int) (v3 : Int) (v4 : Int) (v5 : Int) (v6 : Int) : Option Int :=
    lt (α := Int) (w32 (v6 + 1)) fun x1 =>
    k15 v3 v4 v5 x1

def fX5_bestLink_b15 (h : Hp) (t0 : Nat) (a1 : Int) (a2 : Int) : Nat → Int → Int → Int → Int → Option Int
  | 0, _, _, _, _ => none
  | fu + 1, v3, v4, v5, v6 =>
    if v3 = 0 then (
      some v4)
    else
    if v6 < 8 then (
      bd (fX11_isIn v3 v6) fun r3 =>
      if r3 = 0 then (
        fX5_bestLink_b60 h t0 a1 a2 (fX5_bestLink_b15 h t0 a1 a2 fu) v3 v4 v5 v6)
      else
      gd ((hK h t0).1 = 5) <|
      bd (fX5_lengthWith h t0 a1 v6) fun r7 =>
      if r7 ≤ v5 then (
        fX5_bestLink_b60 h t0 a1 a2 (fX5_bestLink_b15 h t0 a1 a2 fu) v3 v4 v5 v6)
      else
      bd (fX5_lengthWith h t0 a1 v6) fun r10 =>
      fX5_bestLink_b60 h t0 a1 a2 (fX5_bestLink_b15 h t0 a1 a2 fu) v3 v6 r10 v6)
    else
    some v4

def fX5_bestLink (h : Hp) (t0 : Nat) (a1 : Int) (a2 : Int) : Option Int :=
    lt (α := Int) (bnd a2 (bxr a1 (-1))) fun x1 =>
    fX5_bestLink_b15 h t0 a1 a2 FU x1 (-1) 0 0

def fX5_findChain_b80 (t0 : Nat) (a1 : Int) (k13 : Hp → Int → Int → Option Hp) (k20 : Hp → Int → Int → Int → Option Hp) (h : Hp) (v2 : Int) (v3 : Int) (v4 : Int) : Option Hp :=
    lt (α := Int) (w32 (v4 + 1)) fun x1 =>
    k20 h v2 v3 x1

def fX5_findChain_b78 (t0 : Nat) (a1 : Int) (k13 : Hp → Int → Int → Option Hp) (k20 : Hp → Int → Int → Int → Option Hp) (h : Hp) (v2 : Int) (v3 : Int) (v4 : Int) (s0 : Int) (s1 : Int) (s2 : Int) (s3 : Nat) : Option Hp :=
    gd ((hK h s3).1 = 21) <|
    gd (inA s2 (hK h s3).2) <|
    lt (α := Hp) (sA h s3 s2 (w32 (s1 + s0))) fun h3 =>
    fX5_findChain_b80 t0 a1 k13 k20 h3 v2 v3 v4

def fX5_findChain_b20 (t0 : Nat) (a1 : Int) (k13 : Hp → Int → Int → Option Hp) : Nat → Hp → Int → Int → Int → Option Hp
  | 0, _, _, _, _ => none
  | fu + 1, h, v2, v3, v4 =>
    if v4 < v2 then (
      bd (fX11_isIn v3 v4) fun r3 =>
      if r3 = 0 then (
        fX5_findChain_b80 t0 a1 k13 (fX5_findChain_b20 t0 a1 k13 fu) h v2 v3 v4)
      else
      gd ((hK h t0).1 = 5) <|
      nn (gR h 320 t0) fun q7 =>
      gd ((hK h q7).1 = 21) <|
      gd (inA v4 (hK h q7).2) <|
      bd (fX5_bestLink h t0 v3 (gA h q7 v4.toNat)) fun r10 =>
      nn (gR h 321 t0) fun q12 =>
      if r10 = (-1) then (
        fX5_findChain_b78 t0 a1 k13 (fX5_findChain_b20 t0 a1 k13 fu) h v2 v3 v4 0 1 (w32 ((w32 (v3 * 8)) + v4)) q12)
      else
      bd (fX5_lengthWith h t0 v3 r10) fun r14 =>
      fX5_findChain_b78 t0 a1 k13 (fX5_findChain_b20 t0 a1 k13 fu) h v2 v3 v4 r14 1 (w32 ((w32 (v3 * 8)) + v4)) q12)
    else
    lt (α := Int) (w32 (v3 + (-1))) fun x2 =>
    k13 h v2 x2

def fX5_findChain_b116 (t0 : Nat) (a1 : Int) : Nat → Hp → Int → Int → Int → Int → Option Hp
  | 0, _, _, _, _, _ => none
  | fu + 1, h, v2, v3, v4, v5 =>
    if v5 < v2 then (
      if v4 = (-1) then (
        some h)
      else
      gd ((hK h t0).1 = 5) <|
      nn (gR h 323 t0) fun q4 =>
      gd ((hK h q4).1 = 6) <|
      bd (fX6_add h q4 v4) fun h8 =>
      lt (α := Int) (bor v3 (shl 1 v4)) fun x9 =>
      gd ((hK h8 t0).1 = 5) <|
      nn (gR h8 320 t0) fun q11 =>
      gd ((hK h8 q11).1 = 21) <|
      gd (inA v4 (hK h8 q11).2) <|
      bd (fX5_bestLink h8 t0 x9 (gA h8 q11 v4.toNat)) fun r14 =>
      lt (α := Int) (w32 (v5 + 1)) fun x16 =>
      fX5_findChain_b116 t0 a1 fu h8 v2 x9 r14 x16)
    else
    some h

def fX5_findChain_b13 (t0 : Nat) (a1 : Int) : Nat → Hp → Int → Int → Option Hp
  | 0, _, _, _ => none
  | fu + 1, h, v2, v3 =>
    if 0 < v3 then (
      fX5_findChain_b20 t0 a1 (fX5_findChain_b13 t0 a1 fu) FU h v2 v3 0)
    else
    gd ((hK h t0).1 = 5) <|
    nn (gR h 323 t0) fun q3 =>
    gd ((hK h q3).1 = 6) <|
    bd (fX6_clear h q3) fun h7 =>
    gd ((hK h7 t0).1 = 5) <|
    bd (fX5_bestLink h7 t0 0 (w32 ((shl 1 v2) - 1))) fun r9 =>
    fX5_findChain_b116 t0 a1 FU h7 v2 0 r9 0

def fX5_findChain (h : Hp) (t0 : Nat) (a1 : Int) : Option Hp :=
    lt (α := Int) (min a1 8) fun x1 =>
    lt (α := Int) (w32 ((shl 1 x1) - 1)) fun x2 =>
    fX5_findChain_b13 t0 a1 FU h x1 x2

def fX11_chain_b37 (t0 : Nat) (a1 : Int) : Nat → Hp → Int → Option (Int × Hp)
  | 0, _, _ => none
  | fu + 1, h, v2 =>
    gd ((hK h t0).1 = 11) <|
    nn (gR h 717 t0) fun q2 =>
    gd ((hK h q2).1 = 7) <|
    if v2 < (gI h 451 q2) then (
      nn (gR h 716 t0) fun q18 =>
      bd2 (fX11_followers h t0 v2 a1) fun r19 h21 =>
      gd ((hK h21 q18).1 = 5) <|
      bd (fX5_link h21 q18 v2 r19) fun h25 =>
      lt (α := Int) (w32 (v2 + 1)) fun x26 =>
      fX11_chain_b37 t0 a1 fu h25 x26)
    else
    nn (gR h 716 t0) fun q5 =>
    gd ((hK h q5).1 = 5) <|
    bd (fX5_findChain h q5 (gI h 451 q2)) fun h9 =>
    gd ((hK h9 t0).1 = 11) <|
    nn (gR h9 716 t0) fun q11 =>
    gd ((hK h9 q11).1 = 5) <|
    nn (gR h9 323 q11) fun q13 =>
    gd ((hK h9 q13).1 = 6) <|
    bd2 (fX11_answer h9 t0 (gI h9 386 q13)) fun r15 h17 =>
    some (r15, h17)

def fX11_chain (h : Hp) (t0 : Nat) (a1 : Int) : Option (Int × Hp) :=
    bd (fX11_within a1 1 11) fun r1 =>
    if r1 = 0 then (
      gd ((hK h t0).1 = 11) <|
      bd2 (fX11_refuse h t0 5) fun r12 h14 =>
      some (r12, h14))
    else
    gd ((hK h t0).1 = 11) <|
    nn (gR h 717 t0) fun q5 =>
    gd ((hK h q5).1 = 7) <|
    if (gI h 451 q5) = 0 then (
      bd2 (fX11_refuse h t0 8) fun r8 h10 =>
      some (r8, h10))
    else
    fX11_chain_b37 t0 a1 FU h 0

def fX11_chainAt (h : Hp) (t0 : Nat) (a1 : Int) : Option (Int × Hp) :=
    gd ((hK h t0).1 = 11) <|
    nn (gR h 716 t0) fun q2 =>
    gd ((hK h q2).1 = 5) <|
    nn (gR h 323 q2) fun q4 =>
    bd2 (fX11_answerAt h t0 q4 a1) fun r5 h7 =>
    some (r5, h7)

def fX11_fitsCounted_b38 (h : Hp) (t0 : Nat) (a1 : Int) (k10 : Int → Int → Option Int) (v2 : Int) (v3 : Int) : Option Int :=
    lt (α := Int) (w32 (v3 + 1)) fun x1 =>
    k10 v2 x1

def fX11_fitsCounted_b10 (h : Hp) (t0 : Nat) (a1 : Int) : Nat → Int → Int → Option Int
  | 0, _, _ => none
  | fu + 1, v2, v3 =>
    gd ((hK h t0).1 = 11) <|
    nn (gR h 717 t0) fun q2 =>
    gd ((hK h q2).1 = 7) <|
    if v3 < (gI h 451 q2) then (
      bd (fX11_isIn a1 v3) fun r5 =>
      if r5 = 0 then (
        fX11_fitsCounted_b38 h t0 a1 (fX11_fitsCounted_b10 h t0 a1 fu) v2 v3)
      else
      nn (gR h 712 t0) fun q8 =>
      gd ((hK h q8).1 = 21) <|
      gd (inA v3 (hK h q8).2) <|
      lt (α := Int) (bnd v2 (gA h q8 v3.toNat)) fun x11 =>
      fX11_fitsCounted_b38 h t0 a1 (fX11_fitsCounted_b10 h t0 a1 fu) x11 v3)
    else
    some v2

def fX11_fitsCounted (h : Hp) (t0 : Nat) (a1 : Int) : Option Int :=
    gd ((hK h t0).1 = 11) <|
    nn (gR h 717 t0) fun q2 =>
    gd ((hK h q2).1 = 7) <|
    bd (fX7_allSounds h q2) fun r4 =>
    fX11_fitsCounted_b10 h t0 a1 FU r4 0

def fX11_leastWitness_b91 (t0 : Nat) (a1 : Int) (k41 : Hp → Int → Int → Option (Int × Hp)) (h : Hp) (v2 : Int) (v3 : Int) : Option (Int × Hp) :=
    lt (α := Int) (w32 (v3 + 1)) fun x1 =>
    k41 h v2 x1

def fX11_leastWitness_b73 (t0 : Nat) (a1 : Int) (k41 : Hp → Int → Int → Option (Int × Hp)) (h : Hp) (v2 : Int) (v3 : Int) (s0 : Int) : Option (Int × Hp) :=
    if s0 = 0 then (
      fX11_leastWitness_b91 t0 a1 k41 h v2 v3)
    else
    gd ((hK h t0).1 = 11) <|
    bd (fX11_fitsCounted h t0 v3) fun r3 =>
    if r3 = a1 then (
      fX11_leastWitness_b91 t0 a1 k41 h v3 v3)
    else
    fX11_leastWitness_b91 t0 a1 k41 h v2 v3

def fX11_leastWitness_b68 (t0 : Nat) (a1 : Int) (k41 : Hp → Int → Int → Option (Int × Hp)) (h : Hp) (v2 : Int) (v3 : Int) : Option (Int × Hp) :=
    fX11_leastWitness_b73 t0 a1 k41 h v2 v3 1

def fX11_leastWitness_b41 (t0 : Nat) (a1 : Int) : Nat → Hp → Int → Int → Option (Int × Hp)
  | 0, _, _, _ => none
  | fu + 1, h, v2, v3 =>
    gd ((hK h t0).1 = 11) <|
    nn (gR h 717 t0) fun q2 =>
    gd ((hK h q2).1 = 7) <|
    bd (fX7_allJars h q2) fun r4 =>
    if v3 ≤ r4 then (
      if v2 = (-1) then (
        fX11_leastWitness_b68 t0 a1 (fX11_leastWitness_b41 t0 a1 fu) h v2 v3)
      else
      bd (fJ6_bitCount_0f7a4 v3) fun r8 =>
      bd (fJ6_bitCount_0f7a4 v2) fun r10 =>
      if r8 < r10 then (
        fX11_leastWitness_b68 t0 a1 (fX11_leastWitness_b41 t0 a1 fu) h v2 v3)
      else
      fX11_leastWitness_b73 t0 a1 (fX11_leastWitness_b41 t0 a1 fu) h v2 v3 0)
    else
    some (v2, h)

def fX11_leastWitness_b2 (t0 : Nat) (a1 : Int) : Nat → Hp → Int → Option (Int × Hp)
  | 0, _, _ => none
  | fu + 1, h, v2 =>
    gd ((hK h t0).1 = 11) <|
    nn (gR h 717 t0) fun q2 =>
    gd ((hK h q2).1 = 7) <|
    if v2 < (gI h 451 q2) then (
      nn (gR h 712 t0) fun q5 =>
      bd2 (fX11_hear h t0 v2) fun r6 h8 =>
      gd ((hK h8 q2).1 = 7) <|
      bd (fX7_soundsWith h8 q2 r6) fun r10 =>
      gd ((hK h8 q5).1 = 21) <|
      gd (inA v2 (hK h8 q5).2) <|
      lt (α := Hp) (sA h8 q5 v2 r10) fun h14 =>
      lt (α := Int) (w32 (v2 + 1)) fun x15 =>
      fX11_leastWitness_b2 t0 a1 fu h14 x15)
    else
    fX11_leastWitness_b41 t0 a1 FU h (-1) 0

def fX11_leastWitness (h : Hp) (t0 : Nat) (a1 : Int) : Option (Int × Hp) :=
    fX11_leastWitness_b2 t0 a1 FU h 0

def fX11_witness (h : Hp) (t0 : Nat) (a1 : Int) : Option (Int × Hp) :=
    gd ((hK h t0).1 = 11) <|
    bd (fX11_isSound h t0 a1) fun r2 =>
    if r2 = 0 then (
      bd2 (fX11_refuse h t0 2) fun r12 h14 =>
      some (r12, h14))
    else
    bd2 (fX11_leastWitness h t0 (shl 1 a1)) fun r5 h7 =>
    gd ((hK h7 t0).1 = 11) <|
    bd2 (fX11_answerOrNoSuch h7 t0 r5) fun r9 h11 =>
    some (r9, h11)

def fX7_timesInAll_b4 (h : Hp) (t0 : Nat) (a1 : Nat) : Nat → Int → Int → Option Int
  | 0, _, _ => none
  | fu + 1, v2, v3 =>
    gd ((hK h t0).1 = 7) <|
    if v3 < (gI h 450 t0) then (
      nn (gR h 448 t0) fun q3 =>
      gd ((hK h q3).1 = 26) <|
      gd (inA v3 (hK h q3).2) <|
      nn (gC h q3 v3.toNat) fun q6 =>
      gd ((hK h a1).1 = 6) <|
      bd (fX6_timesIn h a1 q6) fun r8 =>
      lt (α := Int) (w32 (v2 + r8)) fun x10 =>
      lt (α := Int) (w32 (v3 + 1)) fun x11 =>
      fX7_timesInAll_b4 h t0 a1 fu x10 x11)
    else
    some v2

def fX7_timesInAll (h : Hp) (t0 : Nat) (a1 : Nat) : Option Int :=
    fX7_timesInAll_b4 h t0 a1 FU 0 0

def fX11_bestFilling_b106 (t0 : Nat) (a1 : Nat) (a2 : Nat) (a3 : Int) (k18 : Hp → Int → Int → Int → Int → Option (Int × Hp)) (h : Hp) (v4 : Int) (v5 : Int) (v6 : Int) (v7 : Int) : Option (Int × Hp) :=
    lt (α := Int) (w32 (v7 + 1)) fun x1 =>
    k18 h v4 v5 v6 x1

def fX11_bestFilling_b18 (t0 : Nat) (a1 : Nat) (a2 : Nat) (a3 : Int) : Nat → Hp → Int → Int → Int → Int → Option (Int × Hp)
  | 0, _, _, _, _, _ => none
  | fu + 1, h, v4, v5, v6, v7 =>
    gd ((hK h a2).1 = 6) <|
    if v7 < (gI h 386 a2) then (
      gd ((hK h a1).1 = 0) <|
      lt (α := Int) (w32 ((min (gI h 0 a1) (w32 ((gI h 386 a2) - v7))) - v4)) fun x4 =>
      if 0 < x4 then (
        gd ((hK h t0).1 = 11) <|
        nn (gR h 710 t0) fun q7 =>
        nn (gR h 384 a2) fun q8 =>
        bd (fX0_fromHead h a1 v4) fun r9 =>
        gd ((hK h q7).1 = 6) <|
        bd (fX6_show h q7 q8 (w32 ((w32 ((gI h 385 a2) + v7)) + r9)) x4) fun h14 =>
        gd ((hK h14 t0).1 = 11) <|
        nn (gR h14 717 t0) fun q16 =>
        nn (gR h14 710 t0) fun q17 =>
        gd ((hK h14 q16).1 = 7) <|
        bd (fX7_timesInAll h14 q16 q17) fun r19 =>
        if r19 < v6 then (
          fX11_bestFilling_b106 t0 a1 a2 a3 (fX11_bestFilling_b18 t0 a1 a2 a3 fu) h14 v4 v7 r19 v7)
        else
        fX11_bestFilling_b106 t0 a1 a2 a3 (fX11_bestFilling_b18 t0 a1 a2 a3 fu) h14 v4 v5 v6 v7)
      else
      fX11_bestFilling_b106 t0 a1 a2 a3 (fX11_bestFilling_b18 t0 a1 a2 a3 fu) h v4 v5 v6 v7)
    else
    some (v5, h)

def fX11_bestFilling (h : Hp) (t0 : Nat) (a1 : Nat) (a2 : Nat) (a3 : Int) : Option (Int × Hp) :=
    gd ((hK h a1).1 = 0) <|
    bd (fX0_goneAfter h a1 a3) fun r2 =>
    fX11_bestFilling_b18 t0 a1 a2 a3 FU h r2 (-1) 1000000 0

def fX11_fillFrom (h : Hp) (t0 : Nat) (a1 : Int) (a2 : Int) (a3 : Int) : Option (Int × Hp) :=
    gd ((hK h t0).1 = 11) <|
    bd (fX11_isJar h t0 a1) fun r2 =>
    if r2 = 0 then (
      bd2 (fX11_refuse h t0 2) fun r5 h7 =>
      some (r5, h7))
    else
    bd (fX11_isSound h t0 a2) fun r8 =>
    if r8 = 0 then (
      bd2 (fX11_refuse h t0 2) fun r34 h36 =>
      some (r34, h36))
    else
    bd (fX11_within a3 0 999) fun r11 =>
    if r11 = 0 then (
      bd2 (fX11_refuse h t0 5) fun r31 h33 =>
      some (r31, h33))
    else
    nn (gR h 717 t0) fun q14 =>
    gd ((hK h q14).1 = 7) <|
    nn (gR h 449 q14) fun q16 =>
    gd ((hK h q16).1 = 24) <|
    gd (inA a1 (hK h q16).2) <|
    nn (gC h q16 a1.toNat) fun q19 =>
    nn (gR h 448 q14) fun q20 =>
    gd ((hK h q20).1 = 26) <|
    gd (inA a2 (hK h q20).2) <|
    nn (gC h q20 a2.toNat) fun q23 =>
    bd2 (fX11_bestFilling h t0 q19 q23 a3) fun r24 h26 =>
    gd ((hK h26 t0).1 = 11) <|
    bd2 (fX11_answerOrNoSuch h26 t0 r24) fun r28 h30 =>
    some (r28, h30)

def fX0_keptAfter (h : Hp) (t0 : Nat) (a1 : Int) : Option Int :=
    gd ((hK h t0).1 = 0) <|
    bd (fX0_goneAfter h t0 a1) fun r2 =>
    some (max 0 (w32 ((gI h 0 t0) - r2)))

def fX11_keeps (h : Hp) (t0 : Nat) (a1 : Int) (a2 : Int) : Option (Int × Hp) :=
    gd ((hK h t0).1 = 11) <|
    bd (fX11_isJar h t0 a1) fun r2 =>
    if r2 = 0 then (
      bd2 (fX11_refuse h t0 2) fun r23 h25 =>
      some (r23, h25))
    else
    bd (fX11_within a2 0 999) fun r5 =>
    if r5 = 0 then (
      bd2 (fX11_refuse h t0 5) fun r20 h22 =>
      some (r20, h22))
    else
    nn (gR h 717 t0) fun q8 =>
    gd ((hK h q8).1 = 7) <|
    nn (gR h 449 q8) fun q10 =>
    gd ((hK h q10).1 = 24) <|
    gd (inA a1 (hK h q10).2) <|
    nn (gC h q10 a1.toNat) fun q13 =>
    gd ((hK h q13).1 = 0) <|
    bd (fX0_keptAfter h q13 a2) fun r15 =>
    bd2 (fX11_answer h t0 r15) fun r17 h19 =>
    some (r17, h19)

def fX7_priceOf_b44 (h : Hp) (t0 : Nat) (a1 : Int) (a2 : Int) (k5 : Int → Int → Option Int) (v3 : Int) (v4 : Int) : Option Int :=
    lt (α := Int) (w32 (v4 + 1)) fun x1 =>
    k5 v3 x1

def fX7_priceOf_b42 (h : Hp) (t0 : Nat) (a1 : Int) (a2 : Int) (k5 : Int → Int → Option Int) (v4 : Int) (s0 : Int) (s1 : Int) : Option Int :=
    lt (α := Int) (w32 (s1 + s0)) fun x1 =>
    fX7_priceOf_b44 h t0 a1 a2 k5 x1 v4

def fX7_priceOf_b5 (h : Hp) (t0 : Nat) (a1 : Int) (a2 : Int) : Nat → Int → Int → Option Int
  | 0, _, _ => none
  | fu + 1, v3, v4 =>
    gd ((hK h t0).1 = 7) <|
    if v4 < (gI h 451 t0) then (
      bd (fX11_isIn a1 v4) fun r3 =>
      if r3 = 0 then (
        fX7_priceOf_b44 h t0 a1 a2 (fX7_priceOf_b5 h t0 a1 a2 fu) v3 v4)
      else
      if a2 = 0 then (
        fX7_priceOf_b42 h t0 a1 a2 (fX7_priceOf_b5 h t0 a1 a2 fu) v4 1 v3)
      else
      nn (gR h 449 t0) fun q7 =>
      gd ((hK h q7).1 = 24) <|
      gd (inA v4 (hK h q7).2) <|
      nn (gC h q7 v4.toNat) fun q10 =>
      gd ((hK h q10).1 = 0) <|
      fX7_priceOf_b42 h t0 a1 a2 (fX7_priceOf_b5 h t0 a1 a2 fu) v4 (gI h 3 q10) v3)
    else
    some v3

def fX7_priceOf (h : Hp) (t0 : Nat) (a1 : Int) (a2 : Int) : Option Int :=
    fX7_priceOf_b5 h t0 a1 a2 FU 0 0

def fX7_keptBy_b37 (h : Hp) (t0 : Nat) (a1 : Int) (a2 : Int) (k5 : Int → Int → Option Int) (v3 : Int) (v4 : Int) : Option Int :=
    lt (α := Int) (w32 (v4 + 1)) fun x1 =>
    k5 v3 x1

def fX7_keptBy_b5 (h : Hp) (t0 : Nat) (a1 : Int) (a2 : Int) : Nat → Int → Int → Option Int
  | 0, _, _ => none
  | fu + 1, v3, v4 =>
    gd ((hK h t0).1 = 7) <|
    if v4 < (gI h 451 t0) then (
      bd (fX11_isIn a1 v4) fun r3 =>
      if r3 = 0 then (
        fX7_keptBy_b37 h t0 a1 a2 (fX7_keptBy_b5 h t0 a1 a2 fu) v3 v4)
      else
      nn (gR h 449 t0) fun q6 =>
      gd ((hK h q6).1 = 24) <|
      gd (inA v4 (hK h q6).2) <|
      nn (gC h q6 v4.toNat) fun q9 =>
      gd ((hK h q9).1 = 0) <|
      bd (fX0_keptAfter h q9 a2) fun r11 =>
      lt (α := Int) (w32 (v3 + r11)) fun x13 =>
      fX7_keptBy_b37 h t0 a1 a2 (fX7_keptBy_b5 h t0 a1 a2 fu) x13 v4)
    else
    some v3

def fX7_keptBy (h : Hp) (t0 : Nat) (a1 : Int) (a2 : Int) : Option Int :=
    fX7_keptBy_b5 h t0 a1 a2 FU 0 0

def fX7_leastSet_b54 (h : Hp) (t0 : Nat) (a1 : Int) (a2 : Int) (a3 : Int) (k10 : Int → Int → Int → Option Int) (v4 : Int) (v5 : Int) (v6 : Int) : Option Int :=
    lt (α := Int) (w32 (v6 + 1)) fun x1 =>
    k10 v4 v5 x1

def fX7_leastSet_b10 (h : Hp) (t0 : Nat) (a1 : Int) (a2 : Int) (a3 : Int) : Nat → Int → Int → Int → Option Int
  | 0, _, _, _ => none
  | fu + 1, v4, v5, v6 =>
    gd ((hK h t0).1 = 7) <|
    bd (fX7_allJars h t0) fun r2 =>
    if v6 ≤ r2 then (
      bd (fX7_priceOf h t0 v6 a3) fun r5 =>
      if r5 < v5 then (
        bd (fX7_keptBy h t0 v6 a2) fun r8 =>
        if r8 < a1 then (
          fX7_leastSet_b54 h t0 a1 a2 a3 (fX7_leastSet_b10 h t0 a1 a2 a3 fu) v4 v5 v6)
        else
        fX7_leastSet_b54 h t0 a1 a2 a3 (fX7_leastSet_b10 h t0 a1 a2 a3 fu) v6 r5 v6)
      else
      fX7_leastSet_b54 h t0 a1 a2 a3 (fX7_leastSet_b10 h t0 a1 a2 a3 fu) v4 v5 v6)
    else
    some v4

def fX7_leastSet (h : Hp) (t0 : Nat) (a1 : Int) (a2 : Int) (a3 : Int) : Option Int :=
    fX7_leastSet_b10 h t0 a1 a2 a3 FU (-1) 1000000 0

def fX11_fewest (h : Hp) (t0 : Nat) (a1 : Int) (a2 : Int) : Option (Int × Hp) :=
    gd ((hK h t0).1 = 11) <|
    bd (fX11_isSound h t0 a1) fun r2 =>
    if r2 = 0 then (
      bd2 (fX11_refuse h t0 2) fun r29 h31 =>
      some (r29, h31))
    else
    bd (fX11_within a2 0 999) fun r5 =>
    if r5 = 0 then (
      bd2 (fX11_refuse h t0 5) fun r26 h28 =>
      some (r26, h28))
    else
    nn (gR h 717 t0) fun q8 =>
    gd ((hK h q8).1 = 7) <|
    nn (gR h 448 q8) fun q10 =>
    gd ((hK h q10).1 = 26) <|
    gd (inA a1 (hK h q10).2) <|
    nn (gC h q10 a1.toNat) fun q13 =>
    gd ((hK h q13).1 = 6) <|
    bd (fX7_leastSet h q8 (gI h 386 q13) a2 0) fun r15 =>
    if r15 = (-1) then (
      bd2 (fX11_refuse h t0 9) fun r23 h25 =>
      some (r23, h25))
    else
    bd (fJ6_bitCount_0f7a4 r15) fun r18 =>
    bd2 (fX11_answer h t0 r18) fun r20 h22 =>
    some (r20, h22)

def fX11_cheapest (h : Hp) (t0 : Nat) (a1 : Int) (a2 : Int) (a3 : Int) : Option (Int × Hp) :=
    gd ((hK h t0).1 = 11) <|
    bd (fX11_isSound h t0 a1) fun r2 =>
    if r2 = 0 then (
      bd2 (fX11_refuse h t0 2) fun r39 h41 =>
      some (r39, h41))
    else
    bd (fX11_within a2 0 999) fun r5 =>
    if r5 = 0 then (
      bd2 (fX11_refuse h t0 5) fun r8 h10 =>
      some (r8, h10))
    else
    bd (fX11_within a3 0 1) fun r11 =>
    if r11 = 0 then (
      bd2 (fX11_refuse h t0 5) fun r36 h38 =>
      some (r36, h38))
    else
    nn (gR h 717 t0) fun q14 =>
    gd ((hK h q14).1 = 7) <|
    nn (gR h 448 q14) fun q16 =>
    gd ((hK h q16).1 = 26) <|
    gd (inA a1 (hK h q16).2) <|
    nn (gC h q16 a1.toNat) fun q19 =>
    gd ((hK h q19).1 = 6) <|
    bd (fX7_leastSet h q14 (gI h 386 q19) a2 1) fun r21 =>
    if r21 = (-1) then (
      bd2 (fX11_refuse h t0 9) fun r33 h35 =>
      some (r33, h35))
    else
    if a3 = 0 then (
      bd (fX7_priceOf h q14 r21 1) fun r28 =>
      bd2 (fX11_answer h t0 r28) fun r30 h32 =>
      some (r30, h32))
    else
    bd2 (fX11_answer h t0 r21) fun r25 h27 =>
    some (r25, h27)

def fX5_gainWith (h : Hp) (t0 : Nat) (a1 : Nat) (a2 : Int) (a3 : Int) (a4 : Int) : Option Int :=
    gd ((hK h a1).1 = 7) <|
    nn (gR h 449 a1) fun q2 =>
    gd ((hK h q2).1 = 24) <|
    gd (inA a4 (hK h q2).2) <|
    nn (gC h q2 a4.toNat) fun q5 =>
    bd (fJ6_bitCount_0f7a4 a3) fun r6 =>
    gd ((hK h q5).1 = 0) <|
    bd (fX0_leftOn h q5 (w32 (a2 + r6))) fun r9 =>
    gd (inA a4 (hK h q2).2) <|
    nn (gC h q2 a4.toNat) fun q12 =>
    gd ((hK h q12).1 = 0) <|
    gd ((hK h t0).1 = 5) <|
    nn (gR h 322 t0) fun q15 =>
    gd ((hK h q15).1 = 21) <|
    gd (inA (bor a3 (shl 1 a4)) (hK h q15).2) <|
    some (w32 ((w32 ((gI h 4 q12) * r9)) + (gA h q15 (bor a3 (shl 1 a4)).toNat)))

def fX5_bestOpening_b58 (h : Hp) (t0 : Nat) (a1 : Nat) (a2 : Int) (a3 : Int) (a4 : Int) (k9 : Int → Int → Int → Option Int) (v5 : Int) (v6 : Int) (v7 : Int) : Option Int :=
    lt (α := Int) (w32 (v7 + 1)) fun x1 =>
    k9 v5 v6 x1

def fX5_bestOpening_b9 (h : Hp) (t0 : Nat) (a1 : Nat) (a2 : Int) (a3 : Int) (a4 : Int) : Nat → Int → Int → Int → Option Int
  | 0, _, _, _ => none
  | fu + 1, v5, v6, v7 =>
    gd ((hK h a1).1 = 7) <|
    if v7 < (gI h 451 a1) then (
      bd (fX11_isIn (bnd a4 (bxr a3 (-1))) v7) fun r3 =>
      if r3 = 0 then (
        fX5_bestOpening_b58 h t0 a1 a2 a3 a4 (fX5_bestOpening_b9 h t0 a1 a2 a3 a4 fu) v5 v6 v7)
      else
      gd ((hK h t0).1 = 5) <|
      bd (fX5_gainWith h t0 a1 a2 a3 v7) fun r7 =>
      if r7 ≤ v6 then (
        fX5_bestOpening_b58 h t0 a1 a2 a3 a4 (fX5_bestOpening_b9 h t0 a1 a2 a3 a4 fu) v5 v6 v7)
      else
      fX5_bestOpening_b58 h t0 a1 a2 a3 a4 (fX5_bestOpening_b9 h t0 a1 a2 a3 a4 fu) v7 r7 v7)
    else
    some v5

def fX5_bestOpening (h : Hp) (t0 : Nat) (a1 : Nat) (a2 : Int) (a3 : Int) (a4 : Int) : Option Int :=
    fX5_bestOpening_b9 h t0 a1 a2 a3 a4 FU (-1) (-1) 0

def fX5_findShelf_b60 (t0 : Nat) (a1 : Nat) (a2 : Int) (k8 : Hp → Int → Int → Option (Int × Hp)) (h : Hp) (v3 : Int) (v4 : Int) : Option (Int × Hp) :=
    lt (α := Int) (w32 (v4 + (-1))) fun x1 =>
    k8 h v3 x1

def fX5_findShelf_b59 (t0 : Nat) (a1 : Nat) (a2 : Int) (k8 : Hp → Int → Int → Option (Int × Hp)) (h : Hp) (v3 : Int) (v4 : Int) (s0 : Int) (s1 : Int) (s2 : Nat) : Option (Int × Hp) :=
    gd ((hK h s2).1 = 21) <|
    gd (inA s1 (hK h s2).2) <|
    lt (α := Hp) (sA h s2 s1 s0) fun h3 =>
    fX5_findShelf_b60 t0 a1 a2 k8 h3 v3 v4

def fX5_findShelf_b127 (t0 : Nat) (a1 : Nat) (a2 : Int) (k79 : Hp → Int → Int → Int → Option (Int × Hp)) (h : Hp) (v3 : Int) (v4 : Int) (v5 : Int) : Option (Int × Hp) :=
    lt (α := Int) (w32 (v5 + 1)) fun x1 =>
    k79 h v3 v4 x1

def fX5_findShelf_b79 (t0 : Nat) (a1 : Nat) (a2 : Int) : Nat → Hp → Int → Int → Int → Option (Int × Hp)
  | 0, _, _, _, _ => none
  | fu + 1, h, v3, v4, v5 =>
    if v5 < 8 then (
      if v4 = v3 then (
        gd ((hK h t0).1 = 5) <|
        nn (gR h 322 t0) fun q8 =>
        gd ((hK h q8).1 = 21) <|
        gd (inA 0 (hK h q8).2) <|
        some (gA h q8 ((0 : Int).toNat), h))
      else
      gd ((hK h t0).1 = 5) <|
      bd (fX5_bestOpening h t0 a1 a2 v4 v3) fun r12 =>
      if r12 = (-1) then (
        fX5_findShelf_b127 t0 a1 a2 (fX5_findShelf_b79 t0 a1 a2 fu) h v3 v4 v5)
      else
      nn (gR h 324 t0) fun q15 =>
      gd ((hK h q15).1 = 6) <|
      bd (fX6_add h q15 r12) fun h19 =>
      lt (α := Int) (bor v4 (shl 1 r12)) fun x20 =>
      fX5_findShelf_b127 t0 a1 a2 (fX5_findShelf_b79 t0 a1 a2 fu) h19 v3 x20 v5)
    else
    gd ((hK h t0).1 = 5) <|
    nn (gR h 322 t0) fun q3 =>
    gd ((hK h q3).1 = 21) <|
    gd (inA 0 (hK h q3).2) <|
    some (gA h q3 ((0 : Int).toNat), h)

def fX5_findShelf_b8 (t0 : Nat) (a1 : Nat) (a2 : Int) : Nat → Hp → Int → Int → Option (Int × Hp)
  | 0, _, _, _ => none
  | fu + 1, h, v3, v4 =>
    if v4 < 0 then (
      gd ((hK h t0).1 = 5) <|
      nn (gR h 324 t0) fun q3 =>
      gd ((hK h q3).1 = 6) <|
      bd (fX6_clear h q3) fun h7 =>
      fX5_findShelf_b79 t0 a1 a2 FU h7 v3 0 0)
    else
    if (bnd v4 (bxr v3 (-1))) = 0 then (
      gd ((hK h t0).1 = 5) <|
      bd (fX5_bestOpening h t0 a1 a2 v4 v3) fun r10 =>
      nn (gR h 322 t0) fun q12 =>
      if r10 = (-1) then (
        fX5_findShelf_b59 t0 a1 a2 (fX5_findShelf_b8 t0 a1 a2 fu) h v3 v4 0 v4 q12)
      else
      bd (fX5_gainWith h t0 a1 a2 v4 r10) fun r14 =>
      fX5_findShelf_b59 t0 a1 a2 (fX5_findShelf_b8 t0 a1 a2 fu) h v3 v4 r14 v4 q12)
    else
    fX5_findShelf_b60 t0 a1 a2 (fX5_findShelf_b8 t0 a1 a2 fu) h v3 v4

def fX5_findShelf (h : Hp) (t0 : Nat) (a1 : Nat) (a2 : Int) : Option (Int × Hp) :=
    gd ((hK h a1).1 = 7) <|
    bd (fX7_filledJars h a1) fun r2 =>
    fX5_findShelf_b8 t0 a1 a2 FU h r2 r2

def fX11_shelf (h : Hp) (t0 : Nat) : Option (Int × Hp) :=
    gd ((hK h t0).1 = 11) <|
    nn (gR h 717 t0) fun q2 =>
    gd ((hK h q2).1 = 7) <|
    bd (fX7_filledJars h q2) fun r4 =>
    if r4 = 0 then (
      bd2 (fX11_refuse h t0 8) fun r16 h18 =>
      some (r16, h18))
    else
    nn (gR h 716 t0) fun q7 =>
    gd ((hK h q7).1 = 5) <|
    bd2 (fX5_findShelf h q7 q2 (gI h 719 t0)) fun r9 h11 =>
    gd ((hK h11 t0).1 = 11) <|
    bd2 (fX11_answer h11 t0 r9) fun r13 h15 =>
    some (r13, h15)

def fX11_shelfAt (h : Hp) (t0 : Nat) (a1 : Int) : Option (Int × Hp) :=
    gd ((hK h t0).1 = 11) <|
    nn (gR h 716 t0) fun q2 =>
    gd ((hK h q2).1 = 5) <|
    nn (gR h 324 q2) fun q4 =>
    bd2 (fX11_answerAt h t0 q4 a1) fun r5 h7 =>
    some (r5, h7)

def fX11_longestPiece_b5 (t0 : Nat) (a1 : Nat) (a2 : Int) : Nat → Hp → Int → Int → Option (Int × Hp)
  | 0, _, _, _ => none
  | fu + 1, h, v3, v4 =>
    gd ((hK h t0).1 = 11) <|
    nn (gR h 717 t0) fun q2 =>
    gd ((hK h q2).1 = 7) <|
    if v4 < (gI h 451 q2) then (
      bd2 (fX11_hear h t0 v4) fun r5 h7 =>
      gd ((hK h7 a1).1 = 6) <|
      bd (fX6_stretchIn h7 a1 r5 a2) fun r9 =>
      lt (α := Int) (max v3 r9) fun x11 =>
      lt (α := Int) (w32 (v4 + 1)) fun x12 =>
      fX11_longestPiece_b5 t0 a1 a2 fu h7 x11 x12)
    else
    some (v3, h)

def fX11_longestPiece (h : Hp) (t0 : Nat) (a1 : Nat) (a2 : Int) : Option (Int × Hp) :=
    fX11_longestPiece_b5 t0 a1 a2 FU h 0 0

def fX11_isVowel (a1 : Int) : Option Int :=
    if a1 = 1 then (
      some 1)
    else
    if a1 = 5 then (
      some 1)
    else
    if a1 = 9 then (
      some 1)
    else
    if a1 = 15 then (
      some 1)
    else
    if a1 = 21 then (
      some 1)
    else
    some 0

def fX11_joinsHeard (h : Hp) (a1 : Nat) (a2 : Int) : Option Int :=
    if 0 < a2 then (
      gd ((hK h a1).1 = 6) <|
      bd (fX6_at h a1 (w32 (a2 - 1))) fun r3 =>
      bd (fX11_isVowel r3) fun r5 =>
      bd (fX6_at h a1 a2) fun r7 =>
      bd (fX11_isVowel r7) fun r9 =>
      if r5 = r9 then (
        some 1)
      else
      some 0)
    else
    some 0

def fX11_leastPiecing_b148 (t0 : Nat) (a1 : Nat) (a2 : Int) (k45 : Hp → Int → Int → Option (Int × Hp)) (h : Hp) (v3 : Int) (v4 : Int) : Option (Int × Hp) :=
    lt (α := Int) (w32 (v4 + 1)) fun x1 =>
    k45 h v3 x1

def fX11_leastPiecing_b99 (t0 : Nat) (a1 : Nat) (a2 : Int) (k45 : Hp → Int → Int → Option (Int × Hp)) : Nat → Hp → Int → Int → Int → Int → Int → Option (Int × Hp)
  | 0, _, _, _, _, _, _ => none
  | fu + 1, h, v3, v4, v5, v6, v7 =>
    if v7 ≤ (w32 (v4 + v5)) then (
      if v7 ≤ v3 then (
        gd ((hK h t0).1 = 11) <|
        nn (gR h 712 t0) fun q4 =>
        gd ((hK h q4).1 = 21) <|
        gd (inA v7 (hK h q4).2) <|
        gd (inA v4 (hK h q4).2) <|
        gd (inA v7 (hK h q4).2) <|
        lt (α := Hp) (sA h q4 v7 (min (gA h q4 v7.toNat) (w32 ((gA h q4 v4.toNat) + v6)))) fun h9 =>
        lt (α := Int) (w32 (v7 + 1)) fun x10 =>
        fX11_leastPiecing_b99 t0 a1 a2 k45 fu h9 v3 v4 v5 v6 x10)
      else
      fX11_leastPiecing_b148 t0 a1 a2 k45 h v3 v4)
    else
    fX11_leastPiecing_b148 t0 a1 a2 k45 h v3 v4

def fX11_leastPiecing_b91 (t0 : Nat) (a1 : Nat) (a2 : Int) (k45 : Hp → Int → Int → Option (Int × Hp)) (h : Hp) (v3 : Int) (v4 : Int) (v5 : Int) (s0 : Int) : Option (Int × Hp) :=
    lt (α := Int) (w32 (v4 + 1)) fun x1 =>
    fX11_leastPiecing_b99 t0 a1 a2 k45 FU h v3 v4 v5 s0 x1

def fX11_leastPiecing_b75 (t0 : Nat) (a1 : Nat) (a2 : Int) (k45 : Hp → Int → Int → Option (Int × Hp)) (h : Hp) (v3 : Int) (v4 : Int) (s0 : Int) : Option (Int × Hp) :=
    if a2 = 0 then (
      fX11_leastPiecing_b91 t0 a1 a2 k45 h v3 v4 s0 1)
    else
    bd (fX11_joinsHeard h a1 v4) fun r2 =>
    fX11_leastPiecing_b91 t0 a1 a2 k45 h v3 v4 s0 r2

def fX11_leastPiecing_b45 (t0 : Nat) (a1 : Nat) (a2 : Int) : Nat → Hp → Int → Int → Option (Int × Hp)
  | 0, _, _, _ => none
  | fu + 1, h, v3, v4 =>
    if v4 < v3 then (
      gd ((hK h t0).1 = 11) <|
      nn (gR h 712 t0) fun q7 =>
      gd ((hK h q7).1 = 21) <|
      gd (inA v4 (hK h q7).2) <|
      if (gA h q7 v4.toNat) = 1000000 then (
        fX11_leastPiecing_b75 t0 a1 a2 (fX11_leastPiecing_b45 t0 a1 a2 fu) h v3 v4 0)
      else
      bd2 (fX11_longestPiece h t0 a1 v4) fun r11 h13 =>
      fX11_leastPiecing_b75 t0 a1 a2 (fX11_leastPiecing_b45 t0 a1 a2 fu) h13 v3 v4 r11)
    else
    gd ((hK h t0).1 = 11) <|
    nn (gR h 712 t0) fun q3 =>
    gd ((hK h q3).1 = 21) <|
    gd (inA v3 (hK h q3).2) <|
    some (gA h q3 v3.toNat, h)

def fX11_leastPiecing_b13 (t0 : Nat) (a1 : Nat) (a2 : Int) : Nat → Hp → Int → Int → Option (Int × Hp)
  | 0, _, _, _ => none
  | fu + 1, h, v3, v4 =>
    if v4 ≤ v3 then (
      gd ((hK h t0).1 = 11) <|
      nn (gR h 712 t0) fun q8 =>
      gd ((hK h q8).1 = 21) <|
      gd (inA v4 (hK h q8).2) <|
      lt (α := Hp) (sA h q8 v4 1000000) fun h11 =>
      lt (α := Int) (w32 (v4 + 1)) fun x12 =>
      fX11_leastPiecing_b13 t0 a1 a2 fu h11 v3 x12)
    else
    gd ((hK h t0).1 = 11) <|
    nn (gR h 712 t0) fun q3 =>
    gd ((hK h q3).1 = 21) <|
    gd (inA 0 (hK h q3).2) <|
    lt (α := Hp) (sA h q3 0 0) fun h6 =>
    fX11_leastPiecing_b45 t0 a1 a2 FU h6 v3 0

def fX11_leastPiecing (h : Hp) (t0 : Nat) (a1 : Nat) (a2 : Int) : Option (Int × Hp) :=
    gd ((hK h a1).1 = 6) <|
    lt (α := Int) (min (gI h 386 a1) 16) fun x2 =>
    fX11_leastPiecing_b13 t0 a1 a2 FU h x2 1

def fX11_pieced (h : Hp) (t0 : Nat) (a1 : Int) (a2 : Int) : Option (Int × Hp) :=
    gd ((hK h t0).1 = 11) <|
    bd (fX11_isSound h t0 a1) fun r2 =>
    if r2 = 0 then (
      bd2 (fX11_refuse h t0 2) fun r31 h33 =>
      some (r31, h33))
    else
    bd (fX11_within a2 0 1) fun r5 =>
    if r5 = 0 then (
      bd2 (fX11_refuse h t0 5) fun r28 h30 =>
      some (r28, h30))
    else
    nn (gR h 717 t0) fun q8 =>
    gd ((hK h q8).1 = 7) <|
    nn (gR h 448 q8) fun q10 =>
    gd ((hK h q10).1 = 26) <|
    gd (inA a1 (hK h q10).2) <|
    nn (gC h q10 a1.toNat) fun q13 =>
    bd2 (fX11_leastPiecing h t0 q13 (if a2 = 1 then 1 else 0)) fun r15 h17 =>
    if r15 = 1000000 then (
      gd ((hK h17 t0).1 = 11) <|
      bd2 (fX11_refuse h17 t0 9) fun r24 h26 =>
      some (r24, h26))
    else
    gd ((hK h17 t0).1 = 11) <|
    bd2 (fX11_answer h17 t0 r15) fun r20 h22 =>
    some (r20, h22)

def fX7_travel_b128 (t0 : Nat) (a1 : Int) (a2 : Int) (a3 : Nat) (k40 : Hp → Int → Int → Int → Option (Int × Hp)) (k49 : Hp → Int → Int → Int → Int → Option (Int × Hp)) (h : Hp) (v4 : Int) (v5 : Int) (v6 : Int) (v7 : Int) : Option (Int × Hp) :=
    lt (α := Int) (w32 (v7 + 1)) fun x1 =>
    k49 h v4 v5 v6 x1

def fX7_travel_b134 (t0 : Nat) (a1 : Int) (a2 : Int) (a3 : Nat) (k40 : Hp → Int → Int → Int → Option (Int × Hp)) (h : Hp) (v4 : Int) (v5 : Int) (v6 : Int) : Option (Int × Hp) :=
    lt (α := Int) (w32 (v6 + 1)) fun x1 =>
    k40 h v4 v5 x1

def fX7_travel_b49 (t0 : Nat) (a1 : Int) (a2 : Int) (a3 : Nat) (k40 : Hp → Int → Int → Int → Option (Int × Hp)) : Nat → Hp → Int → Int → Int → Int → Option (Int × Hp)
  | 0, _, _, _, _, _ => none
  | fu + 1, h, v4, v5, v6, v7 =>
    gd ((hK h t0).1 = 7) <|
    if v7 < (gI h 451 t0) then (
      gd ((hK h a3).1 = 21) <|
      gd (((hK h a3).2 : Int) < 2147483648) <|
      if v7 < ((hK h a3).2 : Int) then (
        bd (fX11_isIn v4 v7) fun r6 =>
        if r6 = 0 then (
          fX7_travel_b128 t0 a1 a2 a3 k40 (fX7_travel_b49 t0 a1 a2 a3 k40 fu) h v4 v5 v6 v7)
        else
        lt (α := Int) (irm (w32 ((w32 (v5 * 2683)) + 9419)) 65536) fun x9 =>
        nn (gR h 449 t0) fun q10 =>
        gd ((hK h q10).1 = 24) <|
        gd (inA v7 (hK h q10).2) <|
        nn (gC h q10 v7.toNat) fun q13 =>
        gd ((hK h q13).1 = 0) <|
        if (irm (idv x9 8) 16) < (gI h 5 q13) then (
          lt (α := Int) (bnd v4 (bxr (shl 1 v7) (-1))) fun x16 =>
          gd (inA v7 (hK h a3).2) <|
          lt (α := Hp) (sA h a3 v7 v6) fun h18 =>
          fX7_travel_b128 t0 a1 a2 a3 k40 (fX7_travel_b49 t0 a1 a2 a3 k40 fu) h18 x16 x9 v6 v7)
        else
        fX7_travel_b128 t0 a1 a2 a3 k40 (fX7_travel_b49 t0 a1 a2 a3 k40 fu) h v4 x9 v6 v7)
      else
      fX7_travel_b134 t0 a1 a2 a3 k40 h v4 v5 v6)
    else
    fX7_travel_b134 t0 a1 a2 a3 k40 h v4 v5 v6

def fX7_travel_b40 (t0 : Nat) (a1 : Int) (a2 : Int) (a3 : Nat) : Nat → Hp → Int → Int → Int → Option (Int × Hp)
  | 0, _, _, _, _ => none
  | fu + 1, h, v4, v5, v6 =>
    if v6 ≤ a2 then (
      fX7_travel_b49 t0 a1 a2 a3 (fX7_travel_b40 t0 a1 a2 a3 fu) FU h v4 v5 v6 0)
    else
    some (v4, h)

def fX7_travel_b28 (t0 : Nat) (a1 : Int) (a2 : Int) (a3 : Nat) (h : Hp) : Option (Int × Hp) :=
    gd ((hK h t0).1 = 7) <|
    bd (fX7_allJars h t0) fun r2 =>
    fX7_travel_b40 t0 a1 a2 a3 FU h r2 a1 1

def fX7_travel_b3 (t0 : Nat) (a1 : Int) (a2 : Int) (a3 : Nat) : Nat → Hp → Int → Option (Int × Hp)
  | 0, _, _ => none
  | fu + 1, h, v4 =>
    if v4 < 8 then (
      gd ((hK h a3).1 = 21) <|
      gd (((hK h a3).2 : Int) < 2147483648) <|
      if v4 < ((hK h a3).2 : Int) then (
        gd (inA v4 (hK h a3).2) <|
        lt (α := Hp) (sA h a3 v4 0) fun h6 =>
        lt (α := Int) (w32 (v4 + 1)) fun x7 =>
        fX7_travel_b3 t0 a1 a2 a3 fu h6 x7)
      else
      fX7_travel_b28 t0 a1 a2 a3 h)
    else
    fX7_travel_b28 t0 a1 a2 a3 h

def fX7_travel (h : Hp) (t0 : Nat) (a1 : Int) (a2 : Int) (a3 : Nat) : Option (Int × Hp) :=
    fX7_travel_b3 t0 a1 a2 a3 FU h 0

def fX11_road (h : Hp) (t0 : Nat) (a1 : Int) (a2 : Int) : Option (Int × Hp) :=
    bd (fX11_within a1 0 9999) fun r1 =>
    if r1 = 0 then (
      gd ((hK h t0).1 = 11) <|
      bd2 (fX11_refuse h t0 5) fun r5 h7 =>
      some (r5, h7))
    else
    bd (fX11_within a2 1 30) fun r8 =>
    if r8 = 0 then (
      gd ((hK h t0).1 = 11) <|
      bd2 (fX11_refuse h t0 5) fun r23 h25 =>
      some (r23, h25))
    else
    gd ((hK h t0).1 = 11) <|
    nn (gR h 717 t0) fun q12 =>
    nn (gR h 713 t0) fun q13 =>
    gd ((hK h q12).1 = 7) <|
    bd2 (fX7_travel h q12 a1 a2 q13) fun r15 h17 =>
    gd ((hK h17 t0).1 = 11) <|
    bd2 (fX11_answer h17 t0 r15) fun r19 h21 =>
    some (r19, h21)

def fX11_brokeOn (h : Hp) (t0 : Nat) (a1 : Int) : Option (Int × Hp) :=
    gd ((hK h t0).1 = 11) <|
    bd (fX11_isJar h t0 a1) fun r2 =>
    if r2 = 0 then (
      bd2 (fX11_refuse h t0 2) fun r16 h18 =>
      some (r16, h18))
    else
    nn (gR h 713 t0) fun q5 =>
    gd ((hK h q5).1 = 21) <|
    gd (inA a1 (hK h q5).2) <|
    if (gA h q5 a1.toNat) = 0 then (
      bd2 (fX11_refuse h t0 8) fun r13 h15 =>
      some (r13, h15))
    else
    gd (inA a1 (hK h q5).2) <|
    bd2 (fX11_answer h t0 (gA h q5 a1.toNat)) fun r10 h12 =>
    some (r10, h12)

def fX11_tellFraction_b45 (t0 : Nat) (a1 : Int) (a2 : Int) (h : Hp) (v5 : Int) : Option Hp :=
    if v5 = 0 then (
      some h)
    else
    gd (¬ v5 = 0) <|
    gd ((hK h t0).1 = 11) <|
    lt (α := Hp) (pJ h 722 t0 (ldv a1 v5)) fun h4 =>
    gd (¬ v5 = 0) <|
    lt (α := Hp) (pJ h4 723 t0 (ldv a2 v5)) fun h6 =>
    some h6

def fX11_tellFraction_b9 (t0 : Nat) (a1 : Int) (a2 : Int) : Nat → Hp → Int → Int → Int → Option Hp
  | 0, _, _, _, _ => none
  | fu + 1, h, v5, v7, v9 =>
    if v9 < 200 then (
      if v7 = 0 then (
        fX11_tellFraction_b45 t0 a1 a2 h v5)
      else
      gd (¬ v7 = 0) <|
      lt (α := Int) (lrm v5 v7) fun x4 =>
      lt (α := Int) (w32 (v9 + 1)) fun x5 =>
      fX11_tellFraction_b9 t0 a1 a2 fu h v7 x4 x5)
    else
    fX11_tellFraction_b45 t0 a1 a2 h v5

def fX11_tellFraction (h : Hp) (t0 : Nat) (a1 : Int) (a2 : Int) : Option Hp :=
    fX11_tellFraction_b9 t0 a1 a2 FU h a2 a1 0

def fX11_odds_b114 (t0 : Nat) (a1 : Int) (a2 : Int) (a3 : Int) (a4 : Int) (k82 : Hp → Int → Int → Int → Option (Int × Hp)) (h : Hp) (v5 : Int) (v6 : Int) (v7 : Int) : Option (Int × Hp) :=
    lt (α := Int) (w32 (v7 + 1)) fun x1 =>
    k82 h v5 v6 x1

def fX11_odds_b82 (t0 : Nat) (a1 : Int) (a2 : Int) (a3 : Int) (a4 : Int) : Nat → Hp → Int → Int → Int → Option (Int × Hp)
  | 0, _, _, _, _ => none
  | fu + 1, h, v5, v6, v7 =>
    if v7 < a4 then (
      gd ((hK h t0).1 = 11) <|
      nn (gR h 717 t0) fun q11 =>
      nn (gR h 714 t0) fun q12 =>
      gd ((hK h q11).1 = 7) <|
      bd2 (fX7_travel h q11 (w32 (a3 + v7)) a2 q12) fun r14 h16 =>
      if (bnd r14 v5) = 0 then (
        fX11_odds_b114 t0 a1 a2 a3 a4 (fX11_odds_b82 t0 a1 a2 a3 a4 fu) h16 v5 v6 v7)
      else
      lt (α := Int) (w32 (v6 + 1)) fun x18 =>
      fX11_odds_b114 t0 a1 a2 a3 a4 (fX11_odds_b82 t0 a1 a2 a3 a4 fu) h16 v5 x18 v7)
    else
    gd ((hK h t0).1 = 11) <|
    bd (fX11_tellFraction h t0 v6 a4) fun h5 =>
    gd ((hK h5 t0).1 = 11) <|
    bd2 (fX11_allow h5 t0) fun r7 h9 =>
    some (r7, h9)

def fX11_odds (h : Hp) (t0 : Nat) (a1 : Int) (a2 : Int) (a3 : Int) (a4 : Int) : Option (Int × Hp) :=
    gd ((hK h t0).1 = 11) <|
    bd (fX11_isSound h t0 a1) fun r2 =>
    if r2 = 0 then (
      bd2 (fX11_deny h t0 2) fun r30 h32 =>
      some (r30, h32))
    else
    bd (fX11_within a2 1 30) fun r5 =>
    if r5 = 0 then (
      bd2 (fX11_deny h t0 5) fun r8 h10 =>
      some (r8, h10))
    else
    bd (fX11_within a3 0 9999) fun r11 =>
    if r11 = 0 then (
      bd2 (fX11_deny h t0 5) fun r14 h16 =>
      some (r14, h16))
    else
    bd (fX11_within a4 1 20) fun r17 =>
    if r17 = 0 then (
      bd2 (fX11_deny h t0 5) fun r20 h22 =>
      some (r20, h22))
    else
    if (w32 ((w32 (a3 + a4)) - 1)) ≤ 9999 then (
      bd2 (fX11_speakers h t0 a1) fun r24 h26 =>
      fX11_odds_b82 t0 a1 a2 a3 a4 FU h26 r24 0 0)
    else
    bd2 (fX11_deny h t0 5) fun r27 h29 =>
    some (r27, h29)

def fX11_safe_b51 (t0 : Nat) (a1 : Int) (a2 : Int) (a3 : Int) : Nat → Hp → Int → Int → Int → Option (Int × Hp)
  | 0, _, _, _, _ => none
  | fu + 1, h, v4, v6, v8 =>
    if v8 < a2 then (
      gd ((hK h t0).1 = 11) <|
      nn (gR h 717 t0) fun q21 =>
      gd ((hK h q21).1 = 7) <|
      nn (gR h 449 q21) fun q23 =>
      gd ((hK h q23).1 = 24) <|
      gd (inA a1 (hK h q23).2) <|
      nn (gC h q23 a1.toNat) fun q26 =>
      gd ((hK h q26).1 = 0) <|
      lt (α := Int) (w64 (v4 * (w32 (16 - (gI h 5 q26))))) fun x28 =>
      lt (α := Int) (w64 (v6 * 16)) fun x29 =>
      lt (α := Int) (w32 (v8 + 1)) fun x30 =>
      fX11_safe_b51 t0 a1 a2 a3 fu h x28 x29 x30)
    else
    if a3 = 0 then (
      gd ((hK h t0).1 = 11) <|
      bd (fX11_tellFraction h t0 v4 v6) fun h15 =>
      gd ((hK h15 t0).1 = 11) <|
      bd2 (fX11_allow h15 t0) fun r17 h19 =>
      some (r17, h19))
    else
    lt (α := Int) (w64 (v6 - v4)) fun x3 =>
    gd ((hK h t0).1 = 11) <|
    bd (fX11_tellFraction h t0 (w64 ((w64 (v6 * v6)) - (w64 (x3 * x3)))) (w64 (v6 * v6))) fun h7 =>
    gd ((hK h7 t0).1 = 11) <|
    bd2 (fX11_allow h7 t0) fun r9 h11 =>
    some (r9, h11)

def fX11_safe (h : Hp) (t0 : Nat) (a1 : Int) (a2 : Int) (a3 : Int) : Option (Int × Hp) :=
    gd ((hK h t0).1 = 11) <|
    bd (fX11_isJar h t0 a1) fun r2 =>
    if r2 = 0 then (
      bd2 (fX11_deny h t0 2) fun r17 h19 =>
      some (r17, h19))
    else
    bd (fX11_within a2 1 5) fun r5 =>
    if r5 = 0 then (
      bd2 (fX11_deny h t0 5) fun r8 h10 =>
      some (r8, h10))
    else
    bd (fX11_within a3 0 1) fun r11 =>
    if r11 = 0 then (
      bd2 (fX11_deny h t0 5) fun r14 h16 =>
      some (r14, h16))
    else
    fX11_safe_b51 t0 a1 a2 a3 FU h 1 1 0

def fX11_threeReason (h : Hp) (t0 : Nat) (a1 : Int) (a2 : Int) (a3 : Int) (a4 : Int) : Option Int :=
    bd (fX11_isTray a1) fun r1 =>
    if r1 = 0 then (
      some 1)
    else
    bd (fX11_isTray a2) fun r4 =>
    if r4 = 0 then (
      some 1)
    else
    bd (fX11_isTray a3) fun r7 =>
    if r7 = 0 then (
      some 1)
    else
    gd ((hK h t0).1 = 11) <|
    nn (gR h 704 t0) fun q11 =>
    gd ((hK h q11).1 = 27) <|
    gd (inA a1 (hK h q11).2) <|
    nn (gC h q11 a1.toNat) fun q14 =>
    gd ((hK h q14).1 = 10) <|
    bd (fX10_isMissing h q14) fun r16 =>
    if r16 = 0 then (
      gd (inA a2 (hK h q11).2) <|
      nn (gC h q11 a2.toNat) fun q20 =>
      gd ((hK h q20).1 = 10) <|
      bd (fX10_isMissing h q20) fun r22 =>
      if r22 = 0 then (
        gd (inA a3 (hK h q11).2) <|
        nn (gC h q11 a3.toNat) fun q26 =>
        gd ((hK h q26).1 = 10) <|
        bd (fX10_isMissing h q26) fun r28 =>
        if r28 = 0 then (
          gd (inA a1 (hK h q11).2) <|
          nn (gC h q11 a1.toNat) fun q32 =>
          gd ((hK h q32).1 = 10) <|
          if a4 ≤ (gI h 642 q32) then (
            gd (inA a2 (hK h q11).2) <|
            nn (gC h q11 a2.toNat) fun q36 =>
            gd ((hK h q36).1 = 10) <|
            if a4 ≤ (gI h 642 q36) then (
              gd (inA a3 (hK h q11).2) <|
              nn (gC h q11 a3.toNat) fun q40 =>
              gd ((hK h q40).1 = 10) <|
              if a4 ≤ (gI h 642 q40) then (
                bd (fX11_rowReason h t0 a1 a4 16 1) fun r43 =>
                if r43 = 0 then (
                  bd (fX11_rowReason h t0 a2 a4 16 1) fun r46 =>
                  some r46)
                else
                some r43)
              else
              some 4)
            else
            some 4)
          else
          some 4)
        else
        some 3)
      else
      some 3)
    else
    some 3

def fX11_thirdOf (a1 : Int) (a2 : Int) : Option Int :=
    some (w64 ((lrm (w64 ((w64 (a1 + a2)) - 2)) 26) + 1))

def fX11_third_b26 (t0 : Nat) (a1 : Int) (a2 : Int) (a3 : Int) (a4 : Int) : Nat → Hp → Int → Option (Int × Hp)
  | 0, _, _ => none
  | fu + 1, h, v6 =>
    if v6 < a4 then (
      gd ((hK h t0).1 = 11) <|
      nn (gR h 704 t0) fun q7 =>
      gd ((hK h q7).1 = 27) <|
      gd (inA a3 (hK h q7).2) <|
      nn (gC h q7 a3.toNat) fun q10 =>
      gd (inA a1 (hK h q7).2) <|
      nn (gC h q7 a1.toNat) fun q12 =>
      gd ((hK h q12).1 = 10) <|
      bd (fX10_get h q12 v6) fun r14 =>
      gd (inA a2 (hK h q7).2) <|
      nn (gC h q7 a2.toNat) fun q17 =>
      gd ((hK h q17).1 = 10) <|
      bd (fX10_get h q17 v6) fun r19 =>
      bd (fX11_thirdOf r14 r19) fun r21 =>
      gd ((hK h q10).1 = 10) <|
      bd (fX10_put h q10 v6 r21) fun h26 =>
      lt (α := Int) (w32 (v6 + 1)) fun x27 =>
      fX11_third_b26 t0 a1 a2 a3 a4 fu h26 x27)
    else
    gd ((hK h t0).1 = 11) <|
    bd2 (fX11_allow h t0) fun r3 h5 =>
    some (r3, h5)

def fX11_third (h : Hp) (t0 : Nat) (a1 : Int) (a2 : Int) (a3 : Int) (a4 : Int) : Option (Int × Hp) :=
    gd ((hK h t0).1 = 11) <|
    bd (fX11_threeReason h t0 a1 a2 a3 a4) fun r2 =>
    if r2 = 0 then (
      fX11_third_b26 t0 a1 a2 a3 a4 FU h 0)
    else
    bd2 (fX11_deny h t0 r2) fun r5 h7 =>
    some (r5, h7)

def fX11_secondOf (a1 : Int) (a2 : Int) : Option Int :=
    some (w64 ((lrm (w64 ((w64 (a2 - a1)) + 26)) 26) + 1))

def fX11_second_b26 (t0 : Nat) (a1 : Int) (a2 : Int) (a3 : Int) (a4 : Int) : Nat → Hp → Int → Option (Int × Hp)
  | 0, _, _ => none
  | fu + 1, h, v6 =>
    if v6 < a4 then (
      gd ((hK h t0).1 = 11) <|
      nn (gR h 704 t0) fun q7 =>
      gd ((hK h q7).1 = 27) <|
      gd (inA a3 (hK h q7).2) <|
      nn (gC h q7 a3.toNat) fun q10 =>
      gd (inA a1 (hK h q7).2) <|
      nn (gC h q7 a1.toNat) fun q12 =>
      gd ((hK h q12).1 = 10) <|
      bd (fX10_get h q12 v6) fun r14 =>
      gd (inA a2 (hK h q7).2) <|
      nn (gC h q7 a2.toNat) fun q17 =>
      gd ((hK h q17).1 = 10) <|
      bd (fX10_get h q17 v6) fun r19 =>
      bd (fX11_secondOf r14 r19) fun r21 =>
      gd ((hK h q10).1 = 10) <|
      bd (fX10_put h q10 v6 r21) fun h26 =>
      lt (α := Int) (w32 (v6 + 1)) fun x27 =>
      fX11_second_b26 t0 a1 a2 a3 a4 fu h26 x27)
    else
    gd ((hK h t0).1 = 11) <|
    bd2 (fX11_allow h t0) fun r3 h5 =>
    some (r3, h5)

def fX11_second (h : Hp) (t0 : Nat) (a1 : Int) (a2 : Int) (a3 : Int) (a4 : Int) : Option (Int × Hp) :=
    gd ((hK h t0).1 = 11) <|
    bd (fX11_threeReason h t0 a1 a2 a3 a4) fun r2 =>
    if r2 = 0 then (
      fX11_second_b26 t0 a1 a2 a3 a4 FU h 0)
    else
    bd2 (fX11_deny h t0 r2) fun r5 h7 =>
    some (r5, h7)

def fX11_isThird_b38 (h : Hp) (a1 : Nat) (a2 : Nat) (a3 : Nat) : Nat → Int → Int → Option Int
  | 0, _, _ => none
  | fu + 1, v3, v4 =>
    if v3 = 0 then (
      gd (v3 = 0 ∨ v3 = 1) <|
      some v3)
    else
    gd ((hK h a1).1 = 6) <|
    if v4 < (gI h 386 a1) then (
      bd (fX6_at h a1 v4) fun r6 =>
      gd ((hK h a2).1 = 6) <|
      bd (fX6_at h a2 v4) fun r9 =>
      bd (fX11_thirdOf r6 r9) fun r11 =>
      gd ((hK h a3).1 = 6) <|
      bd (fX6_at h a3 v4) fun r14 =>
      lt (α := Int) (if r11 = r14 then 1 else 0) fun x17 =>
      lt (α := Int) (w32 (v4 + 1)) fun x18 =>
      fX11_isThird_b38 h a1 a2 a3 fu x17 x18)
    else
    gd (v3 = 0 ∨ v3 = 1) <|
    some v3

def fX11_isThird_b34 (h : Hp) (a1 : Nat) (a2 : Nat) (a3 : Nat) (s0 : Int) : Option Int :=
    fX11_isThird_b38 h a1 a2 a3 FU s0 0

def fX11_isThird_b33 (h : Hp) (a1 : Nat) (a2 : Nat) (a3 : Nat) : Option Int :=
    fX11_isThird_b34 h a1 a2 a3 0

def fX11_isThird (h : Hp) (a1 : Nat) (a2 : Nat) (a3 : Nat) : Option Int :=
    gd ((hK h a1).1 = 6) <|
    if 0 < (gI h 386 a1) then (
      gd ((hK h a2).1 = 6) <|
      if (gI h 386 a1) = (gI h 386 a2) then (
        gd ((hK h a3).1 = 6) <|
        if (gI h 386 a1) = (gI h 386 a3) then (
          fX11_isThird_b34 h a1 a2 a3 1)
        else
        fX11_isThird_b33 h a1 a2 a3)
      else
      fX11_isThird_b33 h a1 a2 a3)
    else
    fX11_isThird_b33 h a1 a2 a3

def fX11_anyTwo (h : Hp) (t0 : Nat) (a1 : Int) (a2 : Int) (a3 : Int) : Option (Int × Hp) :=
    gd ((hK h t0).1 = 11) <|
    bd (fX11_isJar h t0 a1) fun r2 =>
    if r2 = 0 then (
      bd2 (fX11_refuse h t0 2) fun r5 h7 =>
      some (r5, h7))
    else
    bd (fX11_isJar h t0 a2) fun r8 =>
    if r8 = 0 then (
      bd2 (fX11_refuse h t0 2) fun r11 h13 =>
      some (r11, h13))
    else
    bd (fX11_isJar h t0 a3) fun r14 =>
    if r14 = 0 then (
      bd2 (fX11_refuse h t0 2) fun r36 h38 =>
      some (r36, h38))
    else
    bd2 (fX11_hear h t0 a1) fun r17 h19 =>
    gd ((hK h19 t0).1 = 11) <|
    bd2 (fX11_hear h19 t0 a2) fun r21 h23 =>
    gd ((hK h23 t0).1 = 11) <|
    bd2 (fX11_hear h23 t0 a3) fun r25 h27 =>
    bd (fX11_isThird h27 r17 r21 r25) fun r28 =>
    gd ((hK h27 t0).1 = 11) <|
    bd2 (fX11_answer h27 t0 (if r28 = 0 then 0 else 1)) fun r32 h34 =>
    some (r32, h34)

def fX11_mark (h : Hp) (t0 : Nat) : Option (Int × Hp) :=
    gd ((hK h t0).1 = 11) <|
    if (gI h 720 t0) < 3 then (
      nn (gR h 708 t0) fun q3 =>
      gd ((hK h q3).1 = 25) <|
      gd (inA (gI h 720 t0) (hK h q3).2) <|
      nn (gC h q3 (gI h 720 t0).toNat) fun q6 =>
      nn (gR h 717 t0) fun q7 =>
      gd ((hK h q6).1 = 3) <|
      lt (α := Hp) (pR h 192 q6 q7) fun h9 =>
      nn (gR h9 718 t0) fun q10 =>
      lt (α := Hp) (pR h9 193 q6 q10) fun h11 =>
      lt (α := Hp) (pI h11 194 q6 (gI h11 719 t0)) fun h12 =>
      lt (α := Hp) (pI h12 720 t0 (w32 ((gI h12 720 t0) + 1))) fun h13 =>
      bd2 (fX11_answer h13 t0 (gI h13 720 t0)) fun r14 h16 =>
      some (r14, h16))
    else
    bd2 (fX11_refuse h t0 7) fun r17 h19 =>
    some (r17, h19)

def fX11_back (h : Hp) (t0 : Nat) : Option (Int × Hp) :=
    gd ((hK h t0).1 = 11) <|
    if 0 < (gI h 720 t0) then (
      lt (α := Hp) (pI h 720 t0 (w32 ((gI h 720 t0) - 1))) fun h3 =>
      nn (gR h3 708 t0) fun q4 =>
      gd ((hK h3 q4).1 = 25) <|
      gd (inA (gI h3 720 t0) (hK h3 q4).2) <|
      nn (gC h3 q4 (gI h3 720 t0).toNat) fun q7 =>
      gd ((hK h3 q7).1 = 3) <|
      nn (gR h3 192 q7) fun q9 =>
      lt (α := Hp) (pR h3 717 t0 q9) fun h10 =>
      nn (gR h10 193 q7) fun q11 =>
      lt (α := Hp) (pR h10 718 t0 q11) fun h12 =>
      lt (α := Hp) (pI h12 719 t0 (gI h12 194 q7)) fun h13 =>
      bd2 (fX11_answer h13 t0 (gI h13 720 t0)) fun r14 h16 =>
      some (r14, h16))
    else
    bd2 (fX11_refuse h t0 8) fun r17 h19 =>
    some (r17, h19)

