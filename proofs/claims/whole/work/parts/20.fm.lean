def fX12_init_b200 (t0 : Nat) : Nat → Hp → Nat → Nat → Int → Option Hp
  | 0, _, _, _, _ => none
  | fu + 1, h, k, n, v1 =>
    if v1 < 4 then (
      gd ((hK h t0).1 = 12) <|
      nn (gR h 773 t0) fun q4 =>
      gd ((hK h q4).1 = 21) <|
      gd (inA v1 (hK h q4).2) <|
      lt (α := Hp) (sA h q4 v1 (-1)) fun h7 =>
      lt (α := Int) (w32 (v1 + 1)) fun x8 =>
      fX12_init_b200 t0 fu h7 k n x8)
    else
    gd (k ≤ 22 ∧ n ≤ 4047) <|
    some h

def fX12_init (h : Hp) (t0 : Nat) : Option Hp :=
    gd ((hK h t0).1 = 12) <|
    lt (α := Hp) (pJ h 771 t0 1) fun h2 =>
    lt (α := Nat) (hZ h2) fun q3 =>
    lt (α := Hp) (nw h2 21 4) fun h4 =>
    gd ((hK h4 t0).1 = 12) <|
    lt (α := Hp) (pR h4 772 t0 q3) fun h7 =>
    lt (α := Nat) (hZ h7) fun q8 =>
    lt (α := Hp) (nw h7 21 4) fun h9 =>
    gd ((hK h9 t0).1 = 12) <|
    lt (α := Hp) (pR h9 773 t0 q8) fun h12 =>
    lt (α := Nat) (hZ h12) fun q13 =>
    lt (α := Hp) (nw h12 22 240) fun h14 =>
    gd ((hK h14 t0).1 = 12) <|
    lt (α := Hp) (pR h14 774 t0 q13) fun h17 =>
    lt (α := Nat) (hZ h17) fun q18 =>
    lt (α := Hp) (nw h17 20 900) fun h19 =>
    gd ((hK h19 t0).1 = 12) <|
    lt (α := Hp) (pR h19 775 t0 q18) fun h22 =>
    lt (α := Hp) (pI h22 778 t0 (-1)) fun h23 =>
    lt (α := Hp) (pI h23 779 t0 (-1)) fun h24 =>
    lt (α := Nat) (hZ h24) fun q25 =>
    lt (α := Hp) (nw h24 21 1850) fun h26 =>
    gd ((hK h26 t0).1 = 12) <|
    lt (α := Hp) (pR h26 788 t0 q25) fun h29 =>
    lt (α := Nat) (hZ h29) fun q30 =>
    lt (α := Hp) (nw h29 22 16) fun h31 =>
    gd ((hK h31 t0).1 = 12) <|
    lt (α := Hp) (pR h31 789 t0 q30) fun h34 =>
    lt (α := Nat) (hZ h34) fun q35 =>
    lt (α := Hp) (nw h34 21 80) fun h36 =>
    gd ((hK h36 t0).1 = 12) <|
    lt (α := Hp) (pR h36 791 t0 q35) fun h39 =>
    lt (α := Nat) (hZ h39) fun q40 =>
    lt (α := Hp) (nw h39 21 80) fun h41 =>
    gd ((hK h41 t0).1 = 12) <|
    lt (α := Hp) (pR h41 792 t0 q40) fun h44 =>
    lt (α := Nat) (hZ h44) fun q45 =>
    lt (α := Hp) (nw h44 21 80) fun h46 =>
    gd ((hK h46 t0).1 = 12) <|
    lt (α := Hp) (pR h46 793 t0 q45) fun h49 =>
    lt (α := Nat) (hZ h49) fun q50 =>
    lt (α := Hp) (nw h49 21 289) fun h51 =>
    gd ((hK h51 t0).1 = 12) <|
    lt (α := Hp) (pR h51 795 t0 q50) fun h54 =>
    lt (α := Nat) (hZ h54) fun q55 =>
    lt (α := Hp) (nw h54 21 8) fun h56 =>
    gd ((hK h56 t0).1 = 12) <|
    lt (α := Hp) (pR h56 796 t0 q55) fun h59 =>
    lt (α := Nat) (hZ h59) fun q60 =>
    lt (α := Hp) (nw h59 21 8) fun h61 =>
    gd ((hK h61 t0).1 = 12) <|
    lt (α := Hp) (pR h61 797 t0 q60) fun h64 =>
    lt (α := Nat) (hZ h64) fun q65 =>
    lt (α := Hp) (nw h64 21 8) fun h66 =>
    gd ((hK h66 t0).1 = 12) <|
    lt (α := Hp) (pR h66 798 t0 q65) fun h69 =>
    lt (α := Nat) (hZ h69) fun q70 =>
    lt (α := Hp) (nw h69 21 6) fun h71 =>
    gd ((hK h71 t0).1 = 12) <|
    lt (α := Hp) (pR h71 801 t0 q70) fun h74 =>
    lt (α := Nat) (hZ h74) fun q75 =>
    lt (α := Hp) (nw h74 21 80) fun h76 =>
    gd ((hK h76 t0).1 = 12) <|
    lt (α := Hp) (pR h76 802 t0 q75) fun h79 =>
    lt (α := Nat) (hZ h79) fun q80 =>
    lt (α := Hp) (nw h79 21 80) fun h81 =>
    gd ((hK h81 t0).1 = 12) <|
    lt (α := Hp) (pR h81 803 t0 q80) fun h84 =>
    lt (α := Nat) (hZ h84) fun q85 =>
    lt (α := Hp) (nw h84 21 256) fun h86 =>
    gd ((hK h86 t0).1 = 12) <|
    lt (α := Hp) (pR h86 807 t0 q85) fun h89 =>
    lt (α := Nat) (hZ h89) fun q90 =>
    lt (α := Hp) (nw h89 21 8) fun h91 =>
    gd ((hK h91 t0).1 = 12) <|
    lt (α := Hp) (pR h91 808 t0 q90) fun h94 =>
    lt (α := Nat) (hZ h94) fun q95 =>
    lt (α := Hp) (nw h94 21 17) fun h96 =>
    gd ((hK h96 t0).1 = 12) <|
    lt (α := Hp) (pR h96 810 t0 q95) fun h99 =>
    lt (α := Nat) (hZ h99) fun q100 =>
    lt (α := Hp) (nw h99 21 17) fun h101 =>
    gd ((hK h101 t0).1 = 12) <|
    lt (α := Hp) (pR h101 811 t0 q100) fun h104 =>
    lt (α := Nat) (hZ h104) fun q105 =>
    lt (α := Hp) (nw h104 21 8) fun h106 =>
    gd ((hK h106 t0).1 = 12) <|
    lt (α := Hp) (pR h106 814 t0 q105) fun h109 =>
    lt (α := Nat) (hZ h109) fun q110 =>
    lt (α := Hp) (nw h109 21 8) fun h111 =>
    gd ((hK h111 t0).1 = 12) <|
    lt (α := Hp) (pR h111 815 t0 q110) fun h114 =>
    fX12_init_b200 t0 FU h114 22 4047 0

def fX12_status (h : Hp) (t0 : Nat) : Option (Int × Hp) :=
    gd ((hK h t0).1 = 12) <|
    lt (α := Hp) (pI h 769 t0 0) fun h2 =>
    some (gI h2 768 t0, h2)

def fX12_top (h : Hp) (t0 : Nat) : Option (Int × Hp) :=
    gd ((hK h t0).1 = 12) <|
    lt (α := Hp) (pI h 769 t0 0) fun h2 =>
    some (gJ h2 770 t0, h2)

def fX12_bottom (h : Hp) (t0 : Nat) : Option (Int × Hp) :=
    gd ((hK h t0).1 = 12) <|
    lt (α := Hp) (pI h 769 t0 0) fun h2 =>
    some (gJ h2 771 t0, h2)

def fX12_no (h : Hp) (t0 : Nat) (a1 : Int) : Option (Int × Hp) :=
    gd ((hK h t0).1 = 12) <|
    lt (α := Hp) (pI h 768 t0 a1) fun h2 =>
    some (0, h2)

def fX12_tray_b74 (t0 : Nat) (a1 : Int) (a2 : Int) (a3 : Int) : Nat → Hp → Int → Option (Int × Hp)
  | 0, _, _ => none
  | fu + 1, h, v4 =>
    if v4 < a3 then (
      gd ((hK h t0).1 = 12) <|
      nn (gR h 774 t0) fun q3 =>
      gd ((hK h q3).1 = 22) <|
      gd (inA (w32 ((w32 (60 * a1)) + v4)) (hK h q3).2) <|
      lt (α := Hp) (sB h q3 (w32 ((w32 (60 * a1)) + v4)) 0) fun h6 =>
      lt (α := Int) (w32 (v4 + 1)) fun x7 =>
      fX12_tray_b74 t0 a1 a2 a3 fu h6 x7)
    else
    some (1, h)

def fX12_tray (h : Hp) (t0 : Nat) (a1 : Int) (a2 : Int) (a3 : Int) : Option (Int × Hp) :=
    gd ((hK h t0).1 = 12) <|
    lt (α := Hp) (pI h 769 t0 0) fun h2 =>
    lt (α := Hp) (pI h2 768 t0 0) fun h3 =>
    if a1 < 0 then (
      bd2 (fX12_no h3 t0 1) fun r5 h7 =>
      some (r5, h7))
    else
    if a1 < 4 then (
      if a2 < 0 then (
        bd2 (fX12_no h3 t0 1) fun r13 h15 =>
        some (r13, h15))
      else
      if a2 ≤ 3 then (
        if a3 ≤ 60 then (
          if a3 < 0 then (
            bd2 (fX12_no h3 t0 6) fun r27 h29 =>
            some (r27, h29))
          else
          nn (gR h3 772 t0) fun q19 =>
          gd ((hK h3 q19).1 = 21) <|
          gd (inA a1 (hK h3 q19).2) <|
          lt (α := Hp) (sA h3 q19 a1 a2) fun h22 =>
          nn (gR h22 773 t0) fun q23 =>
          gd ((hK h22 q23).1 = 21) <|
          gd (inA a1 (hK h22 q23).2) <|
          lt (α := Hp) (sA h22 q23 a1 a3) fun h26 =>
          fX12_tray_b74 t0 a1 a2 a3 FU h26 0)
        else
        bd2 (fX12_no h3 t0 5) fun r30 h32 =>
        some (r30, h32))
      else
      bd2 (fX12_no h3 t0 1) fun r33 h35 =>
      some (r33, h35))
    else
    bd2 (fX12_no h3 t0 1) fun r9 h11 =>
    some (r9, h11)

def fX12_trayed (h : Hp) (t0 : Nat) (a1 : Int) : Option Int :=
    if a1 < 0 then (
      some 1)
    else
    if a1 < 4 then (
      gd ((hK h t0).1 = 12) <|
      nn (gR h 773 t0) fun q4 =>
      gd ((hK h q4).1 = 21) <|
      gd (inA a1 (hK h q4).2) <|
      if (gA h q4 a1.toNat) < 0 then (
        some 3)
      else
      some 0)
    else
    some 1

def fX12_placed (h : Hp) (t0 : Nat) (a1 : Int) (a2 : Int) : Option Int :=
    gd ((hK h t0).1 = 12) <|
    bd (fX12_trayed h t0 a1) fun r2 =>
    if 0 < r2 then (
      some r2)
    else
    if a2 < 0 then (
      some 4)
    else
    nn (gR h 773 t0) fun q6 =>
    gd ((hK h q6).1 = 21) <|
    gd (inA a1 (hK h q6).2) <|
    if a2 < (gA h q6 a1.toNat) then (
      some 0)
    else
    some 4

def fX12_cut (a1 : Int) (a2 : Int) : Option Int :=
    if a1 = 0 then (
      some (tby (w32 a2)))
    else
    if a1 = 1 then (
      some (tsh (w32 a2)))
    else
    if a1 = 2 then (
      some (w32 a2))
    else
    some a2

def fX12_write (h : Hp) (t0 : Nat) (a1 : Int) (a2 : Int) (a3 : Int) : Option (Int × Hp) :=
    gd ((hK h t0).1 = 12) <|
    lt (α := Hp) (pI h 769 t0 0) fun h2 =>
    bd (fX12_placed h2 t0 a1 a2) fun r3 =>
    lt (α := Hp) (pI h2 768 t0 r3) fun h5 =>
    if 0 < (gI h5 768 t0) then (
      some (0, h5))
    else
    nn (gR h5 774 t0) fun q7 =>
    nn (gR h5 772 t0) fun q8 =>
    gd ((hK h5 q8).1 = 21) <|
    gd (inA a1 (hK h5 q8).2) <|
    bd (fX12_cut (gA h5 q8 a1.toNat) a3) fun r11 =>
    gd ((hK h5 q7).1 = 22) <|
    gd (inA (w32 ((w32 (60 * a1)) + a2)) (hK h5 q7).2) <|
    lt (α := Hp) (sB h5 q7 (w32 ((w32 (60 * a1)) + a2)) r11) fun h15 =>
    some (1, h15)

def fX12_read (h : Hp) (t0 : Nat) (a1 : Int) (a2 : Int) : Option (Int × Hp) :=
    gd ((hK h t0).1 = 12) <|
    lt (α := Hp) (pI h 769 t0 0) fun h2 =>
    bd (fX12_placed h2 t0 a1 a2) fun r3 =>
    lt (α := Hp) (pI h2 768 t0 r3) fun h5 =>
    if 0 < (gI h5 768 t0) then (
      some ((-1), h5))
    else
    nn (gR h5 774 t0) fun q7 =>
    gd ((hK h5 q7).1 = 22) <|
    gd (inA (w32 ((w32 (60 * a1)) + a2)) (hK h5 q7).2) <|
    some (gB h5 q7 (w32 ((w32 (60 * a1)) + a2)).toNat, h5)

def fX12_pour_b182 (t0 : Nat) (a1 : Int) (a2 : Int) (a3 : Int) (a4 : Int) (a5 : Int) (k158 : Hp → Int → Int → Option (Int × Hp)) (h : Hp) (v6 : Int) (v7 : Int) (s0 : Int) : Option (Int × Hp) :=
    gd ((hK h t0).1 = 12) <|
    nn (gR h 774 t0) fun q2 =>
    gd ((hK h q2).1 = 22) <|
    gd (inA (w32 ((w32 ((w32 (60 * a1)) + a2)) + s0)) (hK h q2).2) <|
    gd (inA (w32 ((w32 ((w32 (60 * a3)) + a4)) + s0)) (hK h q2).2) <|
    lt (α := Hp) (sB h q2 (w32 ((w32 ((w32 (60 * a3)) + a4)) + s0)) (gB h q2 (w32 ((w32 ((w32 (60 * a1)) + a2)) + s0)).toNat)) fun h6 =>
    lt (α := Int) (w32 (v7 + 1)) fun x7 =>
    k158 h6 v6 x7

def fX12_pour_b158 (t0 : Nat) (a1 : Int) (a2 : Int) (a3 : Int) (a4 : Int) (a5 : Int) : Nat → Hp → Int → Int → Option (Int × Hp)
  | 0, _, _, _ => none
  | fu + 1, h, v6, v7 =>
    if v7 < a5 then (
      if v6 = 0 then (
        fX12_pour_b182 t0 a1 a2 a3 a4 a5 (fX12_pour_b158 t0 a1 a2 a3 a4 a5 fu) h v6 v7 v7)
      else
      fX12_pour_b182 t0 a1 a2 a3 a4 a5 (fX12_pour_b158 t0 a1 a2 a3 a4 a5 fu) h v6 v7 (w32 ((w32 (a5 - 1)) - v7)))
    else
    some (1, h)

def fX12_pour (h : Hp) (t0 : Nat) (a1 : Int) (a2 : Int) (a3 : Int) (a4 : Int) (a5 : Int) : Option (Int × Hp) :=
    gd ((hK h t0).1 = 12) <|
    lt (α := Hp) (pI h 769 t0 0) fun h2 =>
    lt (α := Hp) (pI h2 768 t0 0) fun h3 =>
    if a1 < 0 then (
      bd2 (fX12_no h3 t0 1) fun r5 h7 =>
      some (r5, h7))
    else
    if a1 < 4 then (
      if a3 < 0 then (
        bd2 (fX12_no h3 t0 1) fun r13 h15 =>
        some (r13, h15))
      else
      if a3 < 4 then (
        nn (gR h3 773 t0) fun q17 =>
        gd ((hK h3 q17).1 = 21) <|
        gd (inA a1 (hK h3 q17).2) <|
        if (gA h3 q17 a1.toNat) < 0 then (
          bd2 (fX12_no h3 t0 3) fun r21 h23 =>
          some (r21, h23))
        else
        gd (inA a3 (hK h3 q17).2) <|
        if (gA h3 q17 a3.toNat) < 0 then (
          bd2 (fX12_no h3 t0 3) fun r59 h61 =>
          some (r59, h61))
        else
        nn (gR h3 772 t0) fun q26 =>
        gd ((hK h3 q26).1 = 21) <|
        gd (inA a1 (hK h3 q26).2) <|
        gd (inA a3 (hK h3 q26).2) <|
        if (gA h3 q26 a1.toNat) = (gA h3 q26 a3.toNat) then (
          if a5 < 0 then (
            bd2 (fX12_no h3 t0 6) fun r53 h55 =>
            some (r53, h55))
          else
          if a2 < 0 then (
            bd2 (fX12_no h3 t0 4) fun r33 h35 =>
            some (r33, h35))
          else
          if a4 < 0 then (
            bd2 (fX12_no h3 t0 4) fun r37 h39 =>
            some (r37, h39))
          else
          gd (inA a1 (hK h3 q17).2) <|
          if (gA h3 q17 a1.toNat) < (w64 (a2 + a5)) then (
            bd2 (fX12_no h3 t0 4) fun r42 h44 =>
            some (r42, h44))
          else
          gd (inA a3 (hK h3 q17).2) <|
          if (gA h3 q17 a3.toNat) < (w64 (a4 + a5)) then (
            bd2 (fX12_no h3 t0 4) fun r50 h52 =>
            some (r50, h52))
          else
          lt (α := Int) (if a2 < a4 then 1 else 0) fun x48 =>
          fX12_pour_b158 t0 a1 a2 a3 a4 a5 FU h3 x48 0)
        else
        bd2 (fX12_no h3 t0 11) fun r56 h58 =>
        some (r56, h58))
      else
      bd2 (fX12_no h3 t0 1) fun r62 h64 =>
      some (r62, h64))
    else
    bd2 (fX12_no h3 t0 1) fun r9 h11 =>
    some (r9, h11)

def fX12_lay_b2 (t0 : Nat) (a1 : Int) : Nat → Hp → Int → Option Hp
  | 0, _, _ => none
  | fu + 1, h, v2 =>
    if v2 < 0 then (
      some h)
    else
    gd ((hK h t0).1 = 12) <|
    nn (gR h 775 t0) fun q3 =>
    gd ((hK h q3).1 = 20) <|
    gd (inA (gI h 776 t0) (hK h q3).2) <|
    lt (α := Hp) (sA h q3 (gI h 776 t0) (tby (shr a1 (w32 (8 * v2))))) fun h6 =>
    lt (α := Hp) (pI h6 776 t0 (w32 ((gI h6 776 t0) + 1))) fun h7 =>
    lt (α := Int) (w32 (v2 + (-1))) fun x8 =>
    fX12_lay_b2 t0 a1 fu h7 x8

def fX12_lay (h : Hp) (t0 : Nat) (a1 : Int) : Option Hp :=
    fX12_lay_b2 t0 a1 FU h 3

def fX12_feed (h : Hp) (t0 : Nat) (a1 : Int) (a2 : Int) (a3 : Int) (a4 : Int) (a5 : Int) : Option (Int × Hp) :=
    gd ((hK h t0).1 = 12) <|
    lt (α := Hp) (pI h 769 t0 0) fun h2 =>
    if (w32 ((gI h2 776 t0) + 20)) ≤ 900 then (
      bd (fX12_lay h2 t0 a1) fun h6 =>
      gd ((hK h6 t0).1 = 12) <|
      bd (fX12_lay h6 t0 a2) fun h10 =>
      gd ((hK h10 t0).1 = 12) <|
      bd (fX12_lay h10 t0 a3) fun h14 =>
      gd ((hK h14 t0).1 = 12) <|
      bd (fX12_lay h14 t0 a4) fun h18 =>
      gd ((hK h18 t0).1 = 12) <|
      bd (fX12_lay h18 t0 a5) fun h22 =>
      gd ((hK h22 t0).1 = 12) <|
      some (gI h22 776 t0, h22))
    else
    some ((-1), h2)

def fX12_fault (h : Hp) (t0 : Nat) (a1 : Int) : Option (Int × Hp) :=
    gd ((hK h t0).1 = 12) <|
    lt (α := Hp) (pI h 769 t0 0) fun h2 =>
    if a1 = 0 then (
      some (gI h2 778 t0, h2))
    else
    if a1 = 1 then (
      some (gI h2 779 t0, h2))
    else
    some ((-1), h2)

def fX12_look2 (h : Hp) (t0 : Nat) (a1 : Int) : Option Int :=
    gd ((hK h t0).1 = 12) <|
    if a1 < (gI h 777 t0) then (
      nn (gR h 775 t0) fun q3 =>
      gd ((hK h q3).1 = 20) <|
      gd (inA a1 (hK h q3).2) <|
      some (bnd (gA h q3 a1.toNat) 255))
    else
    some 0

def fX12_isLetter (a1 : Int) : Option Int :=
    if a1 < 97 then (
      some 0)
    else
    if a1 ≤ 122 then (
      some 1)
    else
    some 0

def fX12_isDigit (a1 : Int) : Option Int :=
    if a1 < 48 then (
      some 0)
    else
    if a1 ≤ 57 then (
      some 1)
    else
    some 0

def fX12_next_b45 (t0 : Nat) (k8 : Hp → Option Hp) (h : Hp) : Option Hp :=
    gd ((hK h t0).1 = 12) <|
    lt (α := Hp) (pI h 783 t0 (w32 ((gI h 783 t0) + 1))) fun h2 =>
    k8 h2

def fX12_next_b166 (t0 : Nat) (k109 : Hp → Option Hp) (h : Hp) (s0 : Int) (s1 : Nat) : Option Hp :=
    gd ((hK h s1).1 = 12) <|
    lt (α := Hp) (pJ h 787 s1 s0) fun h2 =>
    gd ((hK h2 t0).1 = 12) <|
    lt (α := Hp) (pI h2 784 t0 (w32 ((gI h2 784 t0) + 1))) fun h4 =>
    k109 h4

def fX12_next_b109 (t0 : Nat) : Nat → Hp → Option Hp
  | 0, _ => none
  | fu + 1, h =>
    gd ((hK h t0).1 = 12) <|
    bd (fX12_look2 h t0 (gI h 784 t0)) fun r2 =>
    bd (fX12_isLetter r2) fun r4 =>
    if r4 = 0 then (
      lt (α := Hp) (pI h 786 t0 (w32 ((gI h 784 t0) - (gI h 783 t0)))) fun h7 =>
      some h7)
    else
    if (w32 ((gI h 784 t0) - (gI h 783 t0))) < 8 then (
      bd (fX12_look2 h t0 (gI h 784 t0)) fun r9 =>
      fX12_next_b166 t0 (fX12_next_b109 t0 fu) h (w64 ((w64 ((w64 ((gJ h 787 t0) * 32)) + r9)) - 96)) t0)
    else
    fX12_next_b166 t0 (fX12_next_b109 t0 fu) h (-1) t0

def fX12_next_b260 (t0 : Nat) (k210 : Hp → Option Hp) (h : Hp) : Option Hp :=
    gd ((hK h t0).1 = 12) <|
    lt (α := Hp) (pI h 784 t0 (w32 ((gI h 784 t0) + 1))) fun h2 =>
    k210 h2

def fX12_next_b210 (t0 : Nat) : Nat → Hp → Option Hp
  | 0, _ => none
  | fu + 1, h =>
    gd ((hK h t0).1 = 12) <|
    bd (fX12_look2 h t0 (gI h 784 t0)) fun r2 =>
    bd (fX12_isDigit r2) fun r4 =>
    if r4 = 0 then (
      lt (α := Hp) (pI h 782 t0 (if (w32 ((gI h 784 t0) - (gI h 783 t0))) ≤ 4 then 2 else 4)) fun h8 =>
      some h8)
    else
    if (w32 ((gI h 784 t0) - (gI h 783 t0))) < 4 then (
      bd (fX12_look2 h t0 (gI h 784 t0)) fun r11 =>
      lt (α := Hp) (pI h 785 t0 (w32 ((w32 ((w32 (10 * (gI h 785 t0))) + r11)) - 48))) fun h13 =>
      fX12_next_b260 t0 (fX12_next_b210 t0 fu) h13)
    else
    fX12_next_b260 t0 (fX12_next_b210 t0 fu) h

def fX12_next_b58 (t0 : Nat) (h : Hp) : Option Hp :=
    gd ((hK h t0).1 = 12) <|
    lt (α := Hp) (pI h 784 t0 (gI h 783 t0)) fun h2 =>
    if (gI h2 783 t0) < (gI h2 777 t0) then (
      bd (fX12_look2 h2 t0 (gI h2 783 t0)) fun r4 =>
      bd (fX12_isLetter r4) fun r6 =>
      if r6 = 0 then (
        bd (fX12_isDigit r4) fun r9 =>
        if r9 = 0 then (
          lt (α := Hp) (pI h2 784 t0 (w32 ((gI h2 783 t0) + 1))) fun h12 =>
          lt (α := Hp) (pI h12 782 t0 (if r4 = 59 then 3 else 4)) fun h14 =>
          some h14)
        else
        lt (α := Hp) (pI h2 785 t0 0) fun h16 =>
        fX12_next_b210 t0 FU h16)
      else
      lt (α := Hp) (pI h2 782 t0 1) fun h17 =>
      lt (α := Hp) (pJ h17 787 t0 0) fun h18 =>
      fX12_next_b109 t0 FU h18)
    else
    lt (α := Hp) (pI h2 782 t0 0) fun h19 =>
    some h19

def fX12_next_b8 (t0 : Nat) : Nat → Hp → Option Hp
  | 0, _ => none
  | fu + 1, h =>
    gd ((hK h t0).1 = 12) <|
    if (gI h 783 t0) < (gI h 777 t0) then (
      bd (fX12_look2 h t0 (gI h 783 t0)) fun r3 =>
      if r3 = 10 then (
        fX12_next_b45 t0 (fX12_next_b8 t0 fu) h)
      else
      bd (fX12_look2 h t0 (gI h 783 t0)) fun r6 =>
      if r6 = 32 then (
        fX12_next_b45 t0 (fX12_next_b8 t0 fu) h)
      else
      fX12_next_b58 t0 h)
    else
    fX12_next_b58 t0 h

def fX12_next (h : Hp) (t0 : Nat) : Option Hp :=
    gd ((hK h t0).1 = 12) <|
    lt (α := Hp) (pI h 783 t0 (gI h 784 t0)) fun h2 =>
    fX12_next_b8 t0 FU h2

def fX12_opens (h : Hp) (t0 : Nat) (a1 : Int) (a2 : Int) : Option (Int × Hp) :=
    if a1 < 0 then (
      gd ((hK h t0).1 = 12) <|
      bd2 (fX12_no h t0 5) fun r3 h5 =>
      some (r3, h5))
    else
    gd ((hK h t0).1 = 12) <|
    if a1 ≤ (gI h 776 t0) then (
      if a1 ≤ a2 then (
        lt (α := Hp) (pI h 777 t0 a1) fun h12 =>
        lt (α := Hp) (pI h12 776 t0 0) fun h13 =>
        lt (α := Hp) (pI h13 784 t0 0) fun h14 =>
        lt (α := Hp) (pI h14 780 t0 0) fun h15 =>
        bd (fX12_next h15 t0) fun h18 =>
        some (1, h18))
      else
      bd2 (fX12_no h t0 5) fun r19 h21 =>
      some (r19, h21))
    else
    bd2 (fX12_no h t0 5) fun r8 h10 =>
    some (r8, h10)

def fX12_spelled_b91 (a1 : Int) (a2 : Int) (a3 : Int) (a4 : Int) (a5 : Int) (a6 : Int) (s0 : Int) : Option Int :=
    if 0 < a6 then (
      some (w64 ((w64 ((w64 (s0 * 32)) + a6)) - 96)))
    else
    some s0

def fX12_spelled_b65 (a1 : Int) (a2 : Int) (a3 : Int) (a4 : Int) (a5 : Int) (a6 : Int) (s0 : Int) : Option Int :=
    if 0 < a5 then (
      fX12_spelled_b91 a1 a2 a3 a4 a5 a6 (w64 ((w64 ((w64 (s0 * 32)) + a5)) - 96)))
    else
    fX12_spelled_b91 a1 a2 a3 a4 a5 a6 s0

def fX12_spelled_b41 (a1 : Int) (a2 : Int) (a3 : Int) (a4 : Int) (a5 : Int) (a6 : Int) (s0 : Int) : Option Int :=
    if 0 < a4 then (
      fX12_spelled_b65 a1 a2 a3 a4 a5 a6 (w64 ((w64 ((w64 (s0 * 32)) + a4)) - 96)))
    else
    fX12_spelled_b65 a1 a2 a3 a4 a5 a6 s0

def fX12_spelled (a1 : Int) (a2 : Int) (a3 : Int) (a4 : Int) (a5 : Int) (a6 : Int) : Option Int :=
    lt (α := Int) (w64 ((w64 ((w64 ((w64 (a1 - 96)) * 32)) + a2)) - 96)) fun x1 =>
    if 0 < a3 then (
      fX12_spelled_b41 a1 a2 a3 a4 a5 a6 (w64 ((w64 ((w64 (x1 * 32)) + a3)) - 96)))
    else
    fX12_spelled_b41 a1 a2 a3 a4 a5 a6 x1

def fX12_isWord (h : Hp) (t0 : Nat) (a1 : Int) : Option Int :=
    gd ((hK h t0).1 = 12) <|
    if (gI h 782 t0) = 1 then (
      if (gJ h 787 t0) = a1 then (
        some 1)
      else
      some 0)
    else
    some 0

def fX12_isSound (h : Hp) (t0 : Nat) : Option Int :=
    bd (fX12_spelled 115 111 117 110 100 0) fun r1 =>
    gd ((hK h t0).1 = 12) <|
    bd (fX12_isWord h t0 r1) fun r4 =>
    some r4

def fX12_fail (h : Hp) (t0 : Nat) (a1 : Int) (a2 : Int) : Option Hp :=
    gd ((hK h t0).1 = 12) <|
    if 0 < (gI h 780 t0) then (
      some h)
    else
    lt (α := Hp) (pI h 780 t0 a1) fun h3 =>
    lt (α := Hp) (pI h3 781 t0 a2) fun h4 =>
    some h4

def fX12_isJar (h : Hp) (t0 : Nat) : Option Int :=
    bd (fX12_spelled 106 97 114 0 0 0) fun r1 =>
    gd ((hK h t0).1 = 12) <|
    bd (fX12_isWord h t0 r1) fun r4 =>
    some r4

def fX12_isSize (h : Hp) (t0 : Nat) : Option Int :=
    bd (fX12_spelled 115 105 122 101 0 0) fun r1 =>
    gd ((hK h t0).1 = 12) <|
    bd (fX12_isWord h t0 r1) fun r4 =>
    some r4

def fX12_isLeaks (h : Hp) (t0 : Nat) : Option Int :=
    bd (fX12_spelled 108 101 97 107 115 0) fun r1 =>
    gd ((hK h t0).1 = 12) <|
    bd (fX12_isWord h t0 r1) fun r4 =>
    some r4

def fX12_isHead (h : Hp) (t0 : Nat) : Option Int :=
    bd (fX12_spelled 104 101 97 100 0 0) fun r1 =>
    gd ((hK h t0).1 = 12) <|
    bd (fX12_isWord h t0 r1) fun r4 =>
    some r4

def fX12_isTail (h : Hp) (t0 : Nat) : Option Int :=
    bd (fX12_spelled 116 97 105 108 0 0) fun r1 =>
    gd ((hK h t0).1 = 12) <|
    bd (fX12_isWord h t0 r1) fun r4 =>
    some r4

def fX12_isCosts (h : Hp) (t0 : Nat) : Option Int :=
    bd (fX12_spelled 99 111 115 116 115 0) fun r1 =>
    gd ((hK h t0).1 = 12) <|
    bd (fX12_isWord h t0 r1) fun r4 =>
    some r4

def fX12_isWorth (h : Hp) (t0 : Nat) : Option Int :=
    bd (fX12_spelled 119 111 114 116 104 0) fun r1 =>
    gd ((hK h t0).1 = 12) <|
    bd (fX12_isWord h t0 r1) fun r4 =>
    some r4

def fX12_isBreaks (h : Hp) (t0 : Nat) : Option Int :=
    bd (fX12_spelled 98 114 101 97 107 115) fun r1 =>
    gd ((hK h t0).1 = 12) <|
    bd (fX12_isWord h t0 r1) fun r4 =>
    some r4

def fX12_isFill (h : Hp) (t0 : Nat) : Option Int :=
    bd (fX12_spelled 102 105 108 108 0 0) fun r1 =>
    gd ((hK h t0).1 = 12) <|
    bd (fX12_isWord h t0 r1) fun r4 =>
    some r4

def fX12_isOf (h : Hp) (t0 : Nat) : Option Int :=
    bd (fX12_spelled 111 102 0 0 0 0) fun r1 =>
    gd ((hK h t0).1 = 12) <|
    bd (fX12_isWord h t0 r1) fun r4 =>
    some r4

def fX12_isFrom (h : Hp) (t0 : Nat) : Option Int :=
    bd (fX12_spelled 102 114 111 109 0 0) fun r1 =>
    gd ((hK h t0).1 = 12) <|
    bd (fX12_isWord h t0 r1) fun r4 =>
    some r4

def fX12_isOn (h : Hp) (t0 : Nat) : Option Int :=
    bd (fX12_spelled 111 110 0 0 0 0) fun r1 =>
    gd ((hK h t0).1 = 12) <|
    bd (fX12_isWord h t0 r1) fun r4 =>
    some r4

def fX12_isMix (h : Hp) (t0 : Nat) : Option Int :=
    bd (fX12_spelled 109 105 120 0 0 0) fun r1 =>
    gd ((hK h t0).1 = 12) <|
    bd (fX12_isWord h t0 r1) fun r4 =>
    some r4

def fX12_isWith (h : Hp) (t0 : Nat) : Option Int :=
    bd (fX12_spelled 119 105 116 104 0 0) fun r1 =>
    gd ((hK h t0).1 = 12) <|
    bd (fX12_isWord h t0 r1) fun r4 =>
    some r4

def fX12_isGives (h : Hp) (t0 : Nat) : Option Int :=
    bd (fX12_spelled 103 105 118 101 115 0) fun r1 =>
    gd ((hK h t0).1 = 12) <|
    bd (fX12_isWord h t0 r1) fun r4 =>
    some r4

def fX12_isAny (h : Hp) (t0 : Nat) : Option Int :=
    bd (fX12_spelled 97 110 121 0 0 0) fun r1 =>
    gd ((hK h t0).1 = 12) <|
    bd (fX12_isWord h t0 r1) fun r4 =>
    some r4

def fX12_isSame (h : Hp) (t0 : Nat) : Option Int :=
    bd (fX12_spelled 115 97 109 101 0 0) fun r1 =>
    gd ((hK h t0).1 = 12) <|
    bd (fX12_isWord h t0 r1) fun r4 =>
    some r4

def fX12_isRest (h : Hp) (t0 : Nat) : Option Int :=
    bd (fX12_spelled 114 101 115 116 0 0) fun r1 =>
    gd ((hK h t0).1 = 12) <|
    bd (fX12_isWord h t0 r1) fun r4 =>
    some r4

def fX12_isFirst (h : Hp) (t0 : Nat) : Option Int :=
    bd (fX12_spelled 102 105 114 115 116 0) fun r1 =>
    gd ((hK h t0).1 = 12) <|
    bd (fX12_isWord h t0 r1) fun r4 =>
    some r4

def fX12_isSecond (h : Hp) (t0 : Nat) : Option Int :=
    bd (fX12_spelled 115 101 99 111 110 100) fun r1 =>
    gd ((hK h t0).1 = 12) <|
    bd (fX12_isWord h t0 r1) fun r4 =>
    some r4

def fX12_isKept (h : Hp) (t0 : Nat) : Option Int :=
    gd ((hK h t0).1 = 12) <|
    bd (fX12_isSound h t0) fun r2 =>
    if r2 = 0 then (
      bd (fX12_isJar h t0) fun r5 =>
      if r5 = 0 then (
        bd (fX12_isSize h t0) fun r8 =>
        if r8 = 0 then (
          bd (fX12_isLeaks h t0) fun r11 =>
          if r11 = 0 then (
            bd (fX12_isHead h t0) fun r14 =>
            if r14 = 0 then (
              bd (fX12_isTail h t0) fun r17 =>
              if r17 = 0 then (
                bd (fX12_isCosts h t0) fun r20 =>
                if r20 = 0 then (
                  bd (fX12_isWorth h t0) fun r23 =>
                  if r23 = 0 then (
                    bd (fX12_isBreaks h t0) fun r26 =>
                    if r26 = 0 then (
                      bd (fX12_isFill h t0) fun r29 =>
                      if r29 = 0 then (
                        bd (fX12_isOf h t0) fun r32 =>
                        if r32 = 0 then (
                          bd (fX12_isFrom h t0) fun r35 =>
                          if r35 = 0 then (
                            bd (fX12_isOn h t0) fun r38 =>
                            if r38 = 0 then (
                              bd (fX12_isMix h t0) fun r41 =>
                              if r41 = 0 then (
                                bd (fX12_isWith h t0) fun r44 =>
                                if r44 = 0 then (
                                  bd (fX12_isGives h t0) fun r47 =>
                                  if r47 = 0 then (
                                    bd (fX12_isAny h t0) fun r50 =>
                                    if r50 = 0 then (
                                      bd (fX12_isSame h t0) fun r53 =>
                                      if r53 = 0 then (
                                        bd (fX12_isRest h t0) fun r56 =>
                                        if r56 = 0 then (
                                          bd (fX12_isFirst h t0) fun r59 =>
                                          if r59 = 0 then (
                                            bd (fX12_isSecond h t0) fun r62 =>
                                            if r62 = 0 then (
                                              some 0)
                                            else
                                            some 1)
                                          else
                                          some 1)
                                        else
                                        some 1)
                                      else
                                      some 1)
                                    else
                                    some 1)
                                  else
                                  some 1)
                                else
                                some 1)
                              else
                              some 1)
                            else
                            some 1)
                          else
                          some 1)
                        else
                        some 1)
                      else
                      some 1)
                    else
                    some 1)
                  else
                  some 1)
                else
                some 1)
              else
              some 1)
            else
            some 1)
          else
          some 1)
        else
        some 1)
      else
      some 1)
    else
    some 1

def fX12_isName (h : Hp) (t0 : Nat) : Option Int :=
    gd ((hK h t0).1 = 12) <|
    if (gI h 782 t0) = 1 then (
      if (gI h 786 t0) ≤ 8 then (
        bd (fX12_isKept h t0) fun r4 =>
        if r4 = 0 then (
          some 1)
        else
        some 0)
      else
      some 0)
    else
    some 0

def fX12_wrong (h : Hp) (t0 : Nat) : Option Hp :=
    gd ((hK h t0).1 = 12) <|
    bd (fX12_fail h t0 (if (gI h 782 t0) = 4 then 1 else 2) (gI h 783 t0)) fun h5 =>
    some h5

def fX12_named_b2 (h : Hp) (t0 : Nat) (a1 : Int) (a2 : Int) : Nat → Int → Option Int
  | 0, _ => none
  | fu + 1, v3 =>
    if v3 < a2 then (
      gd ((hK h t0).1 = 12) <|
      nn (gR h 789 t0) fun q3 =>
      gd ((hK h q3).1 = 22) <|
      gd (inA (w32 (a1 + v3)) (hK h q3).2) <|
      if (gB h q3 (w32 (a1 + v3)).toNat) = (gJ h 787 t0) then (
        some v3)
      else
      lt (α := Int) (w32 (v3 + 1)) fun x7 =>
      fX12_named_b2 h t0 a1 a2 fu x7)
    else
    some (-1)

def fX12_named (h : Hp) (t0 : Nat) (a1 : Int) (a2 : Int) : Option Int :=
    fX12_named_b2 h t0 a1 a2 FU 0

def fX12_readNew_b64 (t0 : Nat) (a1 : Int) (a2 : Int) (h : Hp) : Option Hp :=
    gd ((hK h t0).1 = 12) <|
    if 0 < (gI h 780 t0) then (
      some h)
    else
    nn (gR h 789 t0) fun q3 =>
    gd ((hK h q3).1 = 22) <|
    gd (inA (w32 (a1 + a2)) (hK h q3).2) <|
    lt (α := Hp) (sB h q3 (w32 (a1 + a2)) (gJ h 787 t0)) fun h6 =>
    bd (fX12_next h6 t0) fun h9 =>
    some h9

def fX12_readNew_b55 (t0 : Nat) (a1 : Int) (a2 : Int) (h : Hp) : Option Hp :=
    gd ((hK h t0).1 = 12) <|
    bd (fX12_fail h t0 3 (gI h 783 t0)) fun h4 =>
    fX12_readNew_b64 t0 a1 a2 h4

def fX12_readNew_b15 (t0 : Nat) (a1 : Int) (a2 : Int) (h : Hp) : Option Hp :=
    gd ((hK h t0).1 = 12) <|
    if (gI h 780 t0) = 0 then (
      nn (gR h 788 t0) fun q3 =>
      gd ((hK h q3).1 = 21) <|
      gd (inA 1481 (hK h q3).2) <|
      bd (fX12_named h t0 0 (gA h q3 ((1481 : Int).toNat))) fun r6 =>
      if r6 < 0 then (
        gd (inA 1482 (hK h q3).2) <|
        bd (fX12_named h t0 8 (gA h q3 ((1482 : Int).toNat))) fun r10 =>
        if r10 < 0 then (
          fX12_readNew_b64 t0 a1 a2 h)
        else
        fX12_readNew_b55 t0 a1 a2 h)
      else
      fX12_readNew_b55 t0 a1 a2 h)
    else
    fX12_readNew_b64 t0 a1 a2 h

def fX12_readNew (h : Hp) (t0 : Nat) (a1 : Int) (a2 : Int) : Option Hp :=
    gd ((hK h t0).1 = 12) <|
    bd (fX12_next h t0) fun h4 =>
    gd ((hK h4 t0).1 = 12) <|
    bd (fX12_isName h4 t0) fun r6 =>
    if r6 = 0 then (
      bd (fX12_wrong h4 t0) fun h11 =>
      fX12_readNew_b15 t0 a1 a2 h11)
    else
    fX12_readNew_b15 t0 a1 a2 h4

def fX12_readSound_b91 (t0 : Nat) : Nat → Hp → Int → Int → Option Hp
  | 0, _, _, _ => none
  | fu + 1, h, v1, v2 =>
    gd ((hK h t0).1 = 12) <|
    if v2 < (gI h 786 t0) then (
      nn (gR h 788 t0) fun q12 =>
      bd (fX12_look2 h t0 (w32 ((gI h 783 t0) + v2))) fun r13 =>
      gd ((hK h q12).1 = 21) <|
      gd (inA (w32 ((w32 (1492 + (w32 (16 * v1)))) + v2)) (hK h q12).2) <|
      lt (α := Hp) (sA h q12 (w32 ((w32 (1492 + (w32 (16 * v1)))) + v2)) (w32 (r13 - 96))) fun h17 =>
      lt (α := Int) (w32 (v2 + 1)) fun x18 =>
      fX12_readSound_b91 t0 fu h17 v1 x18)
    else
    bd (fX12_next h t0) fun h5 =>
    gd ((hK h5 t0).1 = 12) <|
    nn (gR h5 788 t0) fun q7 =>
    gd ((hK h5 q7).1 = 21) <|
    gd (inA 1481 (hK h5 q7).2) <|
    gd (inA 1481 (hK h5 q7).2) <|
    lt (α := Hp) (sA h5 q7 1481 (w32 ((gA h5 q7 ((1481 : Int).toNat)) + 1))) fun h11 =>
    some h11

def fX12_readSound_b67 (t0 : Nat) (h : Hp) (v1 : Int) : Option Hp :=
    gd ((hK h t0).1 = 12) <|
    if 0 < (gI h 780 t0) then (
      some h)
    else
    nn (gR h 788 t0) fun q3 =>
    gd ((hK h q3).1 = 21) <|
    gd (inA (w32 (1484 + v1)) (hK h q3).2) <|
    lt (α := Hp) (sA h q3 (w32 (1484 + v1)) (gI h 786 t0)) fun h6 =>
    fX12_readSound_b91 t0 FU h6 v1 0

def fX12_readSound_b63 (t0 : Nat) (h : Hp) (v1 : Int) : Option Hp :=
    gd ((hK h t0).1 = 12) <|
    bd (fX12_wrong h t0) fun h4 =>
    fX12_readSound_b67 t0 h4 v1

def fX12_readSound_b25 (t0 : Nat) (h : Hp) (v1 : Int) : Option Hp :=
    gd ((hK h t0).1 = 12) <|
    if 0 < (gI h 780 t0) then (
      some h)
    else
    bd (fX12_readNew h t0 0 v1) fun h5 =>
    gd ((hK h5 t0).1 = 12) <|
    if (gI h5 780 t0) = 0 then (
      if (gI h5 782 t0) = 1 then (
        if (gI h5 786 t0) ≤ 16 then (
          fX12_readSound_b67 t0 h5 v1)
        else
        fX12_readSound_b63 t0 h5 v1)
      else
      fX12_readSound_b63 t0 h5 v1)
    else
    fX12_readSound_b67 t0 h5 v1

def fX12_readSound (h : Hp) (t0 : Nat) : Option Hp :=
    gd ((hK h t0).1 = 12) <|
    nn (gR h 788 t0) fun q2 =>
    gd ((hK h q2).1 = 21) <|
    gd (inA 1481 (hK h q2).2) <|
    lt (α := Int) (gA h q2 ((1481 : Int).toNat)) fun x5 =>
    if x5 = 8 then (
      bd (fX12_fail h t0 6 (gI h 783 t0)) fun h9 =>
      fX12_readSound_b25 t0 h9 x5)
    else
    fX12_readSound_b25 t0 h x5

def fX12_must (h : Hp) (t0 : Nat) (a1 : Int) : Option Hp :=
    gd ((hK h t0).1 = 12) <|
    if 0 < (gI h 780 t0) then (
      some h)
    else
    if a1 = 0 then (
      bd (fX12_wrong h t0) fun h6 =>
      some h6)
    else
    bd (fX12_next h t0) fun h9 =>
    some h9

def fX12_isIn (a1 : Int) (a2 : Int) (a3 : Int) : Option Int :=
    if a1 < a2 then (
      some 0)
    else
    if a3 < a1 then (
      some 0)
    else
    some 1

def fX12_count_b50 (t0 : Nat) (a1 : Int) (a2 : Int) (h : Hp) : Option (Int × Hp) :=
    gd ((hK h t0).1 = 12) <|
    if 0 < (gI h 780 t0) then (
      some (0, h))
    else
    lt (α := Int) (gI h 785 t0) fun x3 =>
    bd (fX12_next h t0) fun h6 =>
    some (x3, h6)

def fX12_count_b19 (t0 : Nat) (a1 : Int) (a2 : Int) (h : Hp) : Option (Int × Hp) :=
    gd ((hK h t0).1 = 12) <|
    if (gI h 780 t0) = 0 then (
      bd (fX12_isIn (gI h 785 t0) a1 a2) fun r3 =>
      if r3 = 0 then (
        bd (fX12_fail h t0 4 (gI h 783 t0)) fun h8 =>
        fX12_count_b50 t0 a1 a2 h8)
      else
      fX12_count_b50 t0 a1 a2 h)
    else
    fX12_count_b50 t0 a1 a2 h

def fX12_count (h : Hp) (t0 : Nat) (a1 : Int) (a2 : Int) : Option (Int × Hp) :=
    gd ((hK h t0).1 = 12) <|
    if (gI h 780 t0) = 0 then (
      if (gI h 782 t0) = 2 then (
        fX12_count_b19 t0 a1 a2 h)
      else
      bd (fX12_wrong h t0) fun h6 =>
      fX12_count_b19 t0 a1 a2 h6)
    else
    fX12_count_b19 t0 a1 a2 h

def fX12_told (h : Hp) (t0 : Nat) (a1 : Int) (a2 : Int) (a3 : Int) (a4 : Int) : Option (Int × Hp) :=
    gd ((hK h t0).1 = 12) <|
    if 0 < (gI h 780 t0) then (
      some (a2, h))
    else
    if a1 = 0 then (
      some (a2, h))
    else
    bd (fX12_next h t0) fun h6 =>
    gd ((hK h6 t0).1 = 12) <|
    bd2 (fX12_count h6 t0 a3 a4) fun r8 h10 =>
    some (r8, h10)

def fX12_readJar_b173 (t0 : Nat) (h : Hp) (v1 : Int) (s0 : Int) (s1 : Int) (s2 : Nat) : Option Hp :=
    gd ((hK h s2).1 = 21) <|
    gd (inA s1 (hK h s2).2) <|
    lt (α := Hp) (sA h s2 s1 s0) fun h3 =>
    gd ((hK h3 t0).1 = 12) <|
    nn (gR h3 788 t0) fun q5 =>
    bd (fX12_isCosts h3 t0) fun r6 =>
    bd2 (fX12_told h3 t0 r6 0 0 99) fun r8 h10 =>
    gd ((hK h10 q5).1 = 21) <|
    gd (inA (w32 (1644 + v1)) (hK h10 q5).2) <|
    lt (α := Hp) (sA h10 q5 (w32 (1644 + v1)) r8) fun h13 =>
    gd ((hK h13 t0).1 = 12) <|
    nn (gR h13 788 t0) fun q15 =>
    bd (fX12_isWorth h13 t0) fun r16 =>
    bd2 (fX12_told h13 t0 r16 1 0 99) fun r18 h20 =>
    gd ((hK h20 q15).1 = 21) <|
    gd (inA (w32 (1652 + v1)) (hK h20 q15).2) <|
    lt (α := Hp) (sA h20 q15 (w32 (1652 + v1)) r18) fun h23 =>
    gd ((hK h23 t0).1 = 12) <|
    nn (gR h23 788 t0) fun q25 =>
    bd (fX12_isBreaks h23 t0) fun r26 =>
    bd2 (fX12_told h23 t0 r26 0 0 15) fun r28 h30 =>
    gd ((hK h30 q25).1 = 21) <|
    gd (inA (w32 (1660 + v1)) (hK h30 q25).2) <|
    lt (α := Hp) (sA h30 q25 (w32 (1660 + v1)) r28) fun h33 =>
    gd ((hK h33 t0).1 = 12) <|
    if (gI h33 780 t0) = 0 then (
      nn (gR h33 788 t0) fun q36 =>
      gd ((hK h33 q36).1 = 21) <|
      gd (inA 1482 (hK h33 q36).2) <|
      gd (inA 1482 (hK h33 q36).2) <|
      lt (α := Hp) (sA h33 q36 1482 (w32 ((gA h33 q36 ((1482 : Int).toNat)) + 1))) fun h40 =>
      some h40)
    else
    some h33

def fX12_readJar_b146 (t0 : Nat) (h : Hp) (v1 : Int) (v2 : Int) (v3 : Int) : Option Hp :=
    gd ((hK h t0).1 = 12) <|
    nn (gR h 788 t0) fun q2 =>
    if v2 = v3 then (
      fX12_readJar_b173 t0 h v1 2 (w32 (1636 + v1)) q2)
    else
    if v2 = 0 then (
      fX12_readJar_b173 t0 h v1 1 (w32 (1636 + v1)) q2)
    else
    fX12_readJar_b173 t0 h v1 0 (w32 (1636 + v1)) q2

def fX12_readJar_b137 (t0 : Nat) (h : Hp) (v1 : Int) (v2 : Int) (s0 : Int) : Option Hp :=
    if s0 = 0 then (
      fX12_readJar_b146 t0 h v1 v2 s0)
    else
    gd ((hK h t0).1 = 12) <|
    bd (fX12_next h t0) fun h5 =>
    fX12_readJar_b146 t0 h5 v1 v2 s0

def fX12_readJar_b136 (t0 : Nat) (h : Hp) (v1 : Int) (v2 : Int) : Option Hp :=
    fX12_readJar_b137 t0 h v1 v2 0

def fX12_readJar_b118 (t0 : Nat) (h : Hp) (v1 : Int) (v2 : Int) : Option Hp :=
    gd ((hK h t0).1 = 12) <|
    if (gI h 780 t0) = 0 then (
      bd (fX12_isTail h t0) fun r3 =>
      if r3 = 0 then (
        fX12_readJar_b136 t0 h v1 v2)
      else
      fX12_readJar_b137 t0 h v1 v2 1)
    else
    fX12_readJar_b136 t0 h v1 v2

def fX12_readJar_b109 (t0 : Nat) (h : Hp) (v1 : Int) (s0 : Int) : Option Hp :=
    if s0 = 0 then (
      fX12_readJar_b118 t0 h v1 s0)
    else
    gd ((hK h t0).1 = 12) <|
    bd (fX12_next h t0) fun h5 =>
    fX12_readJar_b118 t0 h5 v1 s0

def fX12_readJar_b108 (t0 : Nat) (h : Hp) (v1 : Int) : Option Hp :=
    fX12_readJar_b109 t0 h v1 0

def fX12_readJar_b25 (t0 : Nat) (h : Hp) (v1 : Int) : Option Hp :=
    gd ((hK h t0).1 = 12) <|
    if 0 < (gI h 780 t0) then (
      some h)
    else
    bd (fX12_readNew h t0 8 v1) fun h5 =>
    gd ((hK h5 t0).1 = 12) <|
    bd (fX12_isSize h5 t0) fun r7 =>
    bd (fX12_must h5 t0 r7) fun h11 =>
    gd ((hK h11 t0).1 = 12) <|
    nn (gR h11 788 t0) fun q13 =>
    bd2 (fX12_count h11 t0 1 12) fun r14 h16 =>
    gd ((hK h16 q13).1 = 21) <|
    gd (inA (w32 (1620 + v1)) (hK h16 q13).2) <|
    lt (α := Hp) (sA h16 q13 (w32 (1620 + v1)) r14) fun h19 =>
    gd ((hK h19 t0).1 = 12) <|
    bd (fX12_isLeaks h19 t0) fun r21 =>
    bd (fX12_must h19 t0 r21) fun h25 =>
    gd ((hK h25 t0).1 = 12) <|
    nn (gR h25 788 t0) fun q27 =>
    bd2 (fX12_count h25 t0 0 99) fun r28 h30 =>
    gd ((hK h30 q27).1 = 21) <|
    gd (inA (w32 (1628 + v1)) (hK h30 q27).2) <|
    lt (α := Hp) (sA h30 q27 (w32 (1628 + v1)) r28) fun h33 =>
    gd ((hK h33 t0).1 = 12) <|
    if (gI h33 780 t0) = 0 then (
      bd (fX12_isHead h33 t0) fun r36 =>
      if r36 = 0 then (
        fX12_readJar_b108 t0 h33 v1)
      else
      fX12_readJar_b109 t0 h33 v1 1)
    else
    fX12_readJar_b108 t0 h33 v1

def fX12_readJar (h : Hp) (t0 : Nat) : Option Hp :=
    gd ((hK h t0).1 = 12) <|
    nn (gR h 788 t0) fun q2 =>
    gd ((hK h q2).1 = 21) <|
    gd (inA 1482 (hK h q2).2) <|
    lt (α := Int) (gA h q2 ((1482 : Int).toNat)) fun x5 =>
    if x5 = 8 then (
      bd (fX12_fail h t0 6 (gI h 783 t0)) fun h9 =>
      fX12_readJar_b25 t0 h9 x5)
    else
    fX12_readJar_b25 t0 h x5

def fX12_readTold_b35 (t0 : Nat) (a1 : Int) (a2 : Int) (h : Hp) (s0 : Int) : Option (Int × Hp) :=
    gd ((hK h t0).1 = 12) <|
    if (gI h 780 t0) = 0 then (
      if s0 < 0 then (
        bd (fX12_fail h t0 3 (gI h 783 t0)) fun h6 =>
        some (s0, h6))
      else
      some (s0, h))
    else
    some (s0, h)

def fX12_readTold_b18 (t0 : Nat) (a1 : Int) (a2 : Int) (h : Hp) : Option (Int × Hp) :=
    gd ((hK h t0).1 = 12) <|
    if (gI h 780 t0) = 0 then (
      bd (fX12_named h t0 a1 a2) fun r3 =>
      fX12_readTold_b35 t0 a1 a2 h r3)
    else
    fX12_readTold_b35 t0 a1 a2 h 0

def fX12_readTold (h : Hp) (t0 : Nat) (a1 : Int) (a2 : Int) : Option (Int × Hp) :=
    gd ((hK h t0).1 = 12) <|
    if (gI h 780 t0) = 0 then (
      bd (fX12_isName h t0) fun r3 =>
      if r3 = 0 then (
        bd (fX12_wrong h t0) fun h8 =>
        fX12_readTold_b18 t0 a1 a2 h8)
      else
      fX12_readTold_b18 t0 a1 a2 h)
    else
    fX12_readTold_b18 t0 a1 a2 h

def fX12_readFill_b208 (t0 : Nat) : Nat → Hp → Int → Int → Int → Int → Int → Option Hp
  | 0, _, _, _, _, _, _ => none
  | fu + 1, h, v1, v2, v3, v5, v6 =>
    if v6 < v5 then (
      gd ((hK h t0).1 = 12) <|
      nn (gR h 788 t0) fun q3 =>
      gd ((hK h q3).1 = 21) <|
      gd (inA (w32 ((w32 ((w32 (1492 + (w32 (16 * v2)))) + v3)) + v6)) (hK h q3).2) <|
      gd (inA (w32 ((w32 (1692 + (w32 (12 * v1)))) + v6)) (hK h q3).2) <|
      lt (α := Hp) (sA h q3 (w32 ((w32 (1692 + (w32 (12 * v1)))) + v6)) (gA h q3 (w32 ((w32 ((w32 (1492 + (w32 (16 * v2)))) + v3)) + v6)).toNat)) fun h7 =>
      lt (α := Int) (w32 (v6 + 1)) fun x8 =>
      fX12_readFill_b208 t0 fu h7 v1 v2 v3 v5 x8)
    else
    some h

def fX12_readFill_b113 (t0 : Nat) (h : Hp) (v1 : Int) (v2 : Int) (s0 : Int) (s1 : Int) (s2 : Nat) : Option Hp :=
    gd ((hK h s2).1 = 12) <|
    bd2 (fX12_count h s2 s1 s0) fun r2 h4 =>
    gd ((hK h4 t0).1 = 12) <|
    bd (fX12_isOn h4 t0) fun r6 =>
    bd (fX12_must h4 t0 r6) fun h10 =>
    gd ((hK h10 t0).1 = 12) <|
    bd2 (fX12_count h10 t0 0 999) fun r12 h14 =>
    gd ((hK h14 t0).1 = 12) <|
    if 0 < (gI h14 780 t0) then (
      some h14)
    else
    nn (gR h14 788 t0) fun q17 =>
    gd ((hK h14 q17).1 = 21) <|
    gd (inA (w32 (1620 + v1)) (hK h14 q17).2) <|
    gd (inA (w32 (1484 + v2)) (hK h14 q17).2) <|
    lt (α := Int) (min (gA h14 q17 (w32 (1620 + v1)).toNat) (w32 ((gA h14 q17 (w32 (1484 + v2)).toNat) - r2))) fun x21 =>
    gd (inA (w32 (1668 + v1)) (hK h14 q17).2) <|
    lt (α := Hp) (sA h14 q17 (w32 (1668 + v1)) x21) fun h23 =>
    nn (gR h23 788 t0) fun q24 =>
    gd ((hK h23 q24).1 = 21) <|
    gd (inA (w32 (1676 + v1)) (hK h23 q24).2) <|
    lt (α := Hp) (sA h23 q24 (w32 (1676 + v1)) r12) fun h27 =>
    nn (gR h27 788 t0) fun q28 =>
    gd ((hK h27 q28).1 = 21) <|
    gd (inA (w32 (1684 + v1)) (hK h27 q28).2) <|
    lt (α := Hp) (sA h27 q28 (w32 (1684 + v1)) v2) fun h31 =>
    fX12_readFill_b208 t0 FU h31 v1 v2 r2 x21 0

def fX12_readFill_b48 (t0 : Nat) (h : Hp) (v1 : Int) : Option Hp :=
    gd ((hK h t0).1 = 12) <|
    bd (fX12_must h t0 1) fun h4 =>
    gd ((hK h4 t0).1 = 12) <|
    bd (fX12_isOf h4 t0) fun r6 =>
    bd (fX12_must h4 t0 r6) fun h10 =>
    gd ((hK h10 t0).1 = 12) <|
    nn (gR h10 788 t0) fun q12 =>
    gd ((hK h10 q12).1 = 21) <|
    gd (inA 1481 (hK h10 q12).2) <|
    bd2 (fX12_readTold h10 t0 0 (gA h10 q12 ((1481 : Int).toNat))) fun r15 h17 =>
    gd ((hK h17 t0).1 = 12) <|
    bd (fX12_must h17 t0 1) fun h21 =>
    gd ((hK h21 t0).1 = 12) <|
    bd (fX12_isFrom h21 t0) fun r23 =>
    bd (fX12_must h21 t0 r23) fun h27 =>
    gd ((hK h27 t0).1 = 12) <|
    if (gI h27 780 t0) = 0 then (
      nn (gR h27 788 t0) fun q30 =>
      gd ((hK h27 q30).1 = 21) <|
      gd (inA (w32 (1484 + r15)) (hK h27 q30).2) <|
      fX12_readFill_b113 t0 h27 v1 r15 (w32 ((gA h27 q30 (w32 (1484 + r15)).toNat) - 1)) 0 t0)
    else
    fX12_readFill_b113 t0 h27 v1 r15 0 0 t0

def fX12_readFill (h : Hp) (t0 : Nat) : Option Hp :=
    gd ((hK h t0).1 = 12) <|
    bd (fX12_next h t0) fun h4 =>
    gd ((hK h4 t0).1 = 12) <|
    nn (gR h4 788 t0) fun q6 =>
    gd ((hK h4 q6).1 = 21) <|
    gd (inA 1482 (hK h4 q6).2) <|
    bd2 (fX12_readTold h4 t0 8 (gA h4 q6 ((1482 : Int).toNat))) fun r9 h11 =>
    gd ((hK h11 t0).1 = 12) <|
    if (gI h11 780 t0) = 0 then (
      nn (gR h11 788 t0) fun q14 =>
      gd ((hK h11 q14).1 = 21) <|
      gd (inA (w32 (1668 + r9)) (hK h11 q14).2) <|
      if 0 < (gA h11 q14 (w32 (1668 + r9)).toNat) then (
        bd (fX12_fail h11 t0 5 (gI h11 783 t0)) fun h20 =>
        fX12_readFill_b48 t0 h20 r9)
      else
      fX12_readFill_b48 t0 h11 r9)
    else
    fX12_readFill_b48 t0 h11 r9

def fX12_isWell_b24 (t0 : Nat) (h : Hp) (s0 : Int) (s1 : Nat) : Option (Int × Hp) :=
    gd ((hK h s1).1 = 12) <|
    lt (α := Hp) (pI h 779 s1 s0) fun h2 =>
    gd ((hK h2 t0).1 = 12) <|
    if (gI h2 780 t0) = 0 then (
      some (1, h2))
    else
    bd2 (fX12_no h2 t0 10) fun r5 h7 =>
    if r5 = 0 then (
      some (0, h7))
    else
    some (1, h7)

def fX12_isWell (h : Hp) (t0 : Nat) : Option (Int × Hp) :=
    gd ((hK h t0).1 = 12) <|
    lt (α := Hp) (pI h 778 t0 (gI h 780 t0)) fun h2 =>
    if (gI h2 780 t0) = 0 then (
      fX12_isWell_b24 t0 h2 (-1) t0)
    else
    fX12_isWell_b24 t0 h2 (gI h2 781 t0) t0

def fX12_shop_b109 (t0 : Nat) (a1 : Int) (k49 : Hp → Option (Int × Hp)) (h : Hp) : Option (Int × Hp) :=
    gd ((hK h t0).1 = 12) <|
    bd (fX12_must h t0 (if (gI h 782 t0) = 3 then 1 else 0)) fun h5 =>
    k49 h5

def fX12_shop_b140 (t0 : Nat) (a1 : Int) : Nat → Hp → Int → Option (Int × Hp)
  | 0, _, _ => none
  | fu + 1, h, v2 =>
    if v2 < 370 then (
      gd ((hK h t0).1 = 12) <|
      nn (gR h 788 t0) fun q8 =>
      gd ((hK h q8).1 = 21) <|
      gd (inA (w32 (1480 + v2)) (hK h q8).2) <|
      gd (inA v2 (hK h q8).2) <|
      lt (α := Hp) (sA h q8 v2 (gA h q8 (w32 (1480 + v2)).toNat)) fun h12 =>
      lt (α := Int) (w32 (v2 + 1)) fun x13 =>
      fX12_shop_b140 t0 a1 fu h12 x13)
    else
    gd ((hK h t0).1 = 12) <|
    lt (α := Hp) (pI h 813 t0 0) fun h3 =>
    nn (gR h3 788 t0) fun q4 =>
    gd ((hK h3 q4).1 = 21) <|
    gd (inA 2 (hK h3 q4).2) <|
    some (gA h3 q4 ((2 : Int).toNat), h3)

def fX12_shop_b129 (t0 : Nat) (a1 : Int) (h : Hp) : Option (Int × Hp) :=
    gd ((hK h t0).1 = 12) <|
    bd2 (fX12_isWell h t0) fun r2 h4 =>
    if r2 = 0 then (
      some ((-1), h4))
    else
    fX12_shop_b140 t0 a1 FU h4 0

def fX12_shop_b49 (t0 : Nat) (a1 : Int) : Nat → Hp → Option (Int × Hp)
  | 0, _ => none
  | fu + 1, h =>
    gd ((hK h t0).1 = 12) <|
    if (gI h 780 t0) = 0 then (
      if (gI h 782 t0) = 0 then (
        fX12_shop_b129 t0 a1 h)
      else
      bd (fX12_isSound h t0) fun r4 =>
      if r4 = 0 then (
        bd (fX12_isJar h t0) fun r7 =>
        if r7 = 0 then (
          bd (fX12_isFill h t0) fun r10 =>
          if r10 = 0 then (
            bd (fX12_wrong h t0) fun h15 =>
            fX12_shop_b109 t0 a1 (fX12_shop_b49 t0 a1 fu) h15)
          else
          bd (fX12_readFill h t0) fun h18 =>
          fX12_shop_b109 t0 a1 (fX12_shop_b49 t0 a1 fu) h18)
        else
        bd (fX12_readJar h t0) fun h21 =>
        fX12_shop_b109 t0 a1 (fX12_shop_b49 t0 a1 fu) h21)
      else
      bd (fX12_readSound h t0) fun h24 =>
      fX12_shop_b109 t0 a1 (fX12_shop_b49 t0 a1 fu) h24)
    else
    fX12_shop_b129 t0 a1 h

def fX12_shop_b25 (t0 : Nat) (a1 : Int) : Nat → Hp → Int → Option (Int × Hp)
  | 0, _, _ => none
  | fu + 1, h, v2 =>
    if v2 < 370 then (
      gd ((hK h t0).1 = 12) <|
      nn (gR h 788 t0) fun q3 =>
      gd ((hK h q3).1 = 21) <|
      gd (inA (w32 (1480 + v2)) (hK h q3).2) <|
      lt (α := Hp) (sA h q3 (w32 (1480 + v2)) 0) fun h6 =>
      lt (α := Int) (w32 (v2 + 1)) fun x7 =>
      fX12_shop_b25 t0 a1 fu h6 x7)
    else
    fX12_shop_b49 t0 a1 FU h

def fX12_shop (h : Hp) (t0 : Nat) (a1 : Int) : Option (Int × Hp) :=
    gd ((hK h t0).1 = 12) <|
    lt (α := Hp) (pI h 769 t0 0) fun h2 =>
    lt (α := Hp) (pI h2 768 t0 0) fun h3 =>
    bd2 (fX12_opens h3 t0 a1 900) fun r4 h6 =>
    if r4 = 0 then (
      some ((-1), h6))
    else
    fX12_shop_b25 t0 a1 FU h6 0

def fX12_readKind_b58 (t0 : Nat) (h : Hp) (s0 : Int) : Option (Int × Hp) :=
    gd ((hK h t0).1 = 12) <|
    bd (fX12_must h t0 (if s0 < 0 then 0 else 1)) fun h5 =>
    some (s0, h5)

def fX12_readKind (h : Hp) (t0 : Nat) : Option (Int × Hp) :=
    gd ((hK h t0).1 = 12) <|
    if (gI h 782 t0) = 1 then (
      if (gI h 786 t0) = 1 then (
        bd (fX12_look2 h t0 (gI h 783 t0)) fun r10 =>
        fX12_readKind_b58 t0 h (w32 (r10 - 96)))
      else
      bd (fX12_isAny h t0) fun r4 =>
      if r4 = 0 then (
        bd (fX12_isRest h t0) fun r7 =>
        if r7 = 0 then (
          fX12_readKind_b58 t0 h (-1))
        else
        fX12_readKind_b58 t0 h 0)
      else
      fX12_readKind_b58 t0 h 27)
    else
    fX12_readKind_b58 t0 h (-1)

def fX12_readWhat_b70 (t0 : Nat) (h : Hp) (s0 : Int) : Option (Int × Hp) :=
    gd ((hK h t0).1 = 12) <|
    bd (fX12_must h t0 (if s0 < 0 then 0 else 1)) fun h5 =>
    some (s0, h5)

def fX12_readWhat (h : Hp) (t0 : Nat) : Option (Int × Hp) :=
    gd ((hK h t0).1 = 12) <|
    if (gI h 782 t0) = 1 then (
      if (gI h 786 t0) = 1 then (
        bd (fX12_look2 h t0 (gI h 783 t0)) fun r13 =>
        fX12_readWhat_b70 t0 h (w32 (r13 - 96)))
      else
      bd (fX12_isRest h t0) fun r4 =>
      if r4 = 0 then (
        bd (fX12_isFirst h t0) fun r7 =>
        if r7 = 0 then (
          bd (fX12_isSecond h t0) fun r10 =>
          if r10 = 0 then (
            fX12_readWhat_b70 t0 h (-1))
          else
          fX12_readWhat_b70 t0 h 28)
        else
        fX12_readWhat_b70 t0 h 27)
      else
      fX12_readWhat_b70 t0 h 0)
    else
    fX12_readWhat_b70 t0 h (-1)

def fX12_readRule_b37 (t0 : Nat) (h : Hp) : Option Hp :=
    gd ((hK h t0).1 = 12) <|
    if 0 < (gI h 780 t0) then (
      some h)
    else
    bd (fX12_next h t0) fun h5 =>
    gd ((hK h5 t0).1 = 12) <|
    lt (α := Int) (w32 (1788 + (w32 (3 * (gI h5 794 t0))))) fun x7 =>
    nn (gR h5 788 t0) fun q8 =>
    bd2 (fX12_readKind h5 t0) fun r9 h11 =>
    gd ((hK h11 q8).1 = 21) <|
    gd (inA x7 (hK h11 q8).2) <|
    lt (α := Hp) (sA h11 q8 x7 r9) fun h14 =>
    gd ((hK h14 t0).1 = 12) <|
    bd (fX12_isWith h14 t0) fun r16 =>
    bd (fX12_must h14 t0 r16) fun h20 =>
    gd ((hK h20 t0).1 = 12) <|
    nn (gR h20 788 t0) fun q22 =>
    bd2 (fX12_readKind h20 t0) fun r23 h25 =>
    gd ((hK h25 q22).1 = 21) <|
    gd (inA (w32 (x7 + 1)) (hK h25 q22).2) <|
    lt (α := Hp) (sA h25 q22 (w32 (x7 + 1)) r23) fun h28 =>
    gd ((hK h28 t0).1 = 12) <|
    bd (fX12_isGives h28 t0) fun r30 =>
    bd (fX12_must h28 t0 r30) fun h34 =>
    gd ((hK h34 t0).1 = 12) <|
    nn (gR h34 788 t0) fun q36 =>
    bd2 (fX12_readWhat h34 t0) fun r37 h39 =>
    gd ((hK h39 q36).1 = 21) <|
    gd (inA (w32 (x7 + 2)) (hK h39 q36).2) <|
    lt (α := Hp) (sA h39 q36 (w32 (x7 + 2)) r37) fun h42 =>
    gd ((hK h42 t0).1 = 12) <|
    bd (fX12_must h42 t0 (if (gI h42 782 t0) = 3 then 1 else 0)) fun h47 =>
    gd ((hK h47 t0).1 = 12) <|
    if (gI h47 780 t0) = 0 then (
      lt (α := Hp) (pI h47 794 t0 (w32 ((gI h47 794 t0) + 1))) fun h50 =>
      some h50)
    else
    some h47

def fX12_readRule_b11 (t0 : Nat) (h : Hp) : Option Hp :=
    gd ((hK h t0).1 = 12) <|
    if (gI h 780 t0) = 0 then (
      if (gI h 794 t0) = 12 then (
        bd (fX12_fail h t0 6 (gI h 783 t0)) fun h6 =>
        fX12_readRule_b37 t0 h6)
      else
      fX12_readRule_b37 t0 h)
    else
    fX12_readRule_b37 t0 h

def fX12_readRule (h : Hp) (t0 : Nat) : Option Hp :=
    gd ((hK h t0).1 = 12) <|
    bd (fX12_isMix h t0) fun r2 =>
    if r2 = 0 then (
      bd (fX12_wrong h t0) fun h7 =>
      fX12_readRule_b11 t0 h7)
    else
    fX12_readRule_b11 t0 h

def fX12_law_b72 (t0 : Nat) (a1 : Int) : Nat → Hp → Int → Option (Int × Hp)
  | 0, _, _ => none
  | fu + 1, h, v2 =>
    if v2 < 370 then (
      gd ((hK h t0).1 = 12) <|
      nn (gR h 788 t0) fun q4 =>
      gd ((hK h q4).1 = 21) <|
      gd (inA (w32 (1480 + v2)) (hK h q4).2) <|
      gd (inA v2 (hK h q4).2) <|
      lt (α := Hp) (sA h q4 v2 (gA h q4 (w32 (1480 + v2)).toNat)) fun h8 =>
      lt (α := Int) (w32 (v2 + 1)) fun x9 =>
      fX12_law_b72 t0 a1 fu h8 x9)
    else
    gd ((hK h t0).1 = 12) <|
    some (gI h 794 t0, h)

def fX12_law_b49 (t0 : Nat) (a1 : Int) (h : Hp) : Option (Int × Hp) :=
    gd ((hK h t0).1 = 12) <|
    bd2 (fX12_isWell h t0) fun r2 h4 =>
    if r2 = 0 then (
      some ((-1), h4))
    else
    gd ((hK h4 t0).1 = 12) <|
    nn (gR h4 788 t0) fun q7 =>
    gd ((hK h4 q7).1 = 21) <|
    gd (inA 3 (hK h4 q7).2) <|
    lt (α := Hp) (sA h4 q7 3 (gI h4 794 t0)) fun h10 =>
    fX12_law_b72 t0 a1 FU h10 308

def fX12_law_b28 (t0 : Nat) (a1 : Int) : Nat → Hp → Option (Int × Hp)
  | 0, _ => none
  | fu + 1, h =>
    gd ((hK h t0).1 = 12) <|
    if (gI h 780 t0) = 0 then (
      if (gI h 782 t0) = 0 then (
        fX12_law_b49 t0 a1 h)
      else
      bd (fX12_readRule h t0) fun h6 =>
      fX12_law_b28 t0 a1 fu h6)
    else
    fX12_law_b49 t0 a1 h

def fX12_law (h : Hp) (t0 : Nat) (a1 : Int) : Option (Int × Hp) :=
    gd ((hK h t0).1 = 12) <|
    lt (α := Hp) (pI h 769 t0 0) fun h2 =>
    lt (α := Hp) (pI h2 768 t0 0) fun h3 =>
    bd2 (fX12_opens h3 t0 a1 300) fun r4 h6 =>
    if r4 = 0 then (
      some ((-1), h6))
    else
    gd ((hK h6 t0).1 = 12) <|
    lt (α := Hp) (pI h6 794 t0 0) fun h9 =>
    fX12_law_b28 t0 a1 FU h9

def fX12_empties_b4 (c0 : Nat → Int) : Nat → Int → Int → Option Int
  | 0, _, _ => none
  | fu + 1, v1, v2 =>
    gd (inA 2 1850) <|
    if v2 < (c0 ((2 : Int).toNat)) then (
      gd (inA (w32 (188 + v2)) 1850) <|
      lt (α := Int) (w32 (v1 + (if (c0 (w32 (188 + v2)).toNat) = 0 then 1 else 0))) fun x5 =>
      lt (α := Int) (w32 (v2 + 1)) fun x6 =>
      fX12_empties_b4 c0 fu x5 x6)
    else
    some v1

def fX12_empties (c0 : Nat → Int) : Option Int :=
    fX12_empties_b4 c0 FU 0 0

def fX12_refuse (h : Hp) (t0 : Nat) (a1 : Int) : Option (Int × Hp) :=
    gd ((hK h t0).1 = 12) <|
    lt (α := Hp) (pI h 768 t0 a1) fun h2 =>
    some ((-1), h2)

def fX12_many (h : Hp) (t0 : Nat) (a1 : Int) : Option (Int × Hp) :=
    gd ((hK h t0).1 = 12) <|
    lt (α := Hp) (pI h 769 t0 0) fun h2 =>
    lt (α := Hp) (pI h2 768 t0 0) fun h3 =>
    if a1 = 0 then (
      nn (gR h3 788 t0) fun q5 =>
      gd ((hK h3 q5).1 = 21) <|
      gd (inA 1 (hK h3 q5).2) <|
      some (gA h3 q5 ((1 : Int).toNat), h3))
    else
    if a1 = 1 then (
      nn (gR h3 788 t0) fun q9 =>
      gd ((hK h3 q9).1 = 21) <|
      gd (inA 2 (hK h3 q9).2) <|
      some (gA h3 q9 ((2 : Int).toNat), h3))
    else
    if a1 = 2 then (
      nn (gR h3 788 t0) fun q13 =>
      gd ((hK h3 q13).1 = 21) <|
      gd (inA 3 (hK h3 q13).2) <|
      some (gA h3 q13 ((3 : Int).toNat), h3))
    else
    if a1 = 3 then (
      nn (gR h3 788 t0) fun q17 =>
      gd ((hK h3 q17).1 = 21) <|
      gd (inA 0 (hK h3 q17).2) <|
      some (gA h3 q17 ((0 : Int).toNat), h3))
    else
    if a1 = 4 then (
      nn (gR h3 788 t0) fun q21 =>
      gd (hK h3 q21 = (21, 1850)) <|
      bd (fX12_empties (gA h3 q21)) fun r23 =>
      some (r23, h3))
    else
    bd2 (fX12_refuse h3 t0 5) fun r25 h27 =>
    some (r25, h27)

def fX12_isSoundAt (c0 : Nat → Int) (a1 : Int) : Option Int :=
    gd (inA 1 1850) <|
    bd (fX12_isIn a1 0 (w32 ((c0 ((1 : Int).toNat)) - 1))) fun r2 =>
    some r2

def fX12_soundAt (c0 : Nat → Int) (a1 : Int) (a2 : Int) : Option Int :=
    gd (inA (w32 ((w32 (12 + (w32 (16 * a1)))) + a2)) 1850) <|
    some (c0 (w32 ((w32 (12 + (w32 (16 * a1)))) + a2)).toNat)

def fX12_letter (h : Hp) (t0 : Nat) (a1 : Int) (a2 : Int) : Option (Int × Hp) :=
    gd ((hK h t0).1 = 12) <|
    lt (α := Hp) (pI h 769 t0 0) fun h2 =>
    lt (α := Hp) (pI h2 768 t0 0) fun h3 =>
    nn (gR h3 788 t0) fun q4 =>
    gd (hK h3 q4 = (21, 1850)) <|
    bd (fX12_isSoundAt (gA h3 q4) a1) fun r6 =>
    if r6 = 0 then (
      bd2 (fX12_refuse h3 t0 2) fun r20 h22 =>
      some (r20, h22))
    else
    gd ((hK h3 q4).1 = 21) <|
    gd (inA (w32 (4 + a1)) (hK h3 q4).2) <|
    bd (fX12_isIn a2 0 (w32 ((gA h3 q4 (w32 (4 + a1)).toNat) - 1))) fun r11 =>
    if r11 = 0 then (
      bd2 (fX12_refuse h3 t0 8) fun r14 h16 =>
      some (r14, h16))
    else
    gd (hK h3 q4 = (21, 1850)) <|
    bd (fX12_soundAt (gA h3 q4) a1 a2) fun r18 =>
    some (r18, h3)

def fX12_isJarAt (c0 : Nat → Int) (a1 : Int) : Option Int :=
    gd (inA 2 1850) <|
    bd (fX12_isIn a1 0 (w32 ((c0 ((2 : Int).toNat)) - 1))) fun r2 =>
    some r2

def fX12_jar (h : Hp) (t0 : Nat) (a1 : Int) (a2 : Int) : Option (Int × Hp) :=
    gd ((hK h t0).1 = 12) <|
    lt (α := Hp) (pI h 769 t0 0) fun h2 =>
    lt (α := Hp) (pI h2 768 t0 0) fun h3 =>
    nn (gR h3 788 t0) fun q4 =>
    gd (hK h3 q4 = (21, 1850)) <|
    bd (fX12_isJarAt (gA h3 q4) a1) fun r6 =>
    if r6 = 0 then (
      bd2 (fX12_refuse h3 t0 2) fun r49 h51 =>
      some (r49, h51))
    else
    if a2 = 0 then (
      gd ((hK h3 q4).1 = 21) <|
      gd (inA (w32 (140 + a1)) (hK h3 q4).2) <|
      some (gA h3 q4 (w32 (140 + a1)).toNat, h3))
    else
    if a2 = 1 then (
      gd ((hK h3 q4).1 = 21) <|
      gd (inA (w32 (148 + a1)) (hK h3 q4).2) <|
      some (gA h3 q4 (w32 (148 + a1)).toNat, h3))
    else
    if a2 = 2 then (
      gd ((hK h3 q4).1 = 21) <|
      gd (inA (w32 (156 + a1)) (hK h3 q4).2) <|
      some (gA h3 q4 (w32 (156 + a1)).toNat, h3))
    else
    if a2 = 3 then (
      gd ((hK h3 q4).1 = 21) <|
      gd (inA (w32 (164 + a1)) (hK h3 q4).2) <|
      some (gA h3 q4 (w32 (164 + a1)).toNat, h3))
    else
    if a2 = 4 then (
      gd ((hK h3 q4).1 = 21) <|
      gd (inA (w32 (172 + a1)) (hK h3 q4).2) <|
      some (gA h3 q4 (w32 (172 + a1)).toNat, h3))
    else
    if a2 = 5 then (
      gd ((hK h3 q4).1 = 21) <|
      gd (inA (w32 (180 + a1)) (hK h3 q4).2) <|
      some (gA h3 q4 (w32 (180 + a1)).toNat, h3))
    else
    if a2 = 6 then (
      gd ((hK h3 q4).1 = 21) <|
      gd (inA (w32 (188 + a1)) (hK h3 q4).2) <|
      some (gA h3 q4 (w32 (188 + a1)).toNat, h3))
    else
    if a2 = 7 then (
      gd ((hK h3 q4).1 = 21) <|
      gd (inA (w32 (188 + a1)) (hK h3 q4).2) <|
      if (gA h3 q4 (w32 (188 + a1)).toNat) = 0 then (
        bd2 (fX12_refuse h3 t0 8) fun r35 h37 =>
        some (r35, h37))
      else
      gd (inA (w32 (196 + a1)) (hK h3 q4).2) <|
      some (gA h3 q4 (w32 (196 + a1)).toNat, h3))
    else
    if a2 = 8 then (
      gd ((hK h3 q4).1 = 21) <|
      gd (inA (w32 (188 + a1)) (hK h3 q4).2) <|
      if (gA h3 q4 (w32 (188 + a1)).toNat) = 0 then (
        bd2 (fX12_refuse h3 t0 8) fun r43 h45 =>
        some (r43, h45))
      else
      gd (inA (w32 (204 + a1)) (hK h3 q4).2) <|
      some (gA h3 q4 (w32 (204 + a1)).toNat, h3))
    else
    bd2 (fX12_refuse h3 t0 5) fun r46 h48 =>
    some (r46, h48)

def fX12_day (h : Hp) (t0 : Nat) (a1 : Int) : Option (Int × Hp) :=
    gd ((hK h t0).1 = 12) <|
    lt (α := Hp) (pI h 769 t0 0) fun h2 =>
    lt (α := Hp) (pI h2 768 t0 0) fun h3 =>
    bd (fX12_isIn a1 0 9999) fun r4 =>
    if r4 = 0 then (
      bd2 (fX12_no h3 t0 5) fun r11 h13 =>
      some (r11, h13))
    else
    nn (gR h3 788 t0) fun q7 =>
    gd ((hK h3 q7).1 = 21) <|
    gd (inA 0 (hK h3 q7).2) <|
    lt (α := Hp) (sA h3 q7 0 a1) fun h10 =>
    some (1, h10)

def fX12_goneOf (c0 : Nat → Int) (a1 : Int) (a2 : Int) (a3 : Int) : Option Int :=
    gd (inA (w32 (148 + a1)) 1850) <|
    if (c0 (w32 (148 + a1)).toNat) = 0 then (
      some 0)
    else
    gd (inA (w32 (148 + a1)) 1850) <|
    gd (¬ (c0 (w32 (148 + a1)).toNat) = 0) <|
    some (min a2 (idv a3 (c0 (w32 (148 + a1)).toNat)))

def fX12_heardOn (c0 : Nat → Int) (a1 : Int) (a2 : Int) : Option Int :=
    gd (inA (w32 (188 + a1)) 1850) <|
    if (c0 (w32 (188 + a1)).toNat) = 0 then (
      some 0)
    else
    gd (inA (w32 (196 + a1)) 1850) <|
    if a2 < (c0 (w32 (196 + a1)).toNat) then (
      some 0)
    else
    gd (inA (w32 (188 + a1)) 1850) <|
    gd (inA (w32 (188 + a1)) 1850) <|
    gd (inA (w32 (196 + a1)) 1850) <|
    bd (fX12_goneOf c0 a1 (c0 (w32 (188 + a1)).toNat) (w32 (a2 - (c0 (w32 (196 + a1)).toNat)))) fun r8 =>
    some (w32 ((c0 (w32 (188 + a1)).toNat) - r8))

def fX12_heardNow (c0 : Nat → Int) (a1 : Int) : Option Int :=
    gd (inA 0 1850) <|
    bd (fX12_heardOn c0 a1 (c0 ((0 : Int).toNat))) fun r2 =>
    some r2

def fX12_heard (h : Hp) (t0 : Nat) (a1 : Int) : Option (Int × Hp) :=
    gd ((hK h t0).1 = 12) <|
    lt (α := Hp) (pI h 769 t0 0) fun h2 =>
    lt (α := Hp) (pI h2 768 t0 0) fun h3 =>
    nn (gR h3 788 t0) fun q4 =>
    gd (hK h3 q4 = (21, 1850)) <|
    bd (fX12_isJarAt (gA h3 q4) a1) fun r6 =>
    if r6 = 0 then (
      bd2 (fX12_refuse h3 t0 2) fun r9 h11 =>
      some (r9, h11))
    else
    gd (hK h3 q4 = (21, 1850)) <|
    bd (fX12_heardNow (gA h3 q4) a1) fun r13 =>
    some (r13, h3)

def fX12_headGone (c0 : Nat → Int) (a1 : Int) (a2 : Int) : Option Int :=
    gd (inA (w32 (156 + a1)) 1850) <|
    if (c0 (w32 (156 + a1)).toNat) = 0 then (
      some a2)
    else
    gd (inA (w32 (156 + a1)) 1850) <|
    if (c0 (w32 (156 + a1)).toNat) = 1 then (
      some 0)
    else
    some (idv (w32 (a2 + 1)) 2)

def fX12_heardLetter (c0 : Nat → Int) (a1 : Int) (a2 : Int) : Option Int :=
    gd (inA (w32 (188 + a1)) 1850) <|
    bd (fX12_heardNow c0 a1) fun r2 =>
    bd (fX12_headGone c0 a1 (w32 ((c0 (w32 (188 + a1)).toNat) - r2))) fun r4 =>
    gd (inA (w32 ((w32 ((w32 (212 + (w32 (12 * a1)))) + r4)) + a2)) 1850) <|
    some (c0 (w32 ((w32 ((w32 (212 + (w32 (12 * a1)))) + r4)) + a2)).toNat)

def fX12_heardAt (h : Hp) (t0 : Nat) (a1 : Int) (a2 : Int) : Option (Int × Hp) :=
    gd ((hK h t0).1 = 12) <|
    lt (α := Hp) (pI h 769 t0 0) fun h2 =>
    lt (α := Hp) (pI h2 768 t0 0) fun h3 =>
    nn (gR h3 788 t0) fun q4 =>
    gd (hK h3 q4 = (21, 1850)) <|
    bd (fX12_isJarAt (gA h3 q4) a1) fun r6 =>
    if r6 = 0 then (
      bd2 (fX12_refuse h3 t0 2) fun r21 h23 =>
      some (r21, h23))
    else
    gd (hK h3 q4 = (21, 1850)) <|
    bd (fX12_heardNow (gA h3 q4) a1) fun r10 =>
    bd (fX12_isIn a2 0 (w32 (r10 - 1))) fun r12 =>
    if r12 = 0 then (
      bd2 (fX12_refuse h3 t0 8) fun r15 h17 =>
      some (r15, h17))
    else
    gd (hK h3 q4 = (21, 1850)) <|
    bd (fX12_heardLetter (gA h3 q4) a1 a2) fun r19 =>
    some (r19, h3)

def fX12_isTray (a1 : Int) : Option Int :=
    bd (fX12_isIn a1 0 3) fun r1 =>
    some r1

def fX12_whyNoRow (h : Hp) (t0 : Nat) (a1 : Int) (a2 : Int) : Option Int :=
    gd ((hK h t0).1 = 12) <|
    nn (gR h 773 t0) fun q2 =>
    gd ((hK h q2).1 = 21) <|
    gd (inA a1 (hK h q2).2) <|
    if (gA h q2 a1.toNat) < 0 then (
      some 3)
    else
    gd (inA a1 (hK h q2).2) <|
    if (gA h q2 a1.toNat) < a2 then (
      some 4)
    else
    some 0

def fX12_toTray (h : Hp) (t0 : Nat) (a1 : Int) (a2 : Int) (a3 : Int) : Option Hp :=
    gd ((hK h t0).1 = 12) <|
    nn (gR h 774 t0) fun q2 =>
    gd ((hK h q2).1 = 22) <|
    gd (inA (w32 ((w32 (60 * a1)) + a2)) (hK h q2).2) <|
    lt (α := Hp) (sB h q2 (w32 ((w32 (60 * a1)) + a2)) a3) fun h5 =>
    some h5

def fX12_pourOut_b66 (t0 : Nat) (a1 : Int) (a2 : Int) : Nat → Hp → Int → Int → Option (Int × Hp)
  | 0, _, _, _ => none
  | fu + 1, h, v3, v4 =>
    if v4 < v3 then (
      gd ((hK h t0).1 = 12) <|
      nn (gR h 788 t0) fun q3 =>
      gd (hK h q3 = (21, 1850)) <|
      bd (fX12_heardLetter (gA h q3) a1 v4) fun r5 =>
      bd (fX12_toTray h t0 a2 v4 r5) fun h9 =>
      lt (α := Int) (w32 (v4 + 1)) fun x10 =>
      fX12_pourOut_b66 t0 a1 a2 fu h9 v3 x10)
    else
    some (v3, h)

def fX12_pourOut (h : Hp) (t0 : Nat) (a1 : Int) (a2 : Int) : Option (Int × Hp) :=
    gd ((hK h t0).1 = 12) <|
    lt (α := Hp) (pI h 769 t0 0) fun h2 =>
    lt (α := Hp) (pI h2 768 t0 0) fun h3 =>
    bd (fX12_isTray a2) fun r4 =>
    if r4 = 0 then (
      bd2 (fX12_refuse h3 t0 1) fun r22 h24 =>
      some (r22, h24))
    else
    nn (gR h3 788 t0) fun q7 =>
    gd (hK h3 q7 = (21, 1850)) <|
    bd (fX12_isJarAt (gA h3 q7) a1) fun r9 =>
    if r9 = 0 then (
      bd2 (fX12_refuse h3 t0 2) fun r19 h21 =>
      some (r19, h21))
    else
    gd (hK h3 q7 = (21, 1850)) <|
    bd (fX12_heardNow (gA h3 q7) a1) fun r13 =>
    bd (fX12_whyNoRow h3 t0 a2 r13) fun r15 =>
    lt (α := Hp) (pI h3 768 t0 r15) fun h17 =>
    if 0 < (gI h17 768 t0) then (
      some ((-1), h17))
    else
    fX12_pourOut_b66 t0 a1 a2 FU h17 r13 0

def fX12_lost (h : Hp) (t0 : Nat) (a1 : Int) : Option (Int × Hp) :=
    gd ((hK h t0).1 = 12) <|
    lt (α := Hp) (pI h 769 t0 0) fun h2 =>
    lt (α := Hp) (pI h2 768 t0 0) fun h3 =>
    nn (gR h3 788 t0) fun q4 =>
    gd (hK h3 q4 = (21, 1850)) <|
    bd (fX12_isJarAt (gA h3 q4) a1) fun r6 =>
    if r6 = 0 then (
      bd2 (fX12_refuse h3 t0 2) fun r19 h21 =>
      some (r19, h21))
    else
    gd ((hK h3 q4).1 = 21) <|
    gd (inA 0 (hK h3 q4).2) <|
    gd (inA (w32 (196 + a1)) (hK h3 q4).2) <|
    if (gA h3 q4 ((0 : Int).toNat)) < (gA h3 q4 (w32 (196 + a1)).toNat) then (
      some (0, h3))
    else
    gd (inA (w32 (188 + a1)) (hK h3 q4).2) <|
    gd (inA 0 (hK h3 q4).2) <|
    gd (inA (w32 (196 + a1)) (hK h3 q4).2) <|
    gd (hK h3 q4 = (21, 1850)) <|
    bd (fX12_goneOf (gA h3 q4) a1 (gA h3 q4 (w32 (188 + a1)).toNat) (w32 ((gA h3 q4 ((0 : Int).toNat)) - (gA h3 q4 (w32 (196 + a1)).toNat)))) fun r17 =>
    some (r17, h3)

def fX12_silent (h : Hp) (t0 : Nat) (a1 : Int) : Option (Int × Hp) :=
    gd ((hK h t0).1 = 12) <|
    lt (α := Hp) (pI h 769 t0 0) fun h2 =>
    lt (α := Hp) (pI h2 768 t0 0) fun h3 =>
    nn (gR h3 788 t0) fun q4 =>
    gd (hK h3 q4 = (21, 1850)) <|
    bd (fX12_isJarAt (gA h3 q4) a1) fun r6 =>
    if r6 = 0 then (
      bd2 (fX12_refuse h3 t0 2) fun r23 h25 =>
      some (r23, h25))
    else
    gd ((hK h3 q4).1 = 21) <|
    gd (inA (w32 (188 + a1)) (hK h3 q4).2) <|
    if (gA h3 q4 (w32 (188 + a1)).toNat) = 0 then (
      bd2 (fX12_refuse h3 t0 8) fun r12 h14 =>
      some (r12, h14))
    else
    gd (inA (w32 (148 + a1)) (hK h3 q4).2) <|
    if (gA h3 q4 (w32 (148 + a1)).toNat) = 0 then (
      bd2 (fX12_refuse h3 t0 8) fun r20 h22 =>
      some (r20, h22))
    else
    gd (inA (w32 (196 + a1)) (hK h3 q4).2) <|
    gd (inA (w32 (188 + a1)) (hK h3 q4).2) <|
    gd (inA (w32 (148 + a1)) (hK h3 q4).2) <|
    some (w32 ((gA h3 q4 (w32 (196 + a1)).toNat) + (w32 ((gA h3 q4 (w32 (188 + a1)).toNat) * (gA h3 q4 (w32 (148 + a1)).toNat)))), h3)

def fX12_since_b123 (t0 : Nat) (a1 : Int) (a2 : Int) (a3 : Int) (h : Hp) (v4 : Int) : Option (Int × Hp) :=
    gd ((hK h t0).1 = 12) <|
    nn (gR h 788 t0) fun q2 =>
    gd ((hK h q2).1 = 21) <|
    gd (inA (w32 (196 + a1)) (hK h q2).2) <|
    gd (inA (w32 (148 + a1)) (hK h q2).2) <|
    lt (α := Int) (w32 ((gA h q2 (w32 (196 + a1)).toNat) + (w32 (v4 * (gA h q2 (w32 (148 + a1)).toNat))))) fun x6 =>
    if a3 = 0 then (
      some (x6, h))
    else
    gd (inA (w32 (148 + a1)) (hK h q2).2) <|
    some (w32 ((w32 (x6 + (gA h q2 (w32 (148 + a1)).toNat))) - 1), h)

def fX12_since_b107 (t0 : Nat) (a1 : Int) (a2 : Int) (a3 : Int) (h : Hp) (v4 : Int) : Option (Int × Hp) :=
    if a3 = 1 then (
      if a2 = 0 then (
        gd ((hK h t0).1 = 12) <|
        bd2 (fX12_refuse h t0 8) fun r4 h6 =>
        some (r4, h6))
      else
      fX12_since_b123 t0 a1 a2 a3 h v4)
    else
    fX12_since_b123 t0 a1 a2 a3 h v4

def fX12_since (h : Hp) (t0 : Nat) (a1 : Int) (a2 : Int) (a3 : Int) : Option (Int × Hp) :=
    gd ((hK h t0).1 = 12) <|
    lt (α := Hp) (pI h 769 t0 0) fun h2 =>
    lt (α := Hp) (pI h2 768 t0 0) fun h3 =>
    nn (gR h3 788 t0) fun q4 =>
    gd (hK h3 q4 = (21, 1850)) <|
    bd (fX12_isJarAt (gA h3 q4) a1) fun r6 =>
    if r6 = 0 then (
      bd2 (fX12_refuse h3 t0 2) fun r43 h45 =>
      some (r43, h45))
    else
    bd (fX12_isIn a2 0 12) fun r9 =>
    if r9 = 0 then (
      bd2 (fX12_refuse h3 t0 5) fun r12 h14 =>
      some (r12, h14))
    else
    bd (fX12_isIn a3 0 1) fun r15 =>
    if r15 = 0 then (
      bd2 (fX12_refuse h3 t0 5) fun r40 h42 =>
      some (r40, h42))
    else
    gd ((hK h3 q4).1 = 21) <|
    gd (inA (w32 (188 + a1)) (hK h3 q4).2) <|
    lt (α := Int) (w32 ((gA h3 q4 (w32 (188 + a1)).toNat) - a2)) fun x20 =>
    gd (inA (w32 (188 + a1)) (hK h3 q4).2) <|
    if (gA h3 q4 (w32 (188 + a1)).toNat) = 0 then (
      bd2 (fX12_refuse h3 t0 8) fun r23 h25 =>
      some (r23, h25))
    else
    if x20 < 0 then (
      bd2 (fX12_refuse h3 t0 8) fun r27 h29 =>
      some (r27, h29))
    else
    gd (inA (w32 (148 + a1)) (hK h3 q4).2) <|
    if (gA h3 q4 (w32 (148 + a1)).toNat) = 0 then (
      if 0 < x20 then (
        bd2 (fX12_refuse h3 t0 8) fun r33 h35 =>
        some (r33, h35))
      else
      if a3 = 1 then (
        bd2 (fX12_refuse h3 t0 8) fun r37 h39 =>
        some (r37, h39))
      else
      fX12_since_b107 t0 a1 a2 a3 h3 x20)
    else
    fX12_since_b107 t0 a1 a2 a3 h3 x20

def fX12_loudest_b117 (t0 : Nat) (a1 : Int) (a2 : Int) (k51 : Hp → Int → Int → Int → Option (Int × Hp)) (h : Hp) (v3 : Int) (v4 : Int) (v5 : Int) : Option (Int × Hp) :=
    lt (α := Int) (w32 (v5 + 1)) fun x1 =>
    k51 h v3 v4 x1

def fX12_loudest_b70 (t0 : Nat) (a1 : Int) (a2 : Int) (k51 : Hp → Int → Int → Int → Option (Int × Hp)) : Nat → Hp → Int → Int → Int → Int → Int → Option (Int × Hp)
  | 0, _, _, _, _, _, _ => none
  | fu + 1, h, v3, v4, v5, v6, v7 =>
    gd ((hK h t0).1 = 12) <|
    nn (gR h 788 t0) fun q2 =>
    gd ((hK h q2).1 = 21) <|
    gd (inA 2 (hK h q2).2) <|
    if v7 < (gA h q2 ((2 : Int).toNat)) then (
      gd (hK h q2 = (21, 1850)) <|
      bd (fX12_heardOn (gA h q2) v7 v5) fun r8 =>
      lt (α := Int) (w32 (v6 + r8)) fun x10 =>
      lt (α := Int) (w32 (v7 + 1)) fun x11 =>
      fX12_loudest_b70 t0 a1 a2 k51 fu h v3 v4 v5 x10 x11)
    else
    if v6 ≤ v4 then (
      fX12_loudest_b117 t0 a1 a2 k51 h v3 v4 v5)
    else
    fX12_loudest_b117 t0 a1 a2 k51 h v5 v6 v5

def fX12_loudest_b51 (t0 : Nat) (a1 : Int) (a2 : Int) : Nat → Hp → Int → Int → Int → Option (Int × Hp)
  | 0, _, _, _, _ => none
  | fu + 1, h, v3, v4, v5 =>
    gd ((hK h t0).1 = 12) <|
    nn (gR h 788 t0) fun q2 =>
    gd ((hK h q2).1 = 21) <|
    gd (inA 0 (hK h q2).2) <|
    if v5 ≤ (w32 ((gA h q2 ((0 : Int).toNat)) + a1)) then (
      fX12_loudest_b70 t0 a1 a2 (fX12_loudest_b51 t0 a1 a2 fu) FU h v3 v4 v5 0 0)
    else
    if a2 = 0 then (
      some (v3, h))
    else
    some (v4, h)

def fX12_loudest (h : Hp) (t0 : Nat) (a1 : Int) (a2 : Int) : Option (Int × Hp) :=
    gd ((hK h t0).1 = 12) <|
    lt (α := Hp) (pI h 769 t0 0) fun h2 =>
    lt (α := Hp) (pI h2 768 t0 0) fun h3 =>
    bd (fX12_isIn a1 0 999) fun r4 =>
    if r4 = 0 then (
      bd2 (fX12_refuse h3 t0 5) fun r7 h9 =>
      some (r7, h9))
    else
    bd (fX12_isIn a2 0 1) fun r10 =>
    if r10 = 0 then (
      bd2 (fX12_refuse h3 t0 5) fun r17 h19 =>
      some (r17, h19))
    else
    nn (gR h3 788 t0) fun q13 =>
    gd ((hK h3 q13).1 = 21) <|
    gd (inA 0 (hK h3 q13).2) <|
    lt (α := Int) (gA h3 q13 ((0 : Int).toNat)) fun x16 =>
    fX12_loudest_b51 t0 a1 a2 FU h3 (-1) (-1) x16

def fX12_heardOrRest (c0 : Nat → Int) (a1 : Int) (a2 : Int) : Option Int :=
    bd (fX12_heardNow c0 a1) fun r1 =>
    bd (fX12_isIn a2 0 (w32 (r1 - 1))) fun r3 =>
    if r3 = 0 then (
      some 0)
    else
    bd (fX12_heardLetter c0 a1 a2) fun r6 =>
    some r6

def fX12_fitsKind (a1 : Int) (a2 : Int) : Option Int :=
    if a1 = 27 then (
      some 1)
    else
    if a1 = a2 then (
      some 1)
    else
    some 0

def fX12_mixOf_b100 (c0 : Nat → Int) (a1 : Int) (a2 : Int) (k2 : Int → Option Int) (v3 : Int) : Option Int :=
    lt (α := Int) (w32 (v3 + 1)) fun x1 =>
    k2 x1

def fX12_mixOf_b2 (c0 : Nat → Int) (a1 : Int) (a2 : Int) : Nat → Int → Option Int
  | 0, _ => none
  | fu + 1, v3 =>
    gd (inA 3 1850) <|
    if v3 < (c0 ((3 : Int).toNat)) then (
      lt (α := Int) (w32 (308 + (w32 (3 * v3)))) fun x6 =>
      gd (inA x6 1850) <|
      bd (fX12_fitsKind (c0 x6.toNat) a1) fun r8 =>
      if r8 = 0 then (
        fX12_mixOf_b100 c0 a1 a2 (fX12_mixOf_b2 c0 a1 a2 fu) v3)
      else
      gd (inA (w32 (x6 + 1)) 1850) <|
      bd (fX12_fitsKind (c0 (w32 (x6 + 1)).toNat) a2) fun r12 =>
      if r12 = 0 then (
        fX12_mixOf_b100 c0 a1 a2 (fX12_mixOf_b2 c0 a1 a2 fu) v3)
      else
      gd (inA (w32 (x6 + 2)) 1850) <|
      if (c0 (w32 (x6 + 2)).toNat) = 27 then (
        some a1)
      else
      gd (inA (w32 (x6 + 2)) 1850) <|
      if (c0 (w32 (x6 + 2)).toNat) = 28 then (
        some a2)
      else
      gd (inA (w32 (x6 + 2)) 1850) <|
      some (c0 (w32 (x6 + 2)).toNat))
    else
    if a1 = a2 then (
      some a1)
    else
    if a1 = 0 then (
      some a2)
    else
    if a2 = 0 then (
      some a1)
    else
    some 0

def fX12_mixOf (c0 : Nat → Int) (a1 : Int) (a2 : Int) : Option Int :=
    fX12_mixOf_b2 c0 a1 a2 FU 0

def fX12_atOnce_b84 (t0 : Nat) (a1 : Int) (a2 : Int) (a3 : Int) : Nat → Hp → Int → Int → Option (Int × Hp)
  | 0, _, _, _ => none
  | fu + 1, h, v4, v5 =>
    if v5 < v4 then (
      gd ((hK h t0).1 = 12) <|
      nn (gR h 788 t0) fun q3 =>
      gd (hK h q3 = (21, 1850)) <|
      bd (fX12_heardOrRest (gA h q3) a1 v5) fun r5 =>
      gd (hK h q3 = (21, 1850)) <|
      bd (fX12_heardOrRest (gA h q3) a2 v5) fun r8 =>
      gd (hK h q3 = (21, 1850)) <|
      bd (fX12_mixOf (gA h q3) r5 r8) fun r11 =>
      bd (fX12_toTray h t0 a3 v5 r11) fun h15 =>
      lt (α := Int) (w32 (v5 + 1)) fun x16 =>
      fX12_atOnce_b84 t0 a1 a2 a3 fu h15 v4 x16)
    else
    some (v4, h)

def fX12_atOnce (h : Hp) (t0 : Nat) (a1 : Int) (a2 : Int) (a3 : Int) : Option (Int × Hp) :=
    gd ((hK h t0).1 = 12) <|
    lt (α := Hp) (pI h 769 t0 0) fun h2 =>
    lt (α := Hp) (pI h2 768 t0 0) fun h3 =>
    bd (fX12_isTray a3) fun r4 =>
    if r4 = 0 then (
      bd2 (fX12_refuse h3 t0 1) fun r33 h35 =>
      some (r33, h35))
    else
    nn (gR h3 788 t0) fun q7 =>
    gd (hK h3 q7 = (21, 1850)) <|
    bd (fX12_isJarAt (gA h3 q7) a1) fun r9 =>
    if r9 = 0 then (
      bd2 (fX12_refuse h3 t0 2) fun r12 h14 =>
      some (r12, h14))
    else
    gd (hK h3 q7 = (21, 1850)) <|
    bd (fX12_isJarAt (gA h3 q7) a2) fun r16 =>
    if r16 = 0 then (
      bd2 (fX12_refuse h3 t0 2) fun r30 h32 =>
      some (r30, h32))
    else
    gd (hK h3 q7 = (21, 1850)) <|
    bd (fX12_heardNow (gA h3 q7) a1) fun r20 =>
    gd (hK h3 q7 = (21, 1850)) <|
    bd (fX12_heardNow (gA h3 q7) a2) fun r23 =>
    lt (α := Int) (max r20 r23) fun x25 =>
    bd (fX12_whyNoRow h3 t0 a3 x25) fun r26 =>
    lt (α := Hp) (pI h3 768 t0 r26) fun h28 =>
    if 0 < (gI h28 768 t0) then (
      some ((-1), h28))
    else
    fX12_atOnce_b84 t0 a1 a2 a3 FU h28 x25 0

def fX12_mixes (h : Hp) (t0 : Nat) (a1 : Int) (a2 : Int) : Option (Int × Hp) :=
    gd ((hK h t0).1 = 12) <|
    lt (α := Hp) (pI h 769 t0 0) fun h2 =>
    lt (α := Hp) (pI h2 768 t0 0) fun h3 =>
    bd (fX12_isIn a1 0 26) fun r4 =>
    if r4 = 0 then (
      bd2 (fX12_refuse h3 t0 5) fun r7 h9 =>
      some (r7, h9))
    else
    bd (fX12_isIn a2 0 26) fun r10 =>
    if r10 = 0 then (
      bd2 (fX12_refuse h3 t0 5) fun r13 h15 =>
      some (r13, h15))
    else
    nn (gR h3 788 t0) fun q16 =>
    gd (hK h3 q16 = (21, 1850)) <|
    bd (fX12_mixOf (gA h3 q16) a1 a2) fun r18 =>
    some (r18, h3)

def fX12_othersOf_b32 (c0 : Nat → Int) (a1 : Int) (a2 : Int) (k5 : Int → Int → Option Int) (v4 : Int) (s0 : Int) (s1 : Int) : Option Int :=
    lt (α := Int) (bor s1 s0) fun x1 =>
    lt (α := Int) (w32 (v4 + 1)) fun x2 =>
    k5 x1 x2

def fX12_othersOf_b5 (c0 : Nat → Int) (a1 : Int) (a2 : Int) : Nat → Int → Int → Option Int
  | 0, _, _ => none
  | fu + 1, v3, v4 =>
    if v4 ≤ 26 then (
      bd (fX12_mixOf c0 a1 v4) fun r2 =>
      if r2 = a2 then (
        fX12_othersOf_b32 c0 a1 a2 (fX12_othersOf_b5 c0 a1 a2 fu) v4 (shl 1 v4) v3)
      else
      fX12_othersOf_b32 c0 a1 a2 (fX12_othersOf_b5 c0 a1 a2 fu) v4 0 v3)
    else
    some v3

def fX12_othersOf (c0 : Nat → Int) (a1 : Int) (a2 : Int) : Option Int :=
    fX12_othersOf_b5 c0 a1 a2 FU 0 0

def fX12_others (h : Hp) (t0 : Nat) (a1 : Int) (a2 : Int) : Option (Int × Hp) :=
    gd ((hK h t0).1 = 12) <|
    lt (α := Hp) (pI h 769 t0 0) fun h2 =>
    lt (α := Hp) (pI h2 768 t0 0) fun h3 =>
    bd (fX12_isIn a1 0 26) fun r4 =>
    if r4 = 0 then (
      bd2 (fX12_refuse h3 t0 5) fun r7 h9 =>
      some (r7, h9))
    else
    bd (fX12_isIn a2 0 26) fun r10 =>
    if r10 = 0 then (
      bd2 (fX12_refuse h3 t0 5) fun r13 h15 =>
      some (r13, h15))
    else
    nn (gR h3 788 t0) fun q16 =>
    gd (hK h3 q16 = (21, 1850)) <|
    bd (fX12_othersOf (gA h3 q16) a1 a2) fun r18 =>
    some (r18, h3)

def fX12_soundOrRest (c0 : Nat → Int) (a1 : Int) (a2 : Int) : Option Int :=
    gd (inA (w32 (4 + a1)) 1850) <|
    bd (fX12_isIn a2 0 (w32 ((c0 (w32 (4 + a1)).toNat) - 1))) fun r2 =>
    if r2 = 0 then (
      some 0)
    else
    bd (fX12_soundAt c0 a1 a2) fun r5 =>
    some r5

def fX12_echoed_b91 (t0 : Nat) (a1 : Int) (a2 : Int) (a3 : Int) : Nat → Hp → Int → Int → Option (Int × Hp)
  | 0, _, _, _ => none
  | fu + 1, h, v4, v5 =>
    if v5 < v4 then (
      gd ((hK h t0).1 = 12) <|
      nn (gR h 788 t0) fun q3 =>
      gd (hK h q3 = (21, 1850)) <|
      bd (fX12_soundOrRest (gA h q3) a1 v5) fun r5 =>
      gd (hK h q3 = (21, 1850)) <|
      bd (fX12_soundOrRest (gA h q3) a1 (w32 (v5 - a2))) fun r8 =>
      gd (hK h q3 = (21, 1850)) <|
      bd (fX12_mixOf (gA h q3) r5 r8) fun r11 =>
      bd (fX12_toTray h t0 a3 v5 r11) fun h15 =>
      lt (α := Int) (w32 (v5 + 1)) fun x16 =>
      fX12_echoed_b91 t0 a1 a2 a3 fu h15 v4 x16)
    else
    some (v4, h)

def fX12_echoed (h : Hp) (t0 : Nat) (a1 : Int) (a2 : Int) (a3 : Int) : Option (Int × Hp) :=
    gd ((hK h t0).1 = 12) <|
    lt (α := Hp) (pI h 769 t0 0) fun h2 =>
    lt (α := Hp) (pI h2 768 t0 0) fun h3 =>
    bd (fX12_isTray a3) fun r4 =>
    if r4 = 0 then (
      bd2 (fX12_refuse h3 t0 1) fun r28 h30 =>
      some (r28, h30))
    else
    nn (gR h3 788 t0) fun q7 =>
    gd (hK h3 q7 = (21, 1850)) <|
    bd (fX12_isSoundAt (gA h3 q7) a1) fun r9 =>
    if r9 = 0 then (
      bd2 (fX12_refuse h3 t0 2) fun r25 h27 =>
      some (r25, h27))
    else
    bd (fX12_isIn a2 0 15) fun r12 =>
    if r12 = 0 then (
      bd2 (fX12_refuse h3 t0 5) fun r22 h24 =>
      some (r22, h24))
    else
    gd ((hK h3 q7).1 = 21) <|
    gd (inA (w32 (4 + a1)) (hK h3 q7).2) <|
    lt (α := Int) (w32 ((gA h3 q7 (w32 (4 + a1)).toNat) + a2)) fun x17 =>
    bd (fX12_whyNoRow h3 t0 a3 x17) fun r18 =>
    lt (α := Hp) (pI h3 768 t0 r18) fun h20 =>
    if 0 < (gI h20 768 t0) then (
      some ((-1), h20))
    else
    fX12_echoed_b91 t0 a1 a2 a3 FU h20 x17 0

def fX12_clearest_b153 (t0 : Nat) (a1 : Int) (a2 : Int) (a3 : Int) (k57 : Hp → Int → Int → Int → Option (Int × Hp)) (h : Hp) (v4 : Int) (v5 : Int) (v6 : Int) : Option (Int × Hp) :=
    lt (α := Int) (w32 (v6 + 1)) fun x1 =>
    k57 h v4 v5 x1

def fX12_clearest_b88 (t0 : Nat) (a1 : Int) (a2 : Int) (a3 : Int) (k57 : Hp → Int → Int → Int → Option (Int × Hp)) : Nat → Hp → Int → Int → Int → Int → Int → Int → Option (Int × Hp)
  | 0, _, _, _, _, _, _, _ => none
  | fu + 1, h, v4, v5, v6, v7, v8, v9 =>
    if v9 < v7 then (
      gd ((hK h t0).1 = 12) <|
      nn (gR h 788 t0) fun q4 =>
      gd (hK h q4 = (21, 1850)) <|
      bd (fX12_heardOrRest (gA h q4) a1 v9) fun r6 =>
      gd (hK h q4 = (21, 1850)) <|
      bd (fX12_heardOrRest (gA h q4) a2 (w32 (v9 - v6))) fun r9 =>
      gd (hK h q4 = (21, 1850)) <|
      bd (fX12_mixOf (gA h q4) r6 r9) fun r12 =>
      lt (α := Int) (w32 (v8 + (if 0 < r12 then 1 else 0))) fun x15 =>
      lt (α := Int) (w32 (v9 + 1)) fun x16 =>
      fX12_clearest_b88 t0 a1 a2 a3 k57 fu h v4 v5 v6 v7 x15 x16)
    else
    if v8 ≤ v5 then (
      fX12_clearest_b153 t0 a1 a2 a3 k57 h v4 v5 v6)
    else
    fX12_clearest_b153 t0 a1 a2 a3 k57 h v6 v8 v6

def fX12_clearest_b57 (t0 : Nat) (a1 : Int) (a2 : Int) (a3 : Int) : Nat → Hp → Int → Int → Int → Option (Int × Hp)
  | 0, _, _, _, _ => none
  | fu + 1, h, v4, v5, v6 =>
    if v6 ≤ 12 then (
      gd ((hK h t0).1 = 12) <|
      nn (gR h 788 t0) fun q4 =>
      gd (hK h q4 = (21, 1850)) <|
      bd (fX12_heardNow (gA h q4) a1) fun r6 =>
      gd (hK h q4 = (21, 1850)) <|
      bd (fX12_heardNow (gA h q4) a2) fun r9 =>
      lt (α := Int) (max r6 (w32 (v6 + r9))) fun x11 =>
      fX12_clearest_b88 t0 a1 a2 a3 (fX12_clearest_b57 t0 a1 a2 a3 fu) FU h v4 v5 v6 x11 0 0)
    else
    if a3 = 0 then (
      some (v4, h))
    else
    some (v5, h)

def fX12_clearest (h : Hp) (t0 : Nat) (a1 : Int) (a2 : Int) (a3 : Int) : Option (Int × Hp) :=
    gd ((hK h t0).1 = 12) <|
    lt (α := Hp) (pI h 769 t0 0) fun h2 =>
    lt (α := Hp) (pI h2 768 t0 0) fun h3 =>
    nn (gR h3 788 t0) fun q4 =>
    gd (hK h3 q4 = (21, 1850)) <|
    bd (fX12_isJarAt (gA h3 q4) a1) fun r6 =>
    if r6 = 0 then (
      bd2 (fX12_refuse h3 t0 2) fun r9 h11 =>
      some (r9, h11))
    else
    gd (hK h3 q4 = (21, 1850)) <|
    bd (fX12_isJarAt (gA h3 q4) a2) fun r13 =>
    if r13 = 0 then (
      bd2 (fX12_refuse h3 t0 2) fun r22 h24 =>
      some (r22, h24))
    else
    bd (fX12_isIn a3 0 1) fun r16 =>
    if r16 = 0 then (
      bd2 (fX12_refuse h3 t0 5) fun r19 h21 =>
      some (r19, h21))
    else
    fX12_clearest_b57 t0 a1 a2 a3 FU h3 0 (-1) 0

def fX12_numberOf (h : Hp) (t0 : Nat) (a1 : Int) (a2 : Int) : Option Int :=
    gd ((hK h t0).1 = 12) <|
    nn (gR h 774 t0) fun q2 =>
    gd ((hK h q2).1 = 22) <|
    gd (inA (w32 ((w32 (60 * a1)) + a2)) (hK h q2).2) <|
    some (gB h q2 (w32 ((w32 (60 * a1)) + a2)).toNat)

def fX12_whyNoLetters_b3 (h : Hp) (t0 : Nat) (a1 : Int) (a2 : Int) (a3 : Int) : Nat → Int → Option Int
  | 0, _ => none
  | fu + 1, v4 =>
    if v4 < a2 then (
      gd ((hK h t0).1 = 12) <|
      bd (fX12_numberOf h t0 a1 v4) fun r3 =>
      bd (fX12_isIn r3 a3 26) fun r5 =>
      if r5 = 0 then (
        some 5)
      else
      lt (α := Int) (w32 (v4 + 1)) fun x8 =>
      fX12_whyNoLetters_b3 h t0 a1 a2 a3 fu x8)
    else
    some 0

def fX12_whyNoLetters (h : Hp) (t0 : Nat) (a1 : Int) (a2 : Int) (a3 : Int) : Option Int :=
    fX12_whyNoLetters_b3 h t0 a1 a2 a3 FU 0

def fX12_couples_b126 (t0 : Nat) (a1 : Int) (a2 : Int) (k104 : Hp → Int → Int → Option (Int × Hp)) (k116 : Hp → Int → Int → Int → Int → Option (Int × Hp)) : Nat → Hp → Int → Int → Int → Int → Int → Option (Int × Hp)
  | 0, _, _, _, _, _, _ => none
  | fu + 1, h, v3, v5, v6, v7, v8 =>
    if v8 ≤ 26 then (
      gd ((hK h t0).1 = 12) <|
      nn (gR h 788 t0) fun q4 =>
      gd (hK h q4 = (21, 1850)) <|
      bd (fX12_mixOf (gA h q4) v7 v8) fun r6 =>
      bd (fX12_numberOf h t0 a1 v5) fun r8 =>
      lt (α := Int) (w32 (v6 + (if r6 = (w32 r8) then 1 else 0))) fun x11 =>
      lt (α := Int) (w32 (v8 + 1)) fun x12 =>
      fX12_couples_b126 t0 a1 a2 k104 k116 fu h v3 v5 x11 v7 x12)
    else
    lt (α := Int) (w32 (v7 + 1)) fun x2 =>
    k116 h v3 v5 v6 x2

def fX12_couples_b116 (t0 : Nat) (a1 : Int) (a2 : Int) (k104 : Hp → Int → Int → Option (Int × Hp)) : Nat → Hp → Int → Int → Int → Int → Option (Int × Hp)
  | 0, _, _, _, _, _ => none
  | fu + 1, h, v3, v5, v6, v7 =>
    if v7 ≤ 26 then (
      fX12_couples_b126 t0 a1 a2 k104 (fX12_couples_b116 t0 a1 a2 k104 fu) FU h v3 v5 v6 v7 1)
    else
    lt (α := Int) (w64 (v3 * v6)) fun x2 =>
    lt (α := Int) (w32 (v5 + 1)) fun x3 =>
    k104 h x2 x3

def fX12_couples_b104 (t0 : Nat) (a1 : Int) (a2 : Int) : Nat → Hp → Int → Int → Option (Int × Hp)
  | 0, _, _, _ => none
  | fu + 1, h, v3, v5 =>
    if v5 < a2 then (
      fX12_couples_b116 t0 a1 a2 (fX12_couples_b104 t0 a1 a2 fu) FU h v3 v5 0 1)
    else
    some (v3, h)

def fX12_couples (h : Hp) (t0 : Nat) (a1 : Int) (a2 : Int) : Option (Int × Hp) :=
    gd ((hK h t0).1 = 12) <|
    lt (α := Hp) (pI h 769 t0 0) fun h2 =>
    lt (α := Hp) (pI h2 768 t0 0) fun h3 =>
    bd (fX12_isTray a1) fun r4 =>
    if r4 = 0 then (
      bd2 (fX12_refuse h3 t0 1) fun r29 h31 =>
      some (r29, h31))
    else
    nn (gR h3 773 t0) fun q7 =>
    gd ((hK h3 q7).1 = 21) <|
    gd (inA a1 (hK h3 q7).2) <|
    if (gA h3 q7 a1.toNat) < 0 then (
      bd2 (fX12_refuse h3 t0 3) fun r26 h28 =>
      some (r26, h28))
    else
    gd (inA a1 (hK h3 q7).2) <|
    if (gA h3 q7 a1.toNat) < a2 then (
      bd2 (fX12_refuse h3 t0 4) fun r23 h25 =>
      some (r23, h25))
    else
    bd (fX12_isIn a2 1 6) fun r13 =>
    if r13 = 0 then (
      bd2 (fX12_refuse h3 t0 5) fun r20 h22 =>
      some (r20, h22))
    else
    bd (fX12_whyNoLetters h3 t0 a1 a2 0) fun r16 =>
    lt (α := Hp) (pI h3 768 t0 r16) fun h18 =>
    if 0 < (gI h18 768 t0) then (
      some ((-1), h18))
    else
    fX12_couples_b104 t0 a1 a2 FU h18 1 0

def fX12_beside_b169 (t0 : Nat) (a1 : Int) (a2 : Int) (a3 : Int) (a4 : Int) (k133 : Hp → Int → Int → Option (Int × Hp)) : Nat → Hp → Int → Int → Int → Int → Int → Option (Int × Hp)
  | 0, _, _, _, _, _, _ => none
  | fu + 1, h, v5, v7, v8, v9, v10 =>
    if v10 ≤ 26 then (
      lt (α := Int) (w32 (v9 + (bnd (shr v8 v10) 1))) fun x4 =>
      lt (α := Int) (w32 (v10 + 1)) fun x5 =>
      fX12_beside_b169 t0 a1 a2 a3 a4 k133 fu h v5 v7 v8 x4 x5)
    else
    lt (α := Int) (w64 (v5 * v9)) fun x2 =>
    lt (α := Int) (w32 (v7 + 1)) fun x3 =>
    k133 h x2 x3

def fX12_beside_b133 (t0 : Nat) (a1 : Int) (a2 : Int) (a3 : Int) (a4 : Int) : Nat → Hp → Int → Int → Option (Int × Hp)
  | 0, _, _, _ => none
  | fu + 1, h, v5, v7 =>
    if v7 < a2 then (
      gd ((hK h t0).1 = 12) <|
      nn (gR h 788 t0) fun q3 =>
      gd (hK h q3 = (21, 1850)) <|
      bd (fX12_soundOrRest (gA h q3) a3 (w32 (a4 + v7))) fun r5 =>
      bd (fX12_numberOf h t0 a1 v7) fun r7 =>
      gd (hK h q3 = (21, 1850)) <|
      bd (fX12_othersOf (gA h q3) r5 (w32 r7)) fun r10 =>
      fX12_beside_b169 t0 a1 a2 a3 a4 (fX12_beside_b133 t0 a1 a2 a3 a4 fu) FU h v5 v7 r10 0 0)
    else
    some (v5, h)

def fX12_beside (h : Hp) (t0 : Nat) (a1 : Int) (a2 : Int) (a3 : Int) (a4 : Int) : Option (Int × Hp) :=
    gd ((hK h t0).1 = 12) <|
    lt (α := Hp) (pI h 769 t0 0) fun h2 =>
    lt (α := Hp) (pI h2 768 t0 0) fun h3 =>
    bd (fX12_isTray a1) fun r4 =>
    if r4 = 0 then (
      bd2 (fX12_refuse h3 t0 1) fun r43 h45 =>
      some (r43, h45))
    else
    nn (gR h3 788 t0) fun q7 =>
    gd (hK h3 q7 = (21, 1850)) <|
    bd (fX12_isSoundAt (gA h3 q7) a3) fun r9 =>
    if r9 = 0 then (
      bd2 (fX12_refuse h3 t0 2) fun r40 h42 =>
      some (r40, h42))
    else
    nn (gR h3 773 t0) fun q12 =>
    gd ((hK h3 q12).1 = 21) <|
    gd (inA a1 (hK h3 q12).2) <|
    if (gA h3 q12 a1.toNat) < 0 then (
      bd2 (fX12_refuse h3 t0 3) fun r37 h39 =>
      some (r37, h39))
    else
    gd (inA a1 (hK h3 q12).2) <|
    if (gA h3 q12 a1.toNat) < a2 then (
      bd2 (fX12_refuse h3 t0 4) fun r34 h36 =>
      some (r34, h36))
    else
    bd (fX12_isIn a2 1 8) fun r18 =>
    if r18 = 0 then (
      bd2 (fX12_refuse h3 t0 5) fun r21 h23 =>
      some (r21, h23))
    else
    bd (fX12_isIn a4 0 15) fun r24 =>
    if r24 = 0 then (
      bd2 (fX12_refuse h3 t0 5) fun r31 h33 =>
      some (r31, h33))
    else
    bd (fX12_whyNoLetters h3 t0 a1 a2 0) fun r27 =>
    lt (α := Hp) (pI h3 768 t0 r27) fun h29 =>
    if 0 < (gI h29 768 t0) then (
      some ((-1), h29))
    else
    fX12_beside_b133 t0 a1 a2 a3 a4 FU h29 1 0

def fX12_areJars (c0 : Nat → Int) (a1 : Int) : Option Int :=
    gd (inA 2 1850) <|
    bd (fX12_isIn a1 0 (w32 ((shl 1 (c0 ((2 : Int).toNat))) - 1))) fun r2 =>
    some r2

def fX12_has (a1 : Int) (a2 : Int) : Option Int :=
    some (if (bnd (shr a1 a2) 1) = 1 then 1 else 0)

def fX12_standsAt_b3 (c0 : Nat → Int) (a1 : Int) (a2 : Int) (a3 : Int) (a4 : Int) : Nat → Int → Option Int
  | 0, _ => none
  | fu + 1, v5 =>
    if v5 < a2 then (
      bd (fX12_heardLetter c0 a1 v5) fun r2 =>
      bd (fX12_soundAt c0 a3 (w32 (a4 + v5))) fun r4 =>
      if r2 = r4 then (
        lt (α := Int) (w32 (v5 + 1)) fun x7 =>
        fX12_standsAt_b3 c0 a1 a2 a3 a4 fu x7)
      else
      some 0)
    else
    some 1

def fX12_standsAt (c0 : Nat → Int) (a1 : Int) (a2 : Int) (a3 : Int) (a4 : Int) : Option Int :=
    fX12_standsAt_b3 c0 a1 a2 a3 a4 FU 0

def fX12_placesIn_b12 (c0 : Nat → Int) (a1 : Int) (a2 : Int) : Nat → Int → Int → Int → Option Int
  | 0, _, _, _ => none
  | fu + 1, v3, v4, v5 =>
    if 0 < v3 then (
      gd (inA (w32 (4 + a2)) 1850) <|
      if (w32 (v5 + v3)) ≤ (c0 (w32 (4 + a2)).toNat) then (
        bd (fX12_standsAt c0 a1 v3 a2 v5) fun r4 =>
        lt (α := Int) (w32 (v4 + (if r4 = 0 then 0 else 1))) fun x7 =>
        lt (α := Int) (w32 (v5 + 1)) fun x8 =>
        fX12_placesIn_b12 c0 a1 a2 fu v3 x7 x8)
      else
      some v4)
    else
    some v4

def fX12_placesIn (c0 : Nat → Int) (a1 : Int) (a2 : Int) : Option Int :=
    bd (fX12_heardNow c0 a1) fun r1 =>
    fX12_placesIn_b12 c0 a1 a2 FU r1 0 0

def fX12_fitsOf_b69 (c0 : Nat → Int) (a1 : Int) (k4 : Int → Int → Option Int) (k20 : Int → Int → Int → Int → Option Int) (v2 : Int) (v3 : Int) (v5 : Int) (s0 : Int) : Option Int :=
    lt (α := Int) (w32 (v5 + 1)) fun x1 =>
    k20 v2 v3 s0 x1

def fX12_fitsOf_b64 (c0 : Nat → Int) (a1 : Int) (k4 : Int → Int → Option Int) (k20 : Int → Int → Int → Int → Option Int) (v2 : Int) (v3 : Int) (v5 : Int) : Option Int :=
    fX12_fitsOf_b69 c0 a1 k4 k20 v2 v3 v5 1

def fX12_fitsOf_b68 (c0 : Nat → Int) (a1 : Int) (k4 : Int → Int → Option Int) (k20 : Int → Int → Int → Int → Option Int) (v2 : Int) (v3 : Int) (v5 : Int) : Option Int :=
    fX12_fitsOf_b69 c0 a1 k4 k20 v2 v3 v5 0

def fX12_fitsOf_b90 (c0 : Nat → Int) (a1 : Int) (k4 : Int → Int → Option Int) (v3 : Int) (s0 : Int) (s1 : Int) : Option Int :=
    lt (α := Int) (bor s1 s0) fun x1 =>
    lt (α := Int) (w32 (v3 + 1)) fun x2 =>
    k4 x1 x2

def fX12_fitsOf_b20 (c0 : Nat → Int) (a1 : Int) (k4 : Int → Int → Option Int) : Nat → Int → Int → Int → Int → Option Int
  | 0, _, _, _, _ => none
  | fu + 1, v2, v3, v4, v5 =>
    gd (inA 2 1850) <|
    if v5 < (c0 ((2 : Int).toNat)) then (
      if v4 = 0 then (
        fX12_fitsOf_b68 c0 a1 k4 (fX12_fitsOf_b20 c0 a1 k4 fu) v2 v3 v5)
      else
      bd (fX12_has a1 v5) fun r5 =>
      if r5 = 0 then (
        fX12_fitsOf_b64 c0 a1 k4 (fX12_fitsOf_b20 c0 a1 k4 fu) v2 v3 v5)
      else
      bd (fX12_heardNow c0 v5) fun r8 =>
      if r8 = 0 then (
        fX12_fitsOf_b64 c0 a1 k4 (fX12_fitsOf_b20 c0 a1 k4 fu) v2 v3 v5)
      else
      bd (fX12_placesIn c0 v5 v3) fun r11 =>
      if 0 < r11 then (
        fX12_fitsOf_b64 c0 a1 k4 (fX12_fitsOf_b20 c0 a1 k4 fu) v2 v3 v5)
      else
      fX12_fitsOf_b68 c0 a1 k4 (fX12_fitsOf_b20 c0 a1 k4 fu) v2 v3 v5)
    else
    if v4 = 0 then (
      fX12_fitsOf_b90 c0 a1 k4 v3 0 v2)
    else
    fX12_fitsOf_b90 c0 a1 k4 v3 (shl 1 v3) v2

def fX12_fitsOf_b4 (c0 : Nat → Int) (a1 : Int) : Nat → Int → Int → Option Int
  | 0, _, _ => none
  | fu + 1, v2, v3 =>
    gd (inA 1 1850) <|
    if v3 < (c0 ((1 : Int).toNat)) then (
      fX12_fitsOf_b20 c0 a1 (fX12_fitsOf_b4 c0 a1 fu) FU v2 v3 1 0)
    else
    some v2

def fX12_fitsOf (c0 : Nat → Int) (a1 : Int) : Option Int :=
    fX12_fitsOf_b4 c0 a1 FU 0 0

def fX12_fits (h : Hp) (t0 : Nat) (a1 : Int) : Option (Int × Hp) :=
    gd ((hK h t0).1 = 12) <|
    lt (α := Hp) (pI h 769 t0 0) fun h2 =>
    lt (α := Hp) (pI h2 768 t0 0) fun h3 =>
    nn (gR h3 788 t0) fun q4 =>
    gd (hK h3 q4 = (21, 1850)) <|
    bd (fX12_areJars (gA h3 q4) a1) fun r6 =>
    if r6 = 0 then (
      bd2 (fX12_refuse h3 t0 2) fun r9 h11 =>
      some (r9, h11))
    else
    gd (hK h3 q4 = (21, 1850)) <|
    bd (fX12_fitsOf (gA h3 q4) a1) fun r13 =>
    some (r13, h3)

def fX12_places (h : Hp) (t0 : Nat) (a1 : Int) (a2 : Int) : Option (Int × Hp) :=
    gd ((hK h t0).1 = 12) <|
    lt (α := Hp) (pI h 769 t0 0) fun h2 =>
    lt (α := Hp) (pI h2 768 t0 0) fun h3 =>
    nn (gR h3 788 t0) fun q4 =>
    gd (hK h3 q4 = (21, 1850)) <|
    bd (fX12_isJarAt (gA h3 q4) a1) fun r6 =>
    if r6 = 0 then (
      bd2 (fX12_refuse h3 t0 2) fun r9 h11 =>
      some (r9, h11))
    else
    gd (hK h3 q4 = (21, 1850)) <|
    bd (fX12_isSoundAt (gA h3 q4) a2) fun r13 =>
    if r13 = 0 then (
      bd2 (fX12_refuse h3 t0 2) fun r16 h18 =>
      some (r16, h18))
    else
    gd (hK h3 q4 = (21, 1850)) <|
    bd (fX12_placesIn (gA h3 q4) a1 a2) fun r20 =>
    some (r20, h3)

def fX12_speaks_b55 (t0 : Nat) (a1 : Int) (k28 : Hp → Int → Int → Option (Int × Hp)) (h : Hp) (v3 : Int) (s0 : Int) (s1 : Int) : Option (Int × Hp) :=
    lt (α := Int) (bor s1 s0) fun x1 =>
    lt (α := Int) (w32 (v3 + 1)) fun x2 =>
    k28 h x1 x2

def fX12_speaks_b28 (t0 : Nat) (a1 : Int) : Nat → Hp → Int → Int → Option (Int × Hp)
  | 0, _, _, _ => none
  | fu + 1, h, v2, v3 =>
    gd ((hK h t0).1 = 12) <|
    nn (gR h 788 t0) fun q2 =>
    gd ((hK h q2).1 = 21) <|
    gd (inA 2 (hK h q2).2) <|
    if v3 < (gA h q2 ((2 : Int).toNat)) then (
      gd (hK h q2 = (21, 1850)) <|
      bd (fX12_placesIn (gA h q2) v3 a1) fun r7 =>
      if 0 < r7 then (
        fX12_speaks_b55 t0 a1 (fX12_speaks_b28 t0 a1 fu) h v3 (shl 1 v3) v2)
      else
      fX12_speaks_b55 t0 a1 (fX12_speaks_b28 t0 a1 fu) h v3 0 v2)
    else
    some (v2, h)

def fX12_speaks (h : Hp) (t0 : Nat) (a1 : Int) : Option (Int × Hp) :=
    gd ((hK h t0).1 = 12) <|
    lt (α := Hp) (pI h 769 t0 0) fun h2 =>
    lt (α := Hp) (pI h2 768 t0 0) fun h3 =>
    nn (gR h3 788 t0) fun q4 =>
    gd (hK h3 q4 = (21, 1850)) <|
    bd (fX12_isSoundAt (gA h3 q4) a1) fun r6 =>
    if r6 = 0 then (
      bd2 (fX12_refuse h3 t0 2) fun r9 h11 =>
      some (r9, h11))
    else
    fX12_speaks_b28 t0 a1 FU h3 0 0

def fX12_lapsOf_b75 (c0 : Nat → Int) (a1 : Int) (a2 : Int) (k16 : Int → Option Int) (v3 : Int) (v4 : Int) : Option Int :=
    if v4 = 0 then (
      lt (α := Int) (w32 (v3 + (-1))) fun x2 =>
      k16 x2)
    else
    some v3

def fX12_lapsOf_b26 (c0 : Nat → Int) (a1 : Int) (a2 : Int) (k16 : Int → Option Int) : Nat → Int → Int → Int → Option Int
  | 0, _, _, _ => none
  | fu + 1, v3, v4, v5 =>
    if v5 < v3 then (
      if v4 = 0 then (
        fX12_lapsOf_b75 c0 a1 a2 k16 v3 v4)
      else
      bd (fX12_heardNow c0 a1) fun r3 =>
      bd (fX12_heardLetter c0 a1 (w32 ((w32 (r3 - v3)) + v5))) fun r5 =>
      bd (fX12_heardLetter c0 a2 v5) fun r7 =>
      lt (α := Int) (if r5 = r7 then 1 else 0) fun x10 =>
      lt (α := Int) (w32 (v5 + 1)) fun x11 =>
      fX12_lapsOf_b26 c0 a1 a2 k16 fu v3 x10 x11)
    else
    fX12_lapsOf_b75 c0 a1 a2 k16 v3 v4

def fX12_lapsOf_b16 (c0 : Nat → Int) (a1 : Int) (a2 : Int) : Nat → Int → Option Int
  | 0, _ => none
  | fu + 1, v3 =>
    if 0 < v3 then (
      fX12_lapsOf_b26 c0 a1 a2 (fX12_lapsOf_b16 c0 a1 a2 fu) FU v3 1 0)
    else
    some 0

def fX12_lapsOf (c0 : Nat → Int) (a1 : Int) (a2 : Int) : Option Int :=
    bd (fX12_heardNow c0 a1) fun r1 =>
    bd (fX12_heardNow c0 a2) fun r3 =>
    lt (α := Int) (w32 ((min r1 r3) - 1)) fun x5 =>
    fX12_lapsOf_b16 c0 a1 a2 FU x5

def fX12_laps (h : Hp) (t0 : Nat) (a1 : Int) (a2 : Int) : Option (Int × Hp) :=
    gd ((hK h t0).1 = 12) <|
    lt (α := Hp) (pI h 769 t0 0) fun h2 =>
    lt (α := Hp) (pI h2 768 t0 0) fun h3 =>
    nn (gR h3 788 t0) fun q4 =>
    gd (hK h3 q4 = (21, 1850)) <|
    bd (fX12_isJarAt (gA h3 q4) a1) fun r6 =>
    if r6 = 0 then (
      bd2 (fX12_refuse h3 t0 2) fun r9 h11 =>
      some (r9, h11))
    else
    gd (hK h3 q4 = (21, 1850)) <|
    bd (fX12_isJarAt (gA h3 q4) a2) fun r13 =>
    if r13 = 0 then (
      bd2 (fX12_refuse h3 t0 2) fun r16 h18 =>
      some (r16, h18))
    else
    gd (hK h3 q4 = (21, 1850)) <|
    bd (fX12_lapsOf (gA h3 q4) a1 a2) fun r20 =>
    some (r20, h3)

def fX12_kinds_b77 (t0 : Nat) (a1 : Int) (k28 : Hp → Int → Int → Option (Int × Hp)) (h : Hp) (v2 : Int) (v3 : Int) : Option (Int × Hp) :=
    lt (α := Int) (w32 (v3 + 1)) fun x1 =>
    k28 h v2 x1

def fX12_kinds_b41 (t0 : Nat) (a1 : Int) (k28 : Hp → Int → Int → Option (Int × Hp)) : Nat → Hp → Int → Int → Int → Option (Int × Hp)
  | 0, _, _, _, _ => none
  | fu + 1, h, v2, v3, v4 =>
    gd ((hK h t0).1 = 12) <|
    nn (gR h 788 t0) fun q2 =>
    gd (hK h q2 = (21, 1850)) <|
    bd (fX12_heardNow (gA h q2) v3) fun r4 =>
    if v4 < r4 then (
      bd (fX12_has a1 v3) fun r7 =>
      if r7 = 0 then (
        fX12_kinds_b77 t0 a1 k28 h v2 v3)
      else
      gd (hK h q2 = (21, 1850)) <|
      bd (fX12_heardLetter (gA h q2) v3 v4) fun r11 =>
      lt (α := Int) (bor v2 (shl 1 r11)) fun x13 =>
      lt (α := Int) (w32 (v4 + 1)) fun x14 =>
      fX12_kinds_b41 t0 a1 k28 fu h x13 v3 x14)
    else
    fX12_kinds_b77 t0 a1 k28 h v2 v3

def fX12_kinds_b88 (t0 : Nat) (a1 : Int) : Nat → Hp → Int → Int → Int → Option (Int × Hp)
  | 0, _, _, _, _ => none
  | fu + 1, h, v2, v3, v4 =>
    if v4 ≤ 26 then (
      lt (α := Int) (w32 (v3 + (bnd (shr v2 v4) 1))) fun x2 =>
      lt (α := Int) (w32 (v4 + 1)) fun x3 =>
      fX12_kinds_b88 t0 a1 fu h v2 x2 x3)
    else
    some (v3, h)

def fX12_kinds_b28 (t0 : Nat) (a1 : Int) : Nat → Hp → Int → Int → Option (Int × Hp)
  | 0, _, _, _ => none
  | fu + 1, h, v2, v3 =>
    gd ((hK h t0).1 = 12) <|
    nn (gR h 788 t0) fun q2 =>
    gd ((hK h q2).1 = 21) <|
    gd (inA 2 (hK h q2).2) <|
    if v3 < (gA h q2 ((2 : Int).toNat)) then (
      fX12_kinds_b41 t0 a1 (fX12_kinds_b28 t0 a1 fu) FU h v2 v3 0)
    else
    fX12_kinds_b88 t0 a1 FU h v2 0 1

def fX12_kinds (h : Hp) (t0 : Nat) (a1 : Int) : Option (Int × Hp) :=
    gd ((hK h t0).1 = 12) <|
    lt (α := Hp) (pI h 769 t0 0) fun h2 =>
    lt (α := Hp) (pI h2 768 t0 0) fun h3 =>
    nn (gR h3 788 t0) fun q4 =>
    gd (hK h3 q4 = (21, 1850)) <|
    bd (fX12_areJars (gA h3 q4) a1) fun r6 =>
    if r6 = 0 then (
      bd2 (fX12_refuse h3 t0 2) fun r9 h11 =>
      some (r9, h11))
    else
    fX12_kinds_b28 t0 a1 FU h3 0 0

def fX12_far_b211 (t0 : Nat) (a1 : Int) (a2 : Int) (k51 : Hp → Int → Int → Int → Option (Int × Hp)) (k60 : Hp → Int → Int → Int → Int → Option (Int × Hp)) (h : Hp) (v3 : Int) (v4 : Int) (v5 : Int) (v6 : Int) (v7 : Int) : Option (Int × Hp) :=
    gd ((hK h t0).1 = 12) <|
    nn (gR h 795 t0) fun q2 =>
    gd ((hK h q2).1 = 21) <|
    gd (inA (w32 ((w32 (17 * v5)) + v6)) (hK h q2).2) <|
    lt (α := Hp) (sA h q2 (w32 ((w32 (17 * v5)) + v6)) v7) fun h5 =>
    lt (α := Int) (w32 (v6 + 1)) fun x6 =>
    k60 h5 v3 v4 v5 x6

def fX12_far_b150 (t0 : Nat) (a1 : Int) (a2 : Int) (k51 : Hp → Int → Int → Int → Option (Int × Hp)) (k60 : Hp → Int → Int → Int → Int → Option (Int × Hp)) (h : Hp) (v3 : Int) (v4 : Int) (v5 : Int) (v6 : Int) (v7 : Int) : Option (Int × Hp) :=
    if 0 < v5 then (
      if 0 < v6 then (
        gd ((hK h t0).1 = 12) <|
        nn (gR h 795 t0) fun q4 =>
        gd ((hK h q4).1 = 21) <|
        gd (inA (w32 ((w32 ((w32 (17 * (w32 (v5 - 1)))) + v6)) - 1)) (hK h q4).2) <|
        nn (gR h 788 t0) fun q7 =>
        gd (hK h q7 = (21, 1850)) <|
        bd (fX12_heardLetter (gA h q7) a1 (w32 (v5 - 1))) fun r9 =>
        gd (hK h q7 = (21, 1850)) <|
        bd (fX12_soundAt (gA h q7) a2 (w32 (v6 - 1))) fun r12 =>
        lt (α := Int) (min v7 (w32 ((gA h q4 (w32 ((w32 ((w32 (17 * (w32 (v5 - 1)))) + v6)) - 1)).toNat) + (if r9 = r12 then 0 else 1)))) fun x15 =>
        fX12_far_b211 t0 a1 a2 k51 k60 h v3 v4 v5 v6 x15)
      else
      fX12_far_b211 t0 a1 a2 k51 k60 h v3 v4 v5 v6 v7)
    else
    fX12_far_b211 t0 a1 a2 k51 k60 h v3 v4 v5 v6 v7

def fX12_far_b121 (t0 : Nat) (a1 : Int) (a2 : Int) (k51 : Hp → Int → Int → Int → Option (Int × Hp)) (k60 : Hp → Int → Int → Int → Int → Option (Int × Hp)) (h : Hp) (v3 : Int) (v4 : Int) (v5 : Int) (v6 : Int) (v7 : Int) : Option (Int × Hp) :=
    if 0 < v6 then (
      gd ((hK h t0).1 = 12) <|
      nn (gR h 795 t0) fun q3 =>
      gd ((hK h q3).1 = 21) <|
      gd (inA (w32 ((w32 ((w32 (17 * v5)) + v6)) - 1)) (hK h q3).2) <|
      lt (α := Int) (min v7 (w32 ((gA h q3 (w32 ((w32 ((w32 (17 * v5)) + v6)) - 1)).toNat) + 1))) fun x6 =>
      fX12_far_b150 t0 a1 a2 k51 k60 h v3 v4 v5 v6 x6)
    else
    fX12_far_b150 t0 a1 a2 k51 k60 h v3 v4 v5 v6 v7

def fX12_far_b90 (t0 : Nat) (a1 : Int) (a2 : Int) (k51 : Hp → Int → Int → Int → Option (Int × Hp)) (k60 : Hp → Int → Int → Int → Int → Option (Int × Hp)) (h : Hp) (v3 : Int) (v4 : Int) (v5 : Int) (v6 : Int) (s0 : Int) : Option (Int × Hp) :=
    if 0 < v5 then (
      gd ((hK h t0).1 = 12) <|
      nn (gR h 795 t0) fun q3 =>
      gd ((hK h q3).1 = 21) <|
      gd (inA (w32 ((w32 (17 * (w32 (v5 - 1)))) + v6)) (hK h q3).2) <|
      lt (α := Int) (min s0 (w32 ((gA h q3 (w32 ((w32 (17 * (w32 (v5 - 1)))) + v6)).toNat) + 1))) fun x6 =>
      fX12_far_b121 t0 a1 a2 k51 k60 h v3 v4 v5 v6 x6)
    else
    fX12_far_b121 t0 a1 a2 k51 k60 h v3 v4 v5 v6 s0

def fX12_far_b60 (t0 : Nat) (a1 : Int) (a2 : Int) (k51 : Hp → Int → Int → Int → Option (Int × Hp)) : Nat → Hp → Int → Int → Int → Int → Option (Int × Hp)
  | 0, _, _, _, _, _ => none
  | fu + 1, h, v3, v4, v5, v6 =>
    if v6 ≤ v4 then (
      if v5 = 0 then (
        fX12_far_b90 t0 a1 a2 k51 (fX12_far_b60 t0 a1 a2 k51 fu) h v3 v4 v5 v6 v6)
      else
      if v6 = 0 then (
        fX12_far_b90 t0 a1 a2 k51 (fX12_far_b60 t0 a1 a2 k51 fu) h v3 v4 v5 v6 v5)
      else
      fX12_far_b90 t0 a1 a2 k51 (fX12_far_b60 t0 a1 a2 k51 fu) h v3 v4 v5 v6 1000000)
    else
    lt (α := Int) (w32 (v5 + 1)) fun x2 =>
    k51 h v3 v4 x2

def fX12_far_b51 (t0 : Nat) (a1 : Int) (a2 : Int) : Nat → Hp → Int → Int → Int → Option (Int × Hp)
  | 0, _, _, _, _ => none
  | fu + 1, h, v3, v4, v5 =>
    if v5 ≤ v3 then (
      fX12_far_b60 t0 a1 a2 (fX12_far_b51 t0 a1 a2 fu) FU h v3 v4 v5 0)
    else
    gd ((hK h t0).1 = 12) <|
    nn (gR h 795 t0) fun q3 =>
    gd ((hK h q3).1 = 21) <|
    gd (inA (w32 ((w32 (17 * v3)) + v4)) (hK h q3).2) <|
    some (gA h q3 (w32 ((w32 (17 * v3)) + v4)).toNat, h)

def fX12_far (h : Hp) (t0 : Nat) (a1 : Int) (a2 : Int) : Option (Int × Hp) :=
    gd ((hK h t0).1 = 12) <|
    lt (α := Hp) (pI h 769 t0 0) fun h2 =>
    lt (α := Hp) (pI h2 768 t0 0) fun h3 =>
    nn (gR h3 788 t0) fun q4 =>
    gd (hK h3 q4 = (21, 1850)) <|
    bd (fX12_isJarAt (gA h3 q4) a1) fun r6 =>
    if r6 = 0 then (
      bd2 (fX12_refuse h3 t0 2) fun r9 h11 =>
      some (r9, h11))
    else
    gd (hK h3 q4 = (21, 1850)) <|
    bd (fX12_isSoundAt (gA h3 q4) a2) fun r13 =>
    if r13 = 0 then (
      bd2 (fX12_refuse h3 t0 2) fun r22 h24 =>
      some (r22, h24))
    else
    gd (hK h3 q4 = (21, 1850)) <|
    bd (fX12_heardNow (gA h3 q4) a1) fun r17 =>
    gd ((hK h3 q4).1 = 21) <|
    gd (inA (w32 (4 + a2)) (hK h3 q4).2) <|
    lt (α := Int) (gA h3 q4 (w32 (4 + a2)).toNat) fun x21 =>
    fX12_far_b51 t0 a1 a2 FU h3 r17 x21 0

def fX12_common_b118 (t0 : Nat) (a1 : Int) (a2 : Int) (k37 : Hp → Int → Int → Option (Int × Hp)) (k50 : Hp → Int → Int → Int → Option (Int × Hp)) (h : Hp) (v3 : Int) (v4 : Int) (v5 : Int) (v6 : Int) : Option (Int × Hp) :=
    lt (α := Int) (max v3 v6) fun x1 =>
    lt (α := Int) (w32 (v5 + 1)) fun x2 =>
    k50 h x1 v4 x2

def fX12_common_b63 (t0 : Nat) (a1 : Int) (a2 : Int) (k37 : Hp → Int → Int → Option (Int × Hp)) (k50 : Hp → Int → Int → Int → Option (Int × Hp)) : Nat → Hp → Int → Int → Int → Int → Option (Int × Hp)
  | 0, _, _, _, _, _ => none
  | fu + 1, h, v3, v4, v5, v6 =>
    gd ((hK h t0).1 = 12) <|
    nn (gR h 788 t0) fun q2 =>
    gd (hK h q2 = (21, 1850)) <|
    bd (fX12_heardNow (gA h q2) a1) fun r4 =>
    if (w32 (v4 + v6)) < r4 then (
      gd (hK h q2 = (21, 1850)) <|
      bd (fX12_heardNow (gA h q2) a2) fun r8 =>
      if (w32 (v5 + v6)) < r8 then (
        gd (hK h q2 = (21, 1850)) <|
        bd (fX12_heardLetter (gA h q2) a1 (w32 (v4 + v6))) fun r12 =>
        gd (hK h q2 = (21, 1850)) <|
        bd (fX12_heardLetter (gA h q2) a2 (w32 (v5 + v6))) fun r15 =>
        if r12 = r15 then (
          lt (α := Int) (w32 (v6 + 1)) fun x18 =>
          fX12_common_b63 t0 a1 a2 k37 k50 fu h v3 v4 v5 x18)
        else
        fX12_common_b118 t0 a1 a2 k37 k50 h v3 v4 v5 v6)
      else
      fX12_common_b118 t0 a1 a2 k37 k50 h v3 v4 v5 v6)
    else
    fX12_common_b118 t0 a1 a2 k37 k50 h v3 v4 v5 v6

def fX12_common_b50 (t0 : Nat) (a1 : Int) (a2 : Int) (k37 : Hp → Int → Int → Option (Int × Hp)) : Nat → Hp → Int → Int → Int → Option (Int × Hp)
  | 0, _, _, _, _ => none
  | fu + 1, h, v3, v4, v5 =>
    gd ((hK h t0).1 = 12) <|
    nn (gR h 788 t0) fun q2 =>
    gd (hK h q2 = (21, 1850)) <|
    bd (fX12_heardNow (gA h q2) a2) fun r4 =>
    if v5 < r4 then (
      fX12_common_b63 t0 a1 a2 k37 (fX12_common_b50 t0 a1 a2 k37 fu) FU h v3 v4 v5 0)
    else
    lt (α := Int) (w32 (v4 + 1)) fun x7 =>
    k37 h v3 x7

def fX12_common_b37 (t0 : Nat) (a1 : Int) (a2 : Int) : Nat → Hp → Int → Int → Option (Int × Hp)
  | 0, _, _, _ => none
  | fu + 1, h, v3, v4 =>
    gd ((hK h t0).1 = 12) <|
    nn (gR h 788 t0) fun q2 =>
    gd (hK h q2 = (21, 1850)) <|
    bd (fX12_heardNow (gA h q2) a1) fun r4 =>
    if v4 < r4 then (
      fX12_common_b50 t0 a1 a2 (fX12_common_b37 t0 a1 a2 fu) FU h v3 v4 0)
    else
    some (v3, h)

def fX12_common (h : Hp) (t0 : Nat) (a1 : Int) (a2 : Int) : Option (Int × Hp) :=
    gd ((hK h t0).1 = 12) <|
    lt (α := Hp) (pI h 769 t0 0) fun h2 =>
    lt (α := Hp) (pI h2 768 t0 0) fun h3 =>
    nn (gR h3 788 t0) fun q4 =>
    gd (hK h3 q4 = (21, 1850)) <|
    bd (fX12_isJarAt (gA h3 q4) a1) fun r6 =>
    if r6 = 0 then (
      bd2 (fX12_refuse h3 t0 2) fun r9 h11 =>
      some (r9, h11))
    else
    gd (hK h3 q4 = (21, 1850)) <|
    bd (fX12_isJarAt (gA h3 q4) a2) fun r13 =>
    if r13 = 0 then (
      bd2 (fX12_refuse h3 t0 2) fun r16 h18 =>
      some (r16, h18))
    else
    fX12_common_b37 t0 a1 a2 FU h3 0 0

def fX12_chainFrom_b112 (t0 : Nat) (rcf : Hp → Int → Int → Int → Option Hp) (a1 : Int) (a2 : Int) (a3 : Int) (k45 : Hp → Int → Option Hp) (h : Hp) (v4 : Int) : Option Hp :=
    lt (α := Int) (w32 (v4 + 1)) fun x1 =>
    k45 h x1

def fX12_chainFrom_b90 (t0 : Nat) (rcf : Hp → Int → Int → Int → Option Hp) (a1 : Int) (a2 : Int) (a3 : Int) (k45 : Hp → Int → Option Hp) (h : Hp) (v4 : Int) : Option Hp :=
    gd ((hK h t0).1 = 12) <|
    nn (gR h 796 t0) fun q2 =>
    gd ((hK h q2).1 = 21) <|
    gd (inA a1 (hK h q2).2) <|
    lt (α := Hp) (sA h q2 a1 v4) fun h5 =>
    bd (rcf h5 (w32 (a1 + 1)) (bor a2 (shl 1 v4)) a3) fun h8 =>
    fX12_chainFrom_b112 t0 rcf a1 a2 a3 k45 h8 v4

def fX12_chainFrom_b45 (t0 : Nat) (rcf : Hp → Int → Int → Int → Option Hp) (a1 : Int) (a2 : Int) (a3 : Int) : Nat → Hp → Int → Option Hp
  | 0, _, _ => none
  | fu + 1, h, v4 =>
    gd ((hK h t0).1 = 12) <|
    nn (gR h 788 t0) fun q2 =>
    gd ((hK h q2).1 = 21) <|
    gd (inA 2 (hK h q2).2) <|
    if v4 < (gA h q2 ((2 : Int).toNat)) then (
      bd (fX12_has a2 v4) fun r6 =>
      if r6 = 0 then (
        if 0 < a1 then (
          nn (gR h 796 t0) fun q10 =>
          gd ((hK h q10).1 = 21) <|
          gd (inA (w32 (a1 - 1)) (hK h q10).2) <|
          gd (hK h q2 = (21, 1850)) <|
          bd (fX12_lapsOf (gA h q2) (gA h q10 (w32 (a1 - 1)).toNat) v4) fun r14 =>
          if r14 < a3 then (
            fX12_chainFrom_b112 t0 rcf a1 a2 a3 (fX12_chainFrom_b45 t0 rcf a1 a2 a3 fu) h v4)
          else
          fX12_chainFrom_b90 t0 rcf a1 a2 a3 (fX12_chainFrom_b45 t0 rcf a1 a2 a3 fu) h v4)
        else
        fX12_chainFrom_b90 t0 rcf a1 a2 a3 (fX12_chainFrom_b45 t0 rcf a1 a2 a3 fu) h v4)
      else
      fX12_chainFrom_b112 t0 rcf a1 a2 a3 (fX12_chainFrom_b45 t0 rcf a1 a2 a3 fu) h v4)
    else
    some h

def fX12_chainFrom_b42 (t0 : Nat) (rcf : Hp → Int → Int → Int → Option Hp) (a1 : Int) (a2 : Int) (a3 : Int) (h : Hp) : Option Hp :=
    fX12_chainFrom_b45 t0 rcf a1 a2 a3 FU h 0

def fX12_chainFrom_b16 (t0 : Nat) (rcf : Hp → Int → Int → Int → Option Hp) (a1 : Int) (a2 : Int) (a3 : Int) : Nat → Hp → Int → Option Hp
  | 0, _, _ => none
  | fu + 1, h, v4 =>
    if v4 < a1 then (
      gd ((hK h t0).1 = 12) <|
      nn (gR h 797 t0) fun q3 =>
      nn (gR h 796 t0) fun q4 =>
      gd ((hK h q4).1 = 21) <|
      gd (inA v4 (hK h q4).2) <|
      gd ((hK h q3).1 = 21) <|
      gd (inA v4 (hK h q3).2) <|
      lt (α := Hp) (sA h q3 v4 (gA h q4 v4.toNat)) fun h9 =>
      lt (α := Int) (w32 (v4 + 1)) fun x10 =>
      fX12_chainFrom_b16 t0 rcf a1 a2 a3 fu h9 x10)
    else
    fX12_chainFrom_b42 t0 rcf a1 a2 a3 h

def fX12_chainFrom_body (t0 : Nat) (rcf : Hp → Int → Int → Int → Option Hp) (h : Hp) (a1 : Int) (a2 : Int) (a3 : Int) : Option Hp :=
    gd ((hK h t0).1 = 12) <|
    if a1 ≤ (gI h 799 t0) then (
      fX12_chainFrom_b42 t0 rcf a1 a2 a3 h)
    else
    lt (α := Hp) (pI h 799 t0 a1) fun h3 =>
    fX12_chainFrom_b16 t0 rcf a1 a2 a3 FU h3 0

def fX12_chainFrom : Nat → Hp → Nat → Int → Int → Int → Option Hp
  | 0, _, _, _, _, _ => none
  | d + 1, h, t0, a1, a2, a3 => fX12_chainFrom_body t0 (fun h a1 a2 a3 => fX12_chainFrom d h t0 a1 a2 a3) h a1 a2 a3

def fX12_chain_b66 (t0 : Nat) (a1 : Int) : Nat → Hp → Int → Option (Int × Hp)
  | 0, _, _ => none
  | fu + 1, h, v2 =>
    gd ((hK h t0).1 = 12) <|
    if v2 < (gI h 799 t0) then (
      nn (gR h 798 t0) fun q3 =>
      nn (gR h 797 t0) fun q4 =>
      gd ((hK h q4).1 = 21) <|
      gd (inA v2 (hK h q4).2) <|
      gd ((hK h q3).1 = 21) <|
      gd (inA v2 (hK h q3).2) <|
      lt (α := Hp) (sA h q3 v2 (gA h q4 v2.toNat)) fun h9 =>
      lt (α := Int) (w32 (v2 + 1)) fun x10 =>
      fX12_chain_b66 t0 a1 fu h9 x10)
    else
    some (gI h 799 t0, h)

def fX12_chain (h : Hp) (t0 : Nat) (a1 : Int) : Option (Int × Hp) :=
    gd ((hK h t0).1 = 12) <|
    lt (α := Hp) (pI h 769 t0 0) fun h2 =>
    lt (α := Hp) (pI h2 768 t0 0) fun h3 =>
    bd (fX12_isIn a1 1 11) fun r4 =>
    if r4 = 0 then (
      bd2 (fX12_refuse h3 t0 5) fun r20 h22 =>
      some (r20, h22))
    else
    nn (gR h3 788 t0) fun q7 =>
    gd ((hK h3 q7).1 = 21) <|
    gd (inA 2 (hK h3 q7).2) <|
    if (gA h3 q7 ((2 : Int).toNat)) = 0 then (
      bd2 (fX12_refuse h3 t0 8) fun r17 h19 =>
      some (r17, h19))
    else
    lt (α := Hp) (pI h3 799 t0 0) fun h11 =>
    bd (fX12_chainFrom 12 h11 t0 0 0 a1) fun h14 =>
    gd ((hK h14 t0).1 = 12) <|
    lt (α := Hp) (pI h14 800 t0 (gI h14 799 t0)) fun h16 =>
    fX12_chain_b66 t0 a1 FU h16 0

def fX12_chainAt (h : Hp) (t0 : Nat) (a1 : Int) : Option (Int × Hp) :=
    gd ((hK h t0).1 = 12) <|
    lt (α := Hp) (pI h 769 t0 0) fun h2 =>
    lt (α := Hp) (pI h2 768 t0 0) fun h3 =>
    bd (fX12_isIn a1 0 (w32 ((gI h3 800 t0) - 1))) fun r4 =>
    if r4 = 0 then (
      bd2 (fX12_refuse h3 t0 8) fun r7 h9 =>
      some (r7, h9))
    else
    nn (gR h3 798 t0) fun q10 =>
    gd ((hK h3 q10).1 = 21) <|
    gd (inA a1 (hK h3 q10).2) <|
    some (gA h3 q10 a1.toNat, h3)

def fX12_bits_b4 (a1 : Int) : Nat → Int → Int → Option Int
  | 0, _, _ => none
  | fu + 1, v1, v2 =>
    if v2 < 8 then (
      lt (α := Int) (w32 (v1 + (bnd (shr a1 v2) 1))) fun x2 =>
      lt (α := Int) (w32 (v2 + 1)) fun x3 =>
      fX12_bits_b4 a1 fu x2 x3)
    else
    some v1

def fX12_bits (a1 : Int) : Option Int :=
    fX12_bits_b4 a1 FU 0 0

def fX12_witness_b68 (t0 : Nat) (a1 : Int) (k28 : Hp → Int → Int → Option (Int × Hp)) (h : Hp) (v2 : Int) (v3 : Int) : Option (Int × Hp) :=
    lt (α := Int) (w32 (v3 + 1)) fun x1 =>
    k28 h v2 x1

def fX12_witness_b55 (t0 : Nat) (a1 : Int) (k28 : Hp → Int → Int → Option (Int × Hp)) (h : Hp) (v2 : Int) (v3 : Int) : Option (Int × Hp) :=
    gd ((hK h t0).1 = 12) <|
    nn (gR h 788 t0) fun q2 =>
    gd (hK h q2 = (21, 1850)) <|
    bd (fX12_fitsOf (gA h q2) v3) fun r4 =>
    if r4 = (shl 1 a1) then (
      fX12_witness_b68 t0 a1 k28 h v3 v3)
    else
    fX12_witness_b68 t0 a1 k28 h v2 v3

def fX12_witness_b28 (t0 : Nat) (a1 : Int) : Nat → Hp → Int → Int → Option (Int × Hp)
  | 0, _, _, _ => none
  | fu + 1, h, v2, v3 =>
    gd ((hK h t0).1 = 12) <|
    nn (gR h 788 t0) fun q2 =>
    gd ((hK h q2).1 = 21) <|
    gd (inA 2 (hK h q2).2) <|
    if v3 < (shl 1 (gA h q2 ((2 : Int).toNat))) then (
      if v2 < 0 then (
        fX12_witness_b55 t0 a1 (fX12_witness_b28 t0 a1 fu) h v2 v3)
      else
      bd (fX12_bits v3) fun r11 =>
      bd (fX12_bits v2) fun r13 =>
      if r11 < r13 then (
        fX12_witness_b55 t0 a1 (fX12_witness_b28 t0 a1 fu) h v2 v3)
      else
      fX12_witness_b68 t0 a1 (fX12_witness_b28 t0 a1 fu) h v2 v3)
    else
    if v2 < 0 then (
      bd2 (fX12_refuse h t0 8) fun r7 h9 =>
      some (r7, h9))
    else
    some (v2, h)

def fX12_witness (h : Hp) (t0 : Nat) (a1 : Int) : Option (Int × Hp) :=
    gd ((hK h t0).1 = 12) <|
    lt (α := Hp) (pI h 769 t0 0) fun h2 =>
    lt (α := Hp) (pI h2 768 t0 0) fun h3 =>
    nn (gR h3 788 t0) fun q4 =>
    gd (hK h3 q4 = (21, 1850)) <|
    bd (fX12_isSoundAt (gA h3 q4) a1) fun r6 =>
    if r6 = 0 then (
      bd2 (fX12_refuse h3 t0 2) fun r9 h11 =>
      some (r9, h11))
    else
    fX12_witness_b28 t0 a1 FU h3 (-1) 0

def fX12_standsIn_b71 (c0 : Nat → Int) (a1 : Int) (a2 : Int) (k9 : Int → Int → Option Int) (v3 : Int) (v4 : Int) (v5 : Int) : Option Int :=
    if v5 = 0 then (
      lt (α := Int) (w32 (v4 + 1)) fun x2 =>
      k9 v3 x2)
    else
    some 1

def fX12_standsIn_b27 (c0 : Nat → Int) (a1 : Int) (a2 : Int) (k9 : Int → Int → Option Int) : Nat → Int → Int → Int → Int → Option Int
  | 0, _, _, _, _ => none
  | fu + 1, v3, v4, v5, v6 =>
    if v6 < v3 then (
      if v5 = 0 then (
        fX12_standsIn_b71 c0 a1 a2 k9 v3 v4 v5)
      else
      bd (fX12_heardLetter c0 a1 v6) fun r3 =>
      bd (fX12_heardLetter c0 a2 (w32 (v4 + v6))) fun r5 =>
      lt (α := Int) (if r3 = r5 then 1 else 0) fun x8 =>
      lt (α := Int) (w32 (v6 + 1)) fun x9 =>
      fX12_standsIn_b27 c0 a1 a2 k9 fu v3 v4 x8 x9)
    else
    fX12_standsIn_b71 c0 a1 a2 k9 v3 v4 v5

def fX12_standsIn_b9 (c0 : Nat → Int) (a1 : Int) (a2 : Int) : Nat → Int → Int → Option Int
  | 0, _, _ => none
  | fu + 1, v3, v4 =>
    bd (fX12_heardNow c0 a2) fun r1 =>
    if (w32 (v4 + v3)) ≤ r1 then (
      fX12_standsIn_b27 c0 a1 a2 (fX12_standsIn_b9 c0 a1 a2 fu) FU v3 v4 1 0)
    else
    some 0

def fX12_standsIn (c0 : Nat → Int) (a1 : Int) (a2 : Int) : Option Int :=
    bd (fX12_heardNow c0 a1) fun r1 =>
    fX12_standsIn_b9 c0 a1 a2 FU r1 0

def fX12_isOwn_b67 (c0 : Nat → Int) (a1 : Int) (a2 : Int) (k12 : Int → Option Int) (v3 : Int) : Option Int :=
    lt (α := Int) (w32 (v3 + 1)) fun x1 =>
    k12 x1

def fX12_isOwn_b12 (c0 : Nat → Int) (a1 : Int) (a2 : Int) : Nat → Int → Option Int
  | 0, _ => none
  | fu + 1, v3 =>
    gd (inA 2 1850) <|
    if v3 < (c0 ((2 : Int).toNat)) then (
      if v3 = a1 then (
        fX12_isOwn_b67 c0 a1 a2 (fX12_isOwn_b12 c0 a1 a2 fu) v3)
      else
      bd (fX12_has a2 v3) fun r4 =>
      if r4 = 0 then (
        fX12_isOwn_b67 c0 a1 a2 (fX12_isOwn_b12 c0 a1 a2 fu) v3)
      else
      bd (fX12_standsIn c0 a1 v3) fun r7 =>
      if r7 = 0 then (
        fX12_isOwn_b67 c0 a1 a2 (fX12_isOwn_b12 c0 a1 a2 fu) v3)
      else
      bd (fX12_heardNow c0 v3) fun r10 =>
      bd (fX12_heardNow c0 a1) fun r12 =>
      if r10 ≤ r12 then (
        if v3 < a1 then (
          some 0)
        else
        fX12_isOwn_b67 c0 a1 a2 (fX12_isOwn_b12 c0 a1 a2 fu) v3)
      else
      some 0)
    else
    some 1

def fX12_isOwn (c0 : Nat → Int) (a1 : Int) (a2 : Int) : Option Int :=
    bd (fX12_heardNow c0 a1) fun r1 =>
    if r1 = 0 then (
      some 0)
    else
    fX12_isOwn_b12 c0 a1 a2 FU 0

def fX12_isLess_b24 (h : Hp) (t0 : Nat) (a1 : Int) : Nat → Int → Option Int
  | 0, _ => none
  | fu + 1, v2 =>
    if v2 < a1 then (
      gd ((hK h t0).1 = 12) <|
      nn (gR h 791 t0) fun q3 =>
      gd ((hK h q3).1 = 21) <|
      gd (inA v2 (hK h q3).2) <|
      nn (gR h 803 t0) fun q6 =>
      gd ((hK h q6).1 = 21) <|
      gd (inA v2 (hK h q6).2) <|
      if (gA h q3 v2.toNat) = (gA h q6 v2.toNat) then (
        lt (α := Int) (w32 (v2 + 1)) fun x10 =>
        fX12_isLess_b24 h t0 a1 fu x10)
      else
      gd (inA v2 (hK h q3).2) <|
      gd (inA v2 (hK h q6).2) <|
      some (if (gA h q3 v2.toNat) < (gA h q6 v2.toNat) then 1 else 0))
    else
    some 0

def fX12_isLess (h : Hp) (t0 : Nat) (a1 : Int) : Option Int :=
    gd ((hK h t0).1 = 12) <|
    if (gI h 805 t0) = a1 then (
      fX12_isLess_b24 h t0 a1 FU 0)
    else
    some (if a1 < (gI h 805 t0) then 1 else 0)

def fX12_mergeFrom_b36 (t0 : Nat) (rcf : Hp → Int → Int → Int → Option Hp) (a1 : Int) (a2 : Int) (a3 : Int) : Nat → Hp → Int → Option Hp
  | 0, _, _ => none
  | fu + 1, h, v4 =>
    if v4 < a3 then (
      gd ((hK h t0).1 = 12) <|
      nn (gR h 803 t0) fun q3 =>
      nn (gR h 791 t0) fun q4 =>
      gd ((hK h q4).1 = 21) <|
      gd (inA v4 (hK h q4).2) <|
      gd ((hK h q3).1 = 21) <|
      gd (inA v4 (hK h q3).2) <|
      lt (α := Hp) (sA h q3 v4 (gA h q4 v4.toNat)) fun h9 =>
      lt (α := Int) (w32 (v4 + 1)) fun x10 =>
      fX12_mergeFrom_b36 t0 rcf a1 a2 a3 fu h9 x10)
    else
    some h

def fX12_mergeFrom_b28 (t0 : Nat) (rcf : Hp → Int → Int → Int → Option Hp) (a1 : Int) (a2 : Int) (a3 : Int) (h : Hp) : Option Hp :=
    gd ((hK h t0).1 = 12) <|
    lt (α := Hp) (pI h 805 t0 a3) fun h2 =>
    fX12_mergeFrom_b36 t0 rcf a1 a2 a3 FU h2 0

def fX12_mergeFrom_b177 (t0 : Nat) (rcf : Hp → Int → Int → Int → Option Hp) (a1 : Int) (a2 : Int) (a3 : Int) (k66 : Hp → Int → Option Hp) (h : Hp) (v4 : Int) : Option Hp :=
    lt (α := Int) (w32 (v4 + 1)) fun x1 =>
    k66 h x1

def fX12_mergeFrom_b117 (t0 : Nat) (rcf : Hp → Int → Int → Int → Option Hp) (a1 : Int) (a2 : Int) (a3 : Int) (k66 : Hp → Int → Option Hp) : Nat → Hp → Int → Int → Int → Int → Option Hp
  | 0, _, _, _, _, _ => none
  | fu + 1, h, v4, v5, v6, v7 =>
    gd ((hK h t0).1 = 12) <|
    nn (gR h 788 t0) fun q2 =>
    gd (hK h q2 = (21, 1850)) <|
    bd (fX12_heardNow (gA h q2) v5) fun r4 =>
    if v7 < r4 then (
      nn (gR h 791 t0) fun q13 =>
      gd (hK h q2 = (21, 1850)) <|
      bd (fX12_heardLetter (gA h q2) v5 v7) fun r15 =>
      gd ((hK h q13).1 = 21) <|
      gd (inA (w32 ((w32 (a3 + v7)) - v6)) (hK h q13).2) <|
      lt (α := Hp) (sA h q13 (w32 ((w32 (a3 + v7)) - v6)) r15) fun h19 =>
      lt (α := Int) (w32 (v7 + 1)) fun x20 =>
      fX12_mergeFrom_b117 t0 rcf a1 a2 a3 k66 fu h19 v4 v5 v6 x20)
    else
    gd (hK h q2 = (21, 1850)) <|
    bd (fX12_heardNow (gA h q2) v5) fun r8 =>
    bd (rcf h (bor a1 (shl 1 v4)) v5 (w32 ((w32 (a3 + r8)) - v6))) fun h12 =>
    fX12_mergeFrom_b177 t0 rcf a1 a2 a3 k66 h12 v4

def fX12_mergeFrom_b111 (t0 : Nat) (rcf : Hp → Int → Int → Int → Option Hp) (a1 : Int) (a2 : Int) (a3 : Int) (k66 : Hp → Int → Option Hp) (h : Hp) (v4 : Int) (v5 : Int) (s0 : Int) : Option Hp :=
    fX12_mergeFrom_b117 t0 rcf a1 a2 a3 k66 FU h v4 v5 s0 s0

def fX12_mergeFrom_b66 (t0 : Nat) (rcf : Hp → Int → Int → Int → Option Hp) (a1 : Int) (a2 : Int) (a3 : Int) : Nat → Hp → Int → Option Hp
  | 0, _, _ => none
  | fu + 1, h, v4 =>
    gd ((hK h t0).1 = 12) <|
    if v4 < (gI h 804 t0) then (
      bd (fX12_has a1 v4) fun r3 =>
      if r3 = 0 then (
        nn (gR h 801 t0) fun q6 =>
        gd ((hK h q6).1 = 21) <|
        gd (inA v4 (hK h q6).2) <|
        lt (α := Int) (gA h q6 v4.toNat) fun x9 =>
        if a2 < 0 then (
          fX12_mergeFrom_b111 t0 rcf a1 a2 a3 (fX12_mergeFrom_b66 t0 rcf a1 a2 a3 fu) h v4 x9 0)
        else
        nn (gR h 788 t0) fun q11 =>
        gd (hK h q11 = (21, 1850)) <|
        bd (fX12_lapsOf (gA h q11) a2 x9) fun r13 =>
        fX12_mergeFrom_b111 t0 rcf a1 a2 a3 (fX12_mergeFrom_b66 t0 rcf a1 a2 a3 fu) h v4 x9 r13)
      else
      fX12_mergeFrom_b177 t0 rcf a1 a2 a3 (fX12_mergeFrom_b66 t0 rcf a1 a2 a3 fu) h v4)
    else
    some h

def fX12_mergeFrom_body (t0 : Nat) (rcf : Hp → Int → Int → Int → Option Hp) (h : Hp) (a1 : Int) (a2 : Int) (a3 : Int) : Option Hp :=
    gd ((hK h t0).1 = 12) <|
    if a1 = (w32 ((shl 1 (gI h 804 t0)) - 1)) then (
      if (gI h 805 t0) < 0 then (
        fX12_mergeFrom_b28 t0 rcf a1 a2 a3 h)
      else
      bd (fX12_isLess h t0 a3) fun r4 =>
      if r4 = 0 then (
        some h)
      else
      fX12_mergeFrom_b28 t0 rcf a1 a2 a3 h)
    else
    fX12_mergeFrom_b66 t0 rcf a1 a2 a3 FU h 0

def fX12_mergeFrom : Nat → Hp → Nat → Int → Int → Int → Option Hp
  | 0, _, _, _, _, _ => none
  | d + 1, h, t0, a1, a2, a3 => fX12_mergeFrom_body t0 (fun h a1 a2 a3 => fX12_mergeFrom d h t0 a1 a2 a3) h a1 a2 a3

def fX12_merged_b96 (t0 : Nat) (a1 : Int) (k46 : Hp → Int → Option (Int × Hp)) (h : Hp) (v2 : Int) : Option (Int × Hp) :=
    lt (α := Int) (w32 (v2 + 1)) fun x1 =>
    k46 h x1

def fX12_merged_b124 (t0 : Nat) (a1 : Int) : Nat → Hp → Int → Option (Int × Hp)
  | 0, _, _ => none
  | fu + 1, h, v2 =>
    gd ((hK h t0).1 = 12) <|
    if v2 < (gI h 805 t0) then (
      nn (gR h 802 t0) fun q3 =>
      nn (gR h 803 t0) fun q4 =>
      gd ((hK h q4).1 = 21) <|
      gd (inA v2 (hK h q4).2) <|
      gd ((hK h q3).1 = 21) <|
      gd (inA v2 (hK h q3).2) <|
      lt (α := Hp) (sA h q3 v2 (gA h q4 v2.toNat)) fun h9 =>
      lt (α := Int) (w32 (v2 + 1)) fun x10 =>
      fX12_merged_b124 t0 a1 fu h9 x10)
    else
    some (gI h 805 t0, h)

def fX12_merged_b46 (t0 : Nat) (a1 : Int) : Nat → Hp → Int → Option (Int × Hp)
  | 0, _, _ => none
  | fu + 1, h, v2 =>
    gd ((hK h t0).1 = 12) <|
    nn (gR h 788 t0) fun q2 =>
    gd ((hK h q2).1 = 21) <|
    gd (inA 2 (hK h q2).2) <|
    if v2 < (gA h q2 ((2 : Int).toNat)) then (
      bd (fX12_has a1 v2) fun r12 =>
      if r12 = 0 then (
        fX12_merged_b96 t0 a1 (fX12_merged_b46 t0 a1 fu) h v2)
      else
      gd (hK h q2 = (21, 1850)) <|
      bd (fX12_isOwn (gA h q2) v2 a1) fun r16 =>
      if r16 = 0 then (
        fX12_merged_b96 t0 a1 (fX12_merged_b46 t0 a1 fu) h v2)
      else
      nn (gR h 801 t0) fun q19 =>
      gd ((hK h q19).1 = 21) <|
      gd (inA (gI h 804 t0) (hK h q19).2) <|
      lt (α := Hp) (sA h q19 (gI h 804 t0) v2) fun h22 =>
      lt (α := Hp) (pI h22 804 t0 (w32 ((gI h22 804 t0) + 1))) fun h23 =>
      fX12_merged_b96 t0 a1 (fX12_merged_b46 t0 a1 fu) h23 v2)
    else
    lt (α := Hp) (pI h 805 t0 (-1)) fun h6 =>
    bd (fX12_mergeFrom 12 h6 t0 0 (-1) 0) fun h9 =>
    gd ((hK h9 t0).1 = 12) <|
    lt (α := Hp) (pI h9 806 t0 (gI h9 805 t0)) fun h11 =>
    fX12_merged_b124 t0 a1 FU h11 0

def fX12_merged (h : Hp) (t0 : Nat) (a1 : Int) : Option (Int × Hp) :=
    gd ((hK h t0).1 = 12) <|
    lt (α := Hp) (pI h 769 t0 0) fun h2 =>
    lt (α := Hp) (pI h2 768 t0 0) fun h3 =>
    nn (gR h3 788 t0) fun q4 =>
    gd (hK h3 q4 = (21, 1850)) <|
    bd (fX12_areJars (gA h3 q4) a1) fun r6 =>
    if r6 = 0 then (
      bd2 (fX12_refuse h3 t0 2) fun r16 h18 =>
      some (r16, h18))
    else
    bd (fX12_bits a1) fun r9 =>
    if r9 ≤ 6 then (
      lt (α := Hp) (pI h3 804 t0 0) fun h12 =>
      fX12_merged_b46 t0 a1 FU h12 0)
    else
    bd2 (fX12_refuse h3 t0 5) fun r13 h15 =>
    some (r13, h15)

def fX12_mergedAt (h : Hp) (t0 : Nat) (a1 : Int) : Option (Int × Hp) :=
    gd ((hK h t0).1 = 12) <|
    lt (α := Hp) (pI h 769 t0 0) fun h2 =>
    lt (α := Hp) (pI h2 768 t0 0) fun h3 =>
    bd (fX12_isIn a1 0 (w32 ((gI h3 806 t0) - 1))) fun r4 =>
    if r4 = 0 then (
      bd2 (fX12_refuse h3 t0 8) fun r7 h9 =>
      some (r7, h9))
    else
    nn (gR h3 802 t0) fun q10 =>
    gd ((hK h3 q10).1 = 21) <|
    gd (inA a1 (hK h3 q10).2) <|
    some (gA h3 q10 a1.toNat, h3)

def fX12_keepsOf (c0 : Nat → Int) (a1 : Int) (a2 : Int) : Option Int :=
    gd (inA (w32 (140 + a1)) 1850) <|
    gd (inA (w32 (140 + a1)) 1850) <|
    bd (fX12_goneOf c0 a1 (c0 (w32 (140 + a1)).toNat) a2) fun r3 =>
    some (w32 ((c0 (w32 (140 + a1)).toNat) - r3))

def fX12_keeps (h : Hp) (t0 : Nat) (a1 : Int) (a2 : Int) : Option (Int × Hp) :=
    gd ((hK h t0).1 = 12) <|
    lt (α := Hp) (pI h 769 t0 0) fun h2 =>
    lt (α := Hp) (pI h2 768 t0 0) fun h3 =>
    nn (gR h3 788 t0) fun q4 =>
    gd (hK h3 q4 = (21, 1850)) <|
    bd (fX12_isJarAt (gA h3 q4) a1) fun r6 =>
    if r6 = 0 then (
      bd2 (fX12_refuse h3 t0 2) fun r18 h20 =>
      some (r18, h20))
    else
    bd (fX12_isIn a2 0 999) fun r9 =>
    if r9 = 0 then (
      bd2 (fX12_refuse h3 t0 5) fun r12 h14 =>
      some (r12, h14))
    else
    gd (hK h3 q4 = (21, 1850)) <|
    bd (fX12_keepsOf (gA h3 q4) a1 a2) fun r16 =>
    some (r16, h3)

def fX12_keptBy_b37 (c0 : Nat → Int) (a1 : Int) (a2 : Int) (k5 : Int → Int → Option Int) (v4 : Int) (s0 : Int) (s1 : Int) : Option Int :=
    lt (α := Int) (w32 (s1 + s0)) fun x1 =>
    lt (α := Int) (w32 (v4 + 1)) fun x2 =>
    k5 x1 x2

def fX12_keptBy_b5 (c0 : Nat → Int) (a1 : Int) (a2 : Int) : Nat → Int → Int → Option Int
  | 0, _, _ => none
  | fu + 1, v3, v4 =>
    gd (inA 2 1850) <|
    if v4 < (c0 ((2 : Int).toNat)) then (
      bd (fX12_has a1 v4) fun r3 =>
      if r3 = 0 then (
        fX12_keptBy_b37 c0 a1 a2 (fX12_keptBy_b5 c0 a1 a2 fu) v4 0 v3)
      else
      bd (fX12_keepsOf c0 v4 a2) fun r6 =>
      fX12_keptBy_b37 c0 a1 a2 (fX12_keptBy_b5 c0 a1 a2 fu) v4 r6 v3)
    else
    some v3

def fX12_keptBy (c0 : Nat → Int) (a1 : Int) (a2 : Int) : Option Int :=
    fX12_keptBy_b5 c0 a1 a2 FU 0 0

def fX12_fewest_b97 (t0 : Nat) (a1 : Int) (a2 : Int) (k47 : Hp → Int → Int → Option (Int × Hp)) (h : Hp) (v3 : Int) (v4 : Int) : Option (Int × Hp) :=
    lt (α := Int) (w32 (v4 + 1)) fun x1 =>
    k47 h v3 x1

def fX12_fewest_b91 (t0 : Nat) (a1 : Int) (a2 : Int) (k47 : Hp → Int → Int → Option (Int × Hp)) (h : Hp) (v4 : Int) : Option (Int × Hp) :=
    bd (fX12_bits v4) fun r1 =>
    fX12_fewest_b97 t0 a1 a2 k47 h r1 v4

def fX12_fewest_b47 (t0 : Nat) (a1 : Int) (a2 : Int) : Nat → Hp → Int → Int → Option (Int × Hp)
  | 0, _, _, _ => none
  | fu + 1, h, v3, v4 =>
    gd ((hK h t0).1 = 12) <|
    nn (gR h 788 t0) fun q2 =>
    gd ((hK h q2).1 = 21) <|
    gd (inA 2 (hK h q2).2) <|
    if v4 < (shl 1 (gA h q2 ((2 : Int).toNat))) then (
      gd (hK h q2 = (21, 1850)) <|
      bd (fX12_keptBy (gA h q2) v4 a2) fun r11 =>
      gd (inA (w32 (4 + a1)) (hK h q2).2) <|
      if r11 < (gA h q2 (w32 (4 + a1)).toNat) then (
        fX12_fewest_b97 t0 a1 a2 (fX12_fewest_b47 t0 a1 a2 fu) h v3 v4)
      else
      if v3 < 0 then (
        fX12_fewest_b91 t0 a1 a2 (fX12_fewest_b47 t0 a1 a2 fu) h v4)
      else
      bd (fX12_bits v4) fun r16 =>
      if r16 < v3 then (
        fX12_fewest_b91 t0 a1 a2 (fX12_fewest_b47 t0 a1 a2 fu) h v4)
      else
      fX12_fewest_b97 t0 a1 a2 (fX12_fewest_b47 t0 a1 a2 fu) h v3 v4)
    else
    if v3 < 0 then (
      bd2 (fX12_refuse h t0 9) fun r7 h9 =>
      some (r7, h9))
    else
    some (v3, h)

def fX12_fewest (h : Hp) (t0 : Nat) (a1 : Int) (a2 : Int) : Option (Int × Hp) :=
    gd ((hK h t0).1 = 12) <|
    lt (α := Hp) (pI h 769 t0 0) fun h2 =>
    lt (α := Hp) (pI h2 768 t0 0) fun h3 =>
    nn (gR h3 788 t0) fun q4 =>
    gd (hK h3 q4 = (21, 1850)) <|
    bd (fX12_isSoundAt (gA h3 q4) a1) fun r6 =>
    if r6 = 0 then (
      bd2 (fX12_refuse h3 t0 2) fun r15 h17 =>
      some (r15, h17))
    else
    bd (fX12_isIn a2 0 999) fun r9 =>
    if r9 = 0 then (
      bd2 (fX12_refuse h3 t0 5) fun r12 h14 =>
      some (r12, h14))
    else
    fX12_fewest_b47 t0 a1 a2 FU h3 (-1) 0

def fX12_costOf_b37 (c0 : Nat → Int) (a1 : Int) (k4 : Int → Int → Option Int) (v3 : Int) (s0 : Int) (s1 : Int) : Option Int :=
    lt (α := Int) (w32 (s1 + s0)) fun x1 =>
    lt (α := Int) (w32 (v3 + 1)) fun x2 =>
    k4 x1 x2

def fX12_costOf_b4 (c0 : Nat → Int) (a1 : Int) : Nat → Int → Int → Option Int
  | 0, _, _ => none
  | fu + 1, v2, v3 =>
    gd (inA 2 1850) <|
    if v3 < (c0 ((2 : Int).toNat)) then (
      bd (fX12_has a1 v3) fun r3 =>
      if r3 = 0 then (
        fX12_costOf_b37 c0 a1 (fX12_costOf_b4 c0 a1 fu) v3 0 v2)
      else
      gd (inA (w32 (164 + v3)) 1850) <|
      fX12_costOf_b37 c0 a1 (fX12_costOf_b4 c0 a1 fu) v3 (c0 (w32 (164 + v3)).toNat) v2)
    else
    some v2

def fX12_costOf (c0 : Nat → Int) (a1 : Int) : Option Int :=
    fX12_costOf_b4 c0 a1 FU 0 0

def fX12_cheapest_b113 (t0 : Nat) (a1 : Int) (a2 : Int) (a3 : Int) (k58 : Hp → Int → Int → Option (Int × Hp)) (h : Hp) (v4 : Int) (v5 : Int) : Option (Int × Hp) :=
    lt (α := Int) (w32 (v5 + 1)) fun x1 =>
    k58 h v4 x1

def fX12_cheapest_b109 (t0 : Nat) (a1 : Int) (a2 : Int) (a3 : Int) (k58 : Hp → Int → Int → Option (Int × Hp)) (h : Hp) (v5 : Int) : Option (Int × Hp) :=
    fX12_cheapest_b113 t0 a1 a2 a3 k58 h v5 v5

def fX12_cheapest_b58 (t0 : Nat) (a1 : Int) (a2 : Int) (a3 : Int) : Nat → Hp → Int → Int → Option (Int × Hp)
  | 0, _, _, _ => none
  | fu + 1, h, v4, v5 =>
    gd ((hK h t0).1 = 12) <|
    nn (gR h 788 t0) fun q2 =>
    gd ((hK h q2).1 = 21) <|
    gd (inA 2 (hK h q2).2) <|
    if v5 < (shl 1 (gA h q2 ((2 : Int).toNat))) then (
      gd (hK h q2 = (21, 1850)) <|
      bd (fX12_keptBy (gA h q2) v5 a2) fun r15 =>
      gd (inA (w32 (4 + a1)) (hK h q2).2) <|
      if r15 < (gA h q2 (w32 (4 + a1)).toNat) then (
        fX12_cheapest_b113 t0 a1 a2 a3 (fX12_cheapest_b58 t0 a1 a2 a3 fu) h v4 v5)
      else
      if v4 < 0 then (
        fX12_cheapest_b109 t0 a1 a2 a3 (fX12_cheapest_b58 t0 a1 a2 a3 fu) h v5)
      else
      gd (hK h q2 = (21, 1850)) <|
      bd (fX12_costOf (gA h q2) v5) fun r21 =>
      gd (hK h q2 = (21, 1850)) <|
      bd (fX12_costOf (gA h q2) v4) fun r24 =>
      if r21 < r24 then (
        fX12_cheapest_b109 t0 a1 a2 a3 (fX12_cheapest_b58 t0 a1 a2 a3 fu) h v5)
      else
      fX12_cheapest_b113 t0 a1 a2 a3 (fX12_cheapest_b58 t0 a1 a2 a3 fu) h v4 v5)
    else
    if v4 < 0 then (
      bd2 (fX12_refuse h t0 9) fun r11 h13 =>
      some (r11, h13))
    else
    if a3 = 0 then (
      gd (hK h q2 = (21, 1850)) <|
      bd (fX12_costOf (gA h q2) v4) fun r9 =>
      some (r9, h))
    else
    some (v4, h)

def fX12_cheapest (h : Hp) (t0 : Nat) (a1 : Int) (a2 : Int) (a3 : Int) : Option (Int × Hp) :=
    gd ((hK h t0).1 = 12) <|
    lt (α := Hp) (pI h 769 t0 0) fun h2 =>
    lt (α := Hp) (pI h2 768 t0 0) fun h3 =>
    nn (gR h3 788 t0) fun q4 =>
    gd (hK h3 q4 = (21, 1850)) <|
    bd (fX12_isSoundAt (gA h3 q4) a1) fun r6 =>
    if r6 = 0 then (
      bd2 (fX12_refuse h3 t0 2) fun r21 h23 =>
      some (r21, h23))
    else
    bd (fX12_isIn a2 0 999) fun r9 =>
    if r9 = 0 then (
      bd2 (fX12_refuse h3 t0 5) fun r12 h14 =>
      some (r12, h14))
    else
    bd (fX12_isIn a3 0 1) fun r15 =>
    if r15 = 0 then (
      bd2 (fX12_refuse h3 t0 5) fun r18 h20 =>
      some (r18, h20))
    else
    fX12_cheapest_b58 t0 a1 a2 a3 FU h3 (-1) 0

def fX12_fillFrom_b225 (t0 : Nat) (a1 : Int) (a2 : Int) (a3 : Int) (k59 : Hp → Int → Int → Int → Option (Int × Hp)) (k126 : Hp → Int → Int → Int → Int → Int → Int → Int → Int → Option (Int × Hp)) (k147 : Hp → Int → Int → Int → Int → Int → Int → Int → Int → Int → Option (Int × Hp)) (h : Hp) (v4 : Int) (v5 : Int) (v6 : Int) (v7 : Int) (v8 : Int) (v9 : Int) (v10 : Int) (v11 : Int) (v12 : Int) (v13 : Int) : Option (Int × Hp) :=
    lt (α := Int) (w32 (v10 + (if v13 = 0 then 0 else 1))) fun x2 =>
    lt (α := Int) (w32 (v12 + 1)) fun x3 =>
    k147 h v4 v5 v6 v7 v8 v9 x2 v11 x3

def fX12_fillFrom_b173 (t0 : Nat) (a1 : Int) (a2 : Int) (a3 : Int) (k59 : Hp → Int → Int → Int → Option (Int × Hp)) (k126 : Hp → Int → Int → Int → Int → Int → Int → Int → Int → Option (Int × Hp)) (k147 : Hp → Int → Int → Int → Int → Int → Int → Int → Int → Int → Option (Int × Hp)) : Nat → Hp → Int → Int → Int → Int → Int → Int → Int → Int → Int → Int → Int → Option (Int × Hp)
  | 0, _, _, _, _, _, _, _, _, _, _, _, _ => none
  | fu + 1, h, v4, v5, v6, v7, v8, v9, v10, v11, v12, v13, v14 =>
    if v14 < (w32 (v7 - v8)) then (
      if v13 = 0 then (
        fX12_fillFrom_b225 t0 a1 a2 a3 k59 k126 k147 h v4 v5 v6 v7 v8 v9 v10 v11 v12 v13)
      else
      gd ((hK h t0).1 = 12) <|
      nn (gR h 788 t0) fun q4 =>
      gd (hK h q4 = (21, 1850)) <|
      bd (fX12_soundAt (gA h q4) a2 (w32 (v9 + v14))) fun r6 =>
      gd (hK h q4 = (21, 1850)) <|
      bd (fX12_soundAt (gA h q4) v11 (w32 (v12 + v14))) fun r9 =>
      lt (α := Int) (if r6 = r9 then 1 else 0) fun x12 =>
      lt (α := Int) (w32 (v14 + 1)) fun x13 =>
      fX12_fillFrom_b173 t0 a1 a2 a3 k59 k126 k147 fu h v4 v5 v6 v7 v8 v9 v10 v11 v12 x12 x13)
    else
    fX12_fillFrom_b225 t0 a1 a2 a3 k59 k126 k147 h v4 v5 v6 v7 v8 v9 v10 v11 v12 v13

def fX12_fillFrom_b147 (t0 : Nat) (a1 : Int) (a2 : Int) (a3 : Int) (k59 : Hp → Int → Int → Int → Option (Int × Hp)) (k126 : Hp → Int → Int → Int → Int → Int → Int → Int → Int → Option (Int × Hp)) : Nat → Hp → Int → Int → Int → Int → Int → Int → Int → Int → Int → Option (Int × Hp)
  | 0, _, _, _, _, _, _, _, _, _, _ => none
  | fu + 1, h, v4, v5, v6, v7, v8, v9, v10, v11, v12 =>
    gd ((hK h t0).1 = 12) <|
    nn (gR h 788 t0) fun q2 =>
    gd ((hK h q2).1 = 21) <|
    gd (inA (w32 (4 + v11)) (hK h q2).2) <|
    if (w32 ((w32 (v12 + v7)) - v8)) ≤ (gA h q2 (w32 (4 + v11)).toNat) then (
      fX12_fillFrom_b173 t0 a1 a2 a3 k59 k126 (fX12_fillFrom_b147 t0 a1 a2 a3 k59 k126 fu) FU h v4 v5 v6 v7 v8 v9 v10 v11 v12 1 0)
    else
    lt (α := Int) (w32 (v11 + 1)) fun x6 =>
    k126 h v4 v5 v6 v7 v8 v9 v10 x6

def fX12_fillFrom_b282 (t0 : Nat) (a1 : Int) (a2 : Int) (a3 : Int) (k59 : Hp → Int → Int → Int → Option (Int × Hp)) (h : Hp) (v4 : Int) (v5 : Int) (v6 : Int) : Option (Int × Hp) :=
    lt (α := Int) (w32 (v6 + 1)) fun x1 =>
    k59 h v4 v5 x1

def fX12_fillFrom_b274 (t0 : Nat) (a1 : Int) (a2 : Int) (a3 : Int) (k59 : Hp → Int → Int → Int → Option (Int × Hp)) (h : Hp) (v6 : Int) (v10 : Int) : Option (Int × Hp) :=
    fX12_fillFrom_b282 t0 a1 a2 a3 k59 h v6 v10 v6

def fX12_fillFrom_b252 (t0 : Nat) (a1 : Int) (a2 : Int) (a3 : Int) (k59 : Hp → Int → Int → Int → Option (Int × Hp)) (h : Hp) (v4 : Int) (v5 : Int) (v6 : Int) (v7 : Int) (v8 : Int) (v10 : Int) : Option (Int × Hp) :=
    if v8 = v7 then (
      fX12_fillFrom_b282 t0 a1 a2 a3 k59 h v4 v5 v6)
    else
    if v4 < 0 then (
      fX12_fillFrom_b274 t0 a1 a2 a3 k59 h v6 v10)
    else
    if v10 < v5 then (
      fX12_fillFrom_b274 t0 a1 a2 a3 k59 h v6 v10)
    else
    fX12_fillFrom_b282 t0 a1 a2 a3 k59 h v4 v5 v6

def fX12_fillFrom_b126 (t0 : Nat) (a1 : Int) (a2 : Int) (a3 : Int) (k59 : Hp → Int → Int → Int → Option (Int × Hp)) : Nat → Hp → Int → Int → Int → Int → Int → Int → Int → Int → Option (Int × Hp)
  | 0, _, _, _, _, _, _, _, _, _ => none
  | fu + 1, h, v4, v5, v6, v7, v8, v9, v10, v11 =>
    gd ((hK h t0).1 = 12) <|
    nn (gR h 788 t0) fun q2 =>
    gd ((hK h q2).1 = 21) <|
    gd (inA 1 (hK h q2).2) <|
    if v11 < (gA h q2 ((1 : Int).toNat)) then (
      if v8 < v7 then (
        fX12_fillFrom_b147 t0 a1 a2 a3 k59 (fX12_fillFrom_b126 t0 a1 a2 a3 k59 fu) FU h v4 v5 v6 v7 v8 v9 v10 v11 0)
      else
      fX12_fillFrom_b252 t0 a1 a2 a3 k59 h v4 v5 v6 v7 v8 v10)
    else
    fX12_fillFrom_b252 t0 a1 a2 a3 k59 h v4 v5 v6 v7 v8 v10

def fX12_fillFrom_b59 (t0 : Nat) (a1 : Int) (a2 : Int) (a3 : Int) : Nat → Hp → Int → Int → Int → Option (Int × Hp)
  | 0, _, _, _, _ => none
  | fu + 1, h, v4, v5, v6 =>
    gd ((hK h t0).1 = 12) <|
    nn (gR h 788 t0) fun q2 =>
    gd ((hK h q2).1 = 21) <|
    gd (inA (w32 (4 + a2)) (hK h q2).2) <|
    if v6 < (gA h q2 (w32 (4 + a2)).toNat) then (
      gd (inA (w32 (140 + a1)) (hK h q2).2) <|
      gd (inA (w32 (4 + a2)) (hK h q2).2) <|
      lt (α := Int) (min (gA h q2 (w32 (140 + a1)).toNat) (w32 ((gA h q2 (w32 (4 + a2)).toNat) - v6))) fun x12 =>
      gd (hK h q2 = (21, 1850)) <|
      bd (fX12_goneOf (gA h q2) a1 x12 a3) fun r14 =>
      gd (hK h q2 = (21, 1850)) <|
      bd (fX12_headGone (gA h q2) a1 r14) fun r17 =>
      lt (α := Int) (w32 (v6 + r17)) fun x19 =>
      fX12_fillFrom_b126 t0 a1 a2 a3 (fX12_fillFrom_b59 t0 a1 a2 a3 fu) FU h v4 v5 v6 x12 r14 x19 0 0)
    else
    if v4 < 0 then (
      bd2 (fX12_refuse h t0 8) fun r7 h9 =>
      some (r7, h9))
    else
    some (v4, h)

def fX12_fillFrom (h : Hp) (t0 : Nat) (a1 : Int) (a2 : Int) (a3 : Int) : Option (Int × Hp) :=
    gd ((hK h t0).1 = 12) <|
    lt (α := Hp) (pI h 769 t0 0) fun h2 =>
    lt (α := Hp) (pI h2 768 t0 0) fun h3 =>
    nn (gR h3 788 t0) fun q4 =>
    gd (hK h3 q4 = (21, 1850)) <|
    bd (fX12_isJarAt (gA h3 q4) a1) fun r6 =>
    if r6 = 0 then (
      bd2 (fX12_refuse h3 t0 2) fun r9 h11 =>
      some (r9, h11))
    else
    gd (hK h3 q4 = (21, 1850)) <|
    bd (fX12_isSoundAt (gA h3 q4) a2) fun r13 =>
    if r13 = 0 then (
      bd2 (fX12_refuse h3 t0 2) fun r22 h24 =>
      some (r22, h24))
    else
    bd (fX12_isIn a3 0 999) fun r16 =>
    if r16 = 0 then (
      bd2 (fX12_refuse h3 t0 5) fun r19 h21 =>
      some (r19, h21))
    else
    fX12_fillFrom_b59 t0 a1 a2 a3 FU h3 (-1) 0 0

def fX12_worthOn (c0 : Nat → Int) (a1 : Int) (a2 : Int) : Option Int :=
    gd (inA (w32 (172 + a1)) 1850) <|
    bd (fX12_heardOn c0 a1 a2) fun r2 =>
    some (w32 ((c0 (w32 (172 + a1)).toNat) * r2))

def fX12_shelf_b45 (t0 : Nat) (k14 : Hp → Int → Int → Option (Int × Hp)) (h : Hp) (v2 : Int) (s0 : Int) (s1 : Int) : Option (Int × Hp) :=
    lt (α := Int) (bor s1 s0) fun x1 =>
    lt (α := Int) (w32 (v2 + 1)) fun x2 =>
    k14 h x1 x2

def fX12_shelf_b141 (t0 : Nat) (k68 : Hp → Int → Int → Option (Int × Hp)) (k81 : Hp → Int → Int → Int → Option (Int × Hp)) (h : Hp) (v1 : Int) (v2 : Int) (v3 : Int) : Option (Int × Hp) :=
    lt (α := Int) (w32 (v3 + 1)) fun x1 =>
    k81 h v1 v2 x1

def fX12_shelf_b81 (t0 : Nat) (k68 : Hp → Int → Int → Option (Int × Hp)) : Nat → Hp → Int → Int → Int → Option (Int × Hp)
  | 0, _, _, _, _ => none
  | fu + 1, h, v1, v2, v3 =>
    if v3 < 8 then (
      bd (fX12_has (bnd v1 (bxr v2 (-1))) v3) fun r3 =>
      if r3 = 0 then (
        fX12_shelf_b141 t0 k68 (fX12_shelf_b81 t0 k68 fu) h v1 v2 v3)
      else
      gd ((hK h t0).1 = 12) <|
      nn (gR h 807 t0) fun q7 =>
      gd ((hK h q7).1 = 21) <|
      gd (inA v2 (hK h q7).2) <|
      nn (gR h 788 t0) fun q10 =>
      gd ((hK h q10).1 = 21) <|
      gd (inA 0 (hK h q10).2) <|
      bd (fX12_bits v2) fun r13 =>
      gd (hK h q10 = (21, 1850)) <|
      bd (fX12_worthOn (gA h q10) v3 (w32 ((gA h q10 ((0 : Int).toNat)) + r13))) fun r16 =>
      gd (inA (bor v2 (shl 1 v3)) (hK h q7).2) <|
      gd (inA v2 (hK h q7).2) <|
      lt (α := Hp) (sA h q7 v2 (max (gA h q7 v2.toNat) (w32 (r16 + (gA h q7 (bor v2 (shl 1 v3)).toNat))))) fun h20 =>
      fX12_shelf_b141 t0 k68 (fX12_shelf_b81 t0 k68 fu) h20 v1 v2 v3)
    else
    lt (α := Int) (w32 (v2 + (-1))) fun x2 =>
    k68 h v1 x2

def fX12_shelf_b215 (t0 : Nat) (k160 : Hp → Int → Int → Option (Int × Hp)) (k167 : Hp → Int → Int → Int → Option (Int × Hp)) (h : Hp) (v1 : Int) (v2 : Int) (v3 : Int) : Option (Int × Hp) :=
    lt (α := Int) (w32 (v3 + 1)) fun x1 =>
    k167 h v1 v2 x1

def fX12_shelf_b167 (t0 : Nat) (k160 : Hp → Int → Int → Option (Int × Hp)) : Nat → Hp → Int → Int → Int → Option (Int × Hp)
  | 0, _, _, _, _ => none
  | fu + 1, h, v1, v2, v3 =>
    bd (fX12_has (bnd v1 (bxr v2 (-1))) v3) fun r1 =>
    if r1 = 0 then (
      fX12_shelf_b215 t0 k160 (fX12_shelf_b167 t0 k160 fu) h v1 v2 v3)
    else
    gd ((hK h t0).1 = 12) <|
    nn (gR h 788 t0) fun q5 =>
    gd ((hK h q5).1 = 21) <|
    gd (inA 0 (hK h q5).2) <|
    bd (fX12_bits v2) fun r8 =>
    gd (hK h q5 = (21, 1850)) <|
    bd (fX12_worthOn (gA h q5) v3 (w32 ((gA h q5 ((0 : Int).toNat)) + r8))) fun r11 =>
    nn (gR h 807 t0) fun q13 =>
    gd ((hK h q13).1 = 21) <|
    gd (inA (bor v2 (shl 1 v3)) (hK h q13).2) <|
    gd (inA v2 (hK h q13).2) <|
    if (w32 (r11 + (gA h q13 (bor v2 (shl 1 v3)).toNat))) = (gA h q13 v2.toNat) then (
      nn (gR h 808 t0) fun q18 =>
      gd ((hK h q18).1 = 21) <|
      gd (inA (gI h 809 t0) (hK h q18).2) <|
      lt (α := Hp) (sA h q18 (gI h 809 t0) v3) fun h21 =>
      lt (α := Hp) (pI h21 809 t0 (w32 ((gI h21 809 t0) + 1))) fun h22 =>
      lt (α := Int) (bor v2 (shl 1 v3)) fun x23 =>
      k160 h22 v1 x23)
    else
    fX12_shelf_b215 t0 k160 (fX12_shelf_b167 t0 k160 fu) h v1 v2 v3

def fX12_shelf_b160 (t0 : Nat) : Nat → Hp → Int → Int → Option (Int × Hp)
  | 0, _, _, _ => none
  | fu + 1, h, v1, v2 =>
    if v2 = v1 then (
      gd ((hK h t0).1 = 12) <|
      nn (gR h 807 t0) fun q3 =>
      gd ((hK h q3).1 = 21) <|
      gd (inA 0 (hK h q3).2) <|
      some (gA h q3 ((0 : Int).toNat), h))
    else
    fX12_shelf_b167 t0 (fX12_shelf_b160 t0 fu) FU h v1 v2 0

def fX12_shelf_b68 (t0 : Nat) : Nat → Hp → Int → Int → Option (Int × Hp)
  | 0, _, _, _ => none
  | fu + 1, h, v1, v2 =>
    if v2 < 0 then (
      gd ((hK h t0).1 = 12) <|
      lt (α := Hp) (pI h 809 t0 0) fun h3 =>
      fX12_shelf_b160 t0 FU h3 v1 0)
    else
    gd ((hK h t0).1 = 12) <|
    nn (gR h 807 t0) fun q5 =>
    gd ((hK h q5).1 = 21) <|
    gd (inA v2 (hK h q5).2) <|
    lt (α := Hp) (sA h q5 v2 0) fun h8 =>
    fX12_shelf_b81 t0 (fX12_shelf_b68 t0 fu) FU h8 v1 v2 0

def fX12_shelf_b14 (t0 : Nat) : Nat → Hp → Int → Int → Option (Int × Hp)
  | 0, _, _, _ => none
  | fu + 1, h, v1, v2 =>
    gd ((hK h t0).1 = 12) <|
    nn (gR h 788 t0) fun q2 =>
    gd ((hK h q2).1 = 21) <|
    gd (inA 2 (hK h q2).2) <|
    if v2 < (gA h q2 ((2 : Int).toNat)) then (
      gd (inA (w32 (188 + v2)) (hK h q2).2) <|
      if 0 < (gA h q2 (w32 (188 + v2)).toNat) then (
        fX12_shelf_b45 t0 (fX12_shelf_b14 t0 fu) h v2 (shl 1 v2) v1)
      else
      fX12_shelf_b45 t0 (fX12_shelf_b14 t0 fu) h v2 0 v1)
    else
    if v1 = 0 then (
      bd2 (fX12_refuse h t0 8) fun r7 h9 =>
      some (r7, h9))
    else
    fX12_shelf_b68 t0 FU h v1 255

def fX12_shelf (h : Hp) (t0 : Nat) : Option (Int × Hp) :=
    gd ((hK h t0).1 = 12) <|
    lt (α := Hp) (pI h 769 t0 0) fun h2 =>
    lt (α := Hp) (pI h2 768 t0 0) fun h3 =>
    fX12_shelf_b14 t0 FU h3 0 0

def fX12_shelfAt (h : Hp) (t0 : Nat) (a1 : Int) : Option (Int × Hp) :=
    gd ((hK h t0).1 = 12) <|
    lt (α := Hp) (pI h 769 t0 0) fun h2 =>
    lt (α := Hp) (pI h2 768 t0 0) fun h3 =>
    bd (fX12_isIn a1 0 (w32 ((gI h3 809 t0) - 1))) fun r4 =>
    if r4 = 0 then (
      bd2 (fX12_refuse h3 t0 8) fun r7 h9 =>
      some (r7, h9))
    else
    nn (gR h3 808 t0) fun q10 =>
    gd ((hK h3 q10).1 = 21) <|
    gd (inA a1 (hK h3 q10).2) <|
    some (gA h3 q10 a1.toNat, h3)

def fX12_isHeard_b85 (c0 : Nat → Int) (a1 : Int) (a2 : Int) (a3 : Int) (k3 : Int → Option Int) (k17 : Int → Int → Option Int) (v4 : Int) (v5 : Int) (v6 : Int) : Option Int :=
    if v6 = 0 then (
      lt (α := Int) (w32 (v5 + 1)) fun x2 =>
      k17 v4 x2)
    else
    some 1

def fX12_isHeard_b38 (c0 : Nat → Int) (a1 : Int) (a2 : Int) (a3 : Int) (k3 : Int → Option Int) (k17 : Int → Int → Option Int) : Nat → Int → Int → Int → Int → Option Int
  | 0, _, _, _, _ => none
  | fu + 1, v4, v5, v6, v7 =>
    if v7 < a3 then (
      if v6 = 0 then (
        fX12_isHeard_b85 c0 a1 a2 a3 k3 k17 v4 v5 v6)
      else
      bd (fX12_soundAt c0 a1 v7) fun r3 =>
      bd (fX12_heardLetter c0 v4 (w32 ((w32 (v5 + v7)) - a2))) fun r5 =>
      lt (α := Int) (if r3 = r5 then 1 else 0) fun x8 =>
      lt (α := Int) (w32 (v7 + 1)) fun x9 =>
      fX12_isHeard_b38 c0 a1 a2 a3 k3 k17 fu v4 v5 x8 x9)
    else
    fX12_isHeard_b85 c0 a1 a2 a3 k3 k17 v4 v5 v6

def fX12_isHeard_b17 (c0 : Nat → Int) (a1 : Int) (a2 : Int) (a3 : Int) (k3 : Int → Option Int) : Nat → Int → Int → Option Int
  | 0, _, _ => none
  | fu + 1, v4, v5 =>
    bd (fX12_heardNow c0 v4) fun r1 =>
    if (w32 ((w32 (v5 + a3)) - a2)) ≤ r1 then (
      fX12_isHeard_b38 c0 a1 a2 a3 k3 (fX12_isHeard_b17 c0 a1 a2 a3 k3 fu) FU v4 v5 1 a2)
    else
    lt (α := Int) (w32 (v4 + 1)) fun x4 =>
    k3 x4

def fX12_isHeard_b3 (c0 : Nat → Int) (a1 : Int) (a2 : Int) (a3 : Int) : Nat → Int → Option Int
  | 0, _ => none
  | fu + 1, v4 =>
    gd (inA 2 1850) <|
    if v4 < (c0 ((2 : Int).toNat)) then (
      fX12_isHeard_b17 c0 a1 a2 a3 (fX12_isHeard_b3 c0 a1 a2 a3 fu) FU v4 0)
    else
    some 0

def fX12_isHeard (c0 : Nat → Int) (a1 : Int) (a2 : Int) (a3 : Int) : Option Int :=
    fX12_isHeard_b3 c0 a1 a2 a3 FU 0

def fX12_isVowel (a1 : Int) : Option Int :=
    if a1 = 1 then (
      some 1)
    else
    if a1 = 5 then (
      some 1)
    else
    if a1 = 9 then (
      some 1)
    else
    if a1 = 15 then (
      some 1)
    else
    if a1 = 21 then (
      some 1)
    else
    some 0

def fX12_pieced_b224 (t0 : Nat) (a1 : Int) (a2 : Int) (k52 : Hp → Int → Int → Option (Int × Hp)) (k99 : Hp → Int → Int → Int → Option (Int × Hp)) (h : Hp) (v3 : Int) (v4 : Int) (v5 : Int) : Option (Int × Hp) :=
    lt (α := Int) (w32 (v5 + 1)) fun x1 =>
    k99 h v3 v4 x1

def fX12_pieced_b169 (t0 : Nat) (a1 : Int) (a2 : Int) (k52 : Hp → Int → Int → Option (Int × Hp)) (k99 : Hp → Int → Int → Int → Option (Int × Hp)) (h : Hp) (v3 : Int) (v4 : Int) (v5 : Int) (s0 : Int) : Option (Int × Hp) :=
    gd ((hK h t0).1 = 12) <|
    nn (gR h 810 t0) fun q2 =>
    gd ((hK h q2).1 = 21) <|
    gd (inA v4 (hK h q2).2) <|
    gd (inA v5 (hK h q2).2) <|
    gd (inA v4 (hK h q2).2) <|
    lt (α := Hp) (sA h q2 v4 (min (gA h q2 v4.toNat) (w32 ((gA h q2 v5.toNat) + 1)))) fun h7 =>
    nn (gR h7 811 t0) fun q8 =>
    gd ((hK h7 q8).1 = 21) <|
    gd (inA v4 (hK h7 q8).2) <|
    gd (inA v5 (hK h7 q8).2) <|
    gd (inA v4 (hK h7 q8).2) <|
    lt (α := Hp) (sA h7 q8 v4 (min (gA h7 q8 v4.toNat) (w32 ((gA h7 q8 v5.toNat) + s0)))) fun h13 =>
    fX12_pieced_b224 t0 a1 a2 k52 k99 h13 v3 v4 v5

def fX12_pieced_b168 (t0 : Nat) (a1 : Int) (a2 : Int) (k52 : Hp → Int → Int → Option (Int × Hp)) (k99 : Hp → Int → Int → Int → Option (Int × Hp)) (h : Hp) (v3 : Int) (v4 : Int) (v5 : Int) : Option (Int × Hp) :=
    fX12_pieced_b169 t0 a1 a2 k52 k99 h v3 v4 v5 0

def fX12_pieced_b99 (t0 : Nat) (a1 : Int) (a2 : Int) (k52 : Hp → Int → Int → Option (Int × Hp)) : Nat → Hp → Int → Int → Int → Option (Int × Hp)
  | 0, _, _, _, _ => none
  | fu + 1, h, v3, v4, v5 =>
    if v5 < v4 then (
      gd ((hK h t0).1 = 12) <|
      nn (gR h 810 t0) fun q4 =>
      gd ((hK h q4).1 = 21) <|
      gd (inA v5 (hK h q4).2) <|
      if (gA h q4 v5.toNat) = 1000000 then (
        fX12_pieced_b224 t0 a1 a2 k52 (fX12_pieced_b99 t0 a1 a2 k52 fu) h v3 v4 v5)
      else
      nn (gR h 788 t0) fun q8 =>
      gd (hK h q8 = (21, 1850)) <|
      bd (fX12_isHeard (gA h q8) a1 v5 v4) fun r10 =>
      if r10 = 0 then (
        fX12_pieced_b224 t0 a1 a2 k52 (fX12_pieced_b99 t0 a1 a2 k52 fu) h v3 v4 v5)
      else
      if 0 < v5 then (
        gd (hK h q8 = (21, 1850)) <|
        bd (fX12_soundAt (gA h q8) a1 (w32 (v5 - 1))) fun r15 =>
        bd (fX12_isVowel r15) fun r17 =>
        gd (hK h q8 = (21, 1850)) <|
        bd (fX12_soundAt (gA h q8) a1 v5) fun r20 =>
        bd (fX12_isVowel r20) fun r22 =>
        if r17 = r22 then (
          fX12_pieced_b169 t0 a1 a2 k52 (fX12_pieced_b99 t0 a1 a2 k52 fu) h v3 v4 v5 1)
        else
        fX12_pieced_b168 t0 a1 a2 k52 (fX12_pieced_b99 t0 a1 a2 k52 fu) h v3 v4 v5)
      else
      fX12_pieced_b168 t0 a1 a2 k52 (fX12_pieced_b99 t0 a1 a2 k52 fu) h v3 v4 v5)
    else
    lt (α := Int) (w32 (v4 + 1)) fun x2 =>
    k52 h v3 x2

def fX12_pieced_b95 (t0 : Nat) (a1 : Int) (a2 : Int) (k52 : Hp → Int → Int → Option (Int × Hp)) (h : Hp) (v3 : Int) (v4 : Int) (s0 : Int) (s1 : Int) (s2 : Nat) : Option (Int × Hp) :=
    gd ((hK h s2).1 = 21) <|
    gd (inA s1 (hK h s2).2) <|
    lt (α := Hp) (sA h s2 s1 s0) fun h3 =>
    fX12_pieced_b99 t0 a1 a2 k52 FU h3 v3 v4 0

def fX12_pieced_b76 (t0 : Nat) (a1 : Int) (a2 : Int) (k52 : Hp → Int → Int → Option (Int × Hp)) (h : Hp) (v3 : Int) (v4 : Int) (s0 : Int) (s1 : Int) (s2 : Nat) : Option (Int × Hp) :=
    gd ((hK h s2).1 = 21) <|
    gd (inA s1 (hK h s2).2) <|
    lt (α := Hp) (sA h s2 s1 s0) fun h3 =>
    gd ((hK h3 t0).1 = 12) <|
    nn (gR h3 811 t0) fun q5 =>
    if v4 = 0 then (
      fX12_pieced_b95 t0 a1 a2 k52 h3 v3 v4 0 v4 q5)
    else
    fX12_pieced_b95 t0 a1 a2 k52 h3 v3 v4 1000000 v4 q5

def fX12_pieced_b52 (t0 : Nat) (a1 : Int) (a2 : Int) : Nat → Hp → Int → Int → Option (Int × Hp)
  | 0, _, _, _ => none
  | fu + 1, h, v3, v4 =>
    if v4 ≤ v3 then (
      gd ((hK h t0).1 = 12) <|
      nn (gR h 810 t0) fun q16 =>
      if v4 = 0 then (
        fX12_pieced_b76 t0 a1 a2 (fX12_pieced_b52 t0 a1 a2 fu) h v3 v4 0 v4 q16)
      else
      fX12_pieced_b76 t0 a1 a2 (fX12_pieced_b52 t0 a1 a2 fu) h v3 v4 1000000 v4 q16)
    else
    gd ((hK h t0).1 = 12) <|
    nn (gR h 810 t0) fun q3 =>
    gd ((hK h q3).1 = 21) <|
    gd (inA v3 (hK h q3).2) <|
    if (gA h q3 v3.toNat) = 1000000 then (
      bd2 (fX12_refuse h t0 9) fun r12 h14 =>
      some (r12, h14))
    else
    if a2 = 0 then (
      gd (inA v3 (hK h q3).2) <|
      some (gA h q3 v3.toNat, h))
    else
    nn (gR h 811 t0) fun q8 =>
    gd ((hK h q8).1 = 21) <|
    gd (inA v3 (hK h q8).2) <|
    some (gA h q8 v3.toNat, h)

def fX12_pieced (h : Hp) (t0 : Nat) (a1 : Int) (a2 : Int) : Option (Int × Hp) :=
    gd ((hK h t0).1 = 12) <|
    lt (α := Hp) (pI h 769 t0 0) fun h2 =>
    lt (α := Hp) (pI h2 768 t0 0) fun h3 =>
    nn (gR h3 788 t0) fun q4 =>
    gd (hK h3 q4 = (21, 1850)) <|
    bd (fX12_isSoundAt (gA h3 q4) a1) fun r6 =>
    if r6 = 0 then (
      bd2 (fX12_refuse h3 t0 2) fun r18 h20 =>
      some (r18, h20))
    else
    bd (fX12_isIn a2 0 1) fun r9 =>
    if r9 = 0 then (
      bd2 (fX12_refuse h3 t0 5) fun r15 h17 =>
      some (r15, h17))
    else
    gd ((hK h3 q4).1 = 21) <|
    gd (inA (w32 (4 + a1)) (hK h3 q4).2) <|
    lt (α := Int) (gA h3 q4 (w32 (4 + a1)).toNat) fun x14 =>
    fX12_pieced_b52 t0 a1 a2 FU h3 x14 0

def fX12_draw (h : Hp) (t0 : Nat) : Option (Int × Hp) :=
    gd ((hK h t0).1 = 12) <|
    lt (α := Hp) (pI h 812 t0 (irm (w32 ((w32 ((gI h 812 t0) * 2683)) + 9419)) 65536)) fun h2 =>
    some (irm (idv (gI h2 812 t0) 8) 16, h2)

def fX12_wholeBehind_b111 (t0 : Nat) (a1 : Int) (a2 : Int) (k43 : Hp → Int → Int → Option (Int × Hp)) (k52 : Hp → Int → Int → Int → Option (Int × Hp)) (h : Hp) (v3 : Int) (v4 : Int) (v5 : Int) : Option (Int × Hp) :=
    lt (α := Int) (w32 (v5 + 1)) fun x1 =>
    k52 h v3 v4 x1

def fX12_wholeBehind_b52 (t0 : Nat) (a1 : Int) (a2 : Int) (k43 : Hp → Int → Int → Option (Int × Hp)) : Nat → Hp → Int → Int → Int → Option (Int × Hp)
  | 0, _, _, _, _ => none
  | fu + 1, h, v3, v4, v5 =>
    gd ((hK h t0).1 = 12) <|
    nn (gR h 788 t0) fun q2 =>
    gd ((hK h q2).1 = 21) <|
    gd (inA 2 (hK h q2).2) <|
    if v5 < (gA h q2 ((2 : Int).toNat)) then (
      bd (fX12_has v3 v5) fun r7 =>
      if r7 = 0 then (
        fX12_wholeBehind_b111 t0 a1 a2 k43 (fX12_wholeBehind_b52 t0 a1 a2 k43 fu) h v3 v4 v5)
      else
      bd2 (fX12_draw h t0) fun r10 h12 =>
      gd ((hK h12 t0).1 = 12) <|
      nn (gR h12 788 t0) fun q14 =>
      gd ((hK h12 q14).1 = 21) <|
      gd (inA (w32 (180 + v5)) (hK h12 q14).2) <|
      if r10 < (gA h12 q14 (w32 (180 + v5)).toNat) then (
        lt (α := Int) (bnd v3 (bxr (shl 1 v5) (-1))) fun x18 =>
        nn (gR h12 814 t0) fun q19 =>
        gd ((hK h12 q19).1 = 21) <|
        gd (inA v5 (hK h12 q19).2) <|
        lt (α := Hp) (sA h12 q19 v5 v4) fun h22 =>
        fX12_wholeBehind_b111 t0 a1 a2 k43 (fX12_wholeBehind_b52 t0 a1 a2 k43 fu) h22 x18 v4 v5)
      else
      fX12_wholeBehind_b111 t0 a1 a2 k43 (fX12_wholeBehind_b52 t0 a1 a2 k43 fu) h12 v3 v4 v5)
    else
    lt (α := Int) (w32 (v4 + 1)) fun x6 =>
    k43 h v3 x6

def fX12_wholeBehind_b43 (t0 : Nat) (a1 : Int) (a2 : Int) : Nat → Hp → Int → Int → Option (Int × Hp)
  | 0, _, _, _ => none
  | fu + 1, h, v3, v4 =>
    if v4 ≤ a2 then (
      fX12_wholeBehind_b52 t0 a1 a2 (fX12_wholeBehind_b43 t0 a1 a2 fu) FU h v3 v4 0)
    else
    some (v3, h)

def fX12_wholeBehind_b19 (t0 : Nat) (a1 : Int) (a2 : Int) : Nat → Hp → Int → Int → Option (Int × Hp)
  | 0, _, _, _ => none
  | fu + 1, h, v3, v4 =>
    if v4 < 8 then (
      gd ((hK h t0).1 = 12) <|
      nn (gR h 814 t0) fun q3 =>
      gd ((hK h q3).1 = 21) <|
      gd (inA v4 (hK h q3).2) <|
      lt (α := Hp) (sA h q3 v4 0) fun h6 =>
      lt (α := Int) (w32 (v4 + 1)) fun x7 =>
      fX12_wholeBehind_b19 t0 a1 a2 fu h6 v3 x7)
    else
    fX12_wholeBehind_b43 t0 a1 a2 FU h v3 1

def fX12_wholeBehind (h : Hp) (t0 : Nat) (a1 : Int) (a2 : Int) : Option (Int × Hp) :=
    gd ((hK h t0).1 = 12) <|
    lt (α := Hp) (pI h 812 t0 a1) fun h2 =>
    nn (gR h2 788 t0) fun q3 =>
    gd ((hK h2 q3).1 = 21) <|
    gd (inA 2 (hK h2 q3).2) <|
    lt (α := Int) (w32 ((shl 1 (gA h2 q3 ((2 : Int).toNat))) - 1)) fun x6 =>
    fX12_wholeBehind_b19 t0 a1 a2 FU h2 x6 0

def fX12_road_b55 (t0 : Nat) (a1 : Int) (a2 : Int) : Nat → Hp → Int → Int → Option (Int × Hp)
  | 0, _, _, _ => none
  | fu + 1, h, v3, v4 =>
    if v4 < 8 then (
      gd ((hK h t0).1 = 12) <|
      nn (gR h 815 t0) fun q3 =>
      nn (gR h 814 t0) fun q4 =>
      gd ((hK h q4).1 = 21) <|
      gd (inA v4 (hK h q4).2) <|
      gd ((hK h q3).1 = 21) <|
      gd (inA v4 (hK h q3).2) <|
      lt (α := Hp) (sA h q3 v4 (gA h q4 v4.toNat)) fun h9 =>
      lt (α := Int) (w32 (v4 + 1)) fun x10 =>
      fX12_road_b55 t0 a1 a2 fu h9 v3 x10)
    else
    some (v3, h)

def fX12_road (h : Hp) (t0 : Nat) (a1 : Int) (a2 : Int) : Option (Int × Hp) :=
    gd ((hK h t0).1 = 12) <|
    lt (α := Hp) (pI h 769 t0 0) fun h2 =>
    lt (α := Hp) (pI h2 768 t0 0) fun h3 =>
    bd (fX12_isIn a1 0 9999) fun r4 =>
    if r4 = 0 then (
      bd2 (fX12_refuse h3 t0 5) fun r7 h9 =>
      some (r7, h9))
    else
    bd (fX12_isIn a2 1 30) fun r10 =>
    if r10 = 0 then (
      bd2 (fX12_refuse h3 t0 5) fun r18 h20 =>
      some (r18, h20))
    else
    bd2 (fX12_wholeBehind h3 t0 a1 a2) fun r13 h15 =>
    gd ((hK h15 t0).1 = 12) <|
    lt (α := Hp) (pI h15 813 t0 1) fun h17 =>
    fX12_road_b55 t0 a1 a2 FU h17 r13 0

def fX12_brokeOn (h : Hp) (t0 : Nat) (a1 : Int) : Option (Int × Hp) :=
    gd ((hK h t0).1 = 12) <|
    lt (α := Hp) (pI h 769 t0 0) fun h2 =>
    lt (α := Hp) (pI h2 768 t0 0) fun h3 =>
    nn (gR h3 788 t0) fun q4 =>
    gd (hK h3 q4 = (21, 1850)) <|
    bd (fX12_isJarAt (gA h3 q4) a1) fun r6 =>
    if r6 = 0 then (
      bd2 (fX12_refuse h3 t0 2) fun r21 h23 =>
      some (r21, h23))
    else
    if (gI h3 813 t0) = 0 then (
      bd2 (fX12_refuse h3 t0 8) fun r10 h12 =>
      some (r10, h12))
    else
    nn (gR h3 815 t0) fun q13 =>
    gd ((hK h3 q13).1 = 21) <|
    gd (inA a1 (hK h3 q13).2) <|
    if (gA h3 q13 a1.toNat) = 0 then (
      bd2 (fX12_refuse h3 t0 8) fun r18 h20 =>
      some (r18, h20))
    else
    gd (inA a1 (hK h3 q13).2) <|
    some (gA h3 q13 a1.toNat, h3)

def fX12_fraction_b9 (t0 : Nat) (a1 : Int) (a2 : Int) : Nat → Hp → Int → Int → Option (Int × Hp)
  | 0, _, _, _ => none
  | fu + 1, h, v5, v7 =>
    if v7 = 0 then (
      gd (¬ v5 = 0) <|
      gd ((hK h t0).1 = 12) <|
      lt (α := Hp) (pJ h 770 t0 (ldv a1 v5)) fun h4 =>
      gd (¬ v5 = 0) <|
      lt (α := Hp) (pJ h4 771 t0 (ldv a2 v5)) fun h6 =>
      some (1, h6))
    else
    gd (¬ v7 = 0) <|
    lt (α := Int) (lrm v5 v7) fun x8 =>
    fX12_fraction_b9 t0 a1 a2 fu h v7 x8

def fX12_fraction (h : Hp) (t0 : Nat) (a1 : Int) (a2 : Int) : Option (Int × Hp) :=
    lt (α := Int) (labs a1) fun x1 =>
    fX12_fraction_b9 t0 a1 a2 FU h x1 a2

def fX12_odds_b142 (t0 : Nat) (a1 : Int) (a2 : Int) (a3 : Int) (a4 : Int) (k77 : Hp → Int → Int → Option (Int × Hp)) (k101 : Hp → Int → Int → Int → Int → Int → Option (Int × Hp)) (h : Hp) (v5 : Int) (v6 : Int) (v7 : Int) (v9 : Int) (s0 : Int) : Option (Int × Hp) :=
    lt (α := Int) (w32 (v9 + 1)) fun x1 =>
    k101 h v5 v6 v7 s0 x1

def fX12_odds_b137 (t0 : Nat) (a1 : Int) (a2 : Int) (a3 : Int) (a4 : Int) (k77 : Hp → Int → Int → Option (Int × Hp)) (k101 : Hp → Int → Int → Int → Int → Int → Option (Int × Hp)) (h : Hp) (v5 : Int) (v6 : Int) (v7 : Int) (v9 : Int) : Option (Int × Hp) :=
    fX12_odds_b142 t0 a1 a2 a3 a4 k77 k101 h v5 v6 v7 v9 1

def fX12_odds_b141 (t0 : Nat) (a1 : Int) (a2 : Int) (a3 : Int) (a4 : Int) (k77 : Hp → Int → Int → Option (Int × Hp)) (k101 : Hp → Int → Int → Int → Int → Int → Option (Int × Hp)) (h : Hp) (v5 : Int) (v6 : Int) (v7 : Int) (v9 : Int) : Option (Int × Hp) :=
    fX12_odds_b142 t0 a1 a2 a3 a4 k77 k101 h v5 v6 v7 v9 0

def fX12_odds_b101 (t0 : Nat) (a1 : Int) (a2 : Int) (a3 : Int) (a4 : Int) (k77 : Hp → Int → Int → Option (Int × Hp)) : Nat → Hp → Int → Int → Int → Int → Int → Option (Int × Hp)
  | 0, _, _, _, _, _, _ => none
  | fu + 1, h, v5, v6, v7, v8, v9 =>
    gd ((hK h t0).1 = 12) <|
    nn (gR h 788 t0) fun q2 =>
    gd ((hK h q2).1 = 21) <|
    gd (inA 2 (hK h q2).2) <|
    if v9 < (gA h q2 ((2 : Int).toNat)) then (
      if v8 = 0 then (
        bd (fX12_has v7 v9) fun r11 =>
        if r11 = 0 then (
          fX12_odds_b141 t0 a1 a2 a3 a4 k77 (fX12_odds_b101 t0 a1 a2 a3 a4 k77 fu) h v5 v6 v7 v9)
        else
        gd (hK h q2 = (21, 1850)) <|
        bd (fX12_placesIn (gA h q2) v9 a1) fun r15 =>
        if 0 < r15 then (
          fX12_odds_b137 t0 a1 a2 a3 a4 k77 (fX12_odds_b101 t0 a1 a2 a3 a4 k77 fu) h v5 v6 v7 v9)
        else
        fX12_odds_b141 t0 a1 a2 a3 a4 k77 (fX12_odds_b101 t0 a1 a2 a3 a4 k77 fu) h v5 v6 v7 v9)
      else
      fX12_odds_b137 t0 a1 a2 a3 a4 k77 (fX12_odds_b101 t0 a1 a2 a3 a4 k77 fu) h v5 v6 v7 v9)
    else
    lt (α := Int) (w32 (v5 + (if v8 = 0 then 0 else 1))) fun x7 =>
    lt (α := Int) (w32 (v6 + 1)) fun x8 =>
    k77 h x7 x8

def fX12_odds_b77 (t0 : Nat) (a1 : Int) (a2 : Int) (a3 : Int) (a4 : Int) : Nat → Hp → Int → Int → Option (Int × Hp)
  | 0, _, _, _ => none
  | fu + 1, h, v5, v6 =>
    if v6 < a4 then (
      gd ((hK h t0).1 = 12) <|
      bd2 (fX12_wholeBehind h t0 (w32 (a3 + v6)) a2) fun r7 h9 =>
      fX12_odds_b101 t0 a1 a2 a3 a4 (fX12_odds_b77 t0 a1 a2 a3 a4 fu) FU h9 v5 v6 r7 0 0)
    else
    gd ((hK h t0).1 = 12) <|
    bd2 (fX12_fraction h t0 v5 a4) fun r3 h5 =>
    some (r3, h5)

def fX12_odds (h : Hp) (t0 : Nat) (a1 : Int) (a2 : Int) (a3 : Int) (a4 : Int) : Option (Int × Hp) :=
    gd ((hK h t0).1 = 12) <|
    lt (α := Hp) (pI h 769 t0 0) fun h2 =>
    lt (α := Hp) (pI h2 768 t0 0) fun h3 =>
    nn (gR h3 788 t0) fun q4 =>
    gd (hK h3 q4 = (21, 1850)) <|
    bd (fX12_isSoundAt (gA h3 q4) a1) fun r6 =>
    if r6 = 0 then (
      bd2 (fX12_no h3 t0 2) fun r27 h29 =>
      some (r27, h29))
    else
    bd (fX12_isIn a2 1 30) fun r9 =>
    if r9 = 0 then (
      bd2 (fX12_no h3 t0 5) fun r12 h14 =>
      some (r12, h14))
    else
    bd (fX12_isIn a4 1 20) fun r15 =>
    if r15 = 0 then (
      bd2 (fX12_no h3 t0 5) fun r18 h20 =>
      some (r18, h20))
    else
    bd (fX12_isIn a3 0 (w32 (10000 - a4))) fun r21 =>
    if r21 = 0 then (
      bd2 (fX12_no h3 t0 5) fun r24 h26 =>
      some (r24, h26))
    else
    fX12_odds_b77 t0 a1 a2 a3 a4 FU h3 0 0

def fX12_power_b5 (a1 : Int) (a2 : Int) : Nat → Int → Int → Option Int
  | 0, _, _ => none
  | fu + 1, v3, v5 =>
    if v5 < a2 then (
      lt (α := Int) (w64 (v3 * a1)) fun x2 =>
      lt (α := Int) (w32 (v5 + 1)) fun x3 =>
      fX12_power_b5 a1 a2 fu x2 x3)
    else
    some v3

def fX12_power (a1 : Int) (a2 : Int) : Option Int :=
    fX12_power_b5 a1 a2 FU 1 0

def fX12_safe (h : Hp) (t0 : Nat) (a1 : Int) (a2 : Int) (a3 : Int) : Option (Int × Hp) :=
    gd ((hK h t0).1 = 12) <|
    lt (α := Hp) (pI h 769 t0 0) fun h2 =>
    lt (α := Hp) (pI h2 768 t0 0) fun h3 =>
    nn (gR h3 788 t0) fun q4 =>
    gd (hK h3 q4 = (21, 1850)) <|
    bd (fX12_isJarAt (gA h3 q4) a1) fun r6 =>
    if r6 = 0 then (
      bd2 (fX12_no h3 t0 2) fun r34 h36 =>
      some (r34, h36))
    else
    bd (fX12_isIn a2 1 5) fun r9 =>
    if r9 = 0 then (
      bd2 (fX12_no h3 t0 5) fun r12 h14 =>
      some (r12, h14))
    else
    bd (fX12_isIn a3 0 1) fun r15 =>
    if r15 = 0 then (
      bd2 (fX12_no h3 t0 5) fun r31 h33 =>
      some (r31, h33))
    else
    gd ((hK h3 q4).1 = 21) <|
    gd (inA (w32 (180 + a1)) (hK h3 q4).2) <|
    bd (fX12_power (w64 (16 - (gA h3 q4 (w32 (180 + a1)).toNat))) a2) fun r20 =>
    bd (fX12_power 16 a2) fun r22 =>
    if a3 = 0 then (
      bd2 (fX12_fraction h3 t0 r20 r22) fun r28 h30 =>
      some (r28, h30))
    else
    bd2 (fX12_fraction h3 t0 (w64 ((w64 (r22 * r22)) - (w64 ((w64 (r22 - r20)) * (w64 (r22 - r20)))))) (w64 (r22 * r22))) fun r25 h27 =>
    some (r25, h27)

def fX12_reads_b130 (t0 : Nat) (a1 : Int) (a2 : Int) (a3 : Int) (a4 : Int) : Nat → Hp → Int → Option (Int × Hp)
  | 0, _, _ => none
  | fu + 1, h, v5 =>
    if v5 < a4 then (
      gd ((hK h t0).1 = 12) <|
      nn (gR h 792 t0) fun q3 =>
      bd (fX12_numberOf h t0 a1 v5) fun r4 =>
      gd ((hK h q3).1 = 21) <|
      gd (inA v5 (hK h q3).2) <|
      lt (α := Hp) (sA h q3 v5 (w32 r4)) fun h8 =>
      nn (gR h8 793 t0) fun q9 =>
      bd (fX12_numberOf h8 t0 a2 v5) fun r10 =>
      gd ((hK h8 q9).1 = 21) <|
      gd (inA v5 (hK h8 q9).2) <|
      lt (α := Hp) (sA h8 q9 v5 (w32 r10)) fun h14 =>
      lt (α := Int) (w32 (v5 + 1)) fun x15 =>
      fX12_reads_b130 t0 a1 a2 a3 a4 fu h14 x15)
    else
    some (0, h)

def fX12_reads (h : Hp) (t0 : Nat) (a1 : Int) (a2 : Int) (a3 : Int) (a4 : Int) : Option (Int × Hp) :=
    gd ((hK h t0).1 = 12) <|
    bd (fX12_isTray a1) fun r2 =>
    if r2 = 0 then (
      some (1, h))
    else
    bd (fX12_isTray a2) fun r5 =>
    if r5 = 0 then (
      some (1, h))
    else
    bd (fX12_isTray a3) fun r8 =>
    if r8 = 0 then (
      some (1, h))
    else
    nn (gR h 773 t0) fun q11 =>
    gd ((hK h q11).1 = 21) <|
    gd (inA a1 (hK h q11).2) <|
    if (gA h q11 a1.toNat) < 0 then (
      some (3, h))
    else
    gd (inA a2 (hK h q11).2) <|
    if (gA h q11 a2.toNat) < 0 then (
      some (3, h))
    else
    gd (inA a3 (hK h q11).2) <|
    if (gA h q11 a3.toNat) < 0 then (
      some (3, h))
    else
    gd (inA a1 (hK h q11).2) <|
    if (gA h q11 a1.toNat) < a4 then (
      some (4, h))
    else
    gd (inA a2 (hK h q11).2) <|
    if (gA h q11 a2.toNat) < a4 then (
      some (4, h))
    else
    gd (inA a3 (hK h q11).2) <|
    if (gA h q11 a3.toNat) < a4 then (
      some (4, h))
    else
    bd (fX12_isIn a4 1 16) fun r25 =>
    if r25 = 0 then (
      some (5, h))
    else
    bd (fX12_whyNoLetters h t0 a1 a4 1) fun r28 =>
    if 0 < r28 then (
      some (5, h))
    else
    bd (fX12_whyNoLetters h t0 a2 a4 1) fun r31 =>
    if 0 < r31 then (
      some (5, h))
    else
    fX12_reads_b130 t0 a1 a2 a3 a4 FU h 0

def fX12_third_b70 (t0 : Nat) (a1 : Int) (a2 : Int) (a3 : Int) (a4 : Int) (h : Hp) : Option (Int × Hp) :=
    gd ((hK h t0).1 = 12) <|
    some ((if (gI h 768 t0) = 0 then 1 else 0), h)

def fX12_third_b21 (t0 : Nat) (a1 : Int) (a2 : Int) (a3 : Int) (a4 : Int) : Nat → Hp → Int → Option (Int × Hp)
  | 0, _, _ => none
  | fu + 1, h, v5 =>
    if v5 < a4 then (
      gd ((hK h t0).1 = 12) <|
      if (gI h 768 t0) = 0 then (
        nn (gR h 792 t0) fun q4 =>
        gd ((hK h q4).1 = 21) <|
        gd (inA v5 (hK h q4).2) <|
        nn (gR h 793 t0) fun q7 =>
        gd ((hK h q7).1 = 21) <|
        gd (inA v5 (hK h q7).2) <|
        bd (fX12_toTray h t0 a3 v5 (w32 ((irm (w32 ((w32 ((gA h q4 v5.toNat) + (gA h q7 v5.toNat))) - 2)) 26) + 1))) fun h12 =>
        lt (α := Int) (w32 (v5 + 1)) fun x13 =>
        fX12_third_b21 t0 a1 a2 a3 a4 fu h12 x13)
      else
      fX12_third_b70 t0 a1 a2 a3 a4 h)
    else
    fX12_third_b70 t0 a1 a2 a3 a4 h

def fX12_third (h : Hp) (t0 : Nat) (a1 : Int) (a2 : Int) (a3 : Int) (a4 : Int) : Option (Int × Hp) :=
    gd ((hK h t0).1 = 12) <|
    lt (α := Hp) (pI h 769 t0 0) fun h2 =>
    bd2 (fX12_reads h2 t0 a1 a2 a3 a4) fun r3 h5 =>
    gd ((hK h5 t0).1 = 12) <|
    lt (α := Hp) (pI h5 768 t0 r3) fun h7 =>
    fX12_third_b21 t0 a1 a2 a3 a4 FU h7 0

def fX12_second_b71 (t0 : Nat) (a1 : Int) (a2 : Int) (a3 : Int) (a4 : Int) (h : Hp) : Option (Int × Hp) :=
    gd ((hK h t0).1 = 12) <|
    some ((if (gI h 768 t0) = 0 then 1 else 0), h)

def fX12_second_b21 (t0 : Nat) (a1 : Int) (a2 : Int) (a3 : Int) (a4 : Int) : Nat → Hp → Int → Option (Int × Hp)
  | 0, _, _ => none
  | fu + 1, h, v5 =>
    if v5 < a4 then (
      gd ((hK h t0).1 = 12) <|
      if (gI h 768 t0) = 0 then (
        nn (gR h 793 t0) fun q4 =>
        gd ((hK h q4).1 = 21) <|
        gd (inA v5 (hK h q4).2) <|
        nn (gR h 792 t0) fun q7 =>
        gd ((hK h q7).1 = 21) <|
        gd (inA v5 (hK h q7).2) <|
        bd (fX12_toTray h t0 a3 v5 (w32 ((irm (w32 ((w32 ((gA h q4 v5.toNat) - (gA h q7 v5.toNat))) + 26)) 26) + 1))) fun h12 =>
        lt (α := Int) (w32 (v5 + 1)) fun x13 =>
        fX12_second_b21 t0 a1 a2 a3 a4 fu h12 x13)
      else
      fX12_second_b71 t0 a1 a2 a3 a4 h)
    else
    fX12_second_b71 t0 a1 a2 a3 a4 h

def fX12_second (h : Hp) (t0 : Nat) (a1 : Int) (a2 : Int) (a3 : Int) (a4 : Int) : Option (Int × Hp) :=
    gd ((hK h t0).1 = 12) <|
    lt (α := Hp) (pI h 769 t0 0) fun h2 =>
    bd2 (fX12_reads h2 t0 a1 a2 a3 a4) fun r3 h5 =>
    gd ((hK h5 t0).1 = 12) <|
    lt (α := Hp) (pI h5 768 t0 r3) fun h7 =>
    fX12_second_b21 t0 a1 a2 a3 a4 FU h7 0

def fX12_anyTwo_b77 (t0 : Nat) (a1 : Int) (a2 : Int) (a3 : Int) : Nat → Hp → Int → Int → Option (Int × Hp)
  | 0, _, _, _ => none
  | fu + 1, h, v4, v5 =>
    if v5 < v4 then (
      gd ((hK h t0).1 = 12) <|
      nn (gR h 788 t0) fun q3 =>
      gd (hK h q3 = (21, 1850)) <|
      bd (fX12_heardLetter (gA h q3) a1 v5) fun r5 =>
      gd (hK h q3 = (21, 1850)) <|
      bd (fX12_heardLetter (gA h q3) a2 v5) fun r8 =>
      gd (hK h q3 = (21, 1850)) <|
      bd (fX12_heardLetter (gA h q3) a3 v5) fun r11 =>
      if (w32 ((irm (w32 ((w32 (r5 + r8)) - 2)) 26) + 1)) = r11 then (
        lt (α := Int) (w32 (v5 + 1)) fun x14 =>
        fX12_anyTwo_b77 t0 a1 a2 a3 fu h v4 x14)
      else
      some (0, h))
    else
    some (1, h)

def fX12_anyTwo (h : Hp) (t0 : Nat) (a1 : Int) (a2 : Int) (a3 : Int) : Option (Int × Hp) :=
    gd ((hK h t0).1 = 12) <|
    lt (α := Hp) (pI h 769 t0 0) fun h2 =>
    lt (α := Hp) (pI h2 768 t0 0) fun h3 =>
    nn (gR h3 788 t0) fun q4 =>
    gd (hK h3 q4 = (21, 1850)) <|
    bd (fX12_isJarAt (gA h3 q4) a1) fun r6 =>
    if r6 = 0 then (
      bd2 (fX12_refuse h3 t0 2) fun r9 h11 =>
      some (r9, h11))
    else
    gd (hK h3 q4 = (21, 1850)) <|
    bd (fX12_isJarAt (gA h3 q4) a2) fun r13 =>
    if r13 = 0 then (
      bd2 (fX12_refuse h3 t0 2) fun r16 h18 =>
      some (r16, h18))
    else
    gd (hK h3 q4 = (21, 1850)) <|
    bd (fX12_isJarAt (gA h3 q4) a3) fun r20 =>
    if r20 = 0 then (
      bd2 (fX12_refuse h3 t0 2) fun r35 h37 =>
      some (r35, h37))
    else
    gd (hK h3 q4 = (21, 1850)) <|
    bd (fX12_heardNow (gA h3 q4) a1) fun r24 =>
    if r24 = 0 then (
      some (0, h3))
    else
    gd (hK h3 q4 = (21, 1850)) <|
    bd (fX12_heardNow (gA h3 q4) a2) fun r28 =>
    if r28 = r24 then (
      gd (hK h3 q4 = (21, 1850)) <|
      bd (fX12_heardNow (gA h3 q4) a3) fun r32 =>
      if r32 = r24 then (
        fX12_anyTwo_b77 t0 a1 a2 a3 FU h3 r24 0)
      else
      some (0, h3))
    else
    some (0, h3)

def fX12_copy_b2 (t0 : Nat) (a1 : Int) (a2 : Int) : Nat → Hp → Int → Option Hp
  | 0, _, _ => none
  | fu + 1, h, v3 =>
    if v3 < 370 then (
      gd ((hK h t0).1 = 12) <|
      nn (gR h 788 t0) fun q3 =>
      gd ((hK h q3).1 = 21) <|
      gd (inA (w32 ((w32 (370 * a1)) + v3)) (hK h q3).2) <|
      gd (inA (w32 ((w32 (370 * a2)) + v3)) (hK h q3).2) <|
      lt (α := Hp) (sA h q3 (w32 ((w32 (370 * a2)) + v3)) (gA h q3 (w32 ((w32 (370 * a1)) + v3)).toNat)) fun h7 =>
      lt (α := Int) (w32 (v3 + 1)) fun x8 =>
      fX12_copy_b2 t0 a1 a2 fu h7 x8)
    else
    some h

def fX12_copy (h : Hp) (t0 : Nat) (a1 : Int) (a2 : Int) : Option Hp :=
    fX12_copy_b2 t0 a1 a2 FU h 0

def fX12_mark (h : Hp) (t0 : Nat) : Option (Int × Hp) :=
    gd ((hK h t0).1 = 12) <|
    lt (α := Hp) (pI h 769 t0 0) fun h2 =>
    lt (α := Hp) (pI h2 768 t0 0) fun h3 =>
    if (gI h3 790 t0) = 3 then (
      bd2 (fX12_refuse h3 t0 7) fun r10 h12 =>
      some (r10, h12))
    else
    lt (α := Hp) (pI h3 790 t0 (w32 ((gI h3 790 t0) + 1))) fun h5 =>
    bd (fX12_copy h5 t0 0 (gI h5 790 t0)) fun h8 =>
    gd ((hK h8 t0).1 = 12) <|
    some (gI h8 790 t0, h8)

def fX12_back (h : Hp) (t0 : Nat) : Option (Int × Hp) :=
    gd ((hK h t0).1 = 12) <|
    lt (α := Hp) (pI h 769 t0 0) fun h2 =>
    lt (α := Hp) (pI h2 768 t0 0) fun h3 =>
    if (gI h3 790 t0) = 0 then (
      bd2 (fX12_refuse h3 t0 8) fun r10 h12 =>
      some (r10, h12))
    else
    bd (fX12_copy h3 t0 (gI h3 790 t0) 0) fun h7 =>
    gd ((hK h7 t0).1 = 12) <|
    lt (α := Hp) (pI h7 790 t0 (w32 ((gI h7 790 t0) - 1))) fun h9 =>
    some (gI h9 790 t0, h9)

