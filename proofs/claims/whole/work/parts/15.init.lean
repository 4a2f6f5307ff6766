def fX10_init (h : Hp) (t0 : Nat) : Option Hp :=
    lt (α := Nat) (hZ h) fun q1 =>
    lt (α := Hp) (nw h 22 60) fun h2 =>
    gd ((hK h2 t0).1 = 10) <|
    lt (α := Hp) (pR h2 640 t0 q1) fun h5 =>
    lt (α := Hp) (pI h5 641 t0 (-1)) fun h6 =>
    some h6

set_option maxHeartbeats 4000000 in
set_option maxRecDepth 100000 in
theorem kX10_init {D : va_G} {cy : Nat → ClassId} {B : Nat} {l : Launch} {h : Hp} {t0 : Nat} {h' : Hp} (hf : fX10_init h t0 = some h') : CT D cy B l yX10_init cX10_init 1 (none : Option FieldType) 2 80 1 60 [.ref t0] h none h' := by
  refine ct_intro (own := RX10) (by decide) rfl (Nat.le_of_ble_eq_true rfl) fun p e s m args below meth c X hr hlk hnm => ?_
  refine aw_lv (lv' := [(0, .ref t0)]) rfl ?_
  rw [fX10_init.eq_1] at hf
  refine aw_aload_n (pc := 0) X dX10_init_0 0 rfl ?_
  refine aw_objInit (pc := 1) X kw_173 kw_165 kw_166 (Nat.le_of_ble_eq_true rfl) (Nat.le_of_ble_eq_true rfl) dX10_init_1 ?_
  refine aw_aload_n (pc := 4) X dX10_init_4 0 rfl ?_
  refine aw_bipush (pc := 5) X dX10_init_5 rfl ?_
  obtain ⟨q1, eq1, hf⟩ := lt_some hf
  obtain ⟨h2, eh2, hf⟩ := lt_some hf
  refine aw_newa (atype := .long) (pc := 7) X (kd := 22) 60 8 rfl rfl (by decide) (by decide) rfl kw_187 (rg_lit rfl) (by decide) (hdef22 _) (Nat.le_of_ble_eq_true rfl) (Nat.le_of_ble_eq_true rfl) (Nat.le_of_ble_eq_true rfl) eh2 dX10_init_7 ?_
  refine aw_topA eq1 ?_
  refine aw_kn (k' := 1) (n' := 60) rfl rfl ?_
  have g3 : (hK h2 q1).1 = 22 := by rw [eh2, eq1, nw_k]
  obtain ⟨g4, hf⟩ := gd_some hf
  obtain ⟨h5, eh5, hf⟩ := lt_some hf
  have kkh5 := kp_R eh5
  refine aw_setR (pc := 9) X 10 0 640 iw_10 tyX10 tyX10_ok nmX10 rfl (by decide) (by decide) rfl g4 kw_174 rfl (Or.inr ⟨rfl, hnm, rfl⟩) rfl (tyX10_ok 0 (by decide)) rfl rfl rfl eh5 dX10_init_9 ?_
  refine aw_aload_n (pc := 12) X dX10_init_12 0 rfl ?_
  refine aw_iconst (pc := 13) X dX10_init_13 ?_
  obtain ⟨h6, eh6, hf⟩ := lt_some hf
  have kkh6 := (kp_I eh6).trans kkh5
  refine aw_setI (pc := 14) X 10 1 641 iw_10 tyX10 tyX10_ok nmX10 rfl (by decide) (by decide) rfl (kc kkh5 g4) kw_176 rfl (Or.inl rfl) rfl (tyX10_ok 1 (by decide)) rfl eh6 dX10_init_14 ?_
  refine aw_widen (k' := 1) (n' := 60) (Nat.le_of_ble_eq_true rfl) (Nat.le_of_ble_eq_true rfl) ?_
  cases hf
  exact aw_vret (pc := 17) X hr hlk rfl rfl dX10_init_17

def fX9_init (h : Hp) (t0 : Nat) : Option Hp :=
    lt (α := Nat) (hZ h) fun q1 =>
    lt (α := Hp) (nw h 20 900) fun h2 =>
    gd ((hK h2 t0).1 = 9) <|
    lt (α := Hp) (pR h2 576 t0 q1) fun h5 =>
    lt (α := Hp) (pI h5 578 t0 (-1)) fun h6 =>
    lt (α := Hp) (pI h6 579 t0 (-1)) fun h7 =>
    some h7

set_option maxHeartbeats 4000000 in
set_option maxRecDepth 100000 in
theorem kX9_init {D : va_G} {cy : Nat → ClassId} {B : Nat} {l : Launch} {h : Hp} {t0 : Nat} {h' : Hp} (hf : fX9_init h t0 = some h') : CT D cy B l yX9_init cX9_init 1 (none : Option FieldType) 2 80 1 900 [.ref t0] h none h' := by
  refine ct_intro (own := RX9) (by decide) rfl (Nat.le_of_ble_eq_true rfl) fun p e s m args below meth c X hr hlk hnm => ?_
  refine aw_lv (lv' := [(0, .ref t0)]) rfl ?_
  rw [fX9_init.eq_1] at hf
  refine aw_aload_n (pc := 0) X dX9_init_0 0 rfl ?_
  refine aw_objInit (pc := 1) X kw_193 kw_165 kw_166 (Nat.le_of_ble_eq_true rfl) (Nat.le_of_ble_eq_true rfl) dX9_init_1 ?_
  refine aw_aload_n (pc := 4) X dX9_init_4 0 rfl ?_
  refine aw_sipush (pc := 5) X dX9_init_5 rfl ?_
  obtain ⟨q1, eq1, hf⟩ := lt_some hf
  obtain ⟨h2, eh2, hf⟩ := lt_some hf
  refine aw_newa (atype := .byte) (pc := 8) X (kd := 20) 900 1 rfl rfl (by decide) (by decide) rfl kw_223 (rg_lit rfl) (by decide) (hdef20 _) (Nat.le_of_ble_eq_true rfl) (Nat.le_of_ble_eq_true rfl) (Nat.le_of_ble_eq_true rfl) eh2 dX9_init_8 ?_
  refine aw_topA eq1 ?_
  refine aw_kn (k' := 1) (n' := 900) rfl rfl ?_
  have g3 : (hK h2 q1).1 = 20 := by rw [eh2, eq1, nw_k]
  obtain ⟨g4, hf⟩ := gd_some hf
  obtain ⟨h5, eh5, hf⟩ := lt_some hf
  have kkh5 := kp_R eh5
  refine aw_setR (pc := 10) X 9 0 576 iw_9 tyX9 tyX9_ok nmX9 rfl (by decide) (by decide) rfl g4 kw_194 rfl (Or.inr ⟨rfl, hnm, rfl⟩) rfl (tyX9_ok 0 (by decide)) rfl rfl rfl eh5 dX9_init_10 ?_
  refine aw_aload_n (pc := 13) X dX9_init_13 0 rfl ?_
  refine aw_iconst (pc := 14) X dX9_init_14 ?_
  obtain ⟨h6, eh6, hf⟩ := lt_some hf
  have kkh6 := (kp_I eh6).trans kkh5
  refine aw_setI (pc := 15) X 9 2 578 iw_9 tyX9 tyX9_ok nmX9 rfl (by decide) (by decide) rfl (kc kkh5 g4) kw_197 rfl (Or.inl rfl) rfl (tyX9_ok 2 (by decide)) rfl eh6 dX9_init_15 ?_
  refine aw_aload_n (pc := 18) X dX9_init_18 0 rfl ?_
  refine aw_iconst (pc := 19) X dX9_init_19 ?_
  obtain ⟨h7, eh7, hf⟩ := lt_some hf
  have kkh7 := (kp_I eh7).trans kkh6
  refine aw_setI (pc := 20) X 9 3 579 iw_9 tyX9 tyX9_ok nmX9 rfl (by decide) (by decide) rfl (kc kkh6 g4) kw_199 rfl (Or.inl rfl) rfl (tyX9_ok 3 (by decide)) rfl eh7 dX9_init_20 ?_
  refine aw_widen (k' := 1) (n' := 900) (Nat.le_of_ble_eq_true rfl) (Nat.le_of_ble_eq_true rfl) ?_
  cases hf
  exact aw_vret (pc := 23) X hr hlk rfl rfl dX9_init_23

def fX6_init (h : Hp) (t0 : Nat) (a1 : Nat) : Option Hp :=
    gd ((hK h t0).1 = 6) <|
    lt (α := Hp) (pR h 384 t0 a1) fun h2 =>
    some h2

set_option maxHeartbeats 4000000 in
set_option maxRecDepth 100000 in
theorem kX6_init {D : va_G} {cy : Nat → ClassId} {B : Nat} {l : Launch} {h : Hp} {t0 : Nat} {a1 : Nat} {h' : Hp} (hf : fX6_init h t0 a1 = some h') : CT D cy B l yX6_init cX6_init 2 (none : Option FieldType) 2 80 0 0 [.ref t0, .ref a1] h none h' := by
  refine ct_intro (own := RX6) (by decide) rfl (Nat.le_of_ble_eq_true rfl) fun p e s m args below meth c X hr hlk hnm => ?_
  refine aw_lv (lv' := [(0, .ref t0), (1, .ref a1)]) rfl ?_
  rw [fX6_init.eq_1] at hf
  refine aw_aload_n (pc := 0) X dX6_init_0 0 rfl ?_
  refine aw_objInit (pc := 1) X kw_244 kw_165 kw_166 (Nat.le_of_ble_eq_true rfl) (Nat.le_of_ble_eq_true rfl) dX6_init_1 ?_
  refine aw_aload_n (pc := 4) X dX6_init_4 0 rfl ?_
  refine aw_aload_n (pc := 5) X dX6_init_5 1 rfl ?_
  obtain ⟨g1, hf⟩ := gd_some hf
  obtain ⟨h2, eh2, hf⟩ := lt_some hf
  have kkh2 := kp_R eh2
  refine aw_setR (pc := 6) X 6 0 384 iw_6 tyX6 tyX6_ok nmX6 rfl (by decide) (by decide) rfl g1 kw_245 rfl (Or.inl rfl) rfl (tyX6_ok 0 (by decide)) rfl rfl rfl eh2 dX6_init_6 ?_
  cases hf
  exact aw_vret (pc := 9) X hr hlk rfl rfl dX6_init_9

def fX0_init (h : Hp) (t0 : Nat) : Option Hp :=
    gd ((hK h t0).1 = 0) <|
    lt (α := Hp) (pI h 4 t0 1) fun h2 =>
    some h2

set_option maxHeartbeats 4000000 in
set_option maxRecDepth 100000 in
theorem kX0_init {D : va_G} {cy : Nat → ClassId} {B : Nat} {l : Launch} {h : Hp} {t0 : Nat} {h' : Hp} (hf : fX0_init h t0 = some h') : CT D cy B l yX0_init cX0_init 1 (none : Option FieldType) 2 80 0 0 [.ref t0] h none h' := by
  refine ct_intro (own := RX0) (by decide) rfl (Nat.le_of_ble_eq_true rfl) fun p e s m args below meth c X hr hlk hnm => ?_
  refine aw_lv (lv' := [(0, .ref t0)]) rfl ?_
  rw [fX0_init.eq_1] at hf
  refine aw_aload_n (pc := 0) X dX0_init_0 0 rfl ?_
  refine aw_objInit (pc := 1) X kw_267 kw_165 kw_166 (Nat.le_of_ble_eq_true rfl) (Nat.le_of_ble_eq_true rfl) dX0_init_1 ?_
  refine aw_aload_n (pc := 4) X dX0_init_4 0 rfl ?_
  refine aw_iconst (pc := 5) X dX0_init_5 ?_
  obtain ⟨g1, hf⟩ := gd_some hf
  obtain ⟨h2, eh2, hf⟩ := lt_some hf
  have kkh2 := kp_I eh2
  refine aw_setI (pc := 6) X 0 4 4 iw_0 tyX0 tyX0_ok nmX0 rfl (by decide) (by decide) rfl g1 kw_278 rfl (Or.inl rfl) rfl (tyX0_ok 4 (by decide)) rfl eh2 dX0_init_6 ?_
  cases hf
  exact aw_vret (pc := 9) X hr hlk rfl rfl dX0_init_9

def fX7_init_b24 (t0 : Nat) : Nat → Hp → Nat → Nat → Int → Option Hp
  | 0, _, _, _, _ => none
  | fu + 1, h, k, n, v1 =>
    if v1 < 8 then (
      gd ((hK h t0).1 = 7) <|
      nn (gR h 448 t0) fun q4 =>
      gd ((k + 1) ≤ 26 ∧ (n + 3) ≤ 248) <|
      lt (α := Nat) (hZ h) fun q6 =>
      lt (α := Hp) (nw h 6 0) fun h7 =>
      gd ((k + 2) ≤ 26 ∧ (n + 19) ≤ 248) <|
      lt (α := Nat) (hZ h7) fun q10 =>
      lt (α := Hp) (nw h7 21 16) fun h11 =>
      gd ((k + 2) + 0 ≤ 26 ∧ (n + 19) + 0 ≤ 248) <|
      bd (fX6_init h11 q6 q10) fun h16 =>
      gd ((hK h16 q4).1 = 26) <|
      gd (inA v1 (hK h16 q4).2) <|
      gd ((hK h16 q6).1 = 6) <|
      lt (α := Hp) (sC h16 q4 v1 q6) fun h20 =>
      gd ((hK h20 t0).1 = 7) <|
      nn (gR h20 449 t0) fun q22 =>
      gd ((k + 3) ≤ 26 ∧ (n + 29) ≤ 248) <|
      lt (α := Nat) (hZ h20) fun q24 =>
      lt (α := Hp) (nw h20 0 0) fun h25 =>
      gd ((k + 3) + 0 ≤ 26 ∧ (n + 29) + 0 ≤ 248) <|
      bd (fX0_init h25 q24) fun h30 =>
      gd ((hK h30 q22).1 = 24) <|
      gd (inA v1 (hK h30 q22).2) <|
      gd ((hK h30 q24).1 = 0) <|
      lt (α := Hp) (sC h30 q22 v1 q24) fun h34 =>
      lt (α := Int) (w32 (v1 + 1)) fun x35 =>
      fX7_init_b24 t0 fu h34 (k + 3) (n + 29) x35)
    else
    gd (k ≤ 26 ∧ n ≤ 248) <|
    some h

def fX7_init (h : Hp) (t0 : Nat) : Option Hp :=
    lt (α := Nat) (hZ h) fun q1 =>
    lt (α := Hp) (nw h 26 8) fun h2 =>
    gd ((hK h2 t0).1 = 7) <|
    lt (α := Hp) (pR h2 448 t0 q1) fun h5 =>
    lt (α := Nat) (hZ h5) fun q6 =>
    lt (α := Hp) (nw h5 24 8) fun h7 =>
    gd ((hK h7 t0).1 = 7) <|
    lt (α := Hp) (pR h7 449 t0 q6) fun h10 =>
    fX7_init_b24 t0 FU h10 2 16 0

set_option maxHeartbeats 4000000 in
set_option maxRecDepth 100000 in
theorem wX7_init_b24 {D : va_G} {cy : Nat → ClassId} {B : Nat} {p : Program} {l : Launch} {e : Env} {s : State} {m : MethodId} {args : Array Value} {below : List Frame} {meth : Method} {c : Code} {t0 : Nat} {h' : Hp} (X : CXd D cy B p s m args c cX7_init RX7 2) (hr : meth.sig.returnType = (none : Option FieldType)) (hlk : meth.locks = false) (hnm : meth.name = "<init>") : ∀ (fu : Nat) (h : Hp) (k : Nat) (n : Nat) (v1 : Int), rg v1 → fX7_init_b24 t0 fu h k n v1 = some h' → AWd D cy B p l e { frames := 4, cells := 26, slots := 248, locals := 121 } s m args below meth c 2 (MQr D cy B below none h' args s 26 248) h k n 24 [(0, .ref t0), (1, vI v1)] [] := by
  intro fu
  induction fu with
  | zero => intro h k n v1 r_v1 hf; rw [fX7_init_b24.eq_1] at hf; cases hf
  | succ fu ih =>
    intro h k n v1 r_v1 hf
    rw [fX7_init_b24.eq_2] at hf
    refine aw_iload_n (pc := 24) X dX7_init_24 1 rfl ?_
    refine aw_bipush (pc := 25) X dX7_init_25 rfl ?_
    refine aw_icmp_ge (pc := 27) (tgt := 66) X r_v1 (rg_lit rfl) dX7_init_27 (by decide) (fun z1 => ?_) (fun z1 => ?_)
    · have hf := it_f z1 hf
      obtain ⟨g2, hf⟩ := gd_some hf
      refine aw_widen g2.1 g2.2 ?_
      cases hf
      exact aw_vret (pc := 66) X hr hlk rfl rfl dX7_init_66
    · have hf := it_t z1 hf
      refine aw_aload_n (pc := 30) X dX7_init_30 0 rfl ?_
      obtain ⟨g3, hf⟩ := gd_some hf
      obtain ⟨q4, gq4, hf⟩ := nn_some hf
      refine aw_getR (pc := 31) X 7 0 448 iw_7 rfl (by decide) (by decide) g3 rfl kw_316 rfl rfl gq4 dX7_init_31 ?_
      refine aw_iload_n (pc := 34) X dX7_init_34 1 rfl ?_
      obtain ⟨g5, hf⟩ := gd_some hf
      obtain ⟨q6, eq6, hf⟩ := lt_some hf
      obtain ⟨h7, eh7, hf⟩ := lt_some hf
      refine aw_new (pc := 35) X iw_6 tyX6 tyX6_ok rfl (by decide) (by decide) kw_236 kw_240 kw_144 g5.1 g5.2 eh7 dX7_init_35 ?_
      refine aw_topA eq6 ?_
      refine aw_kn (k' := (k + 1)) (n' := (n + 3)) rfl rfl ?_
      have g8 : (hK h7 q6).1 = 6 := by rw [eh7, eq6, nw_k]
      refine aw_dup (pc := 38) X dX7_init_38 rfl ?_
      refine aw_bipush (pc := 39) X dX7_init_39 rfl ?_
      obtain ⟨g9, hf⟩ := gd_some hf
      obtain ⟨q10, eq10, hf⟩ := lt_some hf
      obtain ⟨h11, eh11, hf⟩ := lt_some hf
      refine aw_newa (atype := .int) (pc := 41) X (kd := 21) 16 4 rfl rfl (by decide) (by decide) rfl kw_262 (rg_lit rfl) (by decide) (hdef21 _) (Nat.le_of_ble_eq_true rfl) g9.1 g9.2 eh11 dX7_init_41 ?_
      refine aw_topA eq10 ?_
      refine aw_kn (k' := (k + 2)) (n' := (n + 19)) rfl rfl ?_
      have g12 : (hK h11 q10).1 = 21 := by rw [eh11, eq10, nw_k]
      obtain ⟨g13, hf⟩ := gd_some hf
      obtain ⟨h16, g15, hf⟩ := bd_some hf
      refine aw_invI (pc := 43) X (kX6_init g15) mw_yX6_init kw_241 kw_242 rfl rfl ⟨Nat.le_of_ble_eq_true rfl, Nat.le_of_ble_eq_true rfl⟩ rfl (Nat.le_of_ble_eq_true rfl) g13 dX7_init_43 ?_
      refine aw_ret0 (k' := (k + 2)) (n' := (n + 19)) rfl rfl ?_
      obtain ⟨g17, hf⟩ := gd_some hf
      obtain ⟨g18, hf⟩ := gd_some hf
      obtain ⟨g19, hf⟩ := gd_some hf
      obtain ⟨h20, eh20, hf⟩ := lt_some hf
      have kkh20 := kp_C eh20
      refine aw_aast (pc := 46) X g17 (by decide) (by decide) rfl g19 rfl (by decide) r_v1 g18 eh20 dX7_init_46 ?_
      refine aw_aload_n (pc := 47) X dX7_init_47 0 rfl ?_
      obtain ⟨g21, hf⟩ := gd_some hf
      obtain ⟨q22, gq22, hf⟩ := nn_some hf
      refine aw_getR (pc := 48) X 7 1 449 iw_7 rfl (by decide) (by decide) g21 rfl kw_319 rfl rfl gq22 dX7_init_48 ?_
      refine aw_iload_n (pc := 51) X dX7_init_51 1 rfl ?_
      obtain ⟨g23, hf⟩ := gd_some hf
      obtain ⟨q24, eq24, hf⟩ := lt_some hf
      obtain ⟨h25, eh25, hf⟩ := lt_some hf
      refine aw_new (pc := 52) X iw_0 tyX0 tyX0_ok rfl (by decide) (by decide) kw_238 kw_263 kw_145 g23.1 g23.2 eh25 dX7_init_52 ?_
      refine aw_topA eq24 ?_
      refine aw_kn (k' := (k + 3)) (n' := (n + 29)) rfl rfl ?_
      have g26 : (hK h25 q24).1 = 0 := by rw [eh25, eq24, nw_k]
      refine aw_dup (pc := 55) X dX7_init_55 rfl ?_
      obtain ⟨g27, hf⟩ := gd_some hf
      obtain ⟨h30, g29, hf⟩ := bd_some hf
      refine aw_invIN (pc := 56) X (kX0_init g29) mw_yX0_init (List.mem_of_getElem? (i := 2) rfl) kw_265 rfl rfl ⟨Nat.le_of_ble_eq_true rfl, Nat.le_of_ble_eq_true rfl⟩ rfl (Nat.le_of_ble_eq_true rfl) g27 dX7_init_56 ?_
      refine aw_ret0 (k' := (k + 3)) (n' := (n + 29)) rfl rfl ?_
      obtain ⟨g31, hf⟩ := gd_some hf
      obtain ⟨g32, hf⟩ := gd_some hf
      obtain ⟨g33, hf⟩ := gd_some hf
      obtain ⟨h34, eh34, hf⟩ := lt_some hf
      have kkh34 := kp_C eh34
      refine aw_aast (pc := 59) X g31 (by decide) (by decide) rfl g33 rfl (by decide) r_v1 g32 eh34 dX7_init_59 ?_
      obtain ⟨x35, ex35, hf⟩ := lt_some hf
      have r_x35 : rg x35 := by rw [ex35]; exact w32_rg _
      refine aw_iinc (pc := 60) (lv' := [(1, vI x35), (0, .ref t0)]) X dX7_init_60 1 rfl (by decide) (by rw [ex35]; rfl) ?_
      refine aw_goto (pc := 63) (tgt := 24) X dX7_init_63 (by decide) ?_
      refine aw_sub [1, 0] rfl ?_
      exact ih _ _ _ _ r_x35 hf

set_option maxHeartbeats 4000000 in
set_option maxRecDepth 100000 in
theorem kX7_init {D : va_G} {cy : Nat → ClassId} {B : Nat} {l : Launch} {h : Hp} {t0 : Nat} {h' : Hp} (hf : fX7_init h t0 = some h') : CT D cy B l yX7_init cX7_init 2 (none : Option FieldType) 4 121 26 248 [.ref t0] h none h' := by
  refine ct_intro (own := RX7) (by decide) rfl (Nat.le_of_ble_eq_true rfl) fun p e s m args below meth c X hr hlk hnm => ?_
  refine aw_lv (lv' := [(0, .ref t0)]) rfl ?_
  rw [fX7_init.eq_1] at hf
  refine aw_aload_n (pc := 0) X dX7_init_0 0 rfl ?_
  refine aw_objInit (pc := 1) X kw_235 kw_165 kw_166 (Nat.le_of_ble_eq_true rfl) (Nat.le_of_ble_eq_true rfl) dX7_init_1 ?_
  refine aw_aload_n (pc := 4) X dX7_init_4 0 rfl ?_
  refine aw_bipush (pc := 5) X dX7_init_5 rfl ?_
  obtain ⟨q1, eq1, hf⟩ := lt_some hf
  obtain ⟨h2, eh2, hf⟩ := lt_some hf
  refine aw_newq (pc := 7) X (kd := 26) 8 rfl (by decide) (by decide) rfl kw_236 (fun z => z.2.1.2.2.1) (rg_lit rfl) (by decide) (Nat.le_of_ble_eq_true rfl) (Nat.le_of_ble_eq_true rfl) (Nat.le_of_ble_eq_true rfl) eh2 dX7_init_7 ?_
  refine aw_topA eq1 ?_
  refine aw_kn (k' := 1) (n' := 8) rfl rfl ?_
  have g3 : (hK h2 q1).1 = 26 := by rw [eh2, eq1, nw_k]
  obtain ⟨g4, hf⟩ := gd_some hf
  obtain ⟨h5, eh5, hf⟩ := lt_some hf
  have kkh5 := kp_R eh5
  refine aw_setR (pc := 10) X 7 0 448 iw_7 tyX7 tyX7_ok nmX7 rfl (by decide) (by decide) rfl g4 kw_316 rfl (Or.inr ⟨rfl, hnm, rfl⟩) rfl (tyX7_ok 0 (by decide)) rfl rfl rfl eh5 dX7_init_10 ?_
  refine aw_aload_n (pc := 13) X dX7_init_13 0 rfl ?_
  refine aw_bipush (pc := 14) X dX7_init_14 rfl ?_
  obtain ⟨q6, eq6, hf⟩ := lt_some hf
  obtain ⟨h7, eh7, hf⟩ := lt_some hf
  refine aw_newq (pc := 16) X (kd := 24) 8 rfl (by decide) (by decide) rfl kw_238 (fun z => z.2.1.1) (rg_lit rfl) (by decide) (Nat.le_of_ble_eq_true rfl) (Nat.le_of_ble_eq_true rfl) (Nat.le_of_ble_eq_true rfl) eh7 dX7_init_16 ?_
  refine aw_topA eq6 ?_
  refine aw_kn (k' := 2) (n' := 16) rfl rfl ?_
  have g8 : (hK h7 q6).1 = 24 := by rw [eh7, eq6, nw_k]
  obtain ⟨g9, hf⟩ := gd_some hf
  obtain ⟨h10, eh10, hf⟩ := lt_some hf
  have kkh10 := kp_R eh10
  refine aw_setR (pc := 19) X 7 1 449 iw_7 tyX7 tyX7_ok nmX7 rfl (by decide) (by decide) rfl g9 kw_319 rfl (Or.inr ⟨rfl, hnm, rfl⟩) rfl (tyX7_ok 1 (by decide)) rfl rfl rfl eh10 dX7_init_19 ?_
  refine aw_iconst (pc := 22) X dX7_init_22 ?_
  refine aw_istore_n (pc := 23) (lv' := [(1, vI 0), (0, .ref t0)]) X dX7_init_23 (by decide) rfl ?_
  refine aw_sub [1, 0] rfl ?_
  exact wX7_init_b24 X hr hlk hnm _ _ _ _ _ (rg_lit rfl) hf

def fX8_init (h : Hp) (t0 : Nat) (a1 : Nat) : Option Hp :=
    lt (α := Nat) (hZ h) fun q1 =>
    lt (α := Hp) (nw h 21 8) fun h2 =>
    gd ((hK h2 t0).1 = 8) <|
    lt (α := Hp) (pR h2 513 t0 q1) fun h5 =>
    lt (α := Nat) (hZ h5) fun q6 =>
    lt (α := Hp) (nw h5 21 8) fun h7 =>
    gd ((hK h7 t0).1 = 8) <|
    lt (α := Hp) (pR h7 514 t0 q6) fun h10 =>
    lt (α := Nat) (hZ h10) fun q11 =>
    lt (α := Hp) (nw h10 21 8) fun h12 =>
    gd ((hK h12 t0).1 = 8) <|
    lt (α := Hp) (pR h12 515 t0 q11) fun h15 =>
    lt (α := Nat) (hZ h15) fun q16 =>
    lt (α := Hp) (nw h15 21 8) fun h17 =>
    gd ((hK h17 t0).1 = 8) <|
    lt (α := Hp) (pR h17 516 t0 q16) fun h20 =>
    lt (α := Hp) (pR h20 512 t0 a1) fun h21 =>
    lt (α := Nat) (hZ h21) fun q22 =>
    lt (α := Hp) (nw h21 7 0) fun h23 =>
    bd (fX7_init h23 q22) fun h27 =>
    gd ((hK h27 t0).1 = 8) <|
    lt (α := Hp) (pR h27 517 t0 q22) fun h29 =>
    some h29

set_option maxHeartbeats 4000000 in
set_option maxRecDepth 100000 in
theorem kX8_init {D : va_G} {cy : Nat → ClassId} {B : Nat} {l : Launch} {h : Hp} {t0 : Nat} {a1 : Nat} {h' : Hp} (hf : fX8_init h t0 a1 = some h') : CT D cy B l yX8_init cX8_init 2 (none : Option FieldType) 6 162 31 284 [.ref t0, .ref a1] h none h' := by
  refine ct_intro (own := RX8) (by decide) rfl (Nat.le_of_ble_eq_true rfl) fun p e s m args below meth c X hr hlk hnm => ?_
  refine aw_lv (lv' := [(0, .ref t0), (1, .ref a1)]) rfl ?_
  rw [fX8_init.eq_1] at hf
  refine aw_aload_n (pc := 0) X dX8_init_0 0 rfl ?_
  refine aw_objInit (pc := 1) X kw_229 kw_165 kw_166 (Nat.le_of_ble_eq_true rfl) (Nat.le_of_ble_eq_true rfl) dX8_init_1 ?_
  refine aw_aload_n (pc := 4) X dX8_init_4 0 rfl ?_
  refine aw_bipush (pc := 5) X dX8_init_5 rfl ?_
  obtain ⟨q1, eq1, hf⟩ := lt_some hf
  obtain ⟨h2, eh2, hf⟩ := lt_some hf
  refine aw_newa (atype := .int) (pc := 7) X (kd := 21) 8 4 rfl rfl (by decide) (by decide) rfl kw_262 (rg_lit rfl) (by decide) (hdef21 _) (Nat.le_of_ble_eq_true rfl) (Nat.le_of_ble_eq_true rfl) (Nat.le_of_ble_eq_true rfl) eh2 dX8_init_7 ?_
  refine aw_topA eq1 ?_
  refine aw_kn (k' := 1) (n' := 8) rfl rfl ?_
  have g3 : (hK h2 q1).1 = 21 := by rw [eh2, eq1, nw_k]
  obtain ⟨g4, hf⟩ := gd_some hf
  obtain ⟨h5, eh5, hf⟩ := lt_some hf
  have kkh5 := kp_R eh5
  refine aw_setR (pc := 9) X 8 1 513 iw_8 tyX8 tyX8_ok nmX8 rfl (by decide) (by decide) rfl g4 kw_340 rfl (Or.inr ⟨rfl, hnm, rfl⟩) rfl (tyX8_ok 1 (by decide)) rfl rfl rfl eh5 dX8_init_9 ?_
  refine aw_aload_n (pc := 12) X dX8_init_12 0 rfl ?_
  refine aw_bipush (pc := 13) X dX8_init_13 rfl ?_
  obtain ⟨q6, eq6, hf⟩ := lt_some hf
  obtain ⟨h7, eh7, hf⟩ := lt_some hf
  refine aw_newa (atype := .int) (pc := 15) X (kd := 21) 8 4 rfl rfl (by decide) (by decide) rfl kw_262 (rg_lit rfl) (by decide) (hdef21 _) (Nat.le_of_ble_eq_true rfl) (Nat.le_of_ble_eq_true rfl) (Nat.le_of_ble_eq_true rfl) eh7 dX8_init_15 ?_
  refine aw_topA eq6 ?_
  refine aw_kn (k' := 2) (n' := 16) rfl rfl ?_
  have g8 : (hK h7 q6).1 = 21 := by rw [eh7, eq6, nw_k]
  obtain ⟨g9, hf⟩ := gd_some hf
  obtain ⟨h10, eh10, hf⟩ := lt_some hf
  have kkh10 := kp_R eh10
  refine aw_setR (pc := 17) X 8 2 514 iw_8 tyX8 tyX8_ok nmX8 rfl (by decide) (by decide) rfl g9 kw_341 rfl (Or.inr ⟨rfl, hnm, rfl⟩) rfl (tyX8_ok 2 (by decide)) rfl rfl rfl eh10 dX8_init_17 ?_
  refine aw_aload_n (pc := 20) X dX8_init_20 0 rfl ?_
  refine aw_bipush (pc := 21) X dX8_init_21 rfl ?_
  obtain ⟨q11, eq11, hf⟩ := lt_some hf
  obtain ⟨h12, eh12, hf⟩ := lt_some hf
  refine aw_newa (atype := .int) (pc := 23) X (kd := 21) 8 4 rfl rfl (by decide) (by decide) rfl kw_262 (rg_lit rfl) (by decide) (hdef21 _) (Nat.le_of_ble_eq_true rfl) (Nat.le_of_ble_eq_true rfl) (Nat.le_of_ble_eq_true rfl) eh12 dX8_init_23 ?_
  refine aw_topA eq11 ?_
  refine aw_kn (k' := 3) (n' := 24) rfl rfl ?_
  have g13 : (hK h12 q11).1 = 21 := by rw [eh12, eq11, nw_k]
  obtain ⟨g14, hf⟩ := gd_some hf
  obtain ⟨h15, eh15, hf⟩ := lt_some hf
  have kkh15 := kp_R eh15
  refine aw_setR (pc := 25) X 8 3 515 iw_8 tyX8 tyX8_ok nmX8 rfl (by decide) (by decide) rfl g14 kw_342 rfl (Or.inr ⟨rfl, hnm, rfl⟩) rfl (tyX8_ok 3 (by decide)) rfl rfl rfl eh15 dX8_init_25 ?_
  refine aw_aload_n (pc := 28) X dX8_init_28 0 rfl ?_
  refine aw_bipush (pc := 29) X dX8_init_29 rfl ?_
  obtain ⟨q16, eq16, hf⟩ := lt_some hf
  obtain ⟨h17, eh17, hf⟩ := lt_some hf
  refine aw_newa (atype := .int) (pc := 31) X (kd := 21) 8 4 rfl rfl (by decide) (by decide) rfl kw_262 (rg_lit rfl) (by decide) (hdef21 _) (Nat.le_of_ble_eq_true rfl) (Nat.le_of_ble_eq_true rfl) (Nat.le_of_ble_eq_true rfl) eh17 dX8_init_31 ?_
  refine aw_topA eq16 ?_
  refine aw_kn (k' := 4) (n' := 32) rfl rfl ?_
  have g18 : (hK h17 q16).1 = 21 := by rw [eh17, eq16, nw_k]
  obtain ⟨g19, hf⟩ := gd_some hf
  obtain ⟨h20, eh20, hf⟩ := lt_some hf
  have kkh20 := kp_R eh20
  refine aw_setR (pc := 33) X 8 4 516 iw_8 tyX8 tyX8_ok nmX8 rfl (by decide) (by decide) rfl g19 kw_343 rfl (Or.inr ⟨rfl, hnm, rfl⟩) rfl (tyX8_ok 4 (by decide)) rfl rfl rfl eh20 dX8_init_33 ?_
  refine aw_aload_n (pc := 36) X dX8_init_36 0 rfl ?_
  refine aw_aload_n (pc := 37) X dX8_init_37 1 rfl ?_
  obtain ⟨h21, eh21, hf⟩ := lt_some hf
  have kkh21 := (kp_R eh21).trans kkh20
  refine aw_setR (pc := 38) X 8 0 512 iw_8 tyX8 tyX8_ok nmX8 rfl (by decide) (by decide) rfl (kc kkh20 g19) kw_339 rfl (Or.inr ⟨rfl, hnm, rfl⟩) rfl (tyX8_ok 0 (by decide)) rfl rfl rfl eh21 dX8_init_38 ?_
  refine aw_aload_n (pc := 41) X dX8_init_41 0 rfl ?_
  obtain ⟨q22, eq22, hf⟩ := lt_some hf
  obtain ⟨h23, eh23, hf⟩ := lt_some hf
  refine aw_new (pc := 42) X iw_7 tyX7 tyX7_ok rfl (by decide) (by decide) kw_230 kw_231 kw_143 (Nat.le_of_ble_eq_true rfl) (Nat.le_of_ble_eq_true rfl) eh23 dX8_init_42 ?_
  refine aw_topA eq22 ?_
  refine aw_kn (k' := 5) (n' := 36) rfl rfl ?_
  have g24 : (hK h23 q22).1 = 7 := by rw [eh23, eq22, nw_k]
  refine aw_dup (pc := 45) X dX8_init_45 rfl ?_
  obtain ⟨h27, g26, hf⟩ := bd_some hf
  refine aw_invI (pc := 46) X (kX7_init g26) mw_yX7_init kw_232 kw_233 rfl rfl ⟨Nat.le_of_ble_eq_true rfl, Nat.le_of_ble_eq_true rfl⟩ rfl (Nat.le_of_ble_eq_true rfl) ⟨Nat.le_of_ble_eq_true rfl, Nat.le_of_ble_eq_true rfl⟩ dX8_init_46 ?_
  refine aw_ret0 (k' := 31) (n' := 284) rfl rfl ?_
  obtain ⟨g28, hf⟩ := gd_some hf
  obtain ⟨h29, eh29, hf⟩ := lt_some hf
  have kkh29 := kp_R eh29
  refine aw_setR (pc := 49) X 8 5 517 iw_8 tyX8 tyX8_ok nmX8 rfl (by decide) (by decide) rfl g28 kw_344 rfl (Or.inl rfl) rfl (tyX8_ok 5 (by decide)) rfl rfl rfl eh29 dX8_init_49 ?_
  refine aw_widen (k' := 31) (n' := 284) (Nat.le_of_ble_eq_true rfl) (Nat.le_of_ble_eq_true rfl) ?_
  cases hf
  exact aw_vret (pc := 52) X hr hlk rfl rfl dX8_init_52

def fX2_init (h : Hp) (t0 : Nat) (a1 : Nat) : Option Hp :=
    gd ((hK h t0).1 = 2) <|
    lt (α := Hp) (pR h 128 t0 a1) fun h2 =>
    some h2

set_option maxHeartbeats 4000000 in
set_option maxRecDepth 100000 in
theorem kX2_init {D : va_G} {cy : Nat → ClassId} {B : Nat} {l : Launch} {h : Hp} {t0 : Nat} {a1 : Nat} {h' : Hp} (hf : fX2_init h t0 a1 = some h') : CT D cy B l yX2_init cX2_init 2 (none : Option FieldType) 2 80 0 0 [.ref t0, .ref a1] h none h' := by
  refine ct_intro (own := RX2) (by decide) rfl (Nat.le_of_ble_eq_true rfl) fun p e s m args below meth c X hr hlk hnm => ?_
  refine aw_lv (lv' := [(0, .ref t0), (1, .ref a1)]) rfl ?_
  rw [fX2_init.eq_1] at hf
  refine aw_aload_n (pc := 0) X dX2_init_0 0 rfl ?_
  refine aw_objInit (pc := 1) X kw_363 kw_165 kw_166 (Nat.le_of_ble_eq_true rfl) (Nat.le_of_ble_eq_true rfl) dX2_init_1 ?_
  refine aw_aload_n (pc := 4) X dX2_init_4 0 rfl ?_
  refine aw_aload_n (pc := 5) X dX2_init_5 1 rfl ?_
  obtain ⟨g1, hf⟩ := gd_some hf
  obtain ⟨h2, eh2, hf⟩ := lt_some hf
  have kkh2 := kp_R eh2
  refine aw_setR (pc := 6) X 2 0 128 iw_2 tyX2 tyX2_ok nmX2 rfl (by decide) (by decide) rfl g1 kw_364 rfl (Or.inr ⟨rfl, hnm, rfl⟩) rfl (tyX2_ok 0 (by decide)) rfl rfl rfl eh2 dX2_init_6 ?_
  cases hf
  exact aw_vret (pc := 9) X hr hlk rfl rfl dX2_init_9

def fX1_init (h : Hp) (t0 : Nat) : Option Hp :=
    lt (α := Nat) (hZ h) fun q1 =>
    lt (α := Hp) (nw h 21 12) fun h2 =>
    gd ((hK h2 t0).1 = 1) <|
    lt (α := Hp) (pR h2 64 t0 q1) fun h5 =>
    lt (α := Nat) (hZ h5) fun q6 =>
    lt (α := Hp) (nw h5 21 12) fun h7 =>
    gd ((hK h7 t0).1 = 1) <|
    lt (α := Hp) (pR h7 65 t0 q6) fun h10 =>
    lt (α := Nat) (hZ h10) fun q11 =>
    lt (α := Hp) (nw h10 21 12) fun h12 =>
    gd ((hK h12 t0).1 = 1) <|
    lt (α := Hp) (pR h12 66 t0 q11) fun h15 =>
    some h15

set_option maxHeartbeats 4000000 in
set_option maxRecDepth 100000 in
theorem kX1_init {D : va_G} {cy : Nat → ClassId} {B : Nat} {l : Launch} {h : Hp} {t0 : Nat} {h' : Hp} (hf : fX1_init h t0 = some h') : CT D cy B l yX1_init cX1_init 1 (none : Option FieldType) 2 80 3 36 [.ref t0] h none h' := by
  refine ct_intro (own := RX1) (by decide) rfl (Nat.le_of_ble_eq_true rfl) fun p e s m args below meth c X hr hlk hnm => ?_
  refine aw_lv (lv' := [(0, .ref t0)]) rfl ?_
  rw [fX1_init.eq_1] at hf
  refine aw_aload_n (pc := 0) X dX1_init_0 0 rfl ?_
  refine aw_objInit (pc := 1) X kw_375 kw_165 kw_166 (Nat.le_of_ble_eq_true rfl) (Nat.le_of_ble_eq_true rfl) dX1_init_1 ?_
  refine aw_aload_n (pc := 4) X dX1_init_4 0 rfl ?_
  refine aw_bipush (pc := 5) X dX1_init_5 rfl ?_
  obtain ⟨q1, eq1, hf⟩ := lt_some hf
  obtain ⟨h2, eh2, hf⟩ := lt_some hf
  refine aw_newa (atype := .int) (pc := 7) X (kd := 21) 12 4 rfl rfl (by decide) (by decide) rfl kw_262 (rg_lit rfl) (by decide) (hdef21 _) (Nat.le_of_ble_eq_true rfl) (Nat.le_of_ble_eq_true rfl) (Nat.le_of_ble_eq_true rfl) eh2 dX1_init_7 ?_
  refine aw_topA eq1 ?_
  refine aw_kn (k' := 1) (n' := 12) rfl rfl ?_
  have g3 : (hK h2 q1).1 = 21 := by rw [eh2, eq1, nw_k]
  obtain ⟨g4, hf⟩ := gd_some hf
  obtain ⟨h5, eh5, hf⟩ := lt_some hf
  have kkh5 := kp_R eh5
  refine aw_setR (pc := 9) X 1 0 64 iw_1 tyX1 tyX1_ok nmX1 rfl (by decide) (by decide) rfl g4 kw_376 rfl (Or.inr ⟨rfl, hnm, rfl⟩) rfl (tyX1_ok 0 (by decide)) rfl rfl rfl eh5 dX1_init_9 ?_
  refine aw_aload_n (pc := 12) X dX1_init_12 0 rfl ?_
  refine aw_bipush (pc := 13) X dX1_init_13 rfl ?_
  obtain ⟨q6, eq6, hf⟩ := lt_some hf
  obtain ⟨h7, eh7, hf⟩ := lt_some hf
  refine aw_newa (atype := .int) (pc := 15) X (kd := 21) 12 4 rfl rfl (by decide) (by decide) rfl kw_262 (rg_lit rfl) (by decide) (hdef21 _) (Nat.le_of_ble_eq_true rfl) (Nat.le_of_ble_eq_true rfl) (Nat.le_of_ble_eq_true rfl) eh7 dX1_init_15 ?_
  refine aw_topA eq6 ?_
  refine aw_kn (k' := 2) (n' := 24) rfl rfl ?_
  have g8 : (hK h7 q6).1 = 21 := by rw [eh7, eq6, nw_k]
  obtain ⟨g9, hf⟩ := gd_some hf
  obtain ⟨h10, eh10, hf⟩ := lt_some hf
  have kkh10 := kp_R eh10
  refine aw_setR (pc := 17) X 1 1 65 iw_1 tyX1 tyX1_ok nmX1 rfl (by decide) (by decide) rfl g9 kw_377 rfl (Or.inr ⟨rfl, hnm, rfl⟩) rfl (tyX1_ok 1 (by decide)) rfl rfl rfl eh10 dX1_init_17 ?_
  refine aw_aload_n (pc := 20) X dX1_init_20 0 rfl ?_
  refine aw_bipush (pc := 21) X dX1_init_21 rfl ?_
  obtain ⟨q11, eq11, hf⟩ := lt_some hf
  obtain ⟨h12, eh12, hf⟩ := lt_some hf
  refine aw_newa (atype := .int) (pc := 23) X (kd := 21) 12 4 rfl rfl (by decide) (by decide) rfl kw_262 (rg_lit rfl) (by decide) (hdef21 _) (Nat.le_of_ble_eq_true rfl) (Nat.le_of_ble_eq_true rfl) (Nat.le_of_ble_eq_true rfl) eh12 dX1_init_23 ?_
  refine aw_topA eq11 ?_
  refine aw_kn (k' := 3) (n' := 36) rfl rfl ?_
  have g13 : (hK h12 q11).1 = 21 := by rw [eh12, eq11, nw_k]
  obtain ⟨g14, hf⟩ := gd_some hf
  obtain ⟨h15, eh15, hf⟩ := lt_some hf
  have kkh15 := kp_R eh15
  refine aw_setR (pc := 25) X 1 2 66 iw_1 tyX1 tyX1_ok nmX1 rfl (by decide) (by decide) rfl g14 kw_378 rfl (Or.inr ⟨rfl, hnm, rfl⟩) rfl (tyX1_ok 2 (by decide)) rfl rfl rfl eh15 dX1_init_25 ?_
  refine aw_widen (k' := 3) (n' := 36) (Nat.le_of_ble_eq_true rfl) (Nat.le_of_ble_eq_true rfl) ?_
  cases hf
  exact aw_vret (pc := 28) X hr hlk rfl rfl dX1_init_28

def fX3_init (h : Hp) (t0 : Nat) (a1 : Nat) (a2 : Nat) : Option Hp :=
    gd ((hK h t0).1 = 3) <|
    lt (α := Hp) (pR h 192 t0 a1) fun h2 =>
    lt (α := Hp) (pR h2 193 t0 a2) fun h3 =>
    some h3

set_option maxHeartbeats 4000000 in
set_option maxRecDepth 100000 in
theorem kX3_init {D : va_G} {cy : Nat → ClassId} {B : Nat} {l : Launch} {h : Hp} {t0 : Nat} {a1 : Nat} {a2 : Nat} {h' : Hp} (hf : fX3_init h t0 a1 a2 = some h') : CT D cy B l yX3_init cX3_init 3 (none : Option FieldType) 2 80 0 0 [.ref t0, .ref a1, .ref a2] h none h' := by
  refine ct_intro (own := RX3) (by decide) rfl (Nat.le_of_ble_eq_true rfl) fun p e s m args below meth c X hr hlk hnm => ?_
  refine aw_lv (lv' := [(0, .ref t0), (1, .ref a1), (2, .ref a2)]) rfl ?_
  rw [fX3_init.eq_1] at hf
  refine aw_aload_n (pc := 0) X dX3_init_0 0 rfl ?_
  refine aw_objInit (pc := 1) X kw_397 kw_165 kw_166 (Nat.le_of_ble_eq_true rfl) (Nat.le_of_ble_eq_true rfl) dX3_init_1 ?_
  refine aw_aload_n (pc := 4) X dX3_init_4 0 rfl ?_
  refine aw_aload_n (pc := 5) X dX3_init_5 1 rfl ?_
  obtain ⟨g1, hf⟩ := gd_some hf
  obtain ⟨h2, eh2, hf⟩ := lt_some hf
  have kkh2 := kp_R eh2
  refine aw_setR (pc := 6) X 3 0 192 iw_3 tyX3 tyX3_ok nmX3 rfl (by decide) (by decide) rfl g1 kw_398 rfl (Or.inl rfl) rfl (tyX3_ok 0 (by decide)) rfl rfl rfl eh2 dX3_init_6 ?_
  refine aw_aload_n (pc := 9) X dX3_init_9 0 rfl ?_
  refine aw_aload_n (pc := 10) X dX3_init_10 2 rfl ?_
  obtain ⟨h3, eh3, hf⟩ := lt_some hf
  have kkh3 := (kp_R eh3).trans kkh2
  refine aw_setR (pc := 11) X 3 1 193 iw_3 tyX3 tyX3_ok nmX3 rfl (by decide) (by decide) rfl (kc kkh2 g1) kw_400 rfl (Or.inl rfl) rfl (tyX3_ok 1 (by decide)) rfl rfl rfl eh3 dX3_init_11 ?_
  cases hf
  exact aw_vret (pc := 14) X hr hlk rfl rfl dX3_init_14

def fX4_init_b74 (t0 : Nat) : Nat → Hp → Nat → Nat → Int → Option Hp
  | 0, _, _, _, _ => none
  | fu + 1, h, k, n, v1 =>
    if v1 < 6 then (
      gd ((hK h t0).1 = 4) <|
      nn (gR h 256 t0) fun q4 =>
      nn (gR h 264 t0) fun q5 =>
      gd ((hK h q4).1 = 26) <|
      gd (inA v1 (hK h q4).2) <|
      gd ((hK h q5).1 = 6) <|
      lt (α := Hp) (sC h q4 v1 q5) fun h9 =>
      lt (α := Int) (w32 (v1 + 1)) fun x10 =>
      fX4_init_b74 t0 fu h9 k n x10)
    else
    gd (k ≤ 8 ∧ n ≤ 1653) <|
    some h

def fX4_init (h : Hp) (t0 : Nat) : Option Hp :=
    lt (α := Nat) (hZ h) fun q1 =>
    lt (α := Hp) (nw h 26 6) fun h2 =>
    gd ((hK h2 t0).1 = 4) <|
    lt (α := Hp) (pR h2 256 t0 q1) fun h5 =>
    lt (α := Nat) (hZ h5) fun q6 =>
    lt (α := Hp) (nw h5 21 36) fun h7 =>
    gd ((hK h7 t0).1 = 4) <|
    lt (α := Hp) (pR h7 257 t0 q6) fun h10 =>
    lt (α := Nat) (hZ h10) fun q11 =>
    lt (α := Hp) (nw h10 21 384) fun h12 =>
    gd ((hK h12 t0).1 = 4) <|
    lt (α := Hp) (pR h12 258 t0 q11) fun h15 =>
    lt (α := Nat) (hZ h15) fun q16 =>
    lt (α := Hp) (nw h15 23 384) fun h17 =>
    gd ((hK h17 t0).1 = 4) <|
    lt (α := Hp) (pR h17 259 t0 q16) fun h20 =>
    lt (α := Nat) (hZ h20) fun q21 =>
    lt (α := Hp) (nw h20 21 384) fun h22 =>
    gd ((hK h22 t0).1 = 4) <|
    lt (α := Hp) (pR h22 260 t0 q21) fun h25 =>
    lt (α := Nat) (hZ h25) fun q26 =>
    lt (α := Hp) (nw h25 21 384) fun h27 =>
    gd ((hK h27 t0).1 = 4) <|
    lt (α := Hp) (pR h27 261 t0 q26) fun h30 =>
    lt (α := Nat) (hZ h30) fun q31 =>
    lt (α := Hp) (nw h30 6 0) fun h32 =>
    lt (α := Nat) (hZ h32) fun q34 =>
    lt (α := Hp) (nw h32 21 72) fun h35 =>
    bd (fX6_init h35 q31 q34) fun h39 =>
    gd ((hK h39 t0).1 = 4) <|
    lt (α := Hp) (pR h39 264 t0 q31) fun h41 =>
    fX4_init_b74 t0 FU h41 8 1653 0

set_option maxHeartbeats 4000000 in
set_option maxRecDepth 100000 in
theorem wX4_init_b74 {D : va_G} {cy : Nat → ClassId} {B : Nat} {p : Program} {l : Launch} {e : Env} {s : State} {m : MethodId} {args : Array Value} {below : List Frame} {meth : Method} {c : Code} {t0 : Nat} {h' : Hp} (X : CXd D cy B p s m args c cX4_init RX4 2) (hr : meth.sig.returnType = (none : Option FieldType)) (hlk : meth.locks = false) (hnm : meth.name = "<init>") : ∀ (fu : Nat) (h : Hp) (k : Nat) (n : Nat) (v1 : Int), rg v1 → fX4_init_b74 t0 fu h k n v1 = some h' → AWd D cy B p l e { frames := 4, cells := 8, slots := 1653, locals := 121 } s m args below meth c 2 (MQr D cy B below none h' args s 8 1653) h k n 74 [(0, .ref t0), (1, vI v1)] [] := by
  intro fu
  induction fu with
  | zero => intro h k n v1 r_v1 hf; rw [fX4_init_b74.eq_1] at hf; cases hf
  | succ fu ih =>
    intro h k n v1 r_v1 hf
    rw [fX4_init_b74.eq_2] at hf
    refine aw_iload_n (pc := 74) X dX4_init_74 1 rfl ?_
    refine aw_bipush (pc := 75) X dX4_init_75 rfl ?_
    refine aw_icmp_ge (pc := 77) (tgt := 96) X r_v1 (rg_lit rfl) dX4_init_77 (by decide) (fun z1 => ?_) (fun z1 => ?_)
    · have hf := it_f z1 hf
      obtain ⟨g2, hf⟩ := gd_some hf
      refine aw_widen g2.1 g2.2 ?_
      cases hf
      exact aw_vret (pc := 96) X hr hlk rfl rfl dX4_init_96
    · have hf := it_t z1 hf
      refine aw_aload_n (pc := 80) X dX4_init_80 0 rfl ?_
      obtain ⟨g3, hf⟩ := gd_some hf
      obtain ⟨q4, gq4, hf⟩ := nn_some hf
      refine aw_getR (pc := 81) X 4 0 256 iw_4 rfl (by decide) (by decide) g3 rfl kw_420 rfl rfl gq4 dX4_init_81 ?_
      refine aw_iload_n (pc := 84) X dX4_init_84 1 rfl ?_
      refine aw_aload_n (pc := 85) X dX4_init_85 0 rfl ?_
      obtain ⟨q5, gq5, hf⟩ := nn_some hf
      refine aw_getR (pc := 86) X 4 8 264 iw_4 rfl (by decide) (by decide) g3 rfl kw_428 rfl rfl gq5 dX4_init_86 ?_
      obtain ⟨g6, hf⟩ := gd_some hf
      obtain ⟨g7, hf⟩ := gd_some hf
      obtain ⟨g8, hf⟩ := gd_some hf
      obtain ⟨h9, eh9, hf⟩ := lt_some hf
      have kkh9 := kp_C eh9
      refine aw_aast (pc := 89) X g6 (by decide) (by decide) rfl g8 rfl (by decide) r_v1 g7 eh9 dX4_init_89 ?_
      obtain ⟨x10, ex10, hf⟩ := lt_some hf
      have r_x10 : rg x10 := by rw [ex10]; exact w32_rg _
      refine aw_iinc (pc := 90) (lv' := [(1, vI x10), (0, .ref t0)]) X dX4_init_90 1 rfl (by decide) (by rw [ex10]; rfl) ?_
      refine aw_goto (pc := 93) (tgt := 74) X dX4_init_93 (by decide) ?_
      refine aw_sub [1, 0] rfl ?_
      exact ih _ _ _ _ r_x10 hf

set_option maxHeartbeats 4000000 in
set_option maxRecDepth 100000 in
theorem kX4_init {D : va_G} {cy : Nat → ClassId} {B : Nat} {l : Launch} {h : Hp} {t0 : Nat} {h' : Hp} (hf : fX4_init h t0 = some h') : CT D cy B l yX4_init cX4_init 2 (none : Option FieldType) 4 121 8 1653 [.ref t0] h none h' := by
  refine ct_intro (own := RX4) (by decide) rfl (Nat.le_of_ble_eq_true rfl) fun p e s m args below meth c X hr hlk hnm => ?_
  refine aw_lv (lv' := [(0, .ref t0)]) rfl ?_
  rw [fX4_init.eq_1] at hf
  refine aw_aload_n (pc := 0) X dX4_init_0 0 rfl ?_
  refine aw_objInit (pc := 1) X kw_417 kw_165 kw_166 (Nat.le_of_ble_eq_true rfl) (Nat.le_of_ble_eq_true rfl) dX4_init_1 ?_
  refine aw_aload_n (pc := 4) X dX4_init_4 0 rfl ?_
  refine aw_bipush (pc := 5) X dX4_init_5 rfl ?_
  obtain ⟨q1, eq1, hf⟩ := lt_some hf
  obtain ⟨h2, eh2, hf⟩ := lt_some hf
  refine aw_newq (pc := 7) X (kd := 26) 6 rfl (by decide) (by decide) rfl kw_418 (fun z => z.2.1.2.2.1) (rg_lit rfl) (by decide) (Nat.le_of_ble_eq_true rfl) (Nat.le_of_ble_eq_true rfl) (Nat.le_of_ble_eq_true rfl) eh2 dX4_init_7 ?_
  refine aw_topA eq1 ?_
  refine aw_kn (k' := 1) (n' := 6) rfl rfl ?_
  have g3 : (hK h2 q1).1 = 26 := by rw [eh2, eq1, nw_k]
  obtain ⟨g4, hf⟩ := gd_some hf
  obtain ⟨h5, eh5, hf⟩ := lt_some hf
  have kkh5 := kp_R eh5
  refine aw_setR (pc := 10) X 4 0 256 iw_4 tyX4 tyX4_ok nmX4 rfl (by decide) (by decide) rfl g4 kw_420 rfl (Or.inr ⟨rfl, hnm, rfl⟩) rfl (tyX4_ok 0 (by decide)) rfl rfl rfl eh5 dX4_init_10 ?_
  refine aw_aload_n (pc := 13) X dX4_init_13 0 rfl ?_
  refine aw_bipush (pc := 14) X dX4_init_14 rfl ?_
  obtain ⟨q6, eq6, hf⟩ := lt_some hf
  obtain ⟨h7, eh7, hf⟩ := lt_some hf
  refine aw_newa (atype := .int) (pc := 16) X (kd := 21) 36 4 rfl rfl (by decide) (by decide) rfl kw_262 (rg_lit rfl) (by decide) (hdef21 _) (Nat.le_of_ble_eq_true rfl) (Nat.le_of_ble_eq_true rfl) (Nat.le_of_ble_eq_true rfl) eh7 dX4_init_16 ?_
  refine aw_topA eq6 ?_
  refine aw_kn (k' := 2) (n' := 42) rfl rfl ?_
  have g8 : (hK h7 q6).1 = 21 := by rw [eh7, eq6, nw_k]
  obtain ⟨g9, hf⟩ := gd_some hf
  obtain ⟨h10, eh10, hf⟩ := lt_some hf
  have kkh10 := kp_R eh10
  refine aw_setR (pc := 18) X 4 1 257 iw_4 tyX4 tyX4_ok nmX4 rfl (by decide) (by decide) rfl g9 kw_421 rfl (Or.inr ⟨rfl, hnm, rfl⟩) rfl (tyX4_ok 1 (by decide)) rfl rfl rfl eh10 dX4_init_18 ?_
  refine aw_aload_n (pc := 21) X dX4_init_21 0 rfl ?_
  refine aw_sipush (pc := 22) X dX4_init_22 rfl ?_
  obtain ⟨q11, eq11, hf⟩ := lt_some hf
  obtain ⟨h12, eh12, hf⟩ := lt_some hf
  refine aw_newa (atype := .int) (pc := 25) X (kd := 21) 384 4 rfl rfl (by decide) (by decide) rfl kw_262 (rg_lit rfl) (by decide) (hdef21 _) (Nat.le_of_ble_eq_true rfl) (Nat.le_of_ble_eq_true rfl) (Nat.le_of_ble_eq_true rfl) eh12 dX4_init_25 ?_
  refine aw_topA eq11 ?_
  refine aw_kn (k' := 3) (n' := 426) rfl rfl ?_
  have g13 : (hK h12 q11).1 = 21 := by rw [eh12, eq11, nw_k]
  obtain ⟨g14, hf⟩ := gd_some hf
  obtain ⟨h15, eh15, hf⟩ := lt_some hf
  have kkh15 := kp_R eh15
  refine aw_setR (pc := 27) X 4 2 258 iw_4 tyX4 tyX4_ok nmX4 rfl (by decide) (by decide) rfl g14 kw_422 rfl (Or.inr ⟨rfl, hnm, rfl⟩) rfl (tyX4_ok 2 (by decide)) rfl rfl rfl eh15 dX4_init_27 ?_
  refine aw_aload_n (pc := 30) X dX4_init_30 0 rfl ?_
  refine aw_sipush (pc := 31) X dX4_init_31 rfl ?_
  obtain ⟨q16, eq16, hf⟩ := lt_some hf
  obtain ⟨h17, eh17, hf⟩ := lt_some hf
  refine aw_newa (atype := .boolean) (pc := 34) X (kd := 23) 384 1 rfl rfl (by decide) (by decide) rfl kw_449 (rg_lit rfl) (by decide) (hdef23 _) (Nat.le_of_ble_eq_true rfl) (Nat.le_of_ble_eq_true rfl) (Nat.le_of_ble_eq_true rfl) eh17 dX4_init_34 ?_
  refine aw_topA eq16 ?_
  refine aw_kn (k' := 4) (n' := 810) rfl rfl ?_
  have g18 : (hK h17 q16).1 = 23 := by rw [eh17, eq16, nw_k]
  obtain ⟨g19, hf⟩ := gd_some hf
  obtain ⟨h20, eh20, hf⟩ := lt_some hf
  have kkh20 := kp_R eh20
  refine aw_setR (pc := 36) X 4 3 259 iw_4 tyX4 tyX4_ok nmX4 rfl (by decide) (by decide) rfl g19 kw_423 rfl (Or.inr ⟨rfl, hnm, rfl⟩) rfl (tyX4_ok 3 (by decide)) rfl rfl rfl eh20 dX4_init_36 ?_
  refine aw_aload_n (pc := 39) X dX4_init_39 0 rfl ?_
  refine aw_sipush (pc := 40) X dX4_init_40 rfl ?_
  obtain ⟨q21, eq21, hf⟩ := lt_some hf
  obtain ⟨h22, eh22, hf⟩ := lt_some hf
  refine aw_newa (atype := .int) (pc := 43) X (kd := 21) 384 4 rfl rfl (by decide) (by decide) rfl kw_262 (rg_lit rfl) (by decide) (hdef21 _) (Nat.le_of_ble_eq_true rfl) (Nat.le_of_ble_eq_true rfl) (Nat.le_of_ble_eq_true rfl) eh22 dX4_init_43 ?_
  refine aw_topA eq21 ?_
  refine aw_kn (k' := 5) (n' := 1194) rfl rfl ?_
  have g23 : (hK h22 q21).1 = 21 := by rw [eh22, eq21, nw_k]
  obtain ⟨g24, hf⟩ := gd_some hf
  obtain ⟨h25, eh25, hf⟩ := lt_some hf
  have kkh25 := kp_R eh25
  refine aw_setR (pc := 45) X 4 4 260 iw_4 tyX4 tyX4_ok nmX4 rfl (by decide) (by decide) rfl g24 kw_424 rfl (Or.inl rfl) rfl (tyX4_ok 4 (by decide)) rfl rfl rfl eh25 dX4_init_45 ?_
  refine aw_aload_n (pc := 48) X dX4_init_48 0 rfl ?_
  refine aw_sipush (pc := 49) X dX4_init_49 rfl ?_
  obtain ⟨q26, eq26, hf⟩ := lt_some hf
  obtain ⟨h27, eh27, hf⟩ := lt_some hf
  refine aw_newa (atype := .int) (pc := 52) X (kd := 21) 384 4 rfl rfl (by decide) (by decide) rfl kw_262 (rg_lit rfl) (by decide) (hdef21 _) (Nat.le_of_ble_eq_true rfl) (Nat.le_of_ble_eq_true rfl) (Nat.le_of_ble_eq_true rfl) eh27 dX4_init_52 ?_
  refine aw_topA eq26 ?_
  refine aw_kn (k' := 6) (n' := 1578) rfl rfl ?_
  have g28 : (hK h27 q26).1 = 21 := by rw [eh27, eq26, nw_k]
  obtain ⟨g29, hf⟩ := gd_some hf
  obtain ⟨h30, eh30, hf⟩ := lt_some hf
  have kkh30 := kp_R eh30
  refine aw_setR (pc := 54) X 4 5 261 iw_4 tyX4 tyX4_ok nmX4 rfl (by decide) (by decide) rfl g29 kw_425 rfl (Or.inl rfl) rfl (tyX4_ok 5 (by decide)) rfl rfl rfl eh30 dX4_init_54 ?_
  refine aw_aload_n (pc := 57) X dX4_init_57 0 rfl ?_
  obtain ⟨q31, eq31, hf⟩ := lt_some hf
  obtain ⟨h32, eh32, hf⟩ := lt_some hf
  refine aw_new (pc := 58) X iw_6 tyX6 tyX6_ok rfl (by decide) (by decide) kw_418 kw_240 kw_144 (Nat.le_of_ble_eq_true rfl) (Nat.le_of_ble_eq_true rfl) eh32 dX4_init_58 ?_
  refine aw_topA eq31 ?_
  refine aw_kn (k' := 7) (n' := 1581) rfl rfl ?_
  have g33 : (hK h32 q31).1 = 6 := by rw [eh32, eq31, nw_k]
  refine aw_dup (pc := 61) X dX4_init_61 rfl ?_
  refine aw_bipush (pc := 62) X dX4_init_62 rfl ?_
  obtain ⟨q34, eq34, hf⟩ := lt_some hf
  obtain ⟨h35, eh35, hf⟩ := lt_some hf
  refine aw_newa (atype := .int) (pc := 64) X (kd := 21) 72 4 rfl rfl (by decide) (by decide) rfl kw_262 (rg_lit rfl) (by decide) (hdef21 _) (Nat.le_of_ble_eq_true rfl) (Nat.le_of_ble_eq_true rfl) (Nat.le_of_ble_eq_true rfl) eh35 dX4_init_64 ?_
  refine aw_topA eq34 ?_
  refine aw_kn (k' := 8) (n' := 1653) rfl rfl ?_
  have g36 : (hK h35 q34).1 = 21 := by rw [eh35, eq34, nw_k]
  obtain ⟨h39, g38, hf⟩ := bd_some hf
  refine aw_invI (pc := 66) X (kX6_init g38) mw_yX6_init kw_419 kw_242 rfl rfl ⟨Nat.le_of_ble_eq_true rfl, Nat.le_of_ble_eq_true rfl⟩ rfl (Nat.le_of_ble_eq_true rfl) ⟨Nat.le_of_ble_eq_true rfl, Nat.le_of_ble_eq_true rfl⟩ dX4_init_66 ?_
  refine aw_ret0 (k' := 8) (n' := 1653) rfl rfl ?_
  obtain ⟨g40, hf⟩ := gd_some hf
  obtain ⟨h41, eh41, hf⟩ := lt_some hf
  have kkh41 := kp_R eh41
  refine aw_setR (pc := 69) X 4 8 264 iw_4 tyX4 tyX4_ok nmX4 rfl (by decide) (by decide) rfl g40 kw_428 rfl (Or.inr ⟨rfl, hnm, rfl⟩) rfl (tyX4_ok 8 (by decide)) rfl rfl rfl eh41 dX4_init_69 ?_
  refine aw_iconst (pc := 72) X dX4_init_72 ?_
  refine aw_istore_n (pc := 73) (lv' := [(1, vI 0), (0, .ref t0)]) X dX4_init_73 (by decide) rfl ?_
  refine aw_sub [1, 0] rfl ?_
  exact wX4_init_b74 X hr hlk hnm _ _ _ _ _ (rg_lit rfl) hf

def fX5_init (h : Hp) (t0 : Nat) : Option Hp :=
    lt (α := Nat) (hZ h) fun q1 =>
    lt (α := Hp) (nw h 21 8) fun h2 =>
    gd ((hK h2 t0).1 = 5) <|
    lt (α := Hp) (pR h2 320 t0 q1) fun h5 =>
    lt (α := Nat) (hZ h5) fun q6 =>
    lt (α := Hp) (nw h5 21 2048) fun h7 =>
    gd ((hK h7 t0).1 = 5) <|
    lt (α := Hp) (pR h7 321 t0 q6) fun h10 =>
    lt (α := Nat) (hZ h10) fun q11 =>
    lt (α := Hp) (nw h10 21 256) fun h12 =>
    gd ((hK h12 t0).1 = 5) <|
    lt (α := Hp) (pR h12 322 t0 q11) fun h15 =>
    lt (α := Nat) (hZ h15) fun q16 =>
    lt (α := Hp) (nw h15 6 0) fun h17 =>
    lt (α := Nat) (hZ h17) fun q19 =>
    lt (α := Hp) (nw h17 21 8) fun h20 =>
    bd (fX6_init h20 q16 q19) fun h24 =>
    gd ((hK h24 t0).1 = 5) <|
    lt (α := Hp) (pR h24 323 t0 q16) fun h26 =>
    lt (α := Nat) (hZ h26) fun q27 =>
    lt (α := Hp) (nw h26 6 0) fun h28 =>
    lt (α := Nat) (hZ h28) fun q30 =>
    lt (α := Hp) (nw h28 21 8) fun h31 =>
    bd (fX6_init h31 q27 q30) fun h35 =>
    gd ((hK h35 t0).1 = 5) <|
    lt (α := Hp) (pR h35 324 t0 q27) fun h37 =>
    some h37

set_option maxHeartbeats 4000000 in
set_option maxRecDepth 100000 in
theorem kX5_init {D : va_G} {cy : Nat → ClassId} {B : Nat} {l : Launch} {h : Hp} {t0 : Nat} {h' : Hp} (hf : fX5_init h t0 = some h') : CT D cy B l yX5_init cX5_init 1 (none : Option FieldType) 4 121 7 2334 [.ref t0] h none h' := by
  refine ct_intro (own := RX5) (by decide) rfl (Nat.le_of_ble_eq_true rfl) fun p e s m args below meth c X hr hlk hnm => ?_
  refine aw_lv (lv' := [(0, .ref t0)]) rfl ?_
  rw [fX5_init.eq_1] at hf
  refine aw_aload_n (pc := 0) X dX5_init_0 0 rfl ?_
  refine aw_objInit (pc := 1) X kw_455 kw_165 kw_166 (Nat.le_of_ble_eq_true rfl) (Nat.le_of_ble_eq_true rfl) dX5_init_1 ?_
  refine aw_aload_n (pc := 4) X dX5_init_4 0 rfl ?_
  refine aw_bipush (pc := 5) X dX5_init_5 rfl ?_
  obtain ⟨q1, eq1, hf⟩ := lt_some hf
  obtain ⟨h2, eh2, hf⟩ := lt_some hf
  refine aw_newa (atype := .int) (pc := 7) X (kd := 21) 8 4 rfl rfl (by decide) (by decide) rfl kw_262 (rg_lit rfl) (by decide) (hdef21 _) (Nat.le_of_ble_eq_true rfl) (Nat.le_of_ble_eq_true rfl) (Nat.le_of_ble_eq_true rfl) eh2 dX5_init_7 ?_
  refine aw_topA eq1 ?_
  refine aw_kn (k' := 1) (n' := 8) rfl rfl ?_
  have g3 : (hK h2 q1).1 = 21 := by rw [eh2, eq1, nw_k]
  obtain ⟨g4, hf⟩ := gd_some hf
  obtain ⟨h5, eh5, hf⟩ := lt_some hf
  have kkh5 := kp_R eh5
  refine aw_setR (pc := 9) X 5 0 320 iw_5 tyX5 tyX5_ok nmX5 rfl (by decide) (by decide) rfl g4 kw_458 rfl (Or.inr ⟨rfl, hnm, rfl⟩) rfl (tyX5_ok 0 (by decide)) rfl rfl rfl eh5 dX5_init_9 ?_
  refine aw_aload_n (pc := 12) X dX5_init_12 0 rfl ?_
  refine aw_sipush (pc := 13) X dX5_init_13 rfl ?_
  obtain ⟨q6, eq6, hf⟩ := lt_some hf
  obtain ⟨h7, eh7, hf⟩ := lt_some hf
  refine aw_newa (atype := .int) (pc := 16) X (kd := 21) 2048 4 rfl rfl (by decide) (by decide) rfl kw_262 (rg_lit rfl) (by decide) (hdef21 _) (Nat.le_of_ble_eq_true rfl) (Nat.le_of_ble_eq_true rfl) (Nat.le_of_ble_eq_true rfl) eh7 dX5_init_16 ?_
  refine aw_topA eq6 ?_
  refine aw_kn (k' := 2) (n' := 2056) rfl rfl ?_
  have g8 : (hK h7 q6).1 = 21 := by rw [eh7, eq6, nw_k]
  obtain ⟨g9, hf⟩ := gd_some hf
  obtain ⟨h10, eh10, hf⟩ := lt_some hf
  have kkh10 := kp_R eh10
  refine aw_setR (pc := 18) X 5 1 321 iw_5 tyX5 tyX5_ok nmX5 rfl (by decide) (by decide) rfl g9 kw_459 rfl (Or.inr ⟨rfl, hnm, rfl⟩) rfl (tyX5_ok 1 (by decide)) rfl rfl rfl eh10 dX5_init_18 ?_
  refine aw_aload_n (pc := 21) X dX5_init_21 0 rfl ?_
  refine aw_sipush (pc := 22) X dX5_init_22 rfl ?_
  obtain ⟨q11, eq11, hf⟩ := lt_some hf
  obtain ⟨h12, eh12, hf⟩ := lt_some hf
  refine aw_newa (atype := .int) (pc := 25) X (kd := 21) 256 4 rfl rfl (by decide) (by decide) rfl kw_262 (rg_lit rfl) (by decide) (hdef21 _) (Nat.le_of_ble_eq_true rfl) (Nat.le_of_ble_eq_true rfl) (Nat.le_of_ble_eq_true rfl) eh12 dX5_init_25 ?_
  refine aw_topA eq11 ?_
  refine aw_kn (k' := 3) (n' := 2312) rfl rfl ?_
  have g13 : (hK h12 q11).1 = 21 := by rw [eh12, eq11, nw_k]
  obtain ⟨g14, hf⟩ := gd_some hf
  obtain ⟨h15, eh15, hf⟩ := lt_some hf
  have kkh15 := kp_R eh15
  refine aw_setR (pc := 27) X 5 2 322 iw_5 tyX5 tyX5_ok nmX5 rfl (by decide) (by decide) rfl g14 kw_460 rfl (Or.inr ⟨rfl, hnm, rfl⟩) rfl (tyX5_ok 2 (by decide)) rfl rfl rfl eh15 dX5_init_27 ?_
  refine aw_aload_n (pc := 30) X dX5_init_30 0 rfl ?_
  obtain ⟨q16, eq16, hf⟩ := lt_some hf
  obtain ⟨h17, eh17, hf⟩ := lt_some hf
  refine aw_new (pc := 31) X iw_6 tyX6 tyX6_ok rfl (by decide) (by decide) kw_456 kw_240 kw_144 (Nat.le_of_ble_eq_true rfl) (Nat.le_of_ble_eq_true rfl) eh17 dX5_init_31 ?_
  refine aw_topA eq16 ?_
  refine aw_kn (k' := 4) (n' := 2315) rfl rfl ?_
  have g18 : (hK h17 q16).1 = 6 := by rw [eh17, eq16, nw_k]
  refine aw_dup (pc := 34) X dX5_init_34 rfl ?_
  refine aw_bipush (pc := 35) X dX5_init_35 rfl ?_
  obtain ⟨q19, eq19, hf⟩ := lt_some hf
  obtain ⟨h20, eh20, hf⟩ := lt_some hf
  refine aw_newa (atype := .int) (pc := 37) X (kd := 21) 8 4 rfl rfl (by decide) (by decide) rfl kw_262 (rg_lit rfl) (by decide) (hdef21 _) (Nat.le_of_ble_eq_true rfl) (Nat.le_of_ble_eq_true rfl) (Nat.le_of_ble_eq_true rfl) eh20 dX5_init_37 ?_
  refine aw_topA eq19 ?_
  refine aw_kn (k' := 5) (n' := 2323) rfl rfl ?_
  have g21 : (hK h20 q19).1 = 21 := by rw [eh20, eq19, nw_k]
  obtain ⟨h24, g23, hf⟩ := bd_some hf
  refine aw_invI (pc := 39) X (kX6_init g23) mw_yX6_init kw_457 kw_242 rfl rfl ⟨Nat.le_of_ble_eq_true rfl, Nat.le_of_ble_eq_true rfl⟩ rfl (Nat.le_of_ble_eq_true rfl) ⟨Nat.le_of_ble_eq_true rfl, Nat.le_of_ble_eq_true rfl⟩ dX5_init_39 ?_
  refine aw_ret0 (k' := 5) (n' := 2323) rfl rfl ?_
  obtain ⟨g25, hf⟩ := gd_some hf
  obtain ⟨h26, eh26, hf⟩ := lt_some hf
  have kkh26 := kp_R eh26
  refine aw_setR (pc := 42) X 5 3 323 iw_5 tyX5 tyX5_ok nmX5 rfl (by decide) (by decide) rfl g25 kw_461 rfl (Or.inr ⟨rfl, hnm, rfl⟩) rfl (tyX5_ok 3 (by decide)) rfl rfl rfl eh26 dX5_init_42 ?_
  refine aw_aload_n (pc := 45) X dX5_init_45 0 rfl ?_
  obtain ⟨q27, eq27, hf⟩ := lt_some hf
  obtain ⟨h28, eh28, hf⟩ := lt_some hf
  refine aw_new (pc := 46) X iw_6 tyX6 tyX6_ok rfl (by decide) (by decide) kw_456 kw_240 kw_144 (Nat.le_of_ble_eq_true rfl) (Nat.le_of_ble_eq_true rfl) eh28 dX5_init_46 ?_
  refine aw_topA eq27 ?_
  refine aw_kn (k' := 6) (n' := 2326) rfl rfl ?_
  have g29 : (hK h28 q27).1 = 6 := by rw [eh28, eq27, nw_k]
  refine aw_dup (pc := 49) X dX5_init_49 rfl ?_
  refine aw_bipush (pc := 50) X dX5_init_50 rfl ?_
  obtain ⟨q30, eq30, hf⟩ := lt_some hf
  obtain ⟨h31, eh31, hf⟩ := lt_some hf
  refine aw_newa (atype := .int) (pc := 52) X (kd := 21) 8 4 rfl rfl (by decide) (by decide) rfl kw_262 (rg_lit rfl) (by decide) (hdef21 _) (Nat.le_of_ble_eq_true rfl) (Nat.le_of_ble_eq_true rfl) (Nat.le_of_ble_eq_true rfl) eh31 dX5_init_52 ?_
  refine aw_topA eq30 ?_
  refine aw_kn (k' := 7) (n' := 2334) rfl rfl ?_
  have g32 : (hK h31 q30).1 = 21 := by rw [eh31, eq30, nw_k]
  obtain ⟨h35, g34, hf⟩ := bd_some hf
  refine aw_invI (pc := 54) X (kX6_init g34) mw_yX6_init kw_457 kw_242 rfl rfl ⟨Nat.le_of_ble_eq_true rfl, Nat.le_of_ble_eq_true rfl⟩ rfl (Nat.le_of_ble_eq_true rfl) ⟨Nat.le_of_ble_eq_true rfl, Nat.le_of_ble_eq_true rfl⟩ dX5_init_54 ?_
  refine aw_ret0 (k' := 7) (n' := 2334) rfl rfl ?_
  obtain ⟨g36, hf⟩ := gd_some hf
  obtain ⟨h37, eh37, hf⟩ := lt_some hf
  have kkh37 := kp_R eh37
  refine aw_setR (pc := 57) X 5 4 324 iw_5 tyX5 tyX5_ok nmX5 rfl (by decide) (by decide) rfl g36 kw_463 rfl (Or.inr ⟨rfl, hnm, rfl⟩) rfl (tyX5_ok 4 (by decide)) rfl rfl rfl eh37 dX5_init_57 ?_
  refine aw_widen (k' := 7) (n' := 2334) (Nat.le_of_ble_eq_true rfl) (Nat.le_of_ble_eq_true rfl) ?_
  cases hf
  exact aw_vret (pc := 60) X hr hlk rfl rfl dX5_init_60

def fX11_init_b188 (t0 : Nat) : Nat → Hp → Nat → Nat → Int → Option Hp
  | 0, _, _, _, _ => none
  | fu + 1, h, k, n, v1 =>
    if v1 < 8 then (
      gd ((hK h t0).1 = 11) <|
      nn (gR h 709 t0) fun q71 =>
      gd ((k + 1) ≤ 120 ∧ (n + 3) ≤ 5872) <|
      lt (α := Nat) (hZ h) fun q73 =>
      lt (α := Hp) (nw h 6 0) fun h74 =>
      gd ((k + 2) ≤ 120 ∧ (n + 3) ≤ 5872) <|
      lt (α := Nat) (hZ h74) fun q77 =>
      lt (α := Hp) (nw h74 21 0) fun h78 =>
      gd ((k + 2) + 0 ≤ 120 ∧ (n + 3) + 0 ≤ 5872) <|
      bd (fX6_init h78 q73 q77) fun h83 =>
      gd ((hK h83 q71).1 = 26) <|
      gd (inA v1 (hK h83 q71).2) <|
      gd ((hK h83 q73).1 = 6) <|
      lt (α := Hp) (sC h83 q71 v1 q73) fun h87 =>
      lt (α := Int) (w32 (v1 + 1)) fun x88 =>
      fX11_init_b188 t0 fu h87 (k + 2) (n + 3) x88)
    else
    gd ((k + 1) ≤ 120 ∧ (n + 3) ≤ 5872) <|
    lt (α := Nat) (hZ h) fun q3 =>
    lt (α := Hp) (nw h 6 0) fun h4 =>
    gd ((k + 2) ≤ 120 ∧ (n + 3) ≤ 5872) <|
    lt (α := Nat) (hZ h4) fun q7 =>
    lt (α := Hp) (nw h4 21 0) fun h8 =>
    gd ((k + 2) + 0 ≤ 120 ∧ (n + 3) + 0 ≤ 5872) <|
    bd (fX6_init h8 q3 q7) fun h13 =>
    gd ((hK h13 t0).1 = 11) <|
    lt (α := Hp) (pR h13 710 t0 q3) fun h15 =>
    gd ((k + 3) ≤ 120 ∧ (n + 6) ≤ 5872) <|
    lt (α := Nat) (hZ h15) fun q17 =>
    lt (α := Hp) (nw h15 6 0) fun h18 =>
    gd ((k + 4) ≤ 120 ∧ (n + 37) ≤ 5872) <|
    lt (α := Nat) (hZ h18) fun q21 =>
    lt (α := Hp) (nw h18 21 31) fun h22 =>
    gd ((k + 4) + 0 ≤ 120 ∧ (n + 37) + 0 ≤ 5872) <|
    bd (fX6_init h22 q17 q21) fun h27 =>
    gd ((hK h27 t0).1 = 11) <|
    lt (α := Hp) (pR h27 711 t0 q17) fun h29 =>
    gd ((k + 5) ≤ 120 ∧ (n + 64) ≤ 5872) <|
    lt (α := Nat) (hZ h29) fun q31 =>
    lt (α := Hp) (nw h29 21 27) fun h32 =>
    gd ((hK h32 t0).1 = 11) <|
    lt (α := Hp) (pR h32 712 t0 q31) fun h35 =>
    gd ((k + 6) ≤ 120 ∧ (n + 72) ≤ 5872) <|
    lt (α := Nat) (hZ h35) fun q37 =>
    lt (α := Hp) (nw h35 21 8) fun h38 =>
    gd ((hK h38 t0).1 = 11) <|
    lt (α := Hp) (pR h38 713 t0 q37) fun h41 =>
    gd ((k + 7) ≤ 120 ∧ (n + 80) ≤ 5872) <|
    lt (α := Nat) (hZ h41) fun q43 =>
    lt (α := Hp) (nw h41 21 8) fun h44 =>
    gd ((hK h44 t0).1 = 11) <|
    lt (α := Hp) (pR h44 714 t0 q43) fun h47 =>
    gd ((k + 8) ≤ 120 ∧ (n + 89) ≤ 5872) <|
    lt (α := Nat) (hZ h47) fun q49 =>
    lt (α := Hp) (nw h47 4 0) fun h50 =>
    gd ((k + 8) + 8 ≤ 120 ∧ (n + 89) + 1653 ≤ 5872) <|
    bd (fX4_init h50 q49) fun h55 =>
    gd ((hK h55 t0).1 = 11) <|
    lt (α := Hp) (pR h55 715 t0 q49) fun h57 =>
    gd ((k + 17) ≤ 120 ∧ (n + 1747) ≤ 5872) <|
    lt (α := Nat) (hZ h57) fun q59 =>
    lt (α := Hp) (nw h57 5 0) fun h60 =>
    gd ((k + 17) + 7 ≤ 120 ∧ (n + 1747) + 2334 ≤ 5872) <|
    bd (fX5_init h60 q59) fun h65 =>
    gd ((hK h65 t0).1 = 11) <|
    lt (α := Hp) (pR h65 716 t0 q59) fun h67 =>
    lt (α := Hp) (pJ h67 723 t0 1) fun h68 =>
    gd ((k + 24) ≤ 120 ∧ (n + 4081) ≤ 5872) <|
    some h68

def fX11_init (h : Hp) (t0 : Nat) : Option Hp :=
    lt (α := Nat) (hZ h) fun q1 =>
    lt (α := Hp) (nw h 27 4) fun h2 =>
    lt (α := Nat) (hZ h2) fun q4 =>
    lt (α := Hp) (nw h2 10 0) fun h5 =>
    bd (fX10_init h5 q4) fun h9 =>
    gd ((hK h9 q1).1 = 27) <|
    gd (inA 0 (hK h9 q1).2) <|
    gd ((hK h9 q4).1 = 10) <|
    lt (α := Hp) (sC h9 q1 0 q4) fun h13 =>
    lt (α := Nat) (hZ h13) fun q14 =>
    lt (α := Hp) (nw h13 10 0) fun h15 =>
    bd (fX10_init h15 q14) fun h19 =>
    gd ((hK h19 q1).1 = 27) <|
    gd (inA 1 (hK h19 q1).2) <|
    gd ((hK h19 q14).1 = 10) <|
    lt (α := Hp) (sC h19 q1 1 q14) fun h23 =>
    lt (α := Nat) (hZ h23) fun q24 =>
    lt (α := Hp) (nw h23 10 0) fun h25 =>
    bd (fX10_init h25 q24) fun h29 =>
    gd ((hK h29 q1).1 = 27) <|
    gd (inA 2 (hK h29 q1).2) <|
    gd ((hK h29 q24).1 = 10) <|
    lt (α := Hp) (sC h29 q1 2 q24) fun h33 =>
    lt (α := Nat) (hZ h33) fun q34 =>
    lt (α := Hp) (nw h33 10 0) fun h35 =>
    bd (fX10_init h35 q34) fun h39 =>
    gd ((hK h39 q1).1 = 27) <|
    gd (inA 3 (hK h39 q1).2) <|
    gd ((hK h39 q34).1 = 10) <|
    lt (α := Hp) (sC h39 q1 3 q34) fun h43 =>
    gd ((hK h43 t0).1 = 11) <|
    lt (α := Hp) (pR h43 704 t0 q1) fun h45 =>
    lt (α := Nat) (hZ h45) fun q46 =>
    lt (α := Hp) (nw h45 9 0) fun h47 =>
    bd (fX9_init h47 q46) fun h51 =>
    gd ((hK h51 t0).1 = 11) <|
    lt (α := Hp) (pR h51 705 t0 q46) fun h53 =>
    lt (α := Nat) (hZ h53) fun q54 =>
    lt (α := Hp) (nw h53 8 0) fun h55 =>
    gd ((hK h55 t0).1 = 11) <|
    nn (gR h55 705 t0) fun q58 =>
    bd (fX8_init h55 q54 q58) fun h61 =>
    gd ((hK h61 t0).1 = 11) <|
    lt (α := Hp) (pR h61 706 t0 q54) fun h63 =>
    lt (α := Nat) (hZ h63) fun q64 =>
    lt (α := Hp) (nw h63 2 0) fun h65 =>
    gd ((hK h65 t0).1 = 11) <|
    nn (gR h65 705 t0) fun q68 =>
    bd (fX2_init h65 q64 q68) fun h71 =>
    gd ((hK h71 t0).1 = 11) <|
    lt (α := Hp) (pR h71 707 t0 q64) fun h73 =>
    lt (α := Nat) (hZ h73) fun q74 =>
    lt (α := Hp) (nw h73 7 0) fun h75 =>
    bd (fX7_init h75 q74) fun h79 =>
    gd ((hK h79 t0).1 = 11) <|
    lt (α := Hp) (pR h79 717 t0 q74) fun h81 =>
    lt (α := Nat) (hZ h81) fun q82 =>
    lt (α := Hp) (nw h81 1 0) fun h83 =>
    bd (fX1_init h83 q82) fun h87 =>
    gd ((hK h87 t0).1 = 11) <|
    lt (α := Hp) (pR h87 718 t0 q82) fun h89 =>
    lt (α := Nat) (hZ h89) fun q90 =>
    lt (α := Hp) (nw h89 25 3) fun h91 =>
    lt (α := Nat) (hZ h91) fun q93 =>
    lt (α := Hp) (nw h91 3 0) fun h94 =>
    gd ((hK h94 t0).1 = 11) <|
    nn (gR h94 717 t0) fun q97 =>
    nn (gR h94 718 t0) fun q98 =>
    bd (fX3_init h94 q93 q97 q98) fun h101 =>
    gd ((hK h101 q90).1 = 25) <|
    gd (inA 0 (hK h101 q90).2) <|
    gd ((hK h101 q93).1 = 3) <|
    lt (α := Hp) (sC h101 q90 0 q93) fun h105 =>
    lt (α := Nat) (hZ h105) fun q106 =>
    lt (α := Hp) (nw h105 3 0) fun h107 =>
    gd ((hK h107 t0).1 = 11) <|
    nn (gR h107 717 t0) fun q110 =>
    nn (gR h107 718 t0) fun q111 =>
    bd (fX3_init h107 q106 q110 q111) fun h114 =>
    gd ((hK h114 q90).1 = 25) <|
    gd (inA 1 (hK h114 q90).2) <|
    gd ((hK h114 q106).1 = 3) <|
    lt (α := Hp) (sC h114 q90 1 q106) fun h118 =>
    lt (α := Nat) (hZ h118) fun q119 =>
    lt (α := Hp) (nw h118 3 0) fun h120 =>
    gd ((hK h120 t0).1 = 11) <|
    nn (gR h120 717 t0) fun q123 =>
    nn (gR h120 718 t0) fun q124 =>
    bd (fX3_init h120 q119 q123 q124) fun h127 =>
    gd ((hK h127 q90).1 = 25) <|
    gd (inA 2 (hK h127 q90).2) <|
    gd ((hK h127 q119).1 = 3) <|
    lt (α := Hp) (sC h127 q90 2 q119) fun h131 =>
    gd ((hK h131 t0).1 = 11) <|
    lt (α := Hp) (pR h131 708 t0 q90) fun h133 =>
    lt (α := Nat) (hZ h133) fun q134 =>
    lt (α := Hp) (nw h133 26 8) fun h135 =>
    gd ((hK h135 t0).1 = 11) <|
    lt (α := Hp) (pR h135 709 t0 q134) fun h138 =>
    fX11_init_b188 t0 FU h138 80 1767 0

set_option maxHeartbeats 4000000 in
set_option maxRecDepth 100000 in
theorem wX11_init_b188 {D : va_G} {cy : Nat → ClassId} {B : Nat} {p : Program} {l : Launch} {e : Env} {s : State} {m : MethodId} {args : Array Value} {below : List Frame} {meth : Method} {c : Code} {t0 : Nat} {h' : Hp} (X : CXd D cy B p s m args c cX11_init RX11 2) (hr : meth.sig.returnType = (none : Option FieldType)) (hlk : meth.locks = false) (hnm : meth.name = "<init>") : ∀ (fu : Nat) (h : Hp) (k : Nat) (n : Nat) (v1 : Int), rg v1 → fX11_init_b188 t0 fu h k n v1 = some h' → AWd D cy B p l e { frames := 8, cells := 120, slots := 5872, locals := 203 } s m args below meth c 2 (MQr D cy B below none h' args s 120 5872) h k n 188 [(0, .ref t0), (1, vI v1)] [] := by
  intro fu
  induction fu with
  | zero => intro h k n v1 r_v1 hf; rw [fX11_init_b188.eq_1] at hf; cases hf
  | succ fu ih =>
    intro h k n v1 r_v1 hf
    rw [fX11_init_b188.eq_2] at hf
    refine aw_iload_n (pc := 188) X dX11_init_188 1 rfl ?_
    refine aw_bipush (pc := 189) X dX11_init_189 rfl ?_
    refine aw_icmp_ge (pc := 191) (tgt := 216) X r_v1 (rg_lit rfl) dX11_init_191 (by decide) (fun z1 => ?_) (fun z1 => ?_)
    · have hf := it_f z1 hf
      refine aw_aload_n (pc := 216) X dX11_init_216 0 rfl ?_
      obtain ⟨g2, hf⟩ := gd_some hf
      obtain ⟨q3, eq3, hf⟩ := lt_some hf
      obtain ⟨h4, eh4, hf⟩ := lt_some hf
      refine aw_new (pc := 217) X iw_6 tyX6 tyX6_ok rfl (by decide) (by decide) kw_410 kw_240 kw_144 g2.1 g2.2 eh4 dX11_init_217 ?_
      refine aw_topA eq3 ?_
      refine aw_kn (k' := (k + 1)) (n' := (n + 3)) rfl rfl ?_
      have g5 : (hK h4 q3).1 = 6 := by rw [eh4, eq3, nw_k]
      refine aw_dup (pc := 220) X dX11_init_220 rfl ?_
      refine aw_iconst (pc := 221) X dX11_init_221 ?_
      obtain ⟨g6, hf⟩ := gd_some hf
      obtain ⟨q7, eq7, hf⟩ := lt_some hf
      obtain ⟨h8, eh8, hf⟩ := lt_some hf
      refine aw_newa (atype := .int) (pc := 222) X (kd := 21) 0 4 rfl rfl (by decide) (by decide) rfl kw_262 (rg_lit rfl) (by decide) (hdef21 _) (Nat.le_of_ble_eq_true rfl) g6.1 g6.2 eh8 dX11_init_222 ?_
      refine aw_topA eq7 ?_
      refine aw_kn (k' := (k + 2)) (n' := (n + 3)) rfl rfl ?_
      have g9 : (hK h8 q7).1 = 21 := by rw [eh8, eq7, nw_k]
      obtain ⟨g10, hf⟩ := gd_some hf
      obtain ⟨h13, g12, hf⟩ := bd_some hf
      refine aw_invI (pc := 224) X (kX6_init g12) mw_yX6_init kw_411 kw_242 rfl rfl ⟨Nat.le_of_ble_eq_true rfl, Nat.le_of_ble_eq_true rfl⟩ rfl (Nat.le_of_ble_eq_true rfl) g10 dX11_init_224 ?_
      refine aw_ret0 (k' := (k + 2)) (n' := (n + 3)) rfl rfl ?_
      obtain ⟨g14, hf⟩ := gd_some hf
      obtain ⟨h15, eh15, hf⟩ := lt_some hf
      have kkh15 := kp_R eh15
      refine aw_setR (pc := 227) X 11 6 710 iw_11 tyX11 tyX11_ok nmX11 rfl (by decide) (by decide) rfl g14 kw_482 rfl (Or.inr ⟨rfl, hnm, rfl⟩) rfl (tyX11_ok 6 (by decide)) rfl rfl rfl eh15 dX11_init_227 ?_
      refine aw_aload_n (pc := 230) X dX11_init_230 0 rfl ?_
      obtain ⟨g16, hf⟩ := gd_some hf
      obtain ⟨q17, eq17, hf⟩ := lt_some hf
      obtain ⟨h18, eh18, hf⟩ := lt_some hf
      refine aw_new (pc := 231) X iw_6 tyX6 tyX6_ok rfl (by decide) (by decide) kw_410 kw_240 kw_144 g16.1 g16.2 eh18 dX11_init_231 ?_
      refine aw_topA eq17 ?_
      refine aw_kn (k' := (k + 3)) (n' := (n + 6)) rfl rfl ?_
      have g19 : (hK h18 q17).1 = 6 := by rw [eh18, eq17, nw_k]
      refine aw_dup (pc := 234) X dX11_init_234 rfl ?_
      refine aw_bipush (pc := 235) X dX11_init_235 rfl ?_
      obtain ⟨g20, hf⟩ := gd_some hf
      obtain ⟨q21, eq21, hf⟩ := lt_some hf
      obtain ⟨h22, eh22, hf⟩ := lt_some hf
      refine aw_newa (atype := .int) (pc := 237) X (kd := 21) 31 4 rfl rfl (by decide) (by decide) rfl kw_262 (rg_lit rfl) (by decide) (hdef21 _) (Nat.le_of_ble_eq_true rfl) g20.1 g20.2 eh22 dX11_init_237 ?_
      refine aw_topA eq21 ?_
      refine aw_kn (k' := (k + 4)) (n' := (n + 37)) rfl rfl ?_
      have g23 : (hK h22 q21).1 = 21 := by rw [eh22, eq21, nw_k]
      obtain ⟨g24, hf⟩ := gd_some hf
      obtain ⟨h27, g26, hf⟩ := bd_some hf
      refine aw_invI (pc := 239) X (kX6_init g26) mw_yX6_init kw_411 kw_242 rfl rfl ⟨Nat.le_of_ble_eq_true rfl, Nat.le_of_ble_eq_true rfl⟩ rfl (Nat.le_of_ble_eq_true rfl) g24 dX11_init_239 ?_
      refine aw_ret0 (k' := (k + 4)) (n' := (n + 37)) rfl rfl ?_
      obtain ⟨g28, hf⟩ := gd_some hf
      obtain ⟨h29, eh29, hf⟩ := lt_some hf
      have kkh29 := kp_R eh29
      refine aw_setR (pc := 242) X 11 7 711 iw_11 tyX11 tyX11_ok nmX11 rfl (by decide) (by decide) rfl g28 kw_483 rfl (Or.inr ⟨rfl, hnm, rfl⟩) rfl (tyX11_ok 7 (by decide)) rfl rfl rfl eh29 dX11_init_242 ?_
      refine aw_aload_n (pc := 245) X dX11_init_245 0 rfl ?_
      refine aw_bipush (pc := 246) X dX11_init_246 rfl ?_
      obtain ⟨g30, hf⟩ := gd_some hf
      obtain ⟨q31, eq31, hf⟩ := lt_some hf
      obtain ⟨h32, eh32, hf⟩ := lt_some hf
      refine aw_newa (atype := .int) (pc := 248) X (kd := 21) 27 4 rfl rfl (by decide) (by decide) rfl kw_262 (rg_lit rfl) (by decide) (hdef21 _) (Nat.le_of_ble_eq_true rfl) g30.1 g30.2 eh32 dX11_init_248 ?_
      refine aw_topA eq31 ?_
      refine aw_kn (k' := (k + 5)) (n' := (n + 64)) rfl rfl ?_
      have g33 : (hK h32 q31).1 = 21 := by rw [eh32, eq31, nw_k]
      obtain ⟨g34, hf⟩ := gd_some hf
      obtain ⟨h35, eh35, hf⟩ := lt_some hf
      have kkh35 := kp_R eh35
      refine aw_setR (pc := 250) X 11 8 712 iw_11 tyX11 tyX11_ok nmX11 rfl (by decide) (by decide) rfl g34 kw_484 rfl (Or.inr ⟨rfl, hnm, rfl⟩) rfl (tyX11_ok 8 (by decide)) rfl rfl rfl eh35 dX11_init_250 ?_
      refine aw_aload_n (pc := 253) X dX11_init_253 0 rfl ?_
      refine aw_bipush (pc := 254) X dX11_init_254 rfl ?_
      obtain ⟨g36, hf⟩ := gd_some hf
      obtain ⟨q37, eq37, hf⟩ := lt_some hf
      obtain ⟨h38, eh38, hf⟩ := lt_some hf
      refine aw_newa (atype := .int) (pc := 256) X (kd := 21) 8 4 rfl rfl (by decide) (by decide) rfl kw_262 (rg_lit rfl) (by decide) (hdef21 _) (Nat.le_of_ble_eq_true rfl) g36.1 g36.2 eh38 dX11_init_256 ?_
      refine aw_topA eq37 ?_
      refine aw_kn (k' := (k + 6)) (n' := (n + 72)) rfl rfl ?_
      have g39 : (hK h38 q37).1 = 21 := by rw [eh38, eq37, nw_k]
      obtain ⟨g40, hf⟩ := gd_some hf
      obtain ⟨h41, eh41, hf⟩ := lt_some hf
      have kkh41 := kp_R eh41
      refine aw_setR (pc := 258) X 11 9 713 iw_11 tyX11 tyX11_ok nmX11 rfl (by decide) (by decide) rfl g40 kw_485 rfl (Or.inr ⟨rfl, hnm, rfl⟩) rfl (tyX11_ok 9 (by decide)) rfl rfl rfl eh41 dX11_init_258 ?_
      refine aw_aload_n (pc := 261) X dX11_init_261 0 rfl ?_
      refine aw_bipush (pc := 262) X dX11_init_262 rfl ?_
      obtain ⟨g42, hf⟩ := gd_some hf
      obtain ⟨q43, eq43, hf⟩ := lt_some hf
      obtain ⟨h44, eh44, hf⟩ := lt_some hf
      refine aw_newa (atype := .int) (pc := 264) X (kd := 21) 8 4 rfl rfl (by decide) (by decide) rfl kw_262 (rg_lit rfl) (by decide) (hdef21 _) (Nat.le_of_ble_eq_true rfl) g42.1 g42.2 eh44 dX11_init_264 ?_
      refine aw_topA eq43 ?_
      refine aw_kn (k' := (k + 7)) (n' := (n + 80)) rfl rfl ?_
      have g45 : (hK h44 q43).1 = 21 := by rw [eh44, eq43, nw_k]
      obtain ⟨g46, hf⟩ := gd_some hf
      obtain ⟨h47, eh47, hf⟩ := lt_some hf
      have kkh47 := kp_R eh47
      refine aw_setR (pc := 266) X 11 10 714 iw_11 tyX11 tyX11_ok nmX11 rfl (by decide) (by decide) rfl g46 kw_486 rfl (Or.inr ⟨rfl, hnm, rfl⟩) rfl (tyX11_ok 10 (by decide)) rfl rfl rfl eh47 dX11_init_266 ?_
      refine aw_aload_n (pc := 269) X dX11_init_269 0 rfl ?_
      obtain ⟨g48, hf⟩ := gd_some hf
      obtain ⟨q49, eq49, hf⟩ := lt_some hf
      obtain ⟨h50, eh50, hf⟩ := lt_some hf
      refine aw_new (pc := 270) X iw_4 tyX4 tyX4_ok rfl (by decide) (by decide) kw_412 kw_413 kw_149 g48.1 g48.2 eh50 dX11_init_270 ?_
      refine aw_topA eq49 ?_
      refine aw_kn (k' := (k + 8)) (n' := (n + 89)) rfl rfl ?_
      have g51 : (hK h50 q49).1 = 4 := by rw [eh50, eq49, nw_k]
      refine aw_dup (pc := 273) X dX11_init_273 rfl ?_
      obtain ⟨g52, hf⟩ := gd_some hf
      obtain ⟨h55, g54, hf⟩ := bd_some hf
      refine aw_invI (pc := 274) X (kX4_init g54) mw_yX4_init kw_414 kw_415 rfl rfl ⟨Nat.le_of_ble_eq_true rfl, Nat.le_of_ble_eq_true rfl⟩ rfl (Nat.le_of_ble_eq_true rfl) g52 dX11_init_274 ?_
      refine aw_ret0 (k' := (k + 16)) (n' := (n + 1742)) rfl rfl ?_
      obtain ⟨g56, hf⟩ := gd_some hf
      obtain ⟨h57, eh57, hf⟩ := lt_some hf
      have kkh57 := kp_R eh57
      refine aw_setR (pc := 277) X 11 11 715 iw_11 tyX11 tyX11_ok nmX11 rfl (by decide) (by decide) rfl g56 kw_487 rfl (Or.inr ⟨rfl, hnm, rfl⟩) rfl (tyX11_ok 11 (by decide)) rfl rfl rfl eh57 dX11_init_277 ?_
      refine aw_aload_n (pc := 280) X dX11_init_280 0 rfl ?_
      obtain ⟨g58, hf⟩ := gd_some hf
      obtain ⟨q59, eq59, hf⟩ := lt_some hf
      obtain ⟨h60, eh60, hf⟩ := lt_some hf
      refine aw_new (pc := 281) X iw_5 tyX5 tyX5_ok rfl (by decide) (by decide) kw_450 kw_451 kw_150 g58.1 g58.2 eh60 dX11_init_281 ?_
      refine aw_topA eq59 ?_
      refine aw_kn (k' := (k + 17)) (n' := (n + 1747)) rfl rfl ?_
      have g61 : (hK h60 q59).1 = 5 := by rw [eh60, eq59, nw_k]
      refine aw_dup (pc := 284) X dX11_init_284 rfl ?_
      obtain ⟨g62, hf⟩ := gd_some hf
      obtain ⟨h65, g64, hf⟩ := bd_some hf
      refine aw_invIN (pc := 285) X (kX5_init g64) mw_yX5_init (List.mem_of_getElem? (i := 4) rfl) kw_453 rfl rfl ⟨Nat.le_of_ble_eq_true rfl, Nat.le_of_ble_eq_true rfl⟩ rfl (Nat.le_of_ble_eq_true rfl) g62 dX11_init_285 ?_
      refine aw_ret0 (k' := (k + 24)) (n' := (n + 4081)) rfl rfl ?_
      obtain ⟨g66, hf⟩ := gd_some hf
      obtain ⟨h67, eh67, hf⟩ := lt_some hf
      have kkh67 := kp_R eh67
      refine aw_setR (pc := 288) X 11 12 716 iw_11 tyX11 tyX11_ok nmX11 rfl (by decide) (by decide) rfl g66 kw_488 rfl (Or.inr ⟨rfl, hnm, rfl⟩) rfl (tyX11_ok 12 (by decide)) rfl rfl rfl eh67 dX11_init_288 ?_
      refine aw_aload_n (pc := 291) X dX11_init_291 0 rfl ?_
      refine aw_lconst (pc := 292) (x := 1) X 1 dX11_init_292 rfl ?_
      obtain ⟨h68, eh68, hf⟩ := lt_some hf
      have kkh68 := (kp_J eh68).trans kkh67
      refine aw_setJ (pc := 293) X 11 19 723 iw_11 tyX11 tyX11_ok nmX11 rfl (by decide) (by decide) rfl (kc kkh67 g66) kw_495 rfl (Or.inl rfl) rfl (tyX11_ok 19 (by decide)) rfl eh68 dX11_init_293 ?_
      obtain ⟨g69, hf⟩ := gd_some hf
      refine aw_widen g69.1 g69.2 ?_
      cases hf
      exact aw_vret (pc := 296) X hr hlk rfl rfl dX11_init_296
    · have hf := it_t z1 hf
      refine aw_aload_n (pc := 194) X dX11_init_194 0 rfl ?_
      obtain ⟨g70, hf⟩ := gd_some hf
      obtain ⟨q71, gq71, hf⟩ := nn_some hf
      refine aw_getR (pc := 195) X 11 5 709 iw_11 rfl (by decide) (by decide) g70 rfl kw_481 rfl rfl gq71 dX11_init_195 ?_
      refine aw_iload_n (pc := 198) X dX11_init_198 1 rfl ?_
      obtain ⟨g72, hf⟩ := gd_some hf
      obtain ⟨q73, eq73, hf⟩ := lt_some hf
      obtain ⟨h74, eh74, hf⟩ := lt_some hf
      refine aw_new (pc := 199) X iw_6 tyX6 tyX6_ok rfl (by decide) (by decide) kw_410 kw_240 kw_144 g72.1 g72.2 eh74 dX11_init_199 ?_
      refine aw_topA eq73 ?_
      refine aw_kn (k' := (k + 1)) (n' := (n + 3)) rfl rfl ?_
      have g75 : (hK h74 q73).1 = 6 := by rw [eh74, eq73, nw_k]
      refine aw_dup (pc := 202) X dX11_init_202 rfl ?_
      refine aw_iconst (pc := 203) X dX11_init_203 ?_
      obtain ⟨g76, hf⟩ := gd_some hf
      obtain ⟨q77, eq77, hf⟩ := lt_some hf
      obtain ⟨h78, eh78, hf⟩ := lt_some hf
      refine aw_newa (atype := .int) (pc := 204) X (kd := 21) 0 4 rfl rfl (by decide) (by decide) rfl kw_262 (rg_lit rfl) (by decide) (hdef21 _) (Nat.le_of_ble_eq_true rfl) g76.1 g76.2 eh78 dX11_init_204 ?_
      refine aw_topA eq77 ?_
      refine aw_kn (k' := (k + 2)) (n' := (n + 3)) rfl rfl ?_
      have g79 : (hK h78 q77).1 = 21 := by rw [eh78, eq77, nw_k]
      obtain ⟨g80, hf⟩ := gd_some hf
      obtain ⟨h83, g82, hf⟩ := bd_some hf
      refine aw_invI (pc := 206) X (kX6_init g82) mw_yX6_init kw_411 kw_242 rfl rfl ⟨Nat.le_of_ble_eq_true rfl, Nat.le_of_ble_eq_true rfl⟩ rfl (Nat.le_of_ble_eq_true rfl) g80 dX11_init_206 ?_
      refine aw_ret0 (k' := (k + 2)) (n' := (n + 3)) rfl rfl ?_
      obtain ⟨g84, hf⟩ := gd_some hf
      obtain ⟨g85, hf⟩ := gd_some hf
      obtain ⟨g86, hf⟩ := gd_some hf
      obtain ⟨h87, eh87, hf⟩ := lt_some hf
      have kkh87 := kp_C eh87
      refine aw_aast (pc := 209) X g84 (by decide) (by decide) rfl g86 rfl (by decide) r_v1 g85 eh87 dX11_init_209 ?_
      obtain ⟨x88, ex88, hf⟩ := lt_some hf
      have r_x88 : rg x88 := by rw [ex88]; exact w32_rg _
      refine aw_iinc (pc := 210) (lv' := [(1, vI x88), (0, .ref t0)]) X dX11_init_210 1 rfl (by decide) (by rw [ex88]; rfl) ?_
      refine aw_goto (pc := 213) (tgt := 188) X dX11_init_213 (by decide) ?_
      refine aw_sub [1, 0] rfl ?_
      exact ih _ _ _ _ r_x88 hf

set_option maxHeartbeats 4000000 in
set_option maxRecDepth 100000 in
theorem kX11_init {D : va_G} {cy : Nat → ClassId} {B : Nat} {l : Launch} {h : Hp} {t0 : Nat} {h' : Hp} (hf : fX11_init h t0 = some h') : CT D cy B l yX11_init cX11_init 2 (none : Option FieldType) 8 203 120 5872 [.ref t0] h none h' := by
  refine ct_intro (own := RX11) (by decide) rfl (Nat.le_of_ble_eq_true rfl) fun p e s m args below meth c X hr hlk hnm => ?_
  refine aw_lv (lv' := [(0, .ref t0)]) rfl ?_
  rw [fX11_init.eq_1] at hf
  refine aw_aload_n (pc := 0) X dX11_init_0 0 rfl ?_
  refine aw_objInit (pc := 1) X kw_164 kw_165 kw_166 (Nat.le_of_ble_eq_true rfl) (Nat.le_of_ble_eq_true rfl) dX11_init_1 ?_
  refine aw_aload_n (pc := 4) X dX11_init_4 0 rfl ?_
  refine aw_iconst (pc := 5) X dX11_init_5 ?_
  obtain ⟨q1, eq1, hf⟩ := lt_some hf
  obtain ⟨h2, eh2, hf⟩ := lt_some hf
  refine aw_newq (pc := 6) X (kd := 27) 4 rfl (by decide) (by decide) rfl kw_167 (fun z => z.2.1.2.2.2) (rg_lit rfl) (by decide) (Nat.le_of_ble_eq_true rfl) (Nat.le_of_ble_eq_true rfl) (Nat.le_of_ble_eq_true rfl) eh2 dX11_init_6 ?_
  refine aw_topA eq1 ?_
  refine aw_kn (k' := 1) (n' := 4) rfl rfl ?_
  have g3 : (hK h2 q1).1 = 27 := by rw [eh2, eq1, nw_k]
  refine aw_dup (pc := 9) X dX11_init_9 rfl ?_
  refine aw_iconst (pc := 10) X dX11_init_10 ?_
  obtain ⟨q4, eq4, hf⟩ := lt_some hf
  obtain ⟨h5, eh5, hf⟩ := lt_some hf
  refine aw_new (pc := 11) X iw_10 tyX10 tyX10_ok rfl (by decide) (by decide) kw_167 kw_169 kw_140 (Nat.le_of_ble_eq_true rfl) (Nat.le_of_ble_eq_true rfl) eh5 dX11_init_11 ?_
  refine aw_topA eq4 ?_
  refine aw_kn (k' := 2) (n' := 7) rfl rfl ?_
  have g6 : (hK h5 q4).1 = 10 := by rw [eh5, eq4, nw_k]
  refine aw_dup (pc := 14) X dX11_init_14 rfl ?_
  obtain ⟨h9, g8, hf⟩ := bd_some hf
  refine aw_invIN (pc := 15) X (kX10_init g8) mw_yX10_init (List.mem_of_getElem? (i := 0) rfl) kw_171 rfl rfl ⟨Nat.le_of_ble_eq_true rfl, Nat.le_of_ble_eq_true rfl⟩ rfl (Nat.le_of_ble_eq_true rfl) ⟨Nat.le_of_ble_eq_true rfl, Nat.le_of_ble_eq_true rfl⟩ dX11_init_15 ?_
  refine aw_ret0 (k' := 3) (n' := 67) rfl rfl ?_
  obtain ⟨g10, hf⟩ := gd_some hf
  obtain ⟨g11, hf⟩ := gd_some hf
  obtain ⟨g12, hf⟩ := gd_some hf
  obtain ⟨h13, eh13, hf⟩ := lt_some hf
  have kkh13 := kp_C eh13
  refine aw_aast (pc := 18) X g10 (by decide) (by decide) rfl g12 rfl (by decide) (rg_lit rfl) g11 eh13 dX11_init_18 ?_
  refine aw_dup (pc := 19) X dX11_init_19 rfl ?_
  refine aw_iconst (pc := 20) X dX11_init_20 ?_
  obtain ⟨q14, eq14, hf⟩ := lt_some hf
  obtain ⟨h15, eh15, hf⟩ := lt_some hf
  refine aw_new (pc := 21) X iw_10 tyX10 tyX10_ok rfl (by decide) (by decide) kw_167 kw_169 kw_140 (Nat.le_of_ble_eq_true rfl) (Nat.le_of_ble_eq_true rfl) eh15 dX11_init_21 ?_
  refine aw_topA eq14 ?_
  refine aw_kn (k' := 4) (n' := 70) rfl rfl ?_
  have g16 : (hK h15 q14).1 = 10 := by rw [eh15, eq14, nw_k]
  refine aw_dup (pc := 24) X dX11_init_24 rfl ?_
  obtain ⟨h19, g18, hf⟩ := bd_some hf
  refine aw_invIN (pc := 25) X (kX10_init g18) mw_yX10_init (List.mem_of_getElem? (i := 0) rfl) kw_171 rfl rfl ⟨Nat.le_of_ble_eq_true rfl, Nat.le_of_ble_eq_true rfl⟩ rfl (Nat.le_of_ble_eq_true rfl) ⟨Nat.le_of_ble_eq_true rfl, Nat.le_of_ble_eq_true rfl⟩ dX11_init_25 ?_
  refine aw_ret0 (k' := 5) (n' := 130) rfl rfl ?_
  obtain ⟨g20, hf⟩ := gd_some hf
  obtain ⟨g21, hf⟩ := gd_some hf
  obtain ⟨g22, hf⟩ := gd_some hf
  obtain ⟨h23, eh23, hf⟩ := lt_some hf
  have kkh23 := kp_C eh23
  refine aw_aast (pc := 28) X g20 (by decide) (by decide) rfl g22 rfl (by decide) (rg_lit rfl) g21 eh23 dX11_init_28 ?_
  refine aw_dup (pc := 29) X dX11_init_29 rfl ?_
  refine aw_iconst (pc := 30) X dX11_init_30 ?_
  obtain ⟨q24, eq24, hf⟩ := lt_some hf
  obtain ⟨h25, eh25, hf⟩ := lt_some hf
  refine aw_new (pc := 31) X iw_10 tyX10 tyX10_ok rfl (by decide) (by decide) kw_167 kw_169 kw_140 (Nat.le_of_ble_eq_true rfl) (Nat.le_of_ble_eq_true rfl) eh25 dX11_init_31 ?_
  refine aw_topA eq24 ?_
  refine aw_kn (k' := 6) (n' := 133) rfl rfl ?_
  have g26 : (hK h25 q24).1 = 10 := by rw [eh25, eq24, nw_k]
  refine aw_dup (pc := 34) X dX11_init_34 rfl ?_
  obtain ⟨h29, g28, hf⟩ := bd_some hf
  refine aw_invIN (pc := 35) X (kX10_init g28) mw_yX10_init (List.mem_of_getElem? (i := 0) rfl) kw_171 rfl rfl ⟨Nat.le_of_ble_eq_true rfl, Nat.le_of_ble_eq_true rfl⟩ rfl (Nat.le_of_ble_eq_true rfl) ⟨Nat.le_of_ble_eq_true rfl, Nat.le_of_ble_eq_true rfl⟩ dX11_init_35 ?_
  refine aw_ret0 (k' := 7) (n' := 193) rfl rfl ?_
  obtain ⟨g30, hf⟩ := gd_some hf
  obtain ⟨g31, hf⟩ := gd_some hf
  obtain ⟨g32, hf⟩ := gd_some hf
  obtain ⟨h33, eh33, hf⟩ := lt_some hf
  have kkh33 := kp_C eh33
  refine aw_aast (pc := 38) X g30 (by decide) (by decide) rfl g32 rfl (by decide) (rg_lit rfl) g31 eh33 dX11_init_38 ?_
  refine aw_dup (pc := 39) X dX11_init_39 rfl ?_
  refine aw_iconst (pc := 40) X dX11_init_40 ?_
  obtain ⟨q34, eq34, hf⟩ := lt_some hf
  obtain ⟨h35, eh35, hf⟩ := lt_some hf
  refine aw_new (pc := 41) X iw_10 tyX10 tyX10_ok rfl (by decide) (by decide) kw_167 kw_169 kw_140 (Nat.le_of_ble_eq_true rfl) (Nat.le_of_ble_eq_true rfl) eh35 dX11_init_41 ?_
  refine aw_topA eq34 ?_
  refine aw_kn (k' := 8) (n' := 196) rfl rfl ?_
  have g36 : (hK h35 q34).1 = 10 := by rw [eh35, eq34, nw_k]
  refine aw_dup (pc := 44) X dX11_init_44 rfl ?_
  obtain ⟨h39, g38, hf⟩ := bd_some hf
  refine aw_invIN (pc := 45) X (kX10_init g38) mw_yX10_init (List.mem_of_getElem? (i := 0) rfl) kw_171 rfl rfl ⟨Nat.le_of_ble_eq_true rfl, Nat.le_of_ble_eq_true rfl⟩ rfl (Nat.le_of_ble_eq_true rfl) ⟨Nat.le_of_ble_eq_true rfl, Nat.le_of_ble_eq_true rfl⟩ dX11_init_45 ?_
  refine aw_ret0 (k' := 9) (n' := 256) rfl rfl ?_
  obtain ⟨g40, hf⟩ := gd_some hf
  obtain ⟨g41, hf⟩ := gd_some hf
  obtain ⟨g42, hf⟩ := gd_some hf
  obtain ⟨h43, eh43, hf⟩ := lt_some hf
  have kkh43 := kp_C eh43
  refine aw_aast (pc := 48) X g40 (by decide) (by decide) rfl g42 rfl (by decide) (rg_lit rfl) g41 eh43 dX11_init_48 ?_
  obtain ⟨g44, hf⟩ := gd_some hf
  obtain ⟨h45, eh45, hf⟩ := lt_some hf
  have kkh45 := (kp_R eh45).trans kkh43
  refine aw_setR (pc := 49) X 11 0 704 iw_11 tyX11 tyX11_ok nmX11 rfl (by decide) (by decide) rfl g44 kw_476 rfl (Or.inr ⟨rfl, hnm, rfl⟩) rfl (tyX11_ok 0 (by decide)) rfl rfl rfl eh45 dX11_init_49 ?_
  refine aw_aload_n (pc := 52) X dX11_init_52 0 rfl ?_
  obtain ⟨q46, eq46, hf⟩ := lt_some hf
  obtain ⟨h47, eh47, hf⟩ := lt_some hf
  refine aw_new (pc := 53) X iw_9 tyX9 tyX9_ok rfl (by decide) (by decide) kw_188 kw_189 kw_141 (Nat.le_of_ble_eq_true rfl) (Nat.le_of_ble_eq_true rfl) eh47 dX11_init_53 ?_
  refine aw_topA eq46 ?_
  refine aw_kn (k' := 10) (n' := 264) rfl rfl ?_
  have g48 : (hK h47 q46).1 = 9 := by rw [eh47, eq46, nw_k]
  refine aw_dup (pc := 56) X dX11_init_56 rfl ?_
  obtain ⟨h51, g50, hf⟩ := bd_some hf
  refine aw_invIN (pc := 57) X (kX9_init g50) mw_yX9_init (List.mem_of_getElem? (i := 1) rfl) kw_191 rfl rfl ⟨Nat.le_of_ble_eq_true rfl, Nat.le_of_ble_eq_true rfl⟩ rfl (Nat.le_of_ble_eq_true rfl) ⟨Nat.le_of_ble_eq_true rfl, Nat.le_of_ble_eq_true rfl⟩ dX11_init_57 ?_
  refine aw_ret0 (k' := 11) (n' := 1164) rfl rfl ?_
  obtain ⟨g52, hf⟩ := gd_some hf
  obtain ⟨h53, eh53, hf⟩ := lt_some hf
  have kkh53 := kp_R eh53
  refine aw_setR (pc := 60) X 11 1 705 iw_11 tyX11 tyX11_ok nmX11 rfl (by decide) (by decide) rfl g52 kw_477 rfl (Or.inr ⟨rfl, hnm, rfl⟩) rfl (tyX11_ok 1 (by decide)) rfl rfl rfl eh53 dX11_init_60 ?_
  refine aw_aload_n (pc := 63) X dX11_init_63 0 rfl ?_
  obtain ⟨q54, eq54, hf⟩ := lt_some hf
  obtain ⟨h55, eh55, hf⟩ := lt_some hf
  refine aw_new (pc := 64) X iw_8 tyX8 tyX8_ok rfl (by decide) (by decide) kw_224 kw_225 kw_142 (Nat.le_of_ble_eq_true rfl) (Nat.le_of_ble_eq_true rfl) eh55 dX11_init_64 ?_
  refine aw_topA eq54 ?_
  refine aw_kn (k' := 12) (n' := 1170) rfl rfl ?_
  have g56 : (hK h55 q54).1 = 8 := by rw [eh55, eq54, nw_k]
  refine aw_dup (pc := 67) X dX11_init_67 rfl ?_
  refine aw_aload_n (pc := 68) X dX11_init_68 0 rfl ?_
  obtain ⟨g57, hf⟩ := gd_some hf
  obtain ⟨q58, gq58, hf⟩ := nn_some hf
  refine aw_getR (pc := 69) X 11 1 705 iw_11 rfl (by decide) (by decide) g57 rfl kw_477 rfl rfl gq58 dX11_init_69 ?_
  obtain ⟨h61, g60, hf⟩ := bd_some hf
  refine aw_invI (pc := 72) X (kX8_init g60) mw_yX8_init kw_226 kw_227 rfl rfl ⟨Nat.le_of_ble_eq_true rfl, Nat.le_of_ble_eq_true rfl⟩ rfl (Nat.le_of_ble_eq_true rfl) ⟨Nat.le_of_ble_eq_true rfl, Nat.le_of_ble_eq_true rfl⟩ dX11_init_72 ?_
  refine aw_ret0 (k' := 43) (n' := 1454) rfl rfl ?_
  obtain ⟨g62, hf⟩ := gd_some hf
  obtain ⟨h63, eh63, hf⟩ := lt_some hf
  have kkh63 := kp_R eh63
  refine aw_setR (pc := 75) X 11 2 706 iw_11 tyX11 tyX11_ok nmX11 rfl (by decide) (by decide) rfl g62 kw_478 rfl (Or.inr ⟨rfl, hnm, rfl⟩) rfl (tyX11_ok 2 (by decide)) rfl rfl rfl eh63 dX11_init_75 ?_
  refine aw_aload_n (pc := 78) X dX11_init_78 0 rfl ?_
  obtain ⟨q64, eq64, hf⟩ := lt_some hf
  obtain ⟨h65, eh65, hf⟩ := lt_some hf
  refine aw_new (pc := 79) X iw_2 tyX2 tyX2_ok rfl (by decide) (by decide) kw_358 kw_359 kw_146 (Nat.le_of_ble_eq_true rfl) (Nat.le_of_ble_eq_true rfl) eh65 dX11_init_79 ?_
  refine aw_topA eq64 ?_
  refine aw_kn (k' := 44) (n' := 1455) rfl rfl ?_
  have g66 : (hK h65 q64).1 = 2 := by rw [eh65, eq64, nw_k]
  refine aw_dup (pc := 82) X dX11_init_82 rfl ?_
  refine aw_aload_n (pc := 83) X dX11_init_83 0 rfl ?_
  obtain ⟨g67, hf⟩ := gd_some hf
  obtain ⟨q68, gq68, hf⟩ := nn_some hf
  refine aw_getR (pc := 84) X 11 1 705 iw_11 rfl (by decide) (by decide) g67 rfl kw_477 rfl rfl gq68 dX11_init_84 ?_
  obtain ⟨h71, g70, hf⟩ := bd_some hf
  refine aw_invI (pc := 87) X (kX2_init g70) mw_yX2_init kw_360 kw_361 rfl rfl ⟨Nat.le_of_ble_eq_true rfl, Nat.le_of_ble_eq_true rfl⟩ rfl (Nat.le_of_ble_eq_true rfl) ⟨Nat.le_of_ble_eq_true rfl, Nat.le_of_ble_eq_true rfl⟩ dX11_init_87 ?_
  refine aw_ret0 (k' := 44) (n' := 1455) rfl rfl ?_
  obtain ⟨g72, hf⟩ := gd_some hf
  obtain ⟨h73, eh73, hf⟩ := lt_some hf
  have kkh73 := kp_R eh73
  refine aw_setR (pc := 90) X 11 3 707 iw_11 tyX11 tyX11_ok nmX11 rfl (by decide) (by decide) rfl g72 kw_479 rfl (Or.inr ⟨rfl, hnm, rfl⟩) rfl (tyX11_ok 3 (by decide)) rfl rfl rfl eh73 dX11_init_90 ?_
  refine aw_aload_n (pc := 93) X dX11_init_93 0 rfl ?_
  obtain ⟨q74, eq74, hf⟩ := lt_some hf
  obtain ⟨h75, eh75, hf⟩ := lt_some hf
  refine aw_new (pc := 94) X iw_7 tyX7 tyX7_ok rfl (by decide) (by decide) kw_368 kw_231 kw_143 (Nat.le_of_ble_eq_true rfl) (Nat.le_of_ble_eq_true rfl) eh75 dX11_init_94 ?_
  refine aw_topA eq74 ?_
  refine aw_kn (k' := 45) (n' := 1459) rfl rfl ?_
  have g76 : (hK h75 q74).1 = 7 := by rw [eh75, eq74, nw_k]
  refine aw_dup (pc := 97) X dX11_init_97 rfl ?_
  obtain ⟨h79, g78, hf⟩ := bd_some hf
  refine aw_invI (pc := 98) X (kX7_init g78) mw_yX7_init kw_369 kw_233 rfl rfl ⟨Nat.le_of_ble_eq_true rfl, Nat.le_of_ble_eq_true rfl⟩ rfl (Nat.le_of_ble_eq_true rfl) ⟨Nat.le_of_ble_eq_true rfl, Nat.le_of_ble_eq_true rfl⟩ dX11_init_98 ?_
  refine aw_ret0 (k' := 71) (n' := 1707) rfl rfl ?_
  obtain ⟨g80, hf⟩ := gd_some hf
  obtain ⟨h81, eh81, hf⟩ := lt_some hf
  have kkh81 := kp_R eh81
  refine aw_setR (pc := 101) X 11 13 717 iw_11 tyX11 tyX11_ok nmX11 rfl (by decide) (by decide) rfl g80 kw_489 rfl (Or.inl rfl) rfl (tyX11_ok 13 (by decide)) rfl rfl rfl eh81 dX11_init_101 ?_
  refine aw_aload_n (pc := 104) X dX11_init_104 0 rfl ?_
  obtain ⟨q82, eq82, hf⟩ := lt_some hf
  obtain ⟨h83, eh83, hf⟩ := lt_some hf
  refine aw_new (pc := 105) X iw_1 tyX1 tyX1_ok rfl (by decide) (by decide) kw_370 kw_371 kw_147 (Nat.le_of_ble_eq_true rfl) (Nat.le_of_ble_eq_true rfl) eh83 dX11_init_105 ?_
  refine aw_topA eq82 ?_
  refine aw_kn (k' := 72) (n' := 1711) rfl rfl ?_
  have g84 : (hK h83 q82).1 = 1 := by rw [eh83, eq82, nw_k]
  refine aw_dup (pc := 108) X dX11_init_108 rfl ?_
  obtain ⟨h87, g86, hf⟩ := bd_some hf
  refine aw_invIN (pc := 109) X (kX1_init g86) mw_yX1_init (List.mem_of_getElem? (i := 3) rfl) kw_373 rfl rfl ⟨Nat.le_of_ble_eq_true rfl, Nat.le_of_ble_eq_true rfl⟩ rfl (Nat.le_of_ble_eq_true rfl) ⟨Nat.le_of_ble_eq_true rfl, Nat.le_of_ble_eq_true rfl⟩ dX11_init_109 ?_
  refine aw_ret0 (k' := 75) (n' := 1747) rfl rfl ?_
  obtain ⟨g88, hf⟩ := gd_some hf
  obtain ⟨h89, eh89, hf⟩ := lt_some hf
  have kkh89 := kp_R eh89
  refine aw_setR (pc := 112) X 11 14 718 iw_11 tyX11 tyX11_ok nmX11 rfl (by decide) (by decide) rfl g88 kw_490 rfl (Or.inl rfl) rfl (tyX11_ok 14 (by decide)) rfl rfl rfl eh89 dX11_init_112 ?_
  refine aw_aload_n (pc := 115) X dX11_init_115 0 rfl ?_
  refine aw_iconst (pc := 116) X dX11_init_116 ?_
  obtain ⟨q90, eq90, hf⟩ := lt_some hf
  obtain ⟨h91, eh91, hf⟩ := lt_some hf
  refine aw_newq (pc := 117) X (kd := 25) 3 rfl (by decide) (by decide) rfl kw_391 (fun z => z.2.1.2.1) (rg_lit rfl) (by decide) (Nat.le_of_ble_eq_true rfl) (Nat.le_of_ble_eq_true rfl) (Nat.le_of_ble_eq_true rfl) eh91 dX11_init_117 ?_
  refine aw_topA eq90 ?_
  refine aw_kn (k' := 76) (n' := 1750) rfl rfl ?_
  have g92 : (hK h91 q90).1 = 25 := by rw [eh91, eq90, nw_k]
  refine aw_dup (pc := 120) X dX11_init_120 rfl ?_
  refine aw_iconst (pc := 121) X dX11_init_121 ?_
  obtain ⟨q93, eq93, hf⟩ := lt_some hf
  obtain ⟨h94, eh94, hf⟩ := lt_some hf
  refine aw_new (pc := 122) X iw_3 tyX3 tyX3_ok rfl (by decide) (by decide) kw_391 kw_393 kw_148 (Nat.le_of_ble_eq_true rfl) (Nat.le_of_ble_eq_true rfl) eh94 dX11_init_122 ?_
  refine aw_topA eq93 ?_
  refine aw_kn (k' := 77) (n' := 1753) rfl rfl ?_
  have g95 : (hK h94 q93).1 = 3 := by rw [eh94, eq93, nw_k]
  refine aw_dup (pc := 125) X dX11_init_125 rfl ?_
  refine aw_aload_n (pc := 126) X dX11_init_126 0 rfl ?_
  obtain ⟨g96, hf⟩ := gd_some hf
  obtain ⟨q97, gq97, hf⟩ := nn_some hf
  refine aw_getR (pc := 127) X 11 13 717 iw_11 rfl (by decide) (by decide) g96 rfl kw_489 rfl rfl gq97 dX11_init_127 ?_
  refine aw_aload_n (pc := 130) X dX11_init_130 0 rfl ?_
  obtain ⟨q98, gq98, hf⟩ := nn_some hf
  refine aw_getR (pc := 131) X 11 14 718 iw_11 rfl (by decide) (by decide) g96 rfl kw_490 rfl rfl gq98 dX11_init_131 ?_
  obtain ⟨h101, g100, hf⟩ := bd_some hf
  refine aw_invI (pc := 134) X (kX3_init g100) mw_yX3_init kw_394 kw_395 rfl rfl ⟨Nat.le_of_ble_eq_true rfl, Nat.le_of_ble_eq_true rfl⟩ rfl (Nat.le_of_ble_eq_true rfl) ⟨Nat.le_of_ble_eq_true rfl, Nat.le_of_ble_eq_true rfl⟩ dX11_init_134 ?_
  refine aw_ret0 (k' := 77) (n' := 1753) rfl rfl ?_
  obtain ⟨g102, hf⟩ := gd_some hf
  obtain ⟨g103, hf⟩ := gd_some hf
  obtain ⟨g104, hf⟩ := gd_some hf
  obtain ⟨h105, eh105, hf⟩ := lt_some hf
  have kkh105 := kp_C eh105
  refine aw_aast (pc := 137) X g102 (by decide) (by decide) rfl g104 rfl (by decide) (rg_lit rfl) g103 eh105 dX11_init_137 ?_
  refine aw_dup (pc := 138) X dX11_init_138 rfl ?_
  refine aw_iconst (pc := 139) X dX11_init_139 ?_
  obtain ⟨q106, eq106, hf⟩ := lt_some hf
  obtain ⟨h107, eh107, hf⟩ := lt_some hf
  refine aw_new (pc := 140) X iw_3 tyX3 tyX3_ok rfl (by decide) (by decide) kw_391 kw_393 kw_148 (Nat.le_of_ble_eq_true rfl) (Nat.le_of_ble_eq_true rfl) eh107 dX11_init_140 ?_
  refine aw_topA eq106 ?_
  refine aw_kn (k' := 78) (n' := 1756) rfl rfl ?_
  have g108 : (hK h107 q106).1 = 3 := by rw [eh107, eq106, nw_k]
  refine aw_dup (pc := 143) X dX11_init_143 rfl ?_
  refine aw_aload_n (pc := 144) X dX11_init_144 0 rfl ?_
  obtain ⟨g109, hf⟩ := gd_some hf
  obtain ⟨q110, gq110, hf⟩ := nn_some hf
  refine aw_getR (pc := 145) X 11 13 717 iw_11 rfl (by decide) (by decide) g109 rfl kw_489 rfl rfl gq110 dX11_init_145 ?_
  refine aw_aload_n (pc := 148) X dX11_init_148 0 rfl ?_
  obtain ⟨q111, gq111, hf⟩ := nn_some hf
  refine aw_getR (pc := 149) X 11 14 718 iw_11 rfl (by decide) (by decide) g109 rfl kw_490 rfl rfl gq111 dX11_init_149 ?_
  obtain ⟨h114, g113, hf⟩ := bd_some hf
  refine aw_invI (pc := 152) X (kX3_init g113) mw_yX3_init kw_394 kw_395 rfl rfl ⟨Nat.le_of_ble_eq_true rfl, Nat.le_of_ble_eq_true rfl⟩ rfl (Nat.le_of_ble_eq_true rfl) ⟨Nat.le_of_ble_eq_true rfl, Nat.le_of_ble_eq_true rfl⟩ dX11_init_152 ?_
  refine aw_ret0 (k' := 78) (n' := 1756) rfl rfl ?_
  obtain ⟨g115, hf⟩ := gd_some hf
  obtain ⟨g116, hf⟩ := gd_some hf
  obtain ⟨g117, hf⟩ := gd_some hf
  obtain ⟨h118, eh118, hf⟩ := lt_some hf
  have kkh118 := kp_C eh118
  refine aw_aast (pc := 155) X g115 (by decide) (by decide) rfl g117 rfl (by decide) (rg_lit rfl) g116 eh118 dX11_init_155 ?_
  refine aw_dup (pc := 156) X dX11_init_156 rfl ?_
  refine aw_iconst (pc := 157) X dX11_init_157 ?_
  obtain ⟨q119, eq119, hf⟩ := lt_some hf
  obtain ⟨h120, eh120, hf⟩ := lt_some hf
  refine aw_new (pc := 158) X iw_3 tyX3 tyX3_ok rfl (by decide) (by decide) kw_391 kw_393 kw_148 (Nat.le_of_ble_eq_true rfl) (Nat.le_of_ble_eq_true rfl) eh120 dX11_init_158 ?_
  refine aw_topA eq119 ?_
  refine aw_kn (k' := 79) (n' := 1759) rfl rfl ?_
  have g121 : (hK h120 q119).1 = 3 := by rw [eh120, eq119, nw_k]
  refine aw_dup (pc := 161) X dX11_init_161 rfl ?_
  refine aw_aload_n (pc := 162) X dX11_init_162 0 rfl ?_
  obtain ⟨g122, hf⟩ := gd_some hf
  obtain ⟨q123, gq123, hf⟩ := nn_some hf
  refine aw_getR (pc := 163) X 11 13 717 iw_11 rfl (by decide) (by decide) g122 rfl kw_489 rfl rfl gq123 dX11_init_163 ?_
  refine aw_aload_n (pc := 166) X dX11_init_166 0 rfl ?_
  obtain ⟨q124, gq124, hf⟩ := nn_some hf
  refine aw_getR (pc := 167) X 11 14 718 iw_11 rfl (by decide) (by decide) g122 rfl kw_490 rfl rfl gq124 dX11_init_167 ?_
  obtain ⟨h127, g126, hf⟩ := bd_some hf
  refine aw_invI (pc := 170) X (kX3_init g126) mw_yX3_init kw_394 kw_395 rfl rfl ⟨Nat.le_of_ble_eq_true rfl, Nat.le_of_ble_eq_true rfl⟩ rfl (Nat.le_of_ble_eq_true rfl) ⟨Nat.le_of_ble_eq_true rfl, Nat.le_of_ble_eq_true rfl⟩ dX11_init_170 ?_
  refine aw_ret0 (k' := 79) (n' := 1759) rfl rfl ?_
  obtain ⟨g128, hf⟩ := gd_some hf
  obtain ⟨g129, hf⟩ := gd_some hf
  obtain ⟨g130, hf⟩ := gd_some hf
  obtain ⟨h131, eh131, hf⟩ := lt_some hf
  have kkh131 := kp_C eh131
  refine aw_aast (pc := 173) X g128 (by decide) (by decide) rfl g130 rfl (by decide) (rg_lit rfl) g129 eh131 dX11_init_173 ?_
  obtain ⟨g132, hf⟩ := gd_some hf
  obtain ⟨h133, eh133, hf⟩ := lt_some hf
  have kkh133 := (kp_R eh133).trans kkh131
  refine aw_setR (pc := 174) X 11 4 708 iw_11 tyX11 tyX11_ok nmX11 rfl (by decide) (by decide) rfl g132 kw_480 rfl (Or.inr ⟨rfl, hnm, rfl⟩) rfl (tyX11_ok 4 (by decide)) rfl rfl rfl eh133 dX11_init_174 ?_
  refine aw_aload_n (pc := 177) X dX11_init_177 0 rfl ?_
  refine aw_bipush (pc := 178) X dX11_init_178 rfl ?_
  obtain ⟨q134, eq134, hf⟩ := lt_some hf
  obtain ⟨h135, eh135, hf⟩ := lt_some hf
  refine aw_newq (pc := 180) X (kd := 26) 8 rfl (by decide) (by decide) rfl kw_410 (fun z => z.2.1.2.2.1) (rg_lit rfl) (by decide) (Nat.le_of_ble_eq_true rfl) (Nat.le_of_ble_eq_true rfl) (Nat.le_of_ble_eq_true rfl) eh135 dX11_init_180 ?_
  refine aw_topA eq134 ?_
  refine aw_kn (k' := 80) (n' := 1767) rfl rfl ?_
  have g136 : (hK h135 q134).1 = 26 := by rw [eh135, eq134, nw_k]
  obtain ⟨g137, hf⟩ := gd_some hf
  obtain ⟨h138, eh138, hf⟩ := lt_some hf
  have kkh138 := kp_R eh138
  refine aw_setR (pc := 183) X 11 5 709 iw_11 tyX11 tyX11_ok nmX11 rfl (by decide) (by decide) rfl g137 kw_481 rfl (Or.inr ⟨rfl, hnm, rfl⟩) rfl (tyX11_ok 5 (by decide)) rfl rfl rfl eh138 dX11_init_183 ?_
  refine aw_iconst (pc := 186) X dX11_init_186 ?_
  refine aw_istore_n (pc := 187) (lv' := [(1, vI 0), (0, .ref t0)]) X dX11_init_187 (by decide) rfl ?_
  refine aw_sub [1, 0] rfl ?_
  exact wX11_init_b188 X hr hlk hnm _ _ _ _ _ (rg_lit rfl) hf

def fX12_init_b200 (t0 : Nat) : Nat → Hp → Nat → Nat → Int → Option Hp
  | 0, _, _, _, _ => none
  | fu + 1, h, k, n, v1 =>
    if v1 < 4 then (
      gd ((hK h t0).1 = 12) <|
      nn (gR h 773 t0) fun q4 =>
      gd ((hK h q4).1 = 21) <|
      gd (inA v1 (hK h q4).2) <|
      lt (α := Hp) (sA h q4 v1 (-1)) fun h7 =>
      lt (α := Int) (w32 (v1 + 1)) fun x8 =>
      fX12_init_b200 t0 fu h7 k n x8)
    else
    gd (k ≤ 22 ∧ n ≤ 4047) <|
    some h

def fX12_init (h : Hp) (t0 : Nat) : Option Hp :=
    gd ((hK h t0).1 = 12) <|
    lt (α := Hp) (pJ h 771 t0 1) fun h2 =>
    lt (α := Nat) (hZ h2) fun q3 =>
    lt (α := Hp) (nw h2 21 4) fun h4 =>
    gd ((hK h4 t0).1 = 12) <|
    lt (α := Hp) (pR h4 772 t0 q3) fun h7 =>
    lt (α := Nat) (hZ h7) fun q8 =>
    lt (α := Hp) (nw h7 21 4) fun h9 =>
    gd ((hK h9 t0).1 = 12) <|
    lt (α := Hp) (pR h9 773 t0 q8) fun h12 =>
    lt (α := Nat) (hZ h12) fun q13 =>
    lt (α := Hp) (nw h12 22 240) fun h14 =>
    gd ((hK h14 t0).1 = 12) <|
    lt (α := Hp) (pR h14 774 t0 q13) fun h17 =>
    lt (α := Nat) (hZ h17) fun q18 =>
    lt (α := Hp) (nw h17 20 900) fun h19 =>
    gd ((hK h19 t0).1 = 12) <|
    lt (α := Hp) (pR h19 775 t0 q18) fun h22 =>
    lt (α := Hp) (pI h22 778 t0 (-1)) fun h23 =>
    lt (α := Hp) (pI h23 779 t0 (-1)) fun h24 =>
    lt (α := Nat) (hZ h24) fun q25 =>
    lt (α := Hp) (nw h24 21 1850) fun h26 =>
    gd ((hK h26 t0).1 = 12) <|
    lt (α := Hp) (pR h26 788 t0 q25) fun h29 =>
    lt (α := Nat) (hZ h29) fun q30 =>
    lt (α := Hp) (nw h29 22 16) fun h31 =>
    gd ((hK h31 t0).1 = 12) <|
    lt (α := Hp) (pR h31 789 t0 q30) fun h34 =>
    lt (α := Nat) (hZ h34) fun q35 =>
    lt (α := Hp) (nw h34 21 80) fun h36 =>
    gd ((hK h36 t0).1 = 12) <|
    lt (α := Hp) (pR h36 791 t0 q35) fun h39 =>
    lt (α := Nat) (hZ h39) fun q40 =>
    lt (α := Hp) (nw h39 21 80) fun h41 =>
    gd ((hK h41 t0).1 = 12) <|
    lt (α := Hp) (pR h41 792 t0 q40) fun h44 =>
    lt (α := Nat) (hZ h44) fun q45 =>
    lt (α := Hp) (nw h44 21 80) fun h46 =>
    gd ((hK h46 t0).1 = 12) <|
    lt (α := Hp) (pR h46 793 t0 q45) fun h49 =>
    lt (α := Nat) (hZ h49) fun q50 =>
    lt (α := Hp) (nw h49 21 289) fun h51 =>
    gd ((hK h51 t0).1 = 12) <|
    lt (α := Hp) (pR h51 795 t0 q50) fun h54 =>
    lt (α := Nat) (hZ h54) fun q55 =>
    lt (α := Hp) (nw h54 21 8) fun h56 =>
    gd ((hK h56 t0).1 = 12) <|
    lt (α := Hp) (pR h56 796 t0 q55) fun h59 =>
    lt (α := Nat) (hZ h59) fun q60 =>
    lt (α := Hp) (nw h59 21 8) fun h61 =>
    gd ((hK h61 t0).1 = 12) <|
    lt (α := Hp) (pR h61 797 t0 q60) fun h64 =>
    lt (α := Nat) (hZ h64) fun q65 =>
    lt (α := Hp) (nw h64 21 8) fun h66 =>
    gd ((hK h66 t0).1 = 12) <|
    lt (α := Hp) (pR h66 798 t0 q65) fun h69 =>
    lt (α := Nat) (hZ h69) fun q70 =>
    lt (α := Hp) (nw h69 21 6) fun h71 =>
    gd ((hK h71 t0).1 = 12) <|
    lt (α := Hp) (pR h71 801 t0 q70) fun h74 =>
    lt (α := Nat) (hZ h74) fun q75 =>
    lt (α := Hp) (nw h74 21 80) fun h76 =>
    gd ((hK h76 t0).1 = 12) <|
    lt (α := Hp) (pR h76 802 t0 q75) fun h79 =>
    lt (α := Nat) (hZ h79) fun q80 =>
    lt (α := Hp) (nw h79 21 80) fun h81 =>
    gd ((hK h81 t0).1 = 12) <|
    lt (α := Hp) (pR h81 803 t0 q80) fun h84 =>
    lt (α := Nat) (hZ h84) fun q85 =>
    lt (α := Hp) (nw h84 21 256) fun h86 =>
    gd ((hK h86 t0).1 = 12) <|
    lt (α := Hp) (pR h86 807 t0 q85) fun h89 =>
    lt (α := Nat) (hZ h89) fun q90 =>
    lt (α := Hp) (nw h89 21 8) fun h91 =>
    gd ((hK h91 t0).1 = 12) <|
    lt (α := Hp) (pR h91 808 t0 q90) fun h94 =>
    lt (α := Nat) (hZ h94) fun q95 =>
    lt (α := Hp) (nw h94 21 17) fun h96 =>
    gd ((hK h96 t0).1 = 12) <|
    lt (α := Hp) (pR h96 810 t0 q95) fun h99 =>
    lt (α := Nat) (hZ h99) fun q100 =>
    lt (α := Hp) (nw h99 21 17) fun h101 =>
    gd ((hK h101 t0).1 = 12) <|
    lt (α := Hp) (pR h101 811 t0 q100) fun h104 =>
    lt (α := Nat) (hZ h104) fun q105 =>
    lt (α := Hp) (nw h104 21 8) fun h106 =>
    gd ((hK h106 t0).1 = 12) <|
    lt (α := Hp) (pR h106 814 t0 q105) fun h109 =>
    lt (α := Nat) (hZ h109) fun q110 =>
    lt (α := Hp) (nw h109 21 8) fun h111 =>
    gd ((hK h111 t0).1 = 12) <|
    lt (α := Hp) (pR h111 815 t0 q110) fun h114 =>
    fX12_init_b200 t0 FU h114 22 4047 0

set_option maxHeartbeats 4000000 in
set_option maxRecDepth 100000 in
theorem wX12_init_b200 {D : va_G} {cy : Nat → ClassId} {B : Nat} {p : Program} {l : Launch} {e : Env} {s : State} {m : MethodId} {args : Array Value} {below : List Frame} {meth : Method} {c : Code} {t0 : Nat} {h' : Hp} (X : CXd D cy B p s m args c cX12_init RX12 2) (hr : meth.sig.returnType = (none : Option FieldType)) (hlk : meth.locks = false) (hnm : meth.name = "<init>") : ∀ (fu : Nat) (h : Hp) (k : Nat) (n : Nat) (v1 : Int), rg v1 → fX12_init_b200 t0 fu h k n v1 = some h' → AWd D cy B p l e { frames := 2, cells := 22, slots := 4047, locals := 80 } s m args below meth c 2 (MQr D cy B below none h' args s 22 4047) h k n 200 [(0, .ref t0), (1, vI v1)] [] := by
  intro fu
  induction fu with
  | zero => intro h k n v1 r_v1 hf; rw [fX12_init_b200.eq_1] at hf; cases hf
  | succ fu ih =>
    intro h k n v1 r_v1 hf
    rw [fX12_init_b200.eq_2] at hf
    refine aw_iload_n (pc := 200) X dX12_init_200 1 rfl ?_
    refine aw_iconst (pc := 201) X dX12_init_201 ?_
    refine aw_icmp_ge (pc := 202) (tgt := 218) X r_v1 (rg_lit rfl) dX12_init_202 (by decide) (fun z1 => ?_) (fun z1 => ?_)
    · have hf := it_f z1 hf
      obtain ⟨g2, hf⟩ := gd_some hf
      refine aw_widen g2.1 g2.2 ?_
      cases hf
      exact aw_vret (pc := 218) X hr hlk rfl rfl dX12_init_218
    · have hf := it_t z1 hf
      refine aw_aload_n (pc := 205) X dX12_init_205 0 rfl ?_
      obtain ⟨g3, hf⟩ := gd_some hf
      obtain ⟨q4, gq4, hf⟩ := nn_some hf
      refine aw_getR (pc := 206) X 12 5 773 iw_12 rfl (by decide) (by decide) g3 rfl kw_1492 rfl rfl gq4 dX12_init_206 ?_
      refine aw_iload_n (pc := 209) X dX12_init_209 1 rfl ?_
      refine aw_iconst (pc := 210) X dX12_init_210 ?_
      obtain ⟨g5, hf⟩ := gd_some hf
      obtain ⟨g6, hf⟩ := gd_some hf
      obtain ⟨h7, eh7, hf⟩ := lt_some hf
      have kkh7 := kp_A eh7
      refine aw_iast (pc := 211) X g5 r_v1 g6 eh7 dX12_init_211 ?_
      obtain ⟨x8, ex8, hf⟩ := lt_some hf
      have r_x8 : rg x8 := by rw [ex8]; exact w32_rg _
      refine aw_iinc (pc := 212) (lv' := [(1, vI x8), (0, .ref t0)]) X dX12_init_212 1 rfl (by decide) (by rw [ex8]; rfl) ?_
      refine aw_goto (pc := 215) (tgt := 200) X dX12_init_215 (by decide) ?_
      refine aw_sub [1, 0] rfl ?_
      exact ih _ _ _ _ r_x8 hf

set_option maxHeartbeats 4000000 in
set_option maxRecDepth 100000 in
theorem kX12_init {D : va_G} {cy : Nat → ClassId} {B : Nat} {l : Launch} {h : Hp} {t0 : Nat} {h' : Hp} (hf : fX12_init h t0 = some h') : CT D cy B l yX12_init cX12_init 2 (none : Option FieldType) 2 80 22 4047 [.ref t0] h none h' := by
  refine ct_intro (own := RX12) (by decide) rfl (Nat.le_of_ble_eq_true rfl) fun p e s m args below meth c X hr hlk hnm => ?_
  refine aw_lv (lv' := [(0, .ref t0)]) rfl ?_
  rw [fX12_init.eq_1] at hf
  refine aw_aload_n (pc := 0) X dX12_init_0 0 rfl ?_
  refine aw_objInit (pc := 1) X kw_1486 kw_165 kw_166 (Nat.le_of_ble_eq_true rfl) (Nat.le_of_ble_eq_true rfl) dX12_init_1 ?_
  refine aw_aload_n (pc := 4) X dX12_init_4 0 rfl ?_
  refine aw_lconst (pc := 5) (x := 1) X 1 dX12_init_5 rfl ?_
  obtain ⟨g1, hf⟩ := gd_some hf
  obtain ⟨h2, eh2, hf⟩ := lt_some hf
  have kkh2 := kp_J eh2
  refine aw_setJ (pc := 6) X 12 3 771 iw_12 tyX12 tyX12_ok nmX12 rfl (by decide) (by decide) rfl g1 kw_1490 rfl (Or.inl rfl) rfl (tyX12_ok 3 (by decide)) rfl eh2 dX12_init_6 ?_
  refine aw_aload_n (pc := 9) X dX12_init_9 0 rfl ?_
  refine aw_iconst (pc := 10) X dX12_init_10 ?_
  obtain ⟨q3, eq3, hf⟩ := lt_some hf
  obtain ⟨h4, eh4, hf⟩ := lt_some hf
  refine aw_newa (atype := .int) (pc := 11) X (kd := 21) 4 4 rfl rfl (by decide) (by decide) rfl kw_262 (rg_lit rfl) (by decide) (hdef21 _) (Nat.le_of_ble_eq_true rfl) (Nat.le_of_ble_eq_true rfl) (Nat.le_of_ble_eq_true rfl) eh4 dX12_init_11 ?_
  refine aw_topA eq3 ?_
  refine aw_kn (k' := 1) (n' := 4) rfl rfl ?_
  have g5 : (hK h4 q3).1 = 21 := by rw [eh4, eq3, nw_k]
  obtain ⟨g6, hf⟩ := gd_some hf
  obtain ⟨h7, eh7, hf⟩ := lt_some hf
  have kkh7 := kp_R eh7
  refine aw_setR (pc := 13) X 12 4 772 iw_12 tyX12 tyX12_ok nmX12 rfl (by decide) (by decide) rfl g6 kw_1491 rfl (Or.inr ⟨rfl, hnm, rfl⟩) rfl (tyX12_ok 4 (by decide)) rfl rfl rfl eh7 dX12_init_13 ?_
  refine aw_aload_n (pc := 16) X dX12_init_16 0 rfl ?_
  refine aw_iconst (pc := 17) X dX12_init_17 ?_
  obtain ⟨q8, eq8, hf⟩ := lt_some hf
  obtain ⟨h9, eh9, hf⟩ := lt_some hf
  refine aw_newa (atype := .int) (pc := 18) X (kd := 21) 4 4 rfl rfl (by decide) (by decide) rfl kw_262 (rg_lit rfl) (by decide) (hdef21 _) (Nat.le_of_ble_eq_true rfl) (Nat.le_of_ble_eq_true rfl) (Nat.le_of_ble_eq_true rfl) eh9 dX12_init_18 ?_
  refine aw_topA eq8 ?_
  refine aw_kn (k' := 2) (n' := 8) rfl rfl ?_
  have g10 : (hK h9 q8).1 = 21 := by rw [eh9, eq8, nw_k]
  obtain ⟨g11, hf⟩ := gd_some hf
  obtain ⟨h12, eh12, hf⟩ := lt_some hf
  have kkh12 := kp_R eh12
  refine aw_setR (pc := 20) X 12 5 773 iw_12 tyX12 tyX12_ok nmX12 rfl (by decide) (by decide) rfl g11 kw_1492 rfl (Or.inr ⟨rfl, hnm, rfl⟩) rfl (tyX12_ok 5 (by decide)) rfl rfl rfl eh12 dX12_init_20 ?_
  refine aw_aload_n (pc := 23) X dX12_init_23 0 rfl ?_
  refine aw_sipush (pc := 24) X dX12_init_24 rfl ?_
  obtain ⟨q13, eq13, hf⟩ := lt_some hf
  obtain ⟨h14, eh14, hf⟩ := lt_some hf
  refine aw_newa (atype := .long) (pc := 27) X (kd := 22) 240 8 rfl rfl (by decide) (by decide) rfl kw_187 (rg_lit rfl) (by decide) (hdef22 _) (Nat.le_of_ble_eq_true rfl) (Nat.le_of_ble_eq_true rfl) (Nat.le_of_ble_eq_true rfl) eh14 dX12_init_27 ?_
  refine aw_topA eq13 ?_
  refine aw_kn (k' := 3) (n' := 248) rfl rfl ?_
  have g15 : (hK h14 q13).1 = 22 := by rw [eh14, eq13, nw_k]
  obtain ⟨g16, hf⟩ := gd_some hf
  obtain ⟨h17, eh17, hf⟩ := lt_some hf
  have kkh17 := kp_R eh17
  refine aw_setR (pc := 29) X 12 6 774 iw_12 tyX12 tyX12_ok nmX12 rfl (by decide) (by decide) rfl g16 kw_1493 rfl (Or.inr ⟨rfl, hnm, rfl⟩) rfl (tyX12_ok 6 (by decide)) rfl rfl rfl eh17 dX12_init_29 ?_
  refine aw_aload_n (pc := 32) X dX12_init_32 0 rfl ?_
  refine aw_sipush (pc := 33) X dX12_init_33 rfl ?_
  obtain ⟨q18, eq18, hf⟩ := lt_some hf
  obtain ⟨h19, eh19, hf⟩ := lt_some hf
  refine aw_newa (atype := .byte) (pc := 36) X (kd := 20) 900 1 rfl rfl (by decide) (by decide) rfl kw_223 (rg_lit rfl) (by decide) (hdef20 _) (Nat.le_of_ble_eq_true rfl) (Nat.le_of_ble_eq_true rfl) (Nat.le_of_ble_eq_true rfl) eh19 dX12_init_36 ?_
  refine aw_topA eq18 ?_
  refine aw_kn (k' := 4) (n' := 1148) rfl rfl ?_
  have g20 : (hK h19 q18).1 = 20 := by rw [eh19, eq18, nw_k]
  obtain ⟨g21, hf⟩ := gd_some hf
  obtain ⟨h22, eh22, hf⟩ := lt_some hf
  have kkh22 := kp_R eh22
  refine aw_setR (pc := 38) X 12 7 775 iw_12 tyX12 tyX12_ok nmX12 rfl (by decide) (by decide) rfl g21 kw_1494 rfl (Or.inr ⟨rfl, hnm, rfl⟩) rfl (tyX12_ok 7 (by decide)) rfl rfl rfl eh22 dX12_init_38 ?_
  refine aw_aload_n (pc := 41) X dX12_init_41 0 rfl ?_
  refine aw_iconst (pc := 42) X dX12_init_42 ?_
  obtain ⟨h23, eh23, hf⟩ := lt_some hf
  have kkh23 := (kp_I eh23).trans kkh22
  refine aw_setI (pc := 43) X 12 10 778 iw_12 tyX12 tyX12_ok nmX12 rfl (by decide) (by decide) rfl (kc kkh22 g21) kw_1497 rfl (Or.inl rfl) rfl (tyX12_ok 10 (by decide)) rfl eh23 dX12_init_43 ?_
  refine aw_aload_n (pc := 46) X dX12_init_46 0 rfl ?_
  refine aw_iconst (pc := 47) X dX12_init_47 ?_
  obtain ⟨h24, eh24, hf⟩ := lt_some hf
  have kkh24 := (kp_I eh24).trans kkh23
  refine aw_setI (pc := 48) X 12 11 779 iw_12 tyX12 tyX12_ok nmX12 rfl (by decide) (by decide) rfl (kc kkh23 g21) kw_1498 rfl (Or.inl rfl) rfl (tyX12_ok 11 (by decide)) rfl eh24 dX12_init_48 ?_
  refine aw_aload_n (pc := 51) X dX12_init_51 0 rfl ?_
  refine aw_sipush (pc := 52) X dX12_init_52 rfl ?_
  obtain ⟨q25, eq25, hf⟩ := lt_some hf
  obtain ⟨h26, eh26, hf⟩ := lt_some hf
  refine aw_newa (atype := .int) (pc := 55) X (kd := 21) 1850 4 rfl rfl (by decide) (by decide) rfl kw_262 (rg_lit rfl) (by decide) (hdef21 _) (Nat.le_of_ble_eq_true rfl) (Nat.le_of_ble_eq_true rfl) (Nat.le_of_ble_eq_true rfl) eh26 dX12_init_55 ?_
  refine aw_topA eq25 ?_
  refine aw_kn (k' := 5) (n' := 2998) rfl rfl ?_
  have g27 : (hK h26 q25).1 = 21 := by rw [eh26, eq25, nw_k]
  obtain ⟨g28, hf⟩ := gd_some hf
  obtain ⟨h29, eh29, hf⟩ := lt_some hf
  have kkh29 := kp_R eh29
  refine aw_setR (pc := 57) X 12 20 788 iw_12 tyX12 tyX12_ok nmX12 rfl (by decide) (by decide) rfl g28 kw_1507 rfl (Or.inr ⟨rfl, hnm, rfl⟩) rfl (tyX12_ok 20 (by decide)) rfl rfl rfl eh29 dX12_init_57 ?_
  refine aw_aload_n (pc := 60) X dX12_init_60 0 rfl ?_
  refine aw_bipush (pc := 61) X dX12_init_61 rfl ?_
  obtain ⟨q30, eq30, hf⟩ := lt_some hf
  obtain ⟨h31, eh31, hf⟩ := lt_some hf
  refine aw_newa (atype := .long) (pc := 63) X (kd := 22) 16 8 rfl rfl (by decide) (by decide) rfl kw_187 (rg_lit rfl) (by decide) (hdef22 _) (Nat.le_of_ble_eq_true rfl) (Nat.le_of_ble_eq_true rfl) (Nat.le_of_ble_eq_true rfl) eh31 dX12_init_63 ?_
  refine aw_topA eq30 ?_
  refine aw_kn (k' := 6) (n' := 3014) rfl rfl ?_
  have g32 : (hK h31 q30).1 = 22 := by rw [eh31, eq30, nw_k]
  obtain ⟨g33, hf⟩ := gd_some hf
  obtain ⟨h34, eh34, hf⟩ := lt_some hf
  have kkh34 := kp_R eh34
  refine aw_setR (pc := 65) X 12 21 789 iw_12 tyX12 tyX12_ok nmX12 rfl (by decide) (by decide) rfl g33 kw_1508 rfl (Or.inr ⟨rfl, hnm, rfl⟩) rfl (tyX12_ok 21 (by decide)) rfl rfl rfl eh34 dX12_init_65 ?_
  refine aw_aload_n (pc := 68) X dX12_init_68 0 rfl ?_
  refine aw_bipush (pc := 69) X dX12_init_69 rfl ?_
  obtain ⟨q35, eq35, hf⟩ := lt_some hf
  obtain ⟨h36, eh36, hf⟩ := lt_some hf
  refine aw_newa (atype := .int) (pc := 71) X (kd := 21) 80 4 rfl rfl (by decide) (by decide) rfl kw_262 (rg_lit rfl) (by decide) (hdef21 _) (Nat.le_of_ble_eq_true rfl) (Nat.le_of_ble_eq_true rfl) (Nat.le_of_ble_eq_true rfl) eh36 dX12_init_71 ?_
  refine aw_topA eq35 ?_
  refine aw_kn (k' := 7) (n' := 3094) rfl rfl ?_
  have g37 : (hK h36 q35).1 = 21 := by rw [eh36, eq35, nw_k]
  obtain ⟨g38, hf⟩ := gd_some hf
  obtain ⟨h39, eh39, hf⟩ := lt_some hf
  have kkh39 := kp_R eh39
  refine aw_setR (pc := 73) X 12 23 791 iw_12 tyX12 tyX12_ok nmX12 rfl (by decide) (by decide) rfl g38 kw_1510 rfl (Or.inr ⟨rfl, hnm, rfl⟩) rfl (tyX12_ok 23 (by decide)) rfl rfl rfl eh39 dX12_init_73 ?_
  refine aw_aload_n (pc := 76) X dX12_init_76 0 rfl ?_
  refine aw_bipush (pc := 77) X dX12_init_77 rfl ?_
  obtain ⟨q40, eq40, hf⟩ := lt_some hf
  obtain ⟨h41, eh41, hf⟩ := lt_some hf
  refine aw_newa (atype := .int) (pc := 79) X (kd := 21) 80 4 rfl rfl (by decide) (by decide) rfl kw_262 (rg_lit rfl) (by decide) (hdef21 _) (Nat.le_of_ble_eq_true rfl) (Nat.le_of_ble_eq_true rfl) (Nat.le_of_ble_eq_true rfl) eh41 dX12_init_79 ?_
  refine aw_topA eq40 ?_
  refine aw_kn (k' := 8) (n' := 3174) rfl rfl ?_
  have g42 : (hK h41 q40).1 = 21 := by rw [eh41, eq40, nw_k]
  obtain ⟨g43, hf⟩ := gd_some hf
  obtain ⟨h44, eh44, hf⟩ := lt_some hf
  have kkh44 := kp_R eh44
  refine aw_setR (pc := 81) X 12 24 792 iw_12 tyX12 tyX12_ok nmX12 rfl (by decide) (by decide) rfl g43 kw_1511 rfl (Or.inr ⟨rfl, hnm, rfl⟩) rfl (tyX12_ok 24 (by decide)) rfl rfl rfl eh44 dX12_init_81 ?_
  refine aw_aload_n (pc := 84) X dX12_init_84 0 rfl ?_
  refine aw_bipush (pc := 85) X dX12_init_85 rfl ?_
  obtain ⟨q45, eq45, hf⟩ := lt_some hf
  obtain ⟨h46, eh46, hf⟩ := lt_some hf
  refine aw_newa (atype := .int) (pc := 87) X (kd := 21) 80 4 rfl rfl (by decide) (by decide) rfl kw_262 (rg_lit rfl) (by decide) (hdef21 _) (Nat.le_of_ble_eq_true rfl) (Nat.le_of_ble_eq_true rfl) (Nat.le_of_ble_eq_true rfl) eh46 dX12_init_87 ?_
  refine aw_topA eq45 ?_
  refine aw_kn (k' := 9) (n' := 3254) rfl rfl ?_
  have g47 : (hK h46 q45).1 = 21 := by rw [eh46, eq45, nw_k]
  obtain ⟨g48, hf⟩ := gd_some hf
  obtain ⟨h49, eh49, hf⟩ := lt_some hf
  have kkh49 := kp_R eh49
  refine aw_setR (pc := 89) X 12 25 793 iw_12 tyX12 tyX12_ok nmX12 rfl (by decide) (by decide) rfl g48 kw_1512 rfl (Or.inr ⟨rfl, hnm, rfl⟩) rfl (tyX12_ok 25 (by decide)) rfl rfl rfl eh49 dX12_init_89 ?_
  refine aw_aload_n (pc := 92) X dX12_init_92 0 rfl ?_
  refine aw_sipush (pc := 93) X dX12_init_93 rfl ?_
  obtain ⟨q50, eq50, hf⟩ := lt_some hf
  obtain ⟨h51, eh51, hf⟩ := lt_some hf
  refine aw_newa (atype := .int) (pc := 96) X (kd := 21) 289 4 rfl rfl (by decide) (by decide) rfl kw_262 (rg_lit rfl) (by decide) (hdef21 _) (Nat.le_of_ble_eq_true rfl) (Nat.le_of_ble_eq_true rfl) (Nat.le_of_ble_eq_true rfl) eh51 dX12_init_96 ?_
  refine aw_topA eq50 ?_
  refine aw_kn (k' := 10) (n' := 3543) rfl rfl ?_
  have g52 : (hK h51 q50).1 = 21 := by rw [eh51, eq50, nw_k]
  obtain ⟨g53, hf⟩ := gd_some hf
  obtain ⟨h54, eh54, hf⟩ := lt_some hf
  have kkh54 := kp_R eh54
  refine aw_setR (pc := 98) X 12 27 795 iw_12 tyX12 tyX12_ok nmX12 rfl (by decide) (by decide) rfl g53 kw_1514 rfl (Or.inr ⟨rfl, hnm, rfl⟩) rfl (tyX12_ok 27 (by decide)) rfl rfl rfl eh54 dX12_init_98 ?_
  refine aw_aload_n (pc := 101) X dX12_init_101 0 rfl ?_
  refine aw_bipush (pc := 102) X dX12_init_102 rfl ?_
  obtain ⟨q55, eq55, hf⟩ := lt_some hf
  obtain ⟨h56, eh56, hf⟩ := lt_some hf
  refine aw_newa (atype := .int) (pc := 104) X (kd := 21) 8 4 rfl rfl (by decide) (by decide) rfl kw_262 (rg_lit rfl) (by decide) (hdef21 _) (Nat.le_of_ble_eq_true rfl) (Nat.le_of_ble_eq_true rfl) (Nat.le_of_ble_eq_true rfl) eh56 dX12_init_104 ?_
  refine aw_topA eq55 ?_
  refine aw_kn (k' := 11) (n' := 3551) rfl rfl ?_
  have g57 : (hK h56 q55).1 = 21 := by rw [eh56, eq55, nw_k]
  obtain ⟨g58, hf⟩ := gd_some hf
  obtain ⟨h59, eh59, hf⟩ := lt_some hf
  have kkh59 := kp_R eh59
  refine aw_setR (pc := 106) X 12 28 796 iw_12 tyX12 tyX12_ok nmX12 rfl (by decide) (by decide) rfl g58 kw_1515 rfl (Or.inr ⟨rfl, hnm, rfl⟩) rfl (tyX12_ok 28 (by decide)) rfl rfl rfl eh59 dX12_init_106 ?_
  refine aw_aload_n (pc := 109) X dX12_init_109 0 rfl ?_
  refine aw_bipush (pc := 110) X dX12_init_110 rfl ?_
  obtain ⟨q60, eq60, hf⟩ := lt_some hf
  obtain ⟨h61, eh61, hf⟩ := lt_some hf
  refine aw_newa (atype := .int) (pc := 112) X (kd := 21) 8 4 rfl rfl (by decide) (by decide) rfl kw_262 (rg_lit rfl) (by decide) (hdef21 _) (Nat.le_of_ble_eq_true rfl) (Nat.le_of_ble_eq_true rfl) (Nat.le_of_ble_eq_true rfl) eh61 dX12_init_112 ?_
  refine aw_topA eq60 ?_
  refine aw_kn (k' := 12) (n' := 3559) rfl rfl ?_
  have g62 : (hK h61 q60).1 = 21 := by rw [eh61, eq60, nw_k]
  obtain ⟨g63, hf⟩ := gd_some hf
  obtain ⟨h64, eh64, hf⟩ := lt_some hf
  have kkh64 := kp_R eh64
  refine aw_setR (pc := 114) X 12 29 797 iw_12 tyX12 tyX12_ok nmX12 rfl (by decide) (by decide) rfl g63 kw_1516 rfl (Or.inr ⟨rfl, hnm, rfl⟩) rfl (tyX12_ok 29 (by decide)) rfl rfl rfl eh64 dX12_init_114 ?_
  refine aw_aload_n (pc := 117) X dX12_init_117 0 rfl ?_
  refine aw_bipush (pc := 118) X dX12_init_118 rfl ?_
  obtain ⟨q65, eq65, hf⟩ := lt_some hf
  obtain ⟨h66, eh66, hf⟩ := lt_some hf
  refine aw_newa (atype := .int) (pc := 120) X (kd := 21) 8 4 rfl rfl (by decide) (by decide) rfl kw_262 (rg_lit rfl) (by decide) (hdef21 _) (Nat.le_of_ble_eq_true rfl) (Nat.le_of_ble_eq_true rfl) (Nat.le_of_ble_eq_true rfl) eh66 dX12_init_120 ?_
  refine aw_topA eq65 ?_
  refine aw_kn (k' := 13) (n' := 3567) rfl rfl ?_
  have g67 : (hK h66 q65).1 = 21 := by rw [eh66, eq65, nw_k]
  obtain ⟨g68, hf⟩ := gd_some hf
  obtain ⟨h69, eh69, hf⟩ := lt_some hf
  have kkh69 := kp_R eh69
  refine aw_setR (pc := 122) X 12 30 798 iw_12 tyX12 tyX12_ok nmX12 rfl (by decide) (by decide) rfl g68 kw_1517 rfl (Or.inr ⟨rfl, hnm, rfl⟩) rfl (tyX12_ok 30 (by decide)) rfl rfl rfl eh69 dX12_init_122 ?_
  refine aw_aload_n (pc := 125) X dX12_init_125 0 rfl ?_
  refine aw_bipush (pc := 126) X dX12_init_126 rfl ?_
  obtain ⟨q70, eq70, hf⟩ := lt_some hf
  obtain ⟨h71, eh71, hf⟩ := lt_some hf
  refine aw_newa (atype := .int) (pc := 128) X (kd := 21) 6 4 rfl rfl (by decide) (by decide) rfl kw_262 (rg_lit rfl) (by decide) (hdef21 _) (Nat.le_of_ble_eq_true rfl) (Nat.le_of_ble_eq_true rfl) (Nat.le_of_ble_eq_true rfl) eh71 dX12_init_128 ?_
  refine aw_topA eq70 ?_
  refine aw_kn (k' := 14) (n' := 3573) rfl rfl ?_
  have g72 : (hK h71 q70).1 = 21 := by rw [eh71, eq70, nw_k]
  obtain ⟨g73, hf⟩ := gd_some hf
  obtain ⟨h74, eh74, hf⟩ := lt_some hf
  have kkh74 := kp_R eh74
  refine aw_setR (pc := 130) X 12 33 801 iw_12 tyX12 tyX12_ok nmX12 rfl (by decide) (by decide) rfl g73 kw_1520 rfl (Or.inr ⟨rfl, hnm, rfl⟩) rfl (tyX12_ok 33 (by decide)) rfl rfl rfl eh74 dX12_init_130 ?_
  refine aw_aload_n (pc := 133) X dX12_init_133 0 rfl ?_
  refine aw_bipush (pc := 134) X dX12_init_134 rfl ?_
  obtain ⟨q75, eq75, hf⟩ := lt_some hf
  obtain ⟨h76, eh76, hf⟩ := lt_some hf
  refine aw_newa (atype := .int) (pc := 136) X (kd := 21) 80 4 rfl rfl (by decide) (by decide) rfl kw_262 (rg_lit rfl) (by decide) (hdef21 _) (Nat.le_of_ble_eq_true rfl) (Nat.le_of_ble_eq_true rfl) (Nat.le_of_ble_eq_true rfl) eh76 dX12_init_136 ?_
  refine aw_topA eq75 ?_
  refine aw_kn (k' := 15) (n' := 3653) rfl rfl ?_
  have g77 : (hK h76 q75).1 = 21 := by rw [eh76, eq75, nw_k]
  obtain ⟨g78, hf⟩ := gd_some hf
  obtain ⟨h79, eh79, hf⟩ := lt_some hf
  have kkh79 := kp_R eh79
  refine aw_setR (pc := 138) X 12 34 802 iw_12 tyX12 tyX12_ok nmX12 rfl (by decide) (by decide) rfl g78 kw_1521 rfl (Or.inr ⟨rfl, hnm, rfl⟩) rfl (tyX12_ok 34 (by decide)) rfl rfl rfl eh79 dX12_init_138 ?_
  refine aw_aload_n (pc := 141) X dX12_init_141 0 rfl ?_
  refine aw_bipush (pc := 142) X dX12_init_142 rfl ?_
  obtain ⟨q80, eq80, hf⟩ := lt_some hf
  obtain ⟨h81, eh81, hf⟩ := lt_some hf
  refine aw_newa (atype := .int) (pc := 144) X (kd := 21) 80 4 rfl rfl (by decide) (by decide) rfl kw_262 (rg_lit rfl) (by decide) (hdef21 _) (Nat.le_of_ble_eq_true rfl) (Nat.le_of_ble_eq_true rfl) (Nat.le_of_ble_eq_true rfl) eh81 dX12_init_144 ?_
  refine aw_topA eq80 ?_
  refine aw_kn (k' := 16) (n' := 3733) rfl rfl ?_
  have g82 : (hK h81 q80).1 = 21 := by rw [eh81, eq80, nw_k]
  obtain ⟨g83, hf⟩ := gd_some hf
  obtain ⟨h84, eh84, hf⟩ := lt_some hf
  have kkh84 := kp_R eh84
  refine aw_setR (pc := 146) X 12 35 803 iw_12 tyX12 tyX12_ok nmX12 rfl (by decide) (by decide) rfl g83 kw_1522 rfl (Or.inr ⟨rfl, hnm, rfl⟩) rfl (tyX12_ok 35 (by decide)) rfl rfl rfl eh84 dX12_init_146 ?_
  refine aw_aload_n (pc := 149) X dX12_init_149 0 rfl ?_
  refine aw_sipush (pc := 150) X dX12_init_150 rfl ?_
  obtain ⟨q85, eq85, hf⟩ := lt_some hf
  obtain ⟨h86, eh86, hf⟩ := lt_some hf
  refine aw_newa (atype := .int) (pc := 153) X (kd := 21) 256 4 rfl rfl (by decide) (by decide) rfl kw_262 (rg_lit rfl) (by decide) (hdef21 _) (Nat.le_of_ble_eq_true rfl) (Nat.le_of_ble_eq_true rfl) (Nat.le_of_ble_eq_true rfl) eh86 dX12_init_153 ?_
  refine aw_topA eq85 ?_
  refine aw_kn (k' := 17) (n' := 3989) rfl rfl ?_
  have g87 : (hK h86 q85).1 = 21 := by rw [eh86, eq85, nw_k]
  obtain ⟨g88, hf⟩ := gd_some hf
  obtain ⟨h89, eh89, hf⟩ := lt_some hf
  have kkh89 := kp_R eh89
  refine aw_setR (pc := 155) X 12 39 807 iw_12 tyX12 tyX12_ok nmX12 rfl (by decide) (by decide) rfl g88 kw_1526 rfl (Or.inr ⟨rfl, hnm, rfl⟩) rfl (tyX12_ok 39 (by decide)) rfl rfl rfl eh89 dX12_init_155 ?_
  refine aw_aload_n (pc := 158) X dX12_init_158 0 rfl ?_
  refine aw_bipush (pc := 159) X dX12_init_159 rfl ?_
  obtain ⟨q90, eq90, hf⟩ := lt_some hf
  obtain ⟨h91, eh91, hf⟩ := lt_some hf
  refine aw_newa (atype := .int) (pc := 161) X (kd := 21) 8 4 rfl rfl (by decide) (by decide) rfl kw_262 (rg_lit rfl) (by decide) (hdef21 _) (Nat.le_of_ble_eq_true rfl) (Nat.le_of_ble_eq_true rfl) (Nat.le_of_ble_eq_true rfl) eh91 dX12_init_161 ?_
  refine aw_topA eq90 ?_
  refine aw_kn (k' := 18) (n' := 3997) rfl rfl ?_
  have g92 : (hK h91 q90).1 = 21 := by rw [eh91, eq90, nw_k]
  obtain ⟨g93, hf⟩ := gd_some hf
  obtain ⟨h94, eh94, hf⟩ := lt_some hf
  have kkh94 := kp_R eh94
  refine aw_setR (pc := 163) X 12 40 808 iw_12 tyX12 tyX12_ok nmX12 rfl (by decide) (by decide) rfl g93 kw_1527 rfl (Or.inr ⟨rfl, hnm, rfl⟩) rfl (tyX12_ok 40 (by decide)) rfl rfl rfl eh94 dX12_init_163 ?_
  refine aw_aload_n (pc := 166) X dX12_init_166 0 rfl ?_
  refine aw_bipush (pc := 167) X dX12_init_167 rfl ?_
  obtain ⟨q95, eq95, hf⟩ := lt_some hf
  obtain ⟨h96, eh96, hf⟩ := lt_some hf
  refine aw_newa (atype := .int) (pc := 169) X (kd := 21) 17 4 rfl rfl (by decide) (by decide) rfl kw_262 (rg_lit rfl) (by decide) (hdef21 _) (Nat.le_of_ble_eq_true rfl) (Nat.le_of_ble_eq_true rfl) (Nat.le_of_ble_eq_true rfl) eh96 dX12_init_169 ?_
  refine aw_topA eq95 ?_
  refine aw_kn (k' := 19) (n' := 4014) rfl rfl ?_
  have g97 : (hK h96 q95).1 = 21 := by rw [eh96, eq95, nw_k]
  obtain ⟨g98, hf⟩ := gd_some hf
  obtain ⟨h99, eh99, hf⟩ := lt_some hf
  have kkh99 := kp_R eh99
  refine aw_setR (pc := 171) X 12 42 810 iw_12 tyX12 tyX12_ok nmX12 rfl (by decide) (by decide) rfl g98 kw_1529 rfl (Or.inr ⟨rfl, hnm, rfl⟩) rfl (tyX12_ok 42 (by decide)) rfl rfl rfl eh99 dX12_init_171 ?_
  refine aw_aload_n (pc := 174) X dX12_init_174 0 rfl ?_
  refine aw_bipush (pc := 175) X dX12_init_175 rfl ?_
  obtain ⟨q100, eq100, hf⟩ := lt_some hf
  obtain ⟨h101, eh101, hf⟩ := lt_some hf
  refine aw_newa (atype := .int) (pc := 177) X (kd := 21) 17 4 rfl rfl (by decide) (by decide) rfl kw_262 (rg_lit rfl) (by decide) (hdef21 _) (Nat.le_of_ble_eq_true rfl) (Nat.le_of_ble_eq_true rfl) (Nat.le_of_ble_eq_true rfl) eh101 dX12_init_177 ?_
  refine aw_topA eq100 ?_
  refine aw_kn (k' := 20) (n' := 4031) rfl rfl ?_
  have g102 : (hK h101 q100).1 = 21 := by rw [eh101, eq100, nw_k]
  obtain ⟨g103, hf⟩ := gd_some hf
  obtain ⟨h104, eh104, hf⟩ := lt_some hf
  have kkh104 := kp_R eh104
  refine aw_setR (pc := 179) X 12 43 811 iw_12 tyX12 tyX12_ok nmX12 rfl (by decide) (by decide) rfl g103 kw_1530 rfl (Or.inr ⟨rfl, hnm, rfl⟩) rfl (tyX12_ok 43 (by decide)) rfl rfl rfl eh104 dX12_init_179 ?_
  refine aw_aload_n (pc := 182) X dX12_init_182 0 rfl ?_
  refine aw_bipush (pc := 183) X dX12_init_183 rfl ?_
  obtain ⟨q105, eq105, hf⟩ := lt_some hf
  obtain ⟨h106, eh106, hf⟩ := lt_some hf
  refine aw_newa (atype := .int) (pc := 185) X (kd := 21) 8 4 rfl rfl (by decide) (by decide) rfl kw_262 (rg_lit rfl) (by decide) (hdef21 _) (Nat.le_of_ble_eq_true rfl) (Nat.le_of_ble_eq_true rfl) (Nat.le_of_ble_eq_true rfl) eh106 dX12_init_185 ?_
  refine aw_topA eq105 ?_
  refine aw_kn (k' := 21) (n' := 4039) rfl rfl ?_
  have g107 : (hK h106 q105).1 = 21 := by rw [eh106, eq105, nw_k]
  obtain ⟨g108, hf⟩ := gd_some hf
  obtain ⟨h109, eh109, hf⟩ := lt_some hf
  have kkh109 := kp_R eh109
  refine aw_setR (pc := 187) X 12 46 814 iw_12 tyX12 tyX12_ok nmX12 rfl (by decide) (by decide) rfl g108 kw_1533 rfl (Or.inr ⟨rfl, hnm, rfl⟩) rfl (tyX12_ok 46 (by decide)) rfl rfl rfl eh109 dX12_init_187 ?_
  refine aw_aload_n (pc := 190) X dX12_init_190 0 rfl ?_
  refine aw_bipush (pc := 191) X dX12_init_191 rfl ?_
  obtain ⟨q110, eq110, hf⟩ := lt_some hf
  obtain ⟨h111, eh111, hf⟩ := lt_some hf
  refine aw_newa (atype := .int) (pc := 193) X (kd := 21) 8 4 rfl rfl (by decide) (by decide) rfl kw_262 (rg_lit rfl) (by decide) (hdef21 _) (Nat.le_of_ble_eq_true rfl) (Nat.le_of_ble_eq_true rfl) (Nat.le_of_ble_eq_true rfl) eh111 dX12_init_193 ?_
  refine aw_topA eq110 ?_
  refine aw_kn (k' := 22) (n' := 4047) rfl rfl ?_
  have g112 : (hK h111 q110).1 = 21 := by rw [eh111, eq110, nw_k]
  obtain ⟨g113, hf⟩ := gd_some hf
  obtain ⟨h114, eh114, hf⟩ := lt_some hf
  have kkh114 := kp_R eh114
  refine aw_setR (pc := 195) X 12 47 815 iw_12 tyX12 tyX12_ok nmX12 rfl (by decide) (by decide) rfl g113 kw_1534 rfl (Or.inr ⟨rfl, hnm, rfl⟩) rfl (tyX12_ok 47 (by decide)) rfl rfl rfl eh114 dX12_init_195 ?_
  refine aw_iconst (pc := 198) X dX12_init_198 ?_
  refine aw_istore_n (pc := 199) (lv' := [(1, vI 0), (0, .ref t0)]) X dX12_init_199 (by decide) rfl ?_
  refine aw_sub [1, 0] rfl ?_
  exact wX12_init_b200 X hr hlk hnm _ _ _ _ _ (rg_lit rfl) hf

