/-! QUERIES, ninth lot: fillFrom (written by wip/whole/g52.py) -/
/-- gone of any number behind d days -/
def gdS (c : Nat → Int) (j d : Int) : Int := if c (148 + j).toNat = 0 then 0 else d / c (148 + j).toNat
set_option maxHeartbeats 200000 in
theorem gdS_0 {c : Nat → Int} {j d : Int} (h : c (148 + j).toNat = 0) : gdS c j d = 0 := by unfold gdS; rw [if_pos h]
set_option maxHeartbeats 200000 in
theorem gdS_1 {c : Nat → Int} {j d : Int} (h : ¬ c (148 + j).toNat = 0) : gdS c j d = d / c (148 + j).toNat := by unfold gdS; rw [if_neg h]
set_option maxHeartbeats 200000 in
theorem gdS_bd {c : Nat → Int} {j d : Int} (w : WJ c j) (hd : 0 ≤ d) : 0 ≤ gdS c j d ∧ gdS c j d ≤ d := by
  by_cases q : c (148 + j).toNat = 0
  · rw [gdS_0 q]; omega
  · rw [gdS_1 q]; exact ediv_bd hd (by have := w.2.1; omega)
set_option maxHeartbeats 200000 in
theorem gone_gd {c : Nat → Int} {j t d : Int} (ht : 0 ≤ t) : goneS c j t d = min t (gdS c j d) := by
  by_cases q : c (148 + j).toNat = 0
  · rw [goneS_0 q, gdS_0 q]; omega
  · rw [goneS_1 q, gdS_1 q]
set_option maxHeartbeats 200000 in
theorem xGd {h : Hp} {a : Nat} {c : Nat → Int} {j d : Int} (k : (hK h a).1 = 0) (v : JV h a c j) (w : WJ c j) (hd : 0 ≤ d) (hd2 : d < 1000000) : fX0_goneAfter h a d = some (gdS c j d) := by
  by_cases q : c (148 + j).toNat = 0
  · rw [gdS_0 q]; exact xGon0 k v q
  · rw [gdS_1 q]; exact xGon1 k v w hd hd2 q
/-- FILLS from i of SOUND s: how many LETTERS are told, gone, left; where what is left begins -/
def fiT (c : Nat → Int) (a s : Int) (i : Nat) : Int := min (c (140 + a).toNat) (c (4 + s).toNat - (i : Int))
def fiG (c : Nat → Int) (a s d : Int) (i : Nat) : Int := min (fiT c a s i) (gdS c a d)
def fiN (c : Nat → Int) (a s d : Int) (i : Nat) : Int := fiT c a s i - fiG c a s d i
def fiP (c : Nat → Int) (a s d : Int) (i : Nat) : Int := (i : Int) + headS c a (fiG c a s d i)
def fiL (c : Nat → Int) (a s d : Int) (i : Nat) (x : Int) : Int := if 0 ≤ x ∧ x < fiN c a s d i then sL c s (fiP c a s d i + x) else 0
set_option maxHeartbeats 200000 in
theorem fiL_o {c : Nat → Int} {a s d : Int} {i : Nat} {x : Int} (h : x < 0 ∨ fiN c a s d i ≤ x) : fiL c a s d i x = 0 := by unfold fiL; rw [if_neg (by omega)]
set_option maxHeartbeats 200000 in
theorem fiL_1 {c : Nat → Int} {a s d : Int} {i : Nat} {x : Int} (h0 : 0 ≤ x) (h8 : x < fiN c a s d i) : fiL c a s d i x = sL c s (fiP c a s d i + x) := by unfold fiL; rw [if_pos ⟨h0, h8⟩]
set_option maxHeartbeats 200000 in
theorem fi_bd {c : Nat → Int} {a s d : Int} {i : Nat} (w : WJ c a) (ws : 0 ≤ c (4 + s).toNat ∧ c (4 + s).toNat ≤ 16) (hd : 0 ≤ d) (hi : (i : Int) < c (4 + s).toNat) :
    0 ≤ fiT c a s i ∧ fiT c a s i ≤ 12 ∧ 0 ≤ fiG c a s d i ∧ fiG c a s d i ≤ fiT c a s i ∧ 0 ≤ fiN c a s d i ∧ fiN c a s d i ≤ 12 ∧ (i : Int) ≤ fiP c a s d i ∧ fiP c a s d i + fiN c a s d i ≤ c (4 + s).toNat := by
  have h1 := w.1
  have g := gdS_bd w hd
  have t0 : 0 ≤ fiT c a s i ∧ fiT c a s i ≤ 12 ∧ fiT c a s i ≤ c (4 + s).toNat - (i : Int) := by unfold fiT; omega
  have g0 : 0 ≤ fiG c a s d i ∧ fiG c a s d i ≤ fiT c a s i := by unfold fiG; omega
  have hh := headS_bd (g := fiG c a s d i) w g0.1
  unfold fiP fiN
  omega
/-- how often a row STANDS in all sounds -/
def timA (c : Nat → Int) (n : Int) (L : Int → Int) (N : Nat) : Int := sm N (fun k => timesS n L (c (4 + (k : Int)).toNat) (sL c (k : Int)))
set_option maxHeartbeats 200000 in
theorem tim_bd {c : Nat → Int} (w : WF c) {n : Int} (L : Int → Int) {k : Nat} (hk : k < 8) : 0 ≤ timesS n L (c (4 + (k : Int)).toNat) (sL c (k : Int)) ∧ timesS n L (c (4 + (k : Int)).toNat) (sL c (k : Int)) ≤ 16 := by
  have ws := w.sl (s := (k : Int)) (by omega) (by omega)
  have b := timesS_bd n L (c (4 + (k : Int)).toNat) (sL c (k : Int))
  by_cases q : n ≤ 0
  · unfold timesS; rw [if_pos q]; omega
  · omega
set_option maxHeartbeats 200000 in
theorem timA_bd {c : Nat → Int} (w : WF c) {n : Int} (L : Int → Int) {N : Nat} (hN : N ≤ 8) : 0 ≤ timA c n L N ∧ timA c n L N ≤ 128 := by
  have := sm_bd (n := N) (f := fun k => timesS n L (c (4 + (k : Int)).toNat) (sL c (k : Int))) (a := 0) (b := 16) (fun k hk => tim_bd w L (by omega))
  unfold timA
  omega
set_option maxHeartbeats 200000 in
theorem timA_s {c : Nat → Int} {n : Int} {L : Int → Int} {N : Nat} : timA c n L (N + 1) = timA c n L N + timesS n L (c (4 + (N : Int)).toNat) (sL c (N : Int)) := rfl
set_option maxHeartbeats 200000 in
theorem xTimA {h : Hp} {S a : Nat} {c : Nat → Int} {n : Int} {L : Int → Int} (v : SV h S c) (w : WF c) (r : RV h a n L) : fX7_timesInAll h S a = some (timA c n L (c 1).toNat) := by
  have hj := w.ns
  have kS : (hK h S).1 = 7 := by rw [v.1]
  have v6 : gI h 450 S = c 1 := v.2.2.2.2.2.1
  unfold fX7_timesInAll
  have := fg (S := Int) (fun fu v t => fX7_timesInAll_b4 h S a fu t v) some (c 1).toNat (fun i => timA c n L i) (by omega) ?_ ?_ 0 (by omega)
  · exact this
  · intro fu i hi
    have e5 : WE ((i : Int) + 1) := we (by omega) (by omega)
    have b := timA_bd w (n := n) L (N := i + 1) (by omega)
    obtain ⟨t1, t2, t3, t4, t5, t6, t7⟩ := v.snd w (s := (i : Int)) (by omega) (by omega)
    show fX7_timesInAll_b4 h S a (fu + 1) (timA c n L i) (i : Int) = fX7_timesInAll_b4 h S a fu (timA c n L (i + 1)) _
    rw [timA_s] at b ⊢
    rw [fX7_timesInAll_b4.eq_2, v6]
    refine gdg kS (iteT (by omega) (nng t2 (gdg t3 (gdg t4 (nng t5 (gdg r.k (bdg (xTim r t6.v) ?_)))))))
    rw [lt_d, lt_d, e5.e, w32_id (by omega) (by omega)]
  · intro fu
    show fX7_timesInAll_b4 h S a (fu + 1) _ ((c 1).toNat : Int) = _
    rw [fX7_timesInAll_b4.eq_2, v6]
    exact gdg kS (iteF (by omega) rfl)
def fiW (c : Nat → Int) (a s d : Int) (i : Nat) : Int := timA c (fiN c a s d i) (fiL c a s d i) (c 1).toNat
def fiB (c : Nat → Int) (a s d : Int) (i : Nat) : Int := lsF (fun i => decide (0 < fiN c a s d i)) (fiW c a s d) i
set_option maxHeartbeats 200000 in
/-- BESTFILLING, in the class -/
theorem xFill {h : Hp} {X S : Nat} {c : Nat → Int} {a s d : Int} (H : CX h X c) (f1 : gR h 717 X = some S) (qa : okJ c a) (qs : okS c s) (hd : 0 ≤ d) (hd2 : d ≤ 999) :
    ∃ t : Hp, (QX X h t ∧ CX t X c) ∧ fX11_bestFilling h X (S + 5 + 3 * a.toNat) (S + 3 + 3 * s.toNat) d = some (fiB c a s d (c (4 + s).toNat).toNat, t) := by
  have w := H.wf
  have hj := w.ns
  have a8 := nj_lt w qa
  have s8 := ns_lt w qs
  have wj := w.wj qa.1 a8
  have ws := w.sl qs.1 s8
  have gb := gdS_bd wj hd
  have sx : ¬ sc X X := by unfold sc; omega
  have same : ∀ t, QX X h t → CX t X c → SV t S c := fun t p q => by
    obtain ⟨S', u1, u2, u3, -⟩ := q.shop
    have e : some S' = some S := by rw [← u1, ← f1]; exact p.r sx
    cases e
    exact u3
  have so : SO X S := by
    obtain ⟨S', u1, u2, u3, u4, u5, u6⟩ := H.shop
    have e : some S' = some S := by rw [← u1, ← f1]
    cases e
    exact u6
  obtain ⟨j1, j2, j3, j4, j5, j6, j7, j8⟩ := (same h (QR.rf h) H).jar w qa.1 qa.2
  unfold fX11_bestFilling
  rw [xGd j6 j7 wj hd (by omega)]
  have key := fk (S := Hp × Int × Int) (T := Hp) (fun fu v s' => fX11_bestFilling_b18 X (S + 5 + 3 * a.toNat) (S + 3 + 3 * s.toNat) d fu s'.1 (gdS c a d) s'.2.1 s'.2.2 v) (fun t => some (fiB c a s d (c (4 + s).toNat).toNat, t)) (c (4 + s).toNat).toNat
    (fun i t => QX X h t.1 ∧ CX t.1 X c ∧ t.2.1 = fiB c a s d i ∧ t.2.2 = (if fiB c a s d i < 0 then 1000000 else fiW c a s d (fiB c a s d i).toNat)) (fun t => QX X h t ∧ CX t X c) 0 (h, -1, 1000000) (by omega) ⟨QR.rf h, H, rfl, rfl⟩ (by omega)
    (fun fu i t hi hI => by
      obtain ⟨h1, b, m⟩ := t
      obtain ⟨p1, p2, p3, p4⟩ := hI
      have p1 : QX X h h1 := p1
      have p2 : CX h1 X c := p2
      have p3 : b = fiB c a s d i := p3
      have p4 : m = (if fiB c a s d i < 0 then 1000000 else fiW c a s d (fiB c a s d i).toNat) := p4
      have e5 : WE ((i : Int) + 1) := we (by omega) (by omega)
      have sv := same h1 p1 p2
      obtain ⟨j1, j2, j3, j4, j5, j6, j7, j8⟩ := sv.jar w qa.1 qa.2
      obtain ⟨t1, t2, t3, t4, t5, t6, t7⟩ := sv.snd w qs.1 qs.2
      have fb := fi_bd (a := a) (s := s) (d := d) (i := i) wj ws hd (by omega)
      have eT : min (c (140 + a).toNat) (c (4 + s).toNat - (i : Int)) = fiT c a s i := rfl
      have eu : fiB c a s d (i + 1) = if (decide (0 < fiN c a s d i) && (decide (fiB c a s d i < 0) || decide (fiW c a s d i < fiW c a s d (fiB c a s d i).toNat))) = true then (i : Int) else fiB c a s d i := rfl
      left
      have z0 : gI h1 0 (S + 5 + 3 * a.toNat) = c (140 + a).toNat := j7.1
      have tz : gI h1 386 (S + 3 + 3 * s.toNat) = c (4 + s).toNat := t6.2.1
      have x4 : w32 (c (4 + s).toNat - (i : Int)) = c (4 + s).toNat - (i : Int) := w32_id (by omega) (by omega)
      have x5 : w32 (fiT c a s i - gdS c a d) = fiT c a s i - gdS c a d := w32_id (by omega) (by omega)
      have sv8 := sv.2.2.2.2.2.2.2.1 s qs.1 s8
      have eN : fiN c a s d i = fiT c a s i - min (fiT c a s i) (gdS c a d) := rfl
      by_cases q : 0 < fiN c a s d i
      · have eG : fiG c a s d i = gdS c a d := by unfold fiG; omega
        have eN2 : fiT c a s i - gdS c a d = fiN c a s d i := by omega
        have hh := headS_bd (g := gdS c a d) wj gb.1
        have eP : (i : Int) + headS c a (gdS c a d) = fiP c a s d i := by unfold fiP; rw [eG]
        have k97 : (hK h1 (X + 97)).1 = 6 := by rw [p2.1.k97]
        have kq : (hK h1 (S + 4 + 3 * s.toNat)).1 = 21 := by rw [sv8.2.2.1]
        have kn : ((hK h1 (S + 4 + 3 * s.toNat)).2 : Int) = 16 := by rw [sv8.2.2.1]; rfl
        have on := on_show (W := fun b => b = X + 97) h1 (q := S + 4 + 3 * s.toNat) (st := fiP c a s d i) (n := fiN c a s d i) (a := X + 97) rfl
        have rv := rva_show (L := fiL c a s d i) k97 kq kn (st := fiP c a s d i) (n := fiN c a s d i) (by omega) (by omega) (by omega) (by omega) (by omega) (fun k hk => fiL_o hk) (fun k k0 k8 => by
          have e9 := t6.2.2.2.2.2.2.2.2.2.2 (fiP c a s d i + k) (by omega) (by omega)
          rw [sv8.2.2.2, Int.zero_add] at e9
          rw [e9, fiL_1 k0 k8])
        have xs := xShow (st := fiP c a s d i) (n := fiN c a s d i) k97 kq kn (by omega) (by omega) (by omega) (by omega)
        generalize pI (pI (pR h1 384 (X + 97) (S + 4 + 3 * s.toNat)) 385 (X + 97) (fiP c a s d i)) 386 (X + 97) (fiN c a s d i) = h2 at on rv xs
        have qo : QX X h1 h2 := q_on on (fun b hb => by rw [hb]; unfold sc; omega)
        have c2 : CX h2 X c := p2.q qo po_X
        have sv2 := same h2 (p1.tr qo) c2
        have g717 : gR h2 717 X = some S := by rw [← f1]; exact (p1.tr qo).r sx
        have g710 : gR h2 710 X = some (X + 97) := c2.1.r710
        have xt := xTimA sv2 w rv.v
        have xt : fX7_timesInAll h2 S (X + 97) = some (fiW c a s d i) := xt
        have k2 : (hK h2 S).1 = 7 := by rw [sv2.1]
        have wb := timA_bd w (n := fiN c a s d i) (fiL c a s d i) (N := (c 1).toNat) (by omega)
        have wb : 0 ≤ fiW c a s d i ∧ fiW c a s d i ≤ 128 := wb
        refine ⟨(h2, fiB c a s d (i + 1), if fiB c a s d (i + 1) < 0 then 1000000 else fiW c a s d (fiB c a s d (i + 1)).toNat), ⟨p1.tr qo, c2, rfl, rfl⟩, ?_⟩
        show fX11_bestFilling_b18 X (S + 5 + 3 * a.toNat) (S + 3 + 3 * s.toNat) d (fu + 1) h1 (gdS c a d) b m (i : Int) = fX11_bestFilling_b18 X (S + 5 + 3 * a.toNat) (S + 3 + 3 * s.toNat) d fu h2 (gdS c a d) (fiB c a s d (i + 1)) (if fiB c a s d (i + 1) < 0 then 1000000 else fiW c a s d (fiB c a s d (i + 1)).toNat) ((i : Int) + 1)
        rw [fX11_bestFilling_b18.eq_2, z0, tz, x4, eT, x5, eN2, sv8.2.2.2, Int.zero_add, p3, p4]
        refine gdg t6.1 (iteT (by omega) (gdg j6 ?_))
        rw [lt_d]
        refine iteT q (gdg p2.k (nng p2.1.r710 (nng t6.2.2.2.2.2.1 (bdg (xHea j6 j7 gb.1 (by omega)) (gdg k97 ?_)))))
        rw [w32_id (x := (i : Int)) (by omega) (by omega), w32_id (x := (i : Int) + headS c a (gdS c a d)) (by omega) (by omega), eP]
        refine bdg xs (gdg c2.k (nng g717 (nng g710 (gdg k2 (bdg xt ?_)))))
        by_cases z : fiB c a s d i < 0
        · have e : fiB c a s d (i + 1) = (i : Int) := by rw [eu, if_pos]; simp [q, z]
          rw [if_pos z, e]
          refine iteT (by omega) ?_
          rw [fX11_bestFilling_b106, lt_d, e5.e, if_neg (by omega)]
          rfl
        · rw [if_neg z]
          by_cases z2 : fiW c a s d i < fiW c a s d (fiB c a s d i).toNat
          · have e : fiB c a s d (i + 1) = (i : Int) := by rw [eu, if_pos]; simp [q, z2]
            rw [e]
            refine iteT z2 ?_
            rw [fX11_bestFilling_b106, lt_d, e5.e, if_neg (by omega)]
            rfl
          · have e : fiB c a s d (i + 1) = fiB c a s d i := by rw [eu, if_neg]; simp [z, z2]
            rw [e]
            refine iteF z2 ?_
            rw [fX11_bestFilling_b106, lt_d, e5.e, if_neg z]
      · have e : fiB c a s d (i + 1) = fiB c a s d i := by rw [eu, if_neg]; simp [q]
        refine ⟨(h1, fiB c a s d (i + 1), if fiB c a s d (i + 1) < 0 then 1000000 else fiW c a s d (fiB c a s d (i + 1)).toNat), ⟨p1, p2, rfl, rfl⟩, ?_⟩
        show fX11_bestFilling_b18 X (S + 5 + 3 * a.toNat) (S + 3 + 3 * s.toNat) d (fu + 1) h1 (gdS c a d) b m (i : Int) = fX11_bestFilling_b18 X (S + 5 + 3 * a.toNat) (S + 3 + 3 * s.toNat) d fu h1 (gdS c a d) (fiB c a s d (i + 1)) (if fiB c a s d (i + 1) < 0 then 1000000 else fiW c a s d (fiB c a s d (i + 1)).toNat) ((i : Int) + 1)
        rw [fX11_bestFilling_b18.eq_2, z0, tz, x4, eT, x5, p3, p4, e]
        refine gdg t6.1 (iteT (by omega) (gdg j6 ?_))
        rw [lt_d]
        refine iteF (by omega) ?_
        rw [fX11_bestFilling_b106, lt_d, e5.e])
    (fun fu t hI => by
      obtain ⟨h1, b, m⟩ := t
      obtain ⟨p1, p2, p3, p4⟩ := hI
      have p1 : QX X h h1 := p1
      have p2 : CX h1 X c := p2
      have p3 : b = fiB c a s d (c (4 + s).toNat).toNat := p3
      obtain ⟨t1, t2, t3, t4, t5, t6, t7⟩ := (same h1 p1 p2).snd w qs.1 qs.2
      have tz : gI h1 386 (S + 3 + 3 * s.toNat) = c (4 + s).toNat := t6.2.1
      refine ⟨h1, ⟨p1, p2⟩, ?_⟩
      show fX11_bestFilling_b18 X (S + 5 + 3 * a.toNat) (S + 3 + 3 * s.toNat) d (fu + 1) h1 (gdS c a d) b m ((c (4 + s).toNat).toNat : Int) = _
      rw [fX11_bestFilling_b18.eq_2, tz, p3]
      exact gdg t6.1 (iteF (by omega) rfl))
  obtain ⟨t, u1, u2⟩ := key
  exact ⟨t, u1, gdg j6 u2⟩

set_option maxHeartbeats 200000 in
/-- does it STAND at place p of sound k -/
theorem rFs {h : Hp} {M i : Nat} {c : Nat → Int} {a s d b m price k p : Int} (ms : MS h M) (hc : gA h (M + 5) = c) (w : WF c) (s0 : 0 ≤ s) (s8 : s < 8) (k0 : 0 ≤ k) (k8 : k < 8) (p0 : 0 ≤ p) (pr : 0 ≤ price ∧ price ≤ 1000)
    (hn : 0 ≤ fiN c a s d i ∧ fiN c a s d i ≤ 12) (hp : 0 ≤ fiP c a s d i ∧ fiP c a s d i + fiN c a s d i ≤ c (4 + s).toNat) (hg : -1000 ≤ fiG c a s d i ∧ fiG c a s d i ≤ 1000 ∧ fiT c a s i ≤ 1000 ∧ -1000 ≤ fiT c a s i) (hk : p + fiN c a s d i ≤ c (4 + k).toNat)
    (k59 : Hp → Int → Int → Int → Option (Int × Hp)) (k126 : Hp → Int → Int → Int → Int → Int → Int → Int → Int → Option (Int × Hp)) (k147 : Hp → Int → Int → Int → Int → Int → Int → Int → Int → Int → Option (Int × Hp)) :
    fX12_fillFrom_b173 M a s d k59 k126 k147 FU h b m (i : Int) (fiT c a s i) (fiG c a s d i) (fiP c a s d i) price k p 1 0 = k147 h b m (i : Int) (fiT c a s i) (fiG c a s d i) (fiP c a s d i) (price + (if stB (fiN c a s d i) (fiL c a s d i) (sL c k) p then 1 else 0)) k (p + 1) := by
  have ws := w.sl s0 s8
  have wk := w.sl k0 k8
  have en : w32 (fiT c a s i - fiG c a s d i) = fiN c a s d i := w32_id (by omega) (by omega)
  have e1 : WE (p + 1) := we (by omega) (by omega)
  have key := flag (fun fu v f => fX12_fillFrom_b173 M a s d k59 k126 k147 fu h b m (i : Int) (fiT c a s i) (fiG c a s d i) (fiP c a s d i) price k p f v) (fun f => k147 h b m (i : Int) (fiT c a s i) (fiG c a s d i) (fiP c a s d i) (w32 (price + (if f = 0 then 0 else 1))) k (p + 1)) (fiN c a s d i).toNat (fun x => fiL c a s d i (x : Int) == sL c k (p + (x : Int))) (by omega)
    (fun fu x hx => by
      have e5 : WE ((x : Int) + 1) := we (by omega) (by omega)
      have e6 : WE (fiP c a s d i + (x : Int)) := we (by omega) (by omega)
      have e7 : WE (p + (x : Int)) := we (by omega) (by omega)
      have eL := fiL_1 (c := c) (a := a) (s := s) (d := d) (i := i) (x := (x : Int)) (by omega) (by omega)
      show fX12_fillFrom_b173 M a s d k59 k126 k147 (fu + 1) h b m (i : Int) (fiT c a s i) (fiG c a s d i) (fiP c a s d i) price k p 1 (x : Int) = fX12_fillFrom_b173 M a s d k59 k126 k147 fu h b m (i : Int) (fiT c a s i) (fiG c a s d i) (fiP c a s d i) price k p (if (fiL c a s d i (x : Int) == sL c k (p + (x : Int))) = true then 1 else 0) ((x : Int) + 1)
      rw [fX12_fillFrom_b173.eq_2, en, e6.e, e7.e]
      refine iteT (by omega) (iteF (by omega) (gdg ms.k (nng ms.r788 (gdg ms.k5 ?_))))
      rw [hc]
      refine bdg (rSnd s0 s8 (by omega) (by omega) (by omega)) (gdg ms.k5 (bdg (rSnd k0 k8 (by omega) (by omega) (by omega)) ?_))
      rw [lt_d, lt_d, e5.e, ← eL, eqb_ite])
    (fun fu x hx => by
      show fX12_fillFrom_b173 M a s d k59 k126 k147 (fu + 1) h b m (i : Int) (fiT c a s i) (fiG c a s d i) (fiP c a s d i) price k p 0 (x : Int) = _
      rw [fX12_fillFrom_b173.eq_2, en, fX12_fillFrom_b225, lt_d, lt_d, e1.e]
      by_cases q : (x : Int) < fiN c a s d i
      · exact iteT q (iteT rfl rfl)
      · exact iteF q rfl)
    (fun fu => by
      show fX12_fillFrom_b173 M a s d k59 k126 k147 (fu + 1) h b m (i : Int) (fiT c a s i) (fiG c a s d i) (fiP c a s d i) price k p 1 ((fiN c a s d i).toNat : Int) = _
      rw [fX12_fillFrom_b173.eq_2, en, fX12_fillFrom_b225, lt_d, lt_d, e1.e]
      exact iteF (by omega) rfl)
  have key : fX12_fillFrom_b173 M a s d k59 k126 k147 FU h b m (i : Int) (fiT c a s i) (fiG c a s d i) (fiP c a s d i) price k p 1 0 = k147 h b m (i : Int) (fiT c a s i) (fiG c a s d i) (fiP c a s d i) (w32 (price + (if (if stB (fiN c a s d i) (fiL c a s d i) (sL c k) p = true then (1 : Int) else 0) = 0 then 0 else 1))) k (p + 1) := key
  rw [key]
  by_cases q : stB (fiN c a s d i) (fiL c a s d i) (sL c k) p = true
  · rw [if_pos q, if_neg (by omega), w32_id (by omega) (by omega)]
  · rw [if_neg q, if_pos rfl, w32_id (by omega) (by omega)]
set_option maxHeartbeats 200000 in
/-- all places of sound k -/
theorem rFp {h : Hp} {M i k : Nat} {c : Nat → Int} {a s d b m price : Int} (ms : MS h M) (hc : gA h (M + 5) = c) (w : WF c) (s0 : 0 ≤ s) (s8 : s < 8) (k8 : k < 8) (pr : 0 ≤ price ∧ price ≤ 900)
    (hn : 0 < fiN c a s d i ∧ fiN c a s d i ≤ 12) (hp : 0 ≤ fiP c a s d i ∧ fiP c a s d i + fiN c a s d i ≤ c (4 + s).toNat) (hg : 0 ≤ fiG c a s d i ∧ fiG c a s d i ≤ 12 ∧ fiT c a s i ≤ 12 ∧ 0 ≤ fiT c a s i)
    (k59 : Hp → Int → Int → Int → Option (Int × Hp)) (k126 : Hp → Int → Int → Int → Int → Int → Int → Int → Int → Option (Int × Hp)) :
    fX12_fillFrom_b147 M a s d k59 k126 FU h b m (i : Int) (fiT c a s i) (fiG c a s d i) (fiP c a s d i) price (k : Int) 0 = k126 h b m (i : Int) (fiT c a s i) (fiG c a s d i) (fiP c a s d i) (price + timesS (fiN c a s d i) (fiL c a s d i) (c (4 + (k : Int)).toNat) (sL c (k : Int))) ((k : Int) + 1) := by
  have ws := w.sl s0 s8
  have wk := w.sl (s := (k : Int)) (by omega) (by omega)
  have ek : WE (4 + (k : Int)) := we (by omega) (by omega)
  have ek2 : WE ((k : Int) + 1) := we (by omega) (by omega)
  have en : fiN c a s d i = fiT c a s i - fiG c a s d i := rfl
  unfold timesS
  rw [if_neg (show ¬ fiN c a s d i ≤ 0 by omega)]
  have key := fg (S := Int) (fun fu v t => fX12_fillFrom_b147 M a s d k59 k126 fu h b m (i : Int) (fiT c a s i) (fiG c a s d i) (fiP c a s d i) t (k : Int) v) (fun t => k126 h b m (i : Int) (fiT c a s i) (fiG c a s d i) (fiP c a s d i) t ((k : Int) + 1)) (c (4 + (k : Int)).toNat - fiN c a s d i + 1).toNat (fun q => price + sm q (fun p => if stB (fiN c a s d i) (fiL c a s d i) (sL c (k : Int)) (p : Int) then 1 else 0)) (by omega)
    (fun fu q hq => by
      have bd := sm_bd (n := q) (f := fun p => if stB (fiN c a s d i) (fiL c a s d i) (sL c (k : Int)) (p : Int) then 1 else 0) (a := 0) (b := 1) (fun k' _ => by
        show 0 ≤ (if stB (fiN c a s d i) (fiL c a s d i) (sL c (k : Int)) (k' : Int) then (1 : Int) else 0) ∧ (if stB (fiN c a s d i) (fiL c a s d i) (sL c (k : Int)) (k' : Int) then (1 : Int) else 0) ≤ 1
        split <;> omega)
      have eq1 : WE ((q : Int) + fiT c a s i) := we (by omega) (by omega)
      have eq2 : WE ((q : Int) + fiT c a s i - fiG c a s d i) := we (by omega) (by omega)
      have es : sm (q + 1) (fun p => if stB (fiN c a s d i) (fiL c a s d i) (sL c (k : Int)) (p : Int) then (1 : Int) else 0) = sm q (fun p => if stB (fiN c a s d i) (fiL c a s d i) (sL c (k : Int)) (p : Int) then (1 : Int) else 0) + (if stB (fiN c a s d i) (fiL c a s d i) (sL c (k : Int)) (q : Int) then 1 else 0) := rfl
      show fX12_fillFrom_b147 M a s d k59 k126 (fu + 1) h b m (i : Int) (fiT c a s i) (fiG c a s d i) (fiP c a s d i) (price + sm q (fun p => if stB (fiN c a s d i) (fiL c a s d i) (sL c (k : Int)) (p : Int) then 1 else 0)) (k : Int) (q : Int) = fX12_fillFrom_b147 M a s d k59 k126 fu h b m (i : Int) (fiT c a s i) (fiG c a s d i) (fiP c a s d i) (price + sm (q + 1) (fun p => if stB (fiN c a s d i) (fiL c a s d i) (sL c (k : Int)) (p : Int) then 1 else 0)) (k : Int) ((q : Int) + 1)
      rw [es]
      generalize sm q (fun p => if stB (fiN c a s d i) (fiL c a s d i) (sL c (k : Int)) (p : Int) then (1 : Int) else 0) = Z at bd ⊢
      rw [fX12_fillFrom_b147.eq_2, ek.e, eq1.e, eq2.e]
      refine gdg ms.k (nng ms.r788 (gdg (by rw [ms.k5]) (gdg (by rw [ms.k5]; show 0 ≤ _ ∧ _ < (1850 : Int); omega) ?_)))
      rw [hc]
      refine iteT (by omega) ?_
      rw [rFs ms hc w s0 s8 (by omega) (by omega) (by omega) (by omega) (by omega) (by omega) (by omega) (by omega) k59 k126 (fX12_fillFrom_b147 M a s d k59 k126 fu), Int.add_assoc])
    (fun fu => by
      have eq1 : WE ((((c (4 + (k : Int)).toNat - fiN c a s d i + 1).toNat : Nat) : Int) + fiT c a s i) := we (by omega) (by omega)
      have eq2 : WE ((((c (4 + (k : Int)).toNat - fiN c a s d i + 1).toNat : Nat) : Int) + fiT c a s i - fiG c a s d i) := we (by omega) (by omega)
      show fX12_fillFrom_b147 M a s d k59 k126 (fu + 1) h b m (i : Int) (fiT c a s i) (fiG c a s d i) (fiP c a s d i) _ (k : Int) ((c (4 + (k : Int)).toNat - fiN c a s d i + 1).toNat : Int) = _
      rw [fX12_fillFrom_b147.eq_2, ek.e, eq1.e, eq2.e]
      refine gdg ms.k (nng ms.r788 (gdg (by rw [ms.k5]) (gdg (by rw [ms.k5]; show 0 ≤ _ ∧ _ < (1850 : Int); omega) ?_)))
      rw [hc]
      refine iteF (by omega) ?_
      rw [lt_d, ek2.e]) 0 (by omega)
  have e0 : price + sm 0 (fun p => if stB (fiN c a s d i) (fiL c a s d i) (sL c (k : Int)) (p : Int) then (1 : Int) else 0) = price := Int.add_zero _
  have key : fX12_fillFrom_b147 M a s d k59 k126 FU h b m (i : Int) (fiT c a s i) (fiG c a s d i) (fiP c a s d i) (price + sm 0 (fun p => if stB (fiN c a s d i) (fiL c a s d i) (sL c (k : Int)) (p : Int) then (1 : Int) else 0)) (k : Int) 0 = _ := key
  rw [e0] at key
  exact key
set_option maxHeartbeats 200000 in
/-- all sounds -/
theorem rFk {h : Hp} {M i : Nat} {c : Nat → Int} {a s d b m : Int} (ms : MS h M) (hc : gA h (M + 5) = c) (w : WF c) (s0 : 0 ≤ s) (s8 : s < 8)
    (hn : 0 < fiN c a s d i ∧ fiN c a s d i ≤ 12) (hp : 0 ≤ fiP c a s d i ∧ fiP c a s d i + fiN c a s d i ≤ c (4 + s).toNat) (hg : 0 ≤ fiG c a s d i ∧ fiG c a s d i ≤ 12 ∧ fiT c a s i ≤ 12 ∧ 0 ≤ fiT c a s i)
    (k59 : Hp → Int → Int → Int → Option (Int × Hp)) :
    fX12_fillFrom_b126 M a s d k59 FU h b m (i : Int) (fiT c a s i) (fiG c a s d i) (fiP c a s d i) 0 0 = fX12_fillFrom_b252 M a s d k59 h b m (i : Int) (fiT c a s i) (fiG c a s d i) (fiW c a s d i) := by
  have hj := w.ns
  have en : fiN c a s d i = fiT c a s i - fiG c a s d i := rfl
  exact fg (S := Int) (fun fu v t => fX12_fillFrom_b126 M a s d k59 fu h b m (i : Int) (fiT c a s i) (fiG c a s d i) (fiP c a s d i) t v) (fun t => fX12_fillFrom_b252 M a s d k59 h b m (i : Int) (fiT c a s i) (fiG c a s d i) t) (c 1).toNat (fun q => timA c (fiN c a s d i) (fiL c a s d i) q) (by omega)
    (fun fu q hq => by
      have bd := timA_bd w (n := fiN c a s d i) (fiL c a s d i) (N := q) (by omega)
      show fX12_fillFrom_b126 M a s d k59 (fu + 1) h b m (i : Int) (fiT c a s i) (fiG c a s d i) (fiP c a s d i) (timA c (fiN c a s d i) (fiL c a s d i) q) (q : Int) = fX12_fillFrom_b126 M a s d k59 fu h b m (i : Int) (fiT c a s i) (fiG c a s d i) (fiP c a s d i) (timA c (fiN c a s d i) (fiL c a s d i) (q + 1)) ((q : Int) + 1)
      rw [fX12_fillFrom_b126.eq_2]
      refine gdg ms.k (nng ms.r788 (gdg (by rw [ms.k5]) (gdg (by rw [ms.k5]; show 0 ≤ _ ∧ _ < (1850 : Int); omega) ?_)))
      rw [hc, show ((1 : Int)).toNat = 1 from rfl]
      refine iteT (by omega) (iteT (by omega) ?_)
      rw [rFp ms hc w s0 s8 (by omega) (by omega) hn hp hg k59 (fX12_fillFrom_b126 M a s d k59 fu), timA_s])
    (fun fu => by
      show fX12_fillFrom_b126 M a s d k59 (fu + 1) h b m (i : Int) (fiT c a s i) (fiG c a s d i) (fiP c a s d i) _ ((c 1).toNat : Int) = _
      rw [fX12_fillFrom_b126.eq_2]
      refine gdg ms.k (nng ms.r788 (gdg (by rw [ms.k5]) (gdg (by rw [ms.k5]; show 0 ≤ _ ∧ _ < (1850 : Int); omega) ?_)))
      rw [hc, show ((1 : Int)).toNat = 1 from rfl]
      exact iteF (by omega) rfl) 0 (by omega)

set_option maxHeartbeats 200000 in
/-- FILLFROM, in the reference -/
theorem rFill {h : Hp} {M : Nat} {c : Nat → Int} {a s d : Int} (ms : MS h M) (hc : gA h (M + 5) = c) (w : WF c) (a0 : 0 ≤ a) (a8 : a < 8) (s0 : 0 ≤ s) (s8 : s < 8) (hd : 0 ≤ d) (hd2 : d ≤ 999) :
    fX12_fillFrom_b59 M a s d FU h (-1) 0 0 = if fiB c a s d (c (4 + s).toNat).toNat < 0 then fX12_refuse h M 8 else some (fiB c a s d (c (4 + s).toNat).toNat, h) := by
  have hj := w.ns
  have wj := w.wj a0 a8
  have ws := w.sl s0 s8
  have gb := gdS_bd wj hd
  have es : WE (4 + s) := we (by omega) (by omega)
  have ea : WE (140 + a) := we (by omega) (by omega)
  have key := fg (S := Int × Int) (fun fu v t => fX12_fillFrom_b59 M a s d fu h t.1 t.2 v) (fun t => if t.1 < 0 then fX12_refuse h M 8 else some (t.1, h)) (c (4 + s).toNat).toNat (fun i => (fiB c a s d i, if fiB c a s d i < 0 then 0 else fiW c a s d (fiB c a s d i).toNat)) (by omega)
    (fun fu i hi => by
      have e5 : WE ((i : Int) + 1) := we (by omega) (by omega)
      have fb := fi_bd (a := a) (s := s) (d := d) (i := i) wj ws hd (by omega)
      have x4 : WE (c (4 + s).toNat - (i : Int)) := we (by omega) (by omega)
      have eT : min (c (140 + a).toNat) (c (4 + s).toNat - (i : Int)) = fiT c a s i := rfl
      have eG : goneS c a (fiT c a s i) d = fiG c a s d i := gone_gd fb.1
      have eN : fiN c a s d i = fiT c a s i - fiG c a s d i := rfl
      have eP : (i : Int) + headS c a (fiG c a s d i) = fiP c a s d i := rfl
      have hh := headS_bd (g := fiG c a s d i) wj fb.2.2.1
      have x6 : WE ((i : Int) + headS c a (fiG c a s d i)) := we (by omega) (by omega)
      have eu : fiB c a s d (i + 1) = if (decide (0 < fiN c a s d i) && (decide (fiB c a s d i < 0) || decide (fiW c a s d i < fiW c a s d (fiB c a s d i).toNat))) = true then (i : Int) else fiB c a s d i := rfl
      show fX12_fillFrom_b59 M a s d (fu + 1) h (fiB c a s d i) (if fiB c a s d i < 0 then 0 else fiW c a s d (fiB c a s d i).toNat) (i : Int) = fX12_fillFrom_b59 M a s d fu h (fiB c a s d (i + 1)) (if fiB c a s d (i + 1) < 0 then 0 else fiW c a s d (fiB c a s d (i + 1)).toNat) ((i : Int) + 1)
      rw [fX12_fillFrom_b59.eq_2, es.e, ea.e]
      refine gdg ms.k (nng ms.r788 (gdg (by rw [ms.k5]) (gdg (by rw [ms.k5]; show 0 ≤ _ ∧ _ < (1850 : Int); omega) ?_)))
      rw [hc]
      refine iteT (by omega) (gdg (by rw [ms.k5]; show 0 ≤ _ ∧ _ < (1850 : Int); omega) (gdg (by rw [ms.k5]; show 0 ≤ _ ∧ _ < (1850 : Int); omega) ?_))
      rw [lt_d, x4.e, eT]
      refine gdg ms.k5 (bdg (rGone wj a0 a8 hd (by omega)) (gdg ms.k5 ?_))
      rw [eG]
      refine bdg (rHead a0 a8 fb.2.2.1 (by omega)) ?_
      rw [lt_d, x6.e, eP]
      by_cases q : 0 < fiN c a s d i
      · rw [rFk ms hc w s0 s8 (by omega) (by omega) (by omega) (fX12_fillFrom_b59 M a s d fu), fX12_fillFrom_b252]
        have wb := timA_bd w (n := fiN c a s d i) (fiL c a s d i) (N := (c 1).toNat) (by omega)
        have wb : 0 ≤ fiW c a s d i ∧ fiW c a s d i ≤ 128 := wb
        refine iteF (by omega) ?_
        by_cases z : fiB c a s d i < 0
        · have e : fiB c a s d (i + 1) = (i : Int) := by rw [eu, if_pos]; simp [q, z]
          rw [e, if_pos z]
          rw [fX12_fillFrom_b274, fX12_fillFrom_b282, lt_d, e5.e, if_neg (by omega)]
          rfl
        · refine iteF z ?_
          rw [if_neg z]
          by_cases z2 : fiW c a s d i < fiW c a s d (fiB c a s d i).toNat
          · have e : fiB c a s d (i + 1) = (i : Int) := by rw [eu, if_pos]; simp [q, z2]
            rw [e]
            refine iteT z2 ?_
            rw [fX12_fillFrom_b274, fX12_fillFrom_b282, lt_d, e5.e, if_neg (by omega)]
            rfl
          · have e : fiB c a s d (i + 1) = fiB c a s d i := by rw [eu, if_neg]; simp [z, z2]
            rw [e, if_neg z]
            refine iteF z2 ?_
            rw [fX12_fillFrom_b282, lt_d, e5.e]
      · have e : fiB c a s d (i + 1) = fiB c a s d i := by rw [eu, if_neg]; simp [q]
        have e282 : ∀ m', fX12_fillFrom_b252 M a s d (fX12_fillFrom_b59 M a s d fu) h (fiB c a s d i) m' (i : Int) (fiT c a s i) (fiG c a s d i) 0 = fX12_fillFrom_b59 M a s d fu h (fiB c a s d i) m' ((i : Int) + 1) := fun m' => by
          rw [fX12_fillFrom_b252]
          refine iteT (by omega) ?_
          rw [fX12_fillFrom_b282, lt_d, e5.e]
        rw [e, ← e282]
        show fX12_fillFrom_b126 M a s d (fX12_fillFrom_b59 M a s d fu) (999999 + 1) h _ _ _ _ _ _ _ _ = _
        rw [fX12_fillFrom_b126.eq_2]
        refine gdg ms.k (nng ms.r788 (gdg (by rw [ms.k5]) (gdg (by rw [ms.k5]; show 0 ≤ _ ∧ _ < (1850 : Int); omega) ?_)))
        by_cases z : (0 : Int) < gA h (M + 5) ((1 : Int).toNat)
        · exact iteT z (iteF (by omega) rfl)
        · exact iteF z rfl)
    (fun fu => by
      show fX12_fillFrom_b59 M a s d (fu + 1) h (fiB c a s d (c (4 + s).toNat).toNat) _ ((c (4 + s).toNat).toNat : Int) = if fiB c a s d (c (4 + s).toNat).toNat < 0 then _ else some (fiB c a s d (c (4 + s).toNat).toNat, h)
      rw [fX12_fillFrom_b59.eq_2, es.e]
      refine gdg ms.k (nng ms.r788 (gdg (by rw [ms.k5]) (gdg (by rw [ms.k5]; show 0 ≤ _ ∧ _ < (1850 : Int); omega) ?_)))
      rw [hc]
      refine iteF (by omega) ?_
      by_cases z : fiB c a s d (c (4 + s).toNat).toNat < 0
      · rw [if_pos z, if_pos z]; exact bd2_id _
      · rw [if_neg z, if_neg z]) 0 (by omega)
  exact key

set_option maxHeartbeats 200000 in
theorem ok_fillFrom {h : Hp} {X : Nat} {c : Nat → Int} {a s d : Int} (H : CX h X c) (G : CM h X c) : OK2 (fun h => fX11_fillFrom h X a s d) (fun h => fX12_fillFrom h (X + 121) a s d) h X := by
  have w := H.wf
  by_cases q1 : okJ c a
  · by_cases q2 : okS c s
    · by_cases q3 : 0 ≤ d ∧ d ≤ 999
      · have a8 := nj_lt w q1
        have s8 := ns_lt w q2
        have ws := w.sl q2.1 s8
        obtain ⟨S, f1, f2, f3, f4, f5, f6⟩ := H.shop
        obtain ⟨j1, j2, j3, j4, j5, j6, j7, j8⟩ := f3.jar w q1.1 q1.2
        obtain ⟨t1, t2, t3, t4, t5, t6, t7⟩ := f3.snd w q2.1 q2.2
        obtain ⟨t, ⟨u1, u2⟩, u3⟩ := xFill H f1 q1 q2 q3.1 q3.2
        have ky := u2.k
        have bB := lsF_bd (fun i => decide (0 < fiN c a s d i)) (fiW c a s d) (c (4 + s).toNat).toNat
        have bB : -1 ≤ fiB c a s d (c (4 + s).toNat).toNat ∧ fiB c a s d (c (4 + s).toNat).toNat < ((c (4 + s).toNat).toNat : Int) := bB
        by_cases z : fiB c a s d (c (4 + s).toNat).toNat < 0
        · have z1 : fiB c a s d (c (4 + s).toNat).toNat = -1 := by omega
          refine ⟨8, -1, ?_, fun h1 p => ?_⟩
          · rw [z1] at u3
            show XR (fX11_fillFrom h X a s d) h X _ _
            unfold fX11_fillFrom
            exact XR.of (by (have z_1 := xJr1 H q1.1 q1.2; have z_2 := xSn1 H q2.1 q2.2; (repeat' (first | (with_reducible refine ltg ?_) | ((with_reducible refine iteT ?_ ?_); omega) | ((with_reducible refine iteF ?_ ?_); omega) | ((with_reducible refine gdg ?_ ?_); first | with_reducible exact H.k | with_reducible exact z_1 | with_reducible exact z_2 | exact xIn1 q3.1 q3.2 | with_reducible exact f1 | with_reducible exact f2 | with_reducible exact j2 | with_reducible exact j3 | with_reducible exact j4 | with_reducible exact j5 | with_reducible exact t2 | with_reducible exact t3 | with_reducible exact t4 | with_reducible exact t5 | with_reducible exact u3 | with_reducible exact ky | omega) | ((with_reducible apply nng); first | with_reducible exact H.k | with_reducible exact z_1 | with_reducible exact z_2 | exact xIn1 q3.1 q3.2 | with_reducible exact f1 | with_reducible exact f2 | with_reducible exact j2 | with_reducible exact j3 | with_reducible exact j4 | with_reducible exact j5 | with_reducible exact t2 | with_reducible exact t3 | with_reducible exact t4 | with_reducible exact t5 | with_reducible exact u3 | with_reducible exact ky) | ((with_reducible apply bdg); first | with_reducible exact H.k | with_reducible exact z_1 | with_reducible exact z_2 | exact xIn1 q3.1 q3.2 | with_reducible exact f1 | with_reducible exact f2 | with_reducible exact j2 | with_reducible exact j3 | with_reducible exact j4 | with_reducible exact j5 | with_reducible exact t2 | with_reducible exact t3 | with_reducible exact t4 | with_reducible exact t5 | with_reducible exact u3 | with_reducible exact ky) | ((with_reducible apply bd2g); first | with_reducible exact H.k | with_reducible exact z_1 | with_reducible exact z_2 | exact xIn1 q3.1 q3.2 | with_reducible exact f1 | with_reducible exact f2 | with_reducible exact j2 | with_reducible exact j3 | with_reducible exact j4 | with_reducible exact j5 | with_reducible exact t2 | with_reducible exact t3 | with_reducible exact t4 | with_reducible exact t5 | with_reducible exact u3 | with_reducible exact ky)))); exact bd2_id _) (xr_nn ky u1)
          · obtain ⟨ms, hc, -⟩ := G.q p
            have key := rFill (h := pI (pI h1 769 (X + 121) 0) 768 (X + 121) 0) ms hc w q1.1 a8 q2.1 s8 q3.1 q3.2
            rw [if_pos z] at key
            simp only [fX12_fillFrom, lt_d, hK_pI, gR_pI, gA_pI, gB_pI, gC_pI, gJ_pI, ms.r788, nn_s, ms.k0, ms.k5, gd_T, eq_self, hc, bd2_id, Int.reduceToNat]
            exact MR.of (by (have z_0 := rJr1 w q1.1 q1.2; have z_1 := rSn1 w q2.1 q2.2; (repeat' (first | (with_reducible refine ltg ?_) | ((with_reducible refine iteT ?_ ?_); omega) | ((with_reducible refine iteF ?_ ?_); omega) | ((with_reducible refine gdg ?_ ?_); first | with_reducible exact z_0 | with_reducible exact z_1 | exact rIn1 q3.1 q3.2 | omega) | ((with_reducible apply nng); first | with_reducible exact z_0 | with_reducible exact z_1 | exact rIn1 q3.1 q3.2) | ((with_reducible apply bdg); first | with_reducible exact z_0 | with_reducible exact z_1 | exact rIn1 q3.1 q3.2) | ((with_reducible apply bd2g); first | with_reducible exact z_0 | with_reducible exact z_1 | exact rIn1 q3.1 q3.2)))); exact key) (mr_m0r ms (rg_lit rfl))
        · refine ⟨0, fiB c a s d (c (4 + s).toNat).toNat, ?_, fun h1 p => ?_⟩
          · show XR (fX11_fillFrom h X a s d) h X _ _
            unfold fX11_fillFrom
            exact XR.of (by (have z_1 := xJr1 H q1.1 q1.2; have z_2 := xSn1 H q2.1 q2.2; (repeat' (first | (with_reducible refine ltg ?_) | ((with_reducible refine iteT ?_ ?_); omega) | ((with_reducible refine iteF ?_ ?_); omega) | ((with_reducible refine gdg ?_ ?_); first | with_reducible exact H.k | with_reducible exact z_1 | with_reducible exact z_2 | exact xIn1 q3.1 q3.2 | with_reducible exact f1 | with_reducible exact f2 | with_reducible exact j2 | with_reducible exact j3 | with_reducible exact j4 | with_reducible exact j5 | with_reducible exact t2 | with_reducible exact t3 | with_reducible exact t4 | with_reducible exact t5 | with_reducible exact u3 | with_reducible exact ky | omega) | ((with_reducible apply nng); first | with_reducible exact H.k | with_reducible exact z_1 | with_reducible exact z_2 | exact xIn1 q3.1 q3.2 | with_reducible exact f1 | with_reducible exact f2 | with_reducible exact j2 | with_reducible exact j3 | with_reducible exact j4 | with_reducible exact j5 | with_reducible exact t2 | with_reducible exact t3 | with_reducible exact t4 | with_reducible exact t5 | with_reducible exact u3 | with_reducible exact ky) | ((with_reducible apply bdg); first | with_reducible exact H.k | with_reducible exact z_1 | with_reducible exact z_2 | exact xIn1 q3.1 q3.2 | with_reducible exact f1 | with_reducible exact f2 | with_reducible exact j2 | with_reducible exact j3 | with_reducible exact j4 | with_reducible exact j5 | with_reducible exact t2 | with_reducible exact t3 | with_reducible exact t4 | with_reducible exact t5 | with_reducible exact u3 | with_reducible exact ky) | ((with_reducible apply bd2g); first | with_reducible exact H.k | with_reducible exact z_1 | with_reducible exact z_2 | exact xIn1 q3.1 q3.2 | with_reducible exact f1 | with_reducible exact f2 | with_reducible exact j2 | with_reducible exact j3 | with_reducible exact j4 | with_reducible exact j5 | with_reducible exact t2 | with_reducible exact t3 | with_reducible exact t4 | with_reducible exact t5 | with_reducible exact u3 | with_reducible exact ky)))); exact bd2_id _) (xr_ns ky u1 (by omega))
          · obtain ⟨ms, hc, -⟩ := G.q p
            have key := rFill (h := pI (pI h1 769 (X + 121) 0) 768 (X + 121) 0) ms hc w q1.1 a8 q2.1 s8 q3.1 q3.2
            rw [if_neg z] at key
            simp only [fX12_fillFrom, lt_d, hK_pI, gR_pI, gA_pI, gB_pI, gC_pI, gJ_pI, ms.r788, nn_s, ms.k0, ms.k5, gd_T, eq_self, hc, bd2_id, Int.reduceToNat]
            exact MR.of (by (have z_0 := rJr1 w q1.1 q1.2; have z_1 := rSn1 w q2.1 q2.2; (repeat' (first | (with_reducible refine ltg ?_) | ((with_reducible refine iteT ?_ ?_); omega) | ((with_reducible refine iteF ?_ ?_); omega) | ((with_reducible refine gdg ?_ ?_); first | with_reducible exact z_0 | with_reducible exact z_1 | exact rIn1 q3.1 q3.2 | omega) | ((with_reducible apply nng); first | with_reducible exact z_0 | with_reducible exact z_1 | exact rIn1 q3.1 q3.2) | ((with_reducible apply bdg); first | with_reducible exact z_0 | with_reducible exact z_1 | exact rIn1 q3.1 q3.2) | ((with_reducible apply bd2g); first | with_reducible exact z_0 | with_reducible exact z_1 | exact rIn1 q3.1 q3.2)))); exact key) mr_m0
      · refine ⟨5, -1, ?_, fun h1 p => ?_⟩
        · show XR (fX11_fillFrom h X a s d) h X _ _
          unfold fX11_fillFrom
          exact XR.of (by (have z_1 := xJr1 H q1.1 q1.2; have z_2 := xSn1 H q2.1 q2.2; (repeat' (first | (with_reducible refine ltg ?_) | ((with_reducible refine iteT ?_ ?_); omega) | ((with_reducible refine iteF ?_ ?_); omega) | ((with_reducible refine gdg ?_ ?_); first | with_reducible exact H.k | with_reducible exact z_1 | with_reducible exact z_2 | exact xIn0 (by omega) | omega) | ((with_reducible apply nng); first | with_reducible exact H.k | with_reducible exact z_1 | with_reducible exact z_2 | exact xIn0 (by omega)) | ((with_reducible apply bdg); first | with_reducible exact H.k | with_reducible exact z_1 | with_reducible exact z_2 | exact xIn0 (by omega)) | ((with_reducible apply bd2g); first | with_reducible exact H.k | with_reducible exact z_1 | with_reducible exact z_2 | exact xIn0 (by omega))))); exact bd2_id _) (xr_re H.k (QR.rf h) (rg_lit rfl))
        · obtain ⟨ms, hc, -⟩ := G.q p
          simp only [fX12_fillFrom, lt_d, hK_pI, gR_pI, gA_pI, gB_pI, gC_pI, gJ_pI, ms.r788, nn_s, ms.k0, ms.k5, gd_T, eq_self, hc, bd2_id, Int.reduceToNat]
          exact MR.of (by (have z_0 := rJr1 w q1.1 q1.2; have z_1 := rSn1 w q2.1 q2.2; (repeat' (first | (with_reducible refine ltg ?_) | ((with_reducible refine iteT ?_ ?_); omega) | ((with_reducible refine iteF ?_ ?_); omega) | ((with_reducible refine gdg ?_ ?_); first | with_reducible exact z_0 | with_reducible exact z_1 | exact rIn0 (by omega) | omega) | ((with_reducible apply nng); first | with_reducible exact z_0 | with_reducible exact z_1 | exact rIn0 (by omega)) | ((with_reducible apply bdg); first | with_reducible exact z_0 | with_reducible exact z_1 | exact rIn0 (by omega)) | ((with_reducible apply bd2g); first | with_reducible exact z_0 | with_reducible exact z_1 | exact rIn0 (by omega))))); rfl) (mr_m0r ms (rg_lit rfl))
    · refine ⟨2, -1, ?_, fun h1 p => ?_⟩
      · show XR (fX11_fillFrom h X a s d) h X _ _
        unfold fX11_fillFrom
        exact XR.of (by (have z_1 := xJr1 H q1.1 q1.2; have z_2 := xSn0 H (noS q2); (repeat' (first | (with_reducible refine ltg ?_) | ((with_reducible refine iteT ?_ ?_); omega) | ((with_reducible refine iteF ?_ ?_); omega) | ((with_reducible refine gdg ?_ ?_); first | with_reducible exact H.k | with_reducible exact z_1 | with_reducible exact z_2 | omega) | ((with_reducible apply nng); first | with_reducible exact H.k | with_reducible exact z_1 | with_reducible exact z_2) | ((with_reducible apply bdg); first | with_reducible exact H.k | with_reducible exact z_1 | with_reducible exact z_2) | ((with_reducible apply bd2g); first | with_reducible exact H.k | with_reducible exact z_1 | with_reducible exact z_2)))); exact bd2_id _) (xr_re H.k (QR.rf h) (rg_lit rfl))
      · obtain ⟨ms, hc, -⟩ := G.q p
        simp only [fX12_fillFrom, lt_d, hK_pI, gR_pI, gA_pI, gB_pI, gC_pI, gJ_pI, ms.r788, nn_s, ms.k0, ms.k5, gd_T, eq_self, hc, bd2_id, Int.reduceToNat]
        exact MR.of (by (have z_0 := rJr1 w q1.1 q1.2; have z_1 := rSn0 w (noS q2); (repeat' (first | (with_reducible refine ltg ?_) | ((with_reducible refine iteT ?_ ?_); omega) | ((with_reducible refine iteF ?_ ?_); omega) | ((with_reducible refine gdg ?_ ?_); first | with_reducible exact z_0 | with_reducible exact z_1 | omega) | ((with_reducible apply nng); first | with_reducible exact z_0 | with_reducible exact z_1) | ((with_reducible apply bdg); first | with_reducible exact z_0 | with_reducible exact z_1) | ((with_reducible apply bd2g); first | with_reducible exact z_0 | with_reducible exact z_1)))); rfl) (mr_m0r ms (rg_lit rfl))
  · refine ⟨2, -1, ?_, fun h1 p => ?_⟩
    · show XR (fX11_fillFrom h X a s d) h X _ _
      unfold fX11_fillFrom
      exact XR.of (by (have z_1 := xJr0 H (noJ q1); (repeat' (first | (with_reducible refine ltg ?_) | ((with_reducible refine iteT ?_ ?_); omega) | ((with_reducible refine iteF ?_ ?_); omega) | ((with_reducible refine gdg ?_ ?_); first | with_reducible exact H.k | with_reducible exact z_1 | omega) | ((with_reducible apply nng); first | with_reducible exact H.k | with_reducible exact z_1) | ((with_reducible apply bdg); first | with_reducible exact H.k | with_reducible exact z_1) | ((with_reducible apply bd2g); first | with_reducible exact H.k | with_reducible exact z_1)))); exact bd2_id _) (xr_re H.k (QR.rf h) (rg_lit rfl))
    · obtain ⟨ms, hc, -⟩ := G.q p
      simp only [fX12_fillFrom, lt_d, hK_pI, gR_pI, gA_pI, gB_pI, gC_pI, gJ_pI, ms.r788, nn_s, ms.k0, ms.k5, gd_T, eq_self, hc, bd2_id, Int.reduceToNat]
      exact MR.of (by (have z_0 := rJr0 w (noJ q1); (repeat' (first | (with_reducible refine ltg ?_) | ((with_reducible refine iteT ?_ ?_); omega) | ((with_reducible refine iteF ?_ ?_); omega) | ((with_reducible refine gdg ?_ ?_); first | with_reducible exact z_0 | omega) | ((with_reducible apply nng); first | with_reducible exact z_0) | ((with_reducible apply bdg); first | with_reducible exact z_0) | ((with_reducible apply bd2g); first | with_reducible exact z_0)))); rfl) (mr_m0r ms (rg_lit rfl))
