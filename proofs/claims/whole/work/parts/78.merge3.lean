/-! MERGED ROWS, in the reference: the recursion -/
def lcd (n : Nat) (P : Nat → Nat) (l : Nat) : Int := if l < n then (P l : Int) else -1
def RCs (X : Nat) (c : Nat → Int) (n : Nat) (P : Nat → Nat) (sz : Nat → Nat) (L : Nat → Int → Int) (ov : Nat → Nat → Nat) (d : Nat) (rcf : Hp → Int → Int → Int → Option Hp) : Prop :=
  ∀ (h : Hp) (u l : Nat) (p : List Int) (b : Option (List Int)), CM h X c → gI h 804 (X + 121) = (n : Int) → (∀ i, i < n → gA h (X + 121 + 14) i = (P i : Int)) → bcu u + d = n → u < 2 ^ n → p.length ≤ 12 * bcu u → BFt (gA h (X + 121 + 7)) p → BSt h X b →
    ∃ t : Hp, (MGQ h t X p.length ∧ BSt t X (mgf n sz L ov d u l p b)) ∧ rcf h (u : Int) (lcd n P l) (p.length : Int) = some t
set_option maxHeartbeats 200000 in
theorem full_d : ∀ n : Fin 7, ∀ u : Fin 64, u.val < 2 ^ n.val → bcu u.val ≤ n.val ∧ (bcu u.val = n.val → u.val = 2 ^ n.val - 1) ∧ bcu (2 ^ n.val - 1) = n.val := by decide +kernel
set_option maxHeartbeats 200000 in
theorem full_n {n u : Nat} (hn : n ≤ 6) (hu : u < 2 ^ n) : bcu u ≤ n ∧ (bcu u = n → u = 2 ^ n - 1) ∧ bcu (2 ^ n - 1) = n := by
  have : 2 ^ n ≤ 64 := show 2 ^ n ≤ 2 ^ 6 from Nat.pow_le_pow_right (by omega) hn
  exact full_d ⟨n, by omega⟩ ⟨u, by omega⟩ hu
set_option maxHeartbeats 200000 in
theorem pw6 {n : Nat} (hn : n ≤ 6) : 0 < 2 ^ n ∧ 2 ^ n ≤ 64 := ⟨Nat.pow_pos (by omega), show 2 ^ n ≤ 2 ^ 6 from Nat.pow_le_pow_right (by omega) hn⟩
set_option maxHeartbeats 200000 in
theorem all_m {n : Nat} (hn : n ≤ 6) : w32 (shl 1 (n : Int) - 1) = ((2 ^ n - 1 : Nat) : Int) := by
  have p := pw6 hn
  have e1 : shl 1 (n : Int) = ((2 ^ n : Nat) : Int) := by rw [shl_n (by omega) (by omega)]; rfl
  rw [e1, w32_id (by omega) (by omega)]; omega
set_option maxHeartbeats 200000 in
theorem rM0 {X : Nat} {c : Nat → Int} {n : Nat} {P : Nat → Nat} {sz : Nat → Nat} {L : Nat → Int → Int} {ov : Nat → Nat → Nat} (T : PTs c n P sz L ov) (rcf : Hp → Int → Int → Int → Option Hp) : RCs X c n P sz L ov 0 (fX12_mergeFrom_body (X + 121) rcf) := by
  intro h u l p b G e804 hP bu hu pl bp hb
  have ms := G.1
  have n6 := T.1
  have f := (full_n n6 hu).2.1 (by omega)
  have am := all_m n6
  unfold fX12_mergeFrom_body
  rw [e804, am]
  cases b with
  | none =>
    have e := hb.1 rfl
    obtain ⟨t, t1, t2⟩ := rRec ms bp (by omega) rcf (u : Int) (lcd n P l)
    exact ⟨t, t1, gdg ms.k (iteT (by omega) (iteT (by omega) t2))⟩
  | some v =>
    obtain ⟨e1, e2⟩ := hb.2 v rfl
    have le := rLess ms e1 e2 bp (by omega)
    have eu : mgf n sz L ov 0 u l p (some v) = if bet p v then some p else some v := rfl
    cases q : bet p v with
    | true =>
      rw [q] at le
      obtain ⟨t, t1, t2⟩ := rRec ms bp (by omega) rcf (u : Int) (lcd n P l)
      refine ⟨t, ?_, gdg ms.k (iteT (by omega) (iteF (by omega) (bdg le (iteF (by unfold b01; rw [if_pos rfl]; omega) t2))))⟩
      rw [eu, q, if_pos rfl]; exact t1
    | false =>
      rw [q] at le
      refine ⟨h, ⟨MGQ.rf h X _, ?_⟩, gdg ms.k (iteT (by omega) (iteF (by omega) (bdg le (iteT rfl rfl))))⟩
      rw [eu, q]; exact hb
set_option maxHeartbeats 1000000 in
theorem rMS {X : Nat} {c : Nat → Int} {n : Nat} {P : Nat → Nat} {sz : Nat → Nat} {L : Nat → Int → Int} {ov : Nat → Nat → Nat} {d : Nat} (T : PTs c n P sz L ov) (rcf : Hp → Int → Int → Int → Option Hp) (R : RCs X c n P sz L ov d rcf) : RCs X c n P sz L ov (d + 1) (fX12_mergeFrom_body (X + 121) rcf) := by
  intro h u l p b G e804 hP bu hu pl bp hb
  have ms := G.1
  have w := G.2.2
  have n6 := T.1
  have p6 := pw6 n6
  have am := all_m n6
  have f := (full_n n6 hu).2.2
  have ne : ¬ (u : Int) = ((2 ^ n - 1 : Nat) : Int) := fun z => by
    have : u = 2 ^ n - 1 := by omega
    rw [this] at bu; omega
  unfold fX12_mergeFrom_body
  rw [e804, am]
  obtain ⟨t, t1, t2⟩ := fk (S := Hp) (T := Hp) (fun fu i t => fX12_mergeFrom_b66 (X + 121) rcf (u : Int) (lcd n P l) (p.length : Int) fu t i) some n
    (fun i t => MGQ h t X p.length ∧ BSt t X (lp (fun b j => if u.testBit j then b else mgf n sz L ov d (u ||| 2 ^ j) j (p ++ sgm sz L j (ov l j)) b) i b)) (fun t => MGQ h t X p.length ∧ BSt t X (mgf n sz L ov (d + 1) u l p b)) 0 h (by omega) ⟨MGQ.rf h X _, hb⟩ (by omega)
    (fun fu i t hi hI => by
      obtain ⟨p1, p2⟩ := hI
      have e5 : WE ((i : Int) + 1) := we (by omega) (by omega)
      have Gt := G.q p1.1
      obtain ⟨mt, hc, -⟩ := id Gt
      have t804 := p1.2.2.1
      have ib := rHas (s := u) (k := i) (by omega) (by omega)
      have e177 : ∀ t', fX12_mergeFrom_b177 (X + 121) rcf (u : Int) (lcd n P l) (p.length : Int) (fX12_mergeFrom_b66 (X + 121) rcf (u : Int) (lcd n P l) (p.length : Int) fu) t' (i : Int) = fX12_mergeFrom_b66 (X + 121) rcf (u : Int) (lcd n P l) (p.length : Int) fu t' ((i : Int) + 1) := fun t' => by rw [fX12_mergeFrom_b177, lt_d, e5.e]
      left
      cases q : u.testBit i with
      | true =>
        rw [q] at ib
        refine ⟨t, ⟨p1, ?_⟩, ?_⟩
        · show BSt t X (if u.testBit i then _ else _)
          rw [q, if_pos rfl]; exact p2
        · show fX12_mergeFrom_b66 (X + 121) rcf (u : Int) (lcd n P l) (p.length : Int) (fu + 1) t (i : Int) = _
          rw [fX12_mergeFrom_b66.eq_2]
          refine gdg mt.k ?_
          rw [t804, e804]
          exact iteT (by omega) (bdg ib (iteF (by unfold b01; rw [if_pos rfl]; omega) (e177 t)))
      | false =>
        rw [q] at ib
        obtain ⟨P8, s1, s2, s3, s4⟩ := T.2.1 i hi
        have ol := T.2.2 l i hi
        have bo := bcu_or (show i < 8 by omega) q
        have tP : ∀ i, i < n → gA t (X + 121 + 14) i = (P i : Int) := fun i hi => (p1.2.2.2.1 i).trans (hP i hi)
        have bt : BFt (gA t (X + 121 + 7)) p := fun k hk => (p1.2.2.2.2 k hk).trans (bp k hk)
        have bl := bcu_le (u ||| 2 ^ i)
        obtain ⟨t', ⟨y1, y2, y3, y4⟩, y5⟩ := rSgm (l := l) T Gt hi bt (by omega) rcf (u : Int) (lcd n P l) (fX12_mergeFrom_b66 (X + 121) rcf (u : Int) (lcd n P l) (p.length : Int) fu)
        have o8 := T.ov (l := l) hi
        have len : (p ++ sgm sz L i (ov l i)).length = p.length + (sz i - ov l i) := by rw [List.length_append, sgm_len]
        obtain ⟨t'', ⟨z1, z2⟩, z3⟩ := R t' (u ||| 2 ^ i) i (p ++ sgm sz L i (ov l i)) (lp (fun b j => if u.testBit j then b else mgf n sz L ov d (u ||| 2 ^ j) j (p ++ sgm sz L j (ov l j)) b) i b) (Gt.q y1.1) (by rw [y2, t804, e804]) (fun k hk => (y1.2.2.2.1 k).trans (tP k hk)) (by omega) (Nat.or_lt_two_pow hu (Nat.pow_lt_pow_right (by omega) hi)) (by omega) y4 ⟨fun z => by rw [y2]; exact p2.1 z, fun v hv => by
            obtain ⟨g1, g2⟩ := p2.2 v hv
            exact ⟨by rw [y2]; exact g1, fun k hk => (y3 k).trans (g2 k hk)⟩⟩
        have li : lcd n P i = (P i : Int) := by unfold lcd; rw [if_pos hi]
        rw [li] at z3
        refine ⟨t'', ⟨p1.tr (y1.tr z1 (by omega)) (Nat.le_refl _), ?_⟩, ?_⟩
        · show BSt t'' X (if u.testBit i then _ else _)
          rw [q]; exact z2
        · have fin : fX12_mergeFrom_b111 (X + 121) rcf (u : Int) (lcd n P l) (p.length : Int) (fX12_mergeFrom_b66 (X + 121) rcf (u : Int) (lcd n P l) (p.length : Int) fu) t (i : Int) (P i : Int) (ov l i : Int) = fX12_mergeFrom_b66 (X + 121) rcf (u : Int) (lcd n P l) (p.length : Int) fu t'' ((i : Int) + 1) := by
            rw [fX12_mergeFrom_b111, y5, bor_or (by omega) (by omega)]
            exact bdg z3 (e177 t'')
          show fX12_mergeFrom_b66 (X + 121) rcf (u : Int) (lcd n P l) (p.length : Int) (fu + 1) t (i : Int) = _
          rw [fX12_mergeFrom_b66.eq_2]
          refine gdg mt.k ?_
          rw [t804, e804]
          refine iteT (by omega) (bdg ib (iteT rfl (nng mt.r801 (gdg (by rw [mt.k14]) (gdg (by rw [mt.k14]; show 0 ≤ _ ∧ _ < (6 : Int); omega) ?_)))))
          rw [lt_d, show ((i : Int)).toNat = i from rfl, tP i hi]
          by_cases y : l < n
          · rw [if_pos y] at ol
            have ll : lcd n P l = (P l : Int) := by unfold lcd; rw [if_pos y]
            refine iteF (by omega) (nng mt.r788 (gdg mt.k5 ?_))
            have P9 := (T.2.1 l y).1
            have la := rLap w (a := (P l : Int)) (b := (P i : Int)) (by omega) (by omega) (by omega) (by omega)
            rw [← ol] at la
            rw [hc]
            exact bdg (by rw [ll]; exact la) fin
          · rw [if_neg y] at ol
            have ll : lcd n P l = -1 := by unfold lcd; rw [if_neg y]
            refine iteT (by omega) ?_
            rw [ol] at fin
            exact fin)
    (fun fu t hI => by
      obtain ⟨p1, p2⟩ := hI
      obtain ⟨mt, hc, -⟩ := G.q p1.1
      have t804 := p1.2.2.1
      refine ⟨t, ⟨p1, p2⟩, ?_⟩
      show fX12_mergeFrom_b66 (X + 121) rcf (u : Int) (lcd n P l) (p.length : Int) (fu + 1) t (n : Int) = _
      rw [fX12_mergeFrom_b66.eq_2]
      refine gdg mt.k ?_
      rw [t804, e804]
      exact iteF (by omega) rfl)
  exact ⟨t, t1, gdg ms.k (iteF ne t2)⟩
set_option maxHeartbeats 200000 in
theorem rMF {X : Nat} {c : Nat → Int} {n : Nat} {P : Nat → Nat} {sz : Nat → Nat} {L : Nat → Int → Int} {ov : Nat → Nat → Nat} (T : PTs c n P sz L ov) : ∀ (d e : Nat), RCs X c n P sz L ov d (fun h a1 a2 a3 => fX12_mergeFrom (d + e + 1) h (X + 121) a1 a2 a3) := by
  intro d
  induction d with
  | zero => intro e; exact rM0 T (fun h a1 a2 a3 => fX12_mergeFrom (0 + e) h (X + 121) a1 a2 a3)
  | succ d ih =>
    intro e
    have := rMS T _ (ih e)
    rw [show d + 1 + e + 1 = (d + e + 1) + 1 by omega]
    exact this
