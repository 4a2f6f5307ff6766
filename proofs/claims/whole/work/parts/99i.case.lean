set_option maxHeartbeats 1000000 in
set_option maxRecDepth 20000 in
theorem lwc_far {D : va_G} {cy : Nat → ClassId} {B : Nat} {p : Program} {l : Launch} {e : Env} {s : State} {m : MethodId} {b L X0 i : Nat} {xs : Nat → Int32} {below : List Frame} {meth : Method} {c : Code} {Q : State → Prop} (X : CXd D cy B p s m #[.ref b] c cL_law RL 4) (S : LSc s B b L xs) {h : Hp} {k n : Nat} (hi : i + 6 ≤ L) (hkn : k + 31 ≤ 600000 ∧ n + 292 ≤ 7302250) (I : Inv h X0) (K : ∀ (h' : Hp) (k' n' : Nat), Inv h' X0 → k' ≤ k + 31 → n' ≤ n + 292 → AWd D cy B p l e room_1 s m #[.ref b] below meth c 4 Q h' k' n' 2132 (LVs b X0 i) []) : AWd D cy B p l e room_1 s m #[.ref b] below meth c 4 Q h k n 1449 (LVs b X0 i) [] := by
  obtain ⟨c9, J, -, -, -⟩ := id I
  have g1 : (hK h X0).1 = 11 := J.x.k
  obtain ⟨v, h1, h2, e1, e2, I2⟩ := ok3 I J (ok_far (a := sx xs i 1) (s := sx xs i 2) J.x J.m)
  have e1 : fX11_far h X0 (sx xs i 1) (sx xs i 2) = some (v, h1) := e1
  have e2 : fX12_far h1 (X0 + 121) (sx xs i 1) (sx xs i 2) = some (v, h2) := e2
  have g2 : (hK h1 (X0 + 121)).1 = 12 := by
    have z := e2
    rw [fX12_far.eq_1] at z
    exact (gd_some z).1
  refine aw_aload_n (pc := 1449) X dL_law_1449 2 rfl ?_
  refine aw_word (pc := 1450) X S hi 1 (by decide) rfl dL_law_1450 dL_law_1451 dL_law_1452 dL_law_1453 dL_law_1454 ?_
  refine aw_word (pc := 1455) X S hi 2 (by decide) rfl dL_law_1455 dL_law_1456 dL_law_1457 dL_law_1458 dL_law_1459 ?_
  refine aw_invV (pc := 1460) X (kX11_far sx_rg sx_rg e1) mw_yX11_far kw_1264 kw_1265 kw_1266 g1 rfl (by decide) rfl ⟨(Nat.le_of_ble_eq_true rfl), (Nat.le_of_ble_eq_true rfl)⟩ rfl (Nat.le_of_ble_eq_true rfl) (lw_rm ⟨by omega, by omega⟩) dL_law_1460 ?_
  refine aw_ret1 (k' := k + 0) (n' := n + 0) rfl rfl ?_
  refine aw_aload_n (pc := 1463) X dL_law_1463 3 rfl ?_
  refine aw_word (pc := 1464) X S hi 1 (by decide) rfl dL_law_1464 dL_law_1465 dL_law_1466 dL_law_1467 dL_law_1468 ?_
  refine aw_word (pc := 1469) X S hi 2 (by decide) rfl dL_law_1469 dL_law_1470 dL_law_1471 dL_law_1472 dL_law_1473 ?_
  refine aw_invV (pc := 1474) X (kX12_far sx_rg sx_rg e2) mw_yX12_far kw_2082 kw_2083 kw_2084 g2 rfl (by decide) rfl ⟨(Nat.le_of_ble_eq_true rfl), (Nat.le_of_ble_eq_true rfl)⟩ rfl (Nat.le_of_ble_eq_true rfl) (lw_rm ⟨by omega, by omega⟩) dL_law_1474 ?_
  refine aw_ret1 (k' := k + 0 + 0) (n' := n + 0 + 0) rfl rfl ?_
  refine aw_icmp_eq (pc := 1477) (tgt := 2132) X (gX11_far sx_rg sx_rg e1) (gX12_far sx_rg sx_rg e2) dL_law_1477 (by decide) (fun _ => ?_) (fun z => absurd rfl z)
  exact K _ _ _ I2 (by omega) (by omega)
set_option maxHeartbeats 1000000 in
set_option maxRecDepth 20000 in
theorem lwc_common {D : va_G} {cy : Nat → ClassId} {B : Nat} {p : Program} {l : Launch} {e : Env} {s : State} {m : MethodId} {b L X0 i : Nat} {xs : Nat → Int32} {below : List Frame} {meth : Method} {c : Code} {Q : State → Prop} (X : CXd D cy B p s m #[.ref b] c cL_law RL 4) (S : LSc s B b L xs) {h : Hp} {k n : Nat} (hi : i + 6 ≤ L) (hkn : k + 31 ≤ 600000 ∧ n + 292 ≤ 7302250) (I : Inv h X0) (K : ∀ (h' : Hp) (k' n' : Nat), Inv h' X0 → k' ≤ k + 31 → n' ≤ n + 292 → AWd D cy B p l e room_1 s m #[.ref b] below meth c 4 Q h' k' n' 2132 (LVs b X0 i) []) : AWd D cy B p l e room_1 s m #[.ref b] below meth c 4 Q h k n 1482 (LVs b X0 i) [] := by
  obtain ⟨c9, J, -, -, -⟩ := id I
  have g1 : (hK h X0).1 = 11 := J.x.k
  obtain ⟨v, h1, h2, e1, e2, I2⟩ := ok3 I J (ok_common (a := sx xs i 1) (b := sx xs i 2) J.x J.m)
  have e1 : fX11_common h X0 (sx xs i 1) (sx xs i 2) = some (v, h1) := e1
  have e2 : fX12_common h1 (X0 + 121) (sx xs i 1) (sx xs i 2) = some (v, h2) := e2
  have g2 : (hK h1 (X0 + 121)).1 = 12 := by
    have z := e2
    rw [fX12_common.eq_1] at z
    exact (gd_some z).1
  refine aw_aload_n (pc := 1482) X dL_law_1482 2 rfl ?_
  refine aw_word (pc := 1483) X S hi 1 (by decide) rfl dL_law_1483 dL_law_1484 dL_law_1485 dL_law_1486 dL_law_1487 ?_
  refine aw_word (pc := 1488) X S hi 2 (by decide) rfl dL_law_1488 dL_law_1489 dL_law_1490 dL_law_1491 dL_law_1492 ?_
  refine aw_invV (pc := 1493) X (kX11_common sx_rg sx_rg e1) mw_yX11_common kw_1272 kw_1273 kw_1274 g1 rfl (by decide) rfl ⟨(Nat.le_of_ble_eq_true rfl), (Nat.le_of_ble_eq_true rfl)⟩ rfl (Nat.le_of_ble_eq_true rfl) (lw_rm ⟨by omega, by omega⟩) dL_law_1493 ?_
  refine aw_ret1 (k' := k + 0) (n' := n + 0) rfl rfl ?_
  refine aw_aload_n (pc := 1496) X dL_law_1496 3 rfl ?_
  refine aw_word (pc := 1497) X S hi 1 (by decide) rfl dL_law_1497 dL_law_1498 dL_law_1499 dL_law_1500 dL_law_1501 ?_
  refine aw_word (pc := 1502) X S hi 2 (by decide) rfl dL_law_1502 dL_law_1503 dL_law_1504 dL_law_1505 dL_law_1506 ?_
  refine aw_invV (pc := 1507) X (kX12_common sx_rg sx_rg e2) mw_yX12_common kw_2087 kw_2088 kw_2089 g2 rfl (by decide) rfl ⟨(Nat.le_of_ble_eq_true rfl), (Nat.le_of_ble_eq_true rfl)⟩ rfl (Nat.le_of_ble_eq_true rfl) (lw_rm ⟨by omega, by omega⟩) dL_law_1507 ?_
  refine aw_ret1 (k' := k + 0 + 0) (n' := n + 0 + 0) rfl rfl ?_
  refine aw_icmp_eq (pc := 1510) (tgt := 2132) X (gX11_common sx_rg sx_rg e1) (gX12_common sx_rg sx_rg e2) dL_law_1510 (by decide) (fun _ => ?_) (fun z => absurd rfl z)
  exact K _ _ _ I2 (by omega) (by omega)
set_option maxHeartbeats 1000000 in
set_option maxRecDepth 20000 in
theorem lwc_chain {D : va_G} {cy : Nat → ClassId} {B : Nat} {p : Program} {l : Launch} {e : Env} {s : State} {m : MethodId} {b L X0 i : Nat} {xs : Nat → Int32} {below : List Frame} {meth : Method} {c : Code} {Q : State → Prop} (X : CXd D cy B p s m #[.ref b] c cL_law RL 4) (S : LSc s B b L xs) {h : Hp} {k n : Nat} (hi : i + 6 ≤ L) (hkn : k + 31 ≤ 600000 ∧ n + 292 ≤ 7302250) (I : Inv h X0) (K : ∀ (h' : Hp) (k' n' : Nat), Inv h' X0 → k' ≤ k + 31 → n' ≤ n + 292 → AWd D cy B p l e room_1 s m #[.ref b] below meth c 4 Q h' k' n' 2132 (LVs b X0 i) []) : AWd D cy B p l e room_1 s m #[.ref b] below meth c 4 Q h k n 1515 (LVs b X0 i) [] := by
  obtain ⟨c9, J, -, -, -⟩ := id I
  have g1 : (hK h X0).1 = 11 := J.x.k
  obtain ⟨v, h1, h2, e1, e2, I2⟩ := ok_chain (n := sx xs i 1) I
  have e1 : fX11_chain h X0 (sx xs i 1) = some (v, h1) := e1
  have e2 : fX12_chain h1 (X0 + 121) (sx xs i 1) = some (v, h2) := e2
  have g2 : (hK h1 (X0 + 121)).1 = 12 := by
    have z := e2
    rw [fX12_chain.eq_1] at z
    exact (gd_some z).1
  refine aw_aload_n (pc := 1515) X dL_law_1515 2 rfl ?_
  refine aw_word (pc := 1516) X S hi 1 (by decide) rfl dL_law_1516 dL_law_1517 dL_law_1518 dL_law_1519 dL_law_1520 ?_
  refine aw_invV (pc := 1521) X (kX11_chain sx_rg e1) mw_yX11_chain kw_1281 kw_1282 kw_1283 g1 rfl (by decide) rfl ⟨(Nat.le_of_ble_eq_true rfl), (Nat.le_of_ble_eq_true rfl)⟩ rfl (Nat.le_of_ble_eq_true rfl) (lw_rm ⟨by omega, by omega⟩) dL_law_1521 ?_
  refine aw_ret1 (k' := k + 0) (n' := n + 0) rfl rfl ?_
  refine aw_aload_n (pc := 1524) X dL_law_1524 3 rfl ?_
  refine aw_word (pc := 1525) X S hi 1 (by decide) rfl dL_law_1525 dL_law_1526 dL_law_1527 dL_law_1528 dL_law_1529 ?_
  refine aw_invV (pc := 1530) X (kX12_chain sx_rg e2) mw_yX12_chain kw_2091 kw_2092 kw_2093 g2 rfl (by decide) rfl ⟨(Nat.le_of_ble_eq_true rfl), (Nat.le_of_ble_eq_true rfl)⟩ rfl (Nat.le_of_ble_eq_true rfl) (lw_rm ⟨by omega, by omega⟩) dL_law_1530 ?_
  refine aw_ret1 (k' := k + 0 + 0) (n' := n + 0 + 0) rfl rfl ?_
  refine aw_icmp_eq (pc := 1533) (tgt := 2132) X (gX11_chain sx_rg e1) (gX12_chain sx_rg e2) dL_law_1533 (by decide) (fun _ => ?_) (fun z => absurd rfl z)
  exact K _ _ _ I2 (by omega) (by omega)
set_option maxHeartbeats 1000000 in
set_option maxRecDepth 20000 in
theorem lwc_chainAt {D : va_G} {cy : Nat → ClassId} {B : Nat} {p : Program} {l : Launch} {e : Env} {s : State} {m : MethodId} {b L X0 i : Nat} {xs : Nat → Int32} {below : List Frame} {meth : Method} {c : Code} {Q : State → Prop} (X : CXd D cy B p s m #[.ref b] c cL_law RL 4) (S : LSc s B b L xs) {h : Hp} {k n : Nat} (hi : i + 6 ≤ L) (hkn : k + 31 ≤ 600000 ∧ n + 292 ≤ 7302250) (I : Inv h X0) (K : ∀ (h' : Hp) (k' n' : Nat), Inv h' X0 → k' ≤ k + 31 → n' ≤ n + 292 → AWd D cy B p l e room_1 s m #[.ref b] below meth c 4 Q h' k' n' 2132 (LVs b X0 i) []) : AWd D cy B p l e room_1 s m #[.ref b] below meth c 4 Q h k n 1538 (LVs b X0 i) [] := by
  obtain ⟨c9, J, -, -, -⟩ := id I
  have g1 : (hK h X0).1 = 11 := J.x.k
  obtain ⟨v, h1, h2, e1, e2, I2⟩ := ok_chainAt (a := sx xs i 1) I
  have e1 : fX11_chainAt h X0 (sx xs i 1) = some (v, h1) := e1
  have e2 : fX12_chainAt h1 (X0 + 121) (sx xs i 1) = some (v, h2) := e2
  have g2 : (hK h1 (X0 + 121)).1 = 12 := by
    have z := e2
    rw [fX12_chainAt.eq_1] at z
    exact (gd_some z).1
  refine aw_aload_n (pc := 1538) X dL_law_1538 2 rfl ?_
  refine aw_word (pc := 1539) X S hi 1 (by decide) rfl dL_law_1539 dL_law_1540 dL_law_1541 dL_law_1542 dL_law_1543 ?_
  refine aw_invV (pc := 1544) X (kX11_chainAt sx_rg e1) mw_yX11_chainAt kw_1310 kw_1311 kw_1312 g1 rfl (by decide) rfl ⟨(Nat.le_of_ble_eq_true rfl), (Nat.le_of_ble_eq_true rfl)⟩ rfl (Nat.le_of_ble_eq_true rfl) (lw_rm ⟨by omega, by omega⟩) dL_law_1544 ?_
  refine aw_ret1 (k' := k + 0) (n' := n + 0) rfl rfl ?_
  refine aw_aload_n (pc := 1547) X dL_law_1547 3 rfl ?_
  refine aw_word (pc := 1548) X S hi 1 (by decide) rfl dL_law_1548 dL_law_1549 dL_law_1550 dL_law_1551 dL_law_1552 ?_
  refine aw_invV (pc := 1553) X (kX12_chainAt sx_rg e2) mw_yX12_chainAt kw_2100 kw_2101 kw_2102 g2 rfl (by decide) rfl ⟨(Nat.le_of_ble_eq_true rfl), (Nat.le_of_ble_eq_true rfl)⟩ rfl (Nat.le_of_ble_eq_true rfl) (lw_rm ⟨by omega, by omega⟩) dL_law_1553 ?_
  refine aw_ret1 (k' := k + 0 + 0) (n' := n + 0 + 0) rfl rfl ?_
  refine aw_icmp_eq (pc := 1556) (tgt := 2132) X (gX11_chainAt sx_rg e1) (gX12_chainAt sx_rg e2) dL_law_1556 (by decide) (fun _ => ?_) (fun z => absurd rfl z)
  exact K _ _ _ I2 (by omega) (by omega)
set_option maxHeartbeats 1000000 in
set_option maxRecDepth 20000 in
theorem lwc_witness {D : va_G} {cy : Nat → ClassId} {B : Nat} {p : Program} {l : Launch} {e : Env} {s : State} {m : MethodId} {b L X0 i : Nat} {xs : Nat → Int32} {below : List Frame} {meth : Method} {c : Code} {Q : State → Prop} (X : CXd D cy B p s m #[.ref b] c cL_law RL 4) (S : LSc s B b L xs) {h : Hp} {k n : Nat} (hi : i + 6 ≤ L) (hkn : k + 31 ≤ 600000 ∧ n + 292 ≤ 7302250) (I : Inv h X0) (K : ∀ (h' : Hp) (k' n' : Nat), Inv h' X0 → k' ≤ k + 31 → n' ≤ n + 292 → AWd D cy B p l e room_1 s m #[.ref b] below meth c 4 Q h' k' n' 2132 (LVs b X0 i) []) : AWd D cy B p l e room_1 s m #[.ref b] below meth c 4 Q h k n 1561 (LVs b X0 i) [] := by
  obtain ⟨c9, J, -, -, -⟩ := id I
  have g1 : (hK h X0).1 = 11 := J.x.k
  obtain ⟨v, h1, h2, e1, e2, I2⟩ := ok3 I J (ok_witness (s := sx xs i 1) J.x J.m)
  have e1 : fX11_witness h X0 (sx xs i 1) = some (v, h1) := e1
  have e2 : fX12_witness h1 (X0 + 121) (sx xs i 1) = some (v, h2) := e2
  have g2 : (hK h1 (X0 + 121)).1 = 12 := by
    have z := e2
    rw [fX12_witness.eq_1] at z
    exact (gd_some z).1
  refine aw_aload_n (pc := 1561) X dL_law_1561 2 rfl ?_
  refine aw_word (pc := 1562) X S hi 1 (by decide) rfl dL_law_1562 dL_law_1563 dL_law_1564 dL_law_1565 dL_law_1566 ?_
  refine aw_invV (pc := 1567) X (kX11_witness sx_rg e1) mw_yX11_witness kw_1314 kw_1315 kw_1316 g1 rfl (by decide) rfl ⟨(Nat.le_of_ble_eq_true rfl), (Nat.le_of_ble_eq_true rfl)⟩ rfl (Nat.le_of_ble_eq_true rfl) (lw_rm ⟨by omega, by omega⟩) dL_law_1567 ?_
  refine aw_ret1 (k' := k + 0) (n' := n + 0) rfl rfl ?_
  refine aw_aload_n (pc := 1570) X dL_law_1570 3 rfl ?_
  refine aw_word (pc := 1571) X S hi 1 (by decide) rfl dL_law_1571 dL_law_1572 dL_law_1573 dL_law_1574 dL_law_1575 ?_
  refine aw_invV (pc := 1576) X (kX12_witness sx_rg e2) mw_yX12_witness kw_2104 kw_2105 kw_2106 g2 rfl (by decide) rfl ⟨(Nat.le_of_ble_eq_true rfl), (Nat.le_of_ble_eq_true rfl)⟩ rfl (Nat.le_of_ble_eq_true rfl) (lw_rm ⟨by omega, by omega⟩) dL_law_1576 ?_
  refine aw_ret1 (k' := k + 0 + 0) (n' := n + 0 + 0) rfl rfl ?_
  refine aw_icmp_eq (pc := 1579) (tgt := 2132) X (gX11_witness sx_rg e1) (gX12_witness sx_rg e2) dL_law_1579 (by decide) (fun _ => ?_) (fun z => absurd rfl z)
  exact K _ _ _ I2 (by omega) (by omega)
set_option maxHeartbeats 1000000 in
set_option maxRecDepth 20000 in
theorem lwc_fillFrom {D : va_G} {cy : Nat → ClassId} {B : Nat} {p : Program} {l : Launch} {e : Env} {s : State} {m : MethodId} {b L X0 i : Nat} {xs : Nat → Int32} {below : List Frame} {meth : Method} {c : Code} {Q : State → Prop} (X : CXd D cy B p s m #[.ref b] c cL_law RL 4) (S : LSc s B b L xs) {h : Hp} {k n : Nat} (hi : i + 6 ≤ L) (hkn : k + 31 ≤ 600000 ∧ n + 292 ≤ 7302250) (I : Inv h X0) (K : ∀ (h' : Hp) (k' n' : Nat), Inv h' X0 → k' ≤ k + 31 → n' ≤ n + 292 → AWd D cy B p l e room_1 s m #[.ref b] below meth c 4 Q h' k' n' 2132 (LVs b X0 i) []) : AWd D cy B p l e room_1 s m #[.ref b] below meth c 4 Q h k n 1584 (LVs b X0 i) [] := by
  obtain ⟨c9, J, -, -, -⟩ := id I
  have g1 : (hK h X0).1 = 11 := J.x.k
  obtain ⟨v, h1, h2, e1, e2, I2⟩ := ok3 I J (ok_fillFrom (a := sx xs i 1) (s := sx xs i 2) (d := sx xs i 3) J.x J.m)
  have e1 : fX11_fillFrom h X0 (sx xs i 1) (sx xs i 2) (sx xs i 3) = some (v, h1) := e1
  have e2 : fX12_fillFrom h1 (X0 + 121) (sx xs i 1) (sx xs i 2) (sx xs i 3) = some (v, h2) := e2
  have g2 : (hK h1 (X0 + 121)).1 = 12 := by
    have z := e2
    rw [fX12_fillFrom.eq_1] at z
    exact (gd_some z).1
  refine aw_aload_n (pc := 1584) X dL_law_1584 2 rfl ?_
  refine aw_word (pc := 1585) X S hi 1 (by decide) rfl dL_law_1585 dL_law_1586 dL_law_1587 dL_law_1588 dL_law_1589 ?_
  refine aw_word (pc := 1590) X S hi 2 (by decide) rfl dL_law_1590 dL_law_1591 dL_law_1592 dL_law_1593 dL_law_1594 ?_
  refine aw_word (pc := 1595) X S hi 3 (by decide) rfl dL_law_1595 dL_law_1596 dL_law_1597 dL_law_1598 dL_law_1599 ?_
  refine aw_invV (pc := 1600) X (kX11_fillFrom sx_rg sx_rg sx_rg e1) mw_yX11_fillFrom kw_1326 kw_1327 kw_1328 g1 rfl (by decide) rfl ⟨(Nat.le_of_ble_eq_true rfl), (Nat.le_of_ble_eq_true rfl)⟩ rfl (Nat.le_of_ble_eq_true rfl) (lw_rm ⟨by omega, by omega⟩) dL_law_1600 ?_
  refine aw_ret1 (k' := k + 0) (n' := n + 0) rfl rfl ?_
  refine aw_aload_n (pc := 1603) X dL_law_1603 3 rfl ?_
  refine aw_word (pc := 1604) X S hi 1 (by decide) rfl dL_law_1604 dL_law_1605 dL_law_1606 dL_law_1607 dL_law_1608 ?_
  refine aw_word (pc := 1609) X S hi 2 (by decide) rfl dL_law_1609 dL_law_1610 dL_law_1611 dL_law_1612 dL_law_1613 ?_
  refine aw_word (pc := 1614) X S hi 3 (by decide) rfl dL_law_1614 dL_law_1615 dL_law_1616 dL_law_1617 dL_law_1618 ?_
  refine aw_invV (pc := 1619) X (kX12_fillFrom sx_rg sx_rg sx_rg e2) mw_yX12_fillFrom kw_2159 kw_2160 kw_2161 g2 rfl (by decide) rfl ⟨(Nat.le_of_ble_eq_true rfl), (Nat.le_of_ble_eq_true rfl)⟩ rfl (Nat.le_of_ble_eq_true rfl) (lw_rm ⟨by omega, by omega⟩) dL_law_1619 ?_
  refine aw_ret1 (k' := k + 0 + 0) (n' := n + 0 + 0) rfl rfl ?_
  refine aw_icmp_eq (pc := 1622) (tgt := 2132) X (gX11_fillFrom sx_rg sx_rg sx_rg e1) (gX12_fillFrom sx_rg sx_rg sx_rg e2) dL_law_1622 (by decide) (fun _ => ?_) (fun z => absurd rfl z)
  exact K _ _ _ I2 (by omega) (by omega)
set_option maxHeartbeats 1000000 in
set_option maxRecDepth 20000 in
theorem lwc_keeps {D : va_G} {cy : Nat → ClassId} {B : Nat} {p : Program} {l : Launch} {e : Env} {s : State} {m : MethodId} {b L X0 i : Nat} {xs : Nat → Int32} {below : List Frame} {meth : Method} {c : Code} {Q : State → Prop} (X : CXd D cy B p s m #[.ref b] c cL_law RL 4) (S : LSc s B b L xs) {h : Hp} {k n : Nat} (hi : i + 6 ≤ L) (hkn : k + 31 ≤ 600000 ∧ n + 292 ≤ 7302250) (I : Inv h X0) (K : ∀ (h' : Hp) (k' n' : Nat), Inv h' X0 → k' ≤ k + 31 → n' ≤ n + 292 → AWd D cy B p l e room_1 s m #[.ref b] below meth c 4 Q h' k' n' 2132 (LVs b X0 i) []) : AWd D cy B p l e room_1 s m #[.ref b] below meth c 4 Q h k n 1627 (LVs b X0 i) [] := by
  obtain ⟨c9, J, -, -, -⟩ := id I
  have g1 : (hK h X0).1 = 11 := J.x.k
  obtain ⟨v, h1, h2, e1, e2, I2⟩ := ok3 I J (ok_keeps (a := sx xs i 1) (d := sx xs i 2) J.x J.m)
  have e1 : fX11_keeps h X0 (sx xs i 1) (sx xs i 2) = some (v, h1) := e1
  have e2 : fX12_keeps h1 (X0 + 121) (sx xs i 1) (sx xs i 2) = some (v, h2) := e2
  have g2 : (hK h1 (X0 + 121)).1 = 12 := by
    have z := e2
    rw [fX12_keeps.eq_1] at z
    exact (gd_some z).1
  refine aw_aload_n (pc := 1627) X dL_law_1627 2 rfl ?_
  refine aw_word (pc := 1628) X S hi 1 (by decide) rfl dL_law_1628 dL_law_1629 dL_law_1630 dL_law_1631 dL_law_1632 ?_
  refine aw_word (pc := 1633) X S hi 2 (by decide) rfl dL_law_1633 dL_law_1634 dL_law_1635 dL_law_1636 dL_law_1637 ?_
  refine aw_invV (pc := 1638) X (kX11_keeps sx_rg sx_rg e1) mw_yX11_keeps kw_1343 kw_1344 kw_1345 g1 rfl (by decide) rfl ⟨(Nat.le_of_ble_eq_true rfl), (Nat.le_of_ble_eq_true rfl)⟩ rfl (Nat.le_of_ble_eq_true rfl) (lw_rm ⟨by omega, by omega⟩) dL_law_1638 ?_
  refine aw_ret1 (k' := k + 0) (n' := n + 0) rfl rfl ?_
  refine aw_aload_n (pc := 1641) X dL_law_1641 3 rfl ?_
  refine aw_word (pc := 1642) X S hi 1 (by decide) rfl dL_law_1642 dL_law_1643 dL_law_1644 dL_law_1645 dL_law_1646 ?_
  refine aw_word (pc := 1647) X S hi 2 (by decide) rfl dL_law_1647 dL_law_1648 dL_law_1649 dL_law_1650 dL_law_1651 ?_
  refine aw_invV (pc := 1652) X (kX12_keeps sx_rg sx_rg e2) mw_yX12_keeps kw_2135 kw_2136 kw_2137 g2 rfl (by decide) rfl ⟨(Nat.le_of_ble_eq_true rfl), (Nat.le_of_ble_eq_true rfl)⟩ rfl (Nat.le_of_ble_eq_true rfl) (lw_rm ⟨by omega, by omega⟩) dL_law_1652 ?_
  refine aw_ret1 (k' := k + 0 + 0) (n' := n + 0 + 0) rfl rfl ?_
  refine aw_icmp_eq (pc := 1655) (tgt := 2132) X (gX11_keeps sx_rg sx_rg e1) (gX12_keeps sx_rg sx_rg e2) dL_law_1655 (by decide) (fun _ => ?_) (fun z => absurd rfl z)
  exact K _ _ _ I2 (by omega) (by omega)
set_option maxHeartbeats 1000000 in
set_option maxRecDepth 20000 in
theorem lwc_fewest {D : va_G} {cy : Nat → ClassId} {B : Nat} {p : Program} {l : Launch} {e : Env} {s : State} {m : MethodId} {b L X0 i : Nat} {xs : Nat → Int32} {below : List Frame} {meth : Method} {c : Code} {Q : State → Prop} (X : CXd D cy B p s m #[.ref b] c cL_law RL 4) (S : LSc s B b L xs) {h : Hp} {k n : Nat} (hi : i + 6 ≤ L) (hkn : k + 31 ≤ 600000 ∧ n + 292 ≤ 7302250) (I : Inv h X0) (K : ∀ (h' : Hp) (k' n' : Nat), Inv h' X0 → k' ≤ k + 31 → n' ≤ n + 292 → AWd D cy B p l e room_1 s m #[.ref b] below meth c 4 Q h' k' n' 2132 (LVs b X0 i) []) : AWd D cy B p l e room_1 s m #[.ref b] below meth c 4 Q h k n 1660 (LVs b X0 i) [] := by
  obtain ⟨c9, J, -, -, -⟩ := id I
  have g1 : (hK h X0).1 = 11 := J.x.k
  obtain ⟨v, h1, h2, e1, e2, I2⟩ := ok3 I J (ok_fewest (a := sx xs i 1) (d := sx xs i 2) J.x J.m)
  have e1 : fX11_fewest h X0 (sx xs i 1) (sx xs i 2) = some (v, h1) := e1
  have e2 : fX12_fewest h1 (X0 + 121) (sx xs i 1) (sx xs i 2) = some (v, h2) := e2
  have g2 : (hK h1 (X0 + 121)).1 = 12 := by
    have z := e2
    rw [fX12_fewest.eq_1] at z
    exact (gd_some z).1
  refine aw_aload_n (pc := 1660) X dL_law_1660 2 rfl ?_
  refine aw_word (pc := 1661) X S hi 1 (by decide) rfl dL_law_1661 dL_law_1662 dL_law_1663 dL_law_1664 dL_law_1665 ?_
  refine aw_word (pc := 1666) X S hi 2 (by decide) rfl dL_law_1666 dL_law_1667 dL_law_1668 dL_law_1669 dL_law_1670 ?_
  refine aw_invV (pc := 1671) X (kX11_fewest sx_rg sx_rg e1) mw_yX11_fewest kw_1352 kw_1353 kw_1354 g1 rfl (by decide) rfl ⟨(Nat.le_of_ble_eq_true rfl), (Nat.le_of_ble_eq_true rfl)⟩ rfl (Nat.le_of_ble_eq_true rfl) (lw_rm ⟨by omega, by omega⟩) dL_law_1671 ?_
  refine aw_ret1 (k' := k + 0) (n' := n + 0) rfl rfl ?_
  refine aw_aload_n (pc := 1674) X dL_law_1674 3 rfl ?_
  refine aw_word (pc := 1675) X S hi 1 (by decide) rfl dL_law_1675 dL_law_1676 dL_law_1677 dL_law_1678 dL_law_1679 ?_
  refine aw_word (pc := 1680) X S hi 2 (by decide) rfl dL_law_1680 dL_law_1681 dL_law_1682 dL_law_1683 dL_law_1684 ?_
  refine aw_invV (pc := 1685) X (kX12_fewest sx_rg sx_rg e2) mw_yX12_fewest kw_2143 kw_2144 kw_2145 g2 rfl (by decide) rfl ⟨(Nat.le_of_ble_eq_true rfl), (Nat.le_of_ble_eq_true rfl)⟩ rfl (Nat.le_of_ble_eq_true rfl) (lw_rm ⟨by omega, by omega⟩) dL_law_1685 ?_
  refine aw_ret1 (k' := k + 0 + 0) (n' := n + 0 + 0) rfl rfl ?_
  refine aw_icmp_eq (pc := 1688) (tgt := 2132) X (gX11_fewest sx_rg sx_rg e1) (gX12_fewest sx_rg sx_rg e2) dL_law_1688 (by decide) (fun _ => ?_) (fun z => absurd rfl z)
  exact K _ _ _ I2 (by omega) (by omega)
set_option maxHeartbeats 1000000 in
set_option maxRecDepth 20000 in
theorem lwc_cheapest {D : va_G} {cy : Nat → ClassId} {B : Nat} {p : Program} {l : Launch} {e : Env} {s : State} {m : MethodId} {b L X0 i : Nat} {xs : Nat → Int32} {below : List Frame} {meth : Method} {c : Code} {Q : State → Prop} (X : CXd D cy B p s m #[.ref b] c cL_law RL 4) (S : LSc s B b L xs) {h : Hp} {k n : Nat} (hi : i + 6 ≤ L) (hkn : k + 31 ≤ 600000 ∧ n + 292 ≤ 7302250) (I : Inv h X0) (K : ∀ (h' : Hp) (k' n' : Nat), Inv h' X0 → k' ≤ k + 31 → n' ≤ n + 292 → AWd D cy B p l e room_1 s m #[.ref b] below meth c 4 Q h' k' n' 2132 (LVs b X0 i) []) : AWd D cy B p l e room_1 s m #[.ref b] below meth c 4 Q h k n 1693 (LVs b X0 i) [] := by
  obtain ⟨c9, J, -, -, -⟩ := id I
  have g1 : (hK h X0).1 = 11 := J.x.k
  obtain ⟨v, h1, h2, e1, e2, I2⟩ := ok3 I J (ok_cheapest (a := sx xs i 1) (d := sx xs i 2) (u := sx xs i 3) J.x J.m)
  have e1 : fX11_cheapest h X0 (sx xs i 1) (sx xs i 2) (sx xs i 3) = some (v, h1) := e1
  have e2 : fX12_cheapest h1 (X0 + 121) (sx xs i 1) (sx xs i 2) (sx xs i 3) = some (v, h2) := e2
  have g2 : (hK h1 (X0 + 121)).1 = 12 := by
    have z := e2
    rw [fX12_cheapest.eq_1] at z
    exact (gd_some z).1
  refine aw_aload_n (pc := 1693) X dL_law_1693 2 rfl ?_
  refine aw_word (pc := 1694) X S hi 1 (by decide) rfl dL_law_1694 dL_law_1695 dL_law_1696 dL_law_1697 dL_law_1698 ?_
  refine aw_word (pc := 1699) X S hi 2 (by decide) rfl dL_law_1699 dL_law_1700 dL_law_1701 dL_law_1702 dL_law_1703 ?_
  refine aw_word (pc := 1704) X S hi 3 (by decide) rfl dL_law_1704 dL_law_1705 dL_law_1706 dL_law_1707 dL_law_1708 ?_
  refine aw_invV (pc := 1709) X (kX11_cheapest sx_rg sx_rg sx_rg e1) mw_yX11_cheapest kw_1372 kw_1373 kw_1374 g1 rfl (by decide) rfl ⟨(Nat.le_of_ble_eq_true rfl), (Nat.le_of_ble_eq_true rfl)⟩ rfl (Nat.le_of_ble_eq_true rfl) (lw_rm ⟨by omega, by omega⟩) dL_law_1709 ?_
  refine aw_ret1 (k' := k + 0) (n' := n + 0) rfl rfl ?_
  refine aw_aload_n (pc := 1712) X dL_law_1712 3 rfl ?_
  refine aw_word (pc := 1713) X S hi 1 (by decide) rfl dL_law_1713 dL_law_1714 dL_law_1715 dL_law_1716 dL_law_1717 ?_
  refine aw_word (pc := 1718) X S hi 2 (by decide) rfl dL_law_1718 dL_law_1719 dL_law_1720 dL_law_1721 dL_law_1722 ?_
  refine aw_word (pc := 1723) X S hi 3 (by decide) rfl dL_law_1723 dL_law_1724 dL_law_1725 dL_law_1726 dL_law_1727 ?_
  refine aw_invV (pc := 1728) X (kX12_cheapest sx_rg sx_rg sx_rg e2) mw_yX12_cheapest kw_2151 kw_2152 kw_2153 g2 rfl (by decide) rfl ⟨(Nat.le_of_ble_eq_true rfl), (Nat.le_of_ble_eq_true rfl)⟩ rfl (Nat.le_of_ble_eq_true rfl) (lw_rm ⟨by omega, by omega⟩) dL_law_1728 ?_
  refine aw_ret1 (k' := k + 0 + 0) (n' := n + 0 + 0) rfl rfl ?_
  refine aw_icmp_eq (pc := 1731) (tgt := 2132) X (gX11_cheapest sx_rg sx_rg sx_rg e1) (gX12_cheapest sx_rg sx_rg sx_rg e2) dL_law_1731 (by decide) (fun _ => ?_) (fun z => absurd rfl z)
  exact K _ _ _ I2 (by omega) (by omega)
set_option maxHeartbeats 1000000 in
set_option maxRecDepth 20000 in
theorem lwc_shelf {D : va_G} {cy : Nat → ClassId} {B : Nat} {p : Program} {l : Launch} {e : Env} {s : State} {m : MethodId} {b L X0 i : Nat} {xs : Nat → Int32} {below : List Frame} {meth : Method} {c : Code} {Q : State → Prop} (X : CXd D cy B p s m #[.ref b] c cL_law RL 4) (S : LSc s B b L xs) {h : Hp} {k n : Nat} (hi : i + 6 ≤ L) (hkn : k + 31 ≤ 600000 ∧ n + 292 ≤ 7302250) (I : Inv h X0) (K : ∀ (h' : Hp) (k' n' : Nat), Inv h' X0 → k' ≤ k + 31 → n' ≤ n + 292 → AWd D cy B p l e room_1 s m #[.ref b] below meth c 4 Q h' k' n' 2132 (LVs b X0 i) []) : AWd D cy B p l e room_1 s m #[.ref b] below meth c 4 Q h k n 1736 (LVs b X0 i) [] := by
  obtain ⟨c9, J, -, -, -⟩ := id I
  have g1 : (hK h X0).1 = 11 := J.x.k
  obtain ⟨v, h1, h2, e1, e2, I2⟩ := ok_shelf I
  have e1 : fX11_shelf h X0 = some (v, h1) := e1
  have e2 : fX12_shelf h1 (X0 + 121) = some (v, h2) := e2
  have g2 : (hK h1 (X0 + 121)).1 = 12 := by
    have z := e2
    rw [fX12_shelf.eq_1] at z
    exact (gd_some z).1
  refine aw_aload_n (pc := 1736) X dL_law_1736 2 rfl ?_
  refine aw_invV (pc := 1737) X (kX11_shelf e1) mw_yX11_shelf kw_1377 kw_1378 kw_1379 g1 rfl (by decide) rfl ⟨(Nat.le_of_ble_eq_true rfl), (Nat.le_of_ble_eq_true rfl)⟩ rfl (Nat.le_of_ble_eq_true rfl) (lw_rm ⟨by omega, by omega⟩) dL_law_1737 ?_
  refine aw_ret1 (k' := k + 0) (n' := n + 0) rfl rfl ?_
  refine aw_aload_n (pc := 1740) X dL_law_1740 3 rfl ?_
  refine aw_invV (pc := 1741) X (kX12_shelf e2) mw_yX12_shelf kw_2163 kw_2164 kw_2165 g2 rfl (by decide) rfl ⟨(Nat.le_of_ble_eq_true rfl), (Nat.le_of_ble_eq_true rfl)⟩ rfl (Nat.le_of_ble_eq_true rfl) (lw_rm ⟨by omega, by omega⟩) dL_law_1741 ?_
  refine aw_ret1 (k' := k + 0 + 0) (n' := n + 0 + 0) rfl rfl ?_
  refine aw_icmp_eq (pc := 1744) (tgt := 2132) X (gX11_shelf e1) (gX12_shelf e2) dL_law_1744 (by decide) (fun _ => ?_) (fun z => absurd rfl z)
  exact K _ _ _ I2 (by omega) (by omega)
set_option maxHeartbeats 1000000 in
set_option maxRecDepth 20000 in
theorem lwc_shelfAt {D : va_G} {cy : Nat → ClassId} {B : Nat} {p : Program} {l : Launch} {e : Env} {s : State} {m : MethodId} {b L X0 i : Nat} {xs : Nat → Int32} {below : List Frame} {meth : Method} {c : Code} {Q : State → Prop} (X : CXd D cy B p s m #[.ref b] c cL_law RL 4) (S : LSc s B b L xs) {h : Hp} {k n : Nat} (hi : i + 6 ≤ L) (hkn : k + 31 ≤ 600000 ∧ n + 292 ≤ 7302250) (I : Inv h X0) (K : ∀ (h' : Hp) (k' n' : Nat), Inv h' X0 → k' ≤ k + 31 → n' ≤ n + 292 → AWd D cy B p l e room_1 s m #[.ref b] below meth c 4 Q h' k' n' 2132 (LVs b X0 i) []) : AWd D cy B p l e room_1 s m #[.ref b] below meth c 4 Q h k n 1749 (LVs b X0 i) [] := by
  obtain ⟨c9, J, -, -, -⟩ := id I
  have g1 : (hK h X0).1 = 11 := J.x.k
  obtain ⟨v, h1, h2, e1, e2, I2⟩ := ok_shelfAt (a := sx xs i 1) I
  have e1 : fX11_shelfAt h X0 (sx xs i 1) = some (v, h1) := e1
  have e2 : fX12_shelfAt h1 (X0 + 121) (sx xs i 1) = some (v, h2) := e2
  have g2 : (hK h1 (X0 + 121)).1 = 12 := by
    have z := e2
    rw [fX12_shelfAt.eq_1] at z
    exact (gd_some z).1
  refine aw_aload_n (pc := 1749) X dL_law_1749 2 rfl ?_
  refine aw_word (pc := 1750) X S hi 1 (by decide) rfl dL_law_1750 dL_law_1751 dL_law_1752 dL_law_1753 dL_law_1754 ?_
  refine aw_invV (pc := 1755) X (kX11_shelfAt sx_rg e1) mw_yX11_shelfAt kw_1396 kw_1397 kw_1398 g1 rfl (by decide) rfl ⟨(Nat.le_of_ble_eq_true rfl), (Nat.le_of_ble_eq_true rfl)⟩ rfl (Nat.le_of_ble_eq_true rfl) (lw_rm ⟨by omega, by omega⟩) dL_law_1755 ?_
  refine aw_ret1 (k' := k + 0) (n' := n + 0) rfl rfl ?_
  refine aw_aload_n (pc := 1758) X dL_law_1758 3 rfl ?_
  refine aw_word (pc := 1759) X S hi 1 (by decide) rfl dL_law_1759 dL_law_1760 dL_law_1761 dL_law_1762 dL_law_1763 ?_
  refine aw_invV (pc := 1764) X (kX12_shelfAt sx_rg e2) mw_yX12_shelfAt kw_2171 kw_2172 kw_2173 g2 rfl (by decide) rfl ⟨(Nat.le_of_ble_eq_true rfl), (Nat.le_of_ble_eq_true rfl)⟩ rfl (Nat.le_of_ble_eq_true rfl) (lw_rm ⟨by omega, by omega⟩) dL_law_1764 ?_
  refine aw_ret1 (k' := k + 0 + 0) (n' := n + 0 + 0) rfl rfl ?_
  refine aw_icmp_eq (pc := 1767) (tgt := 2132) X (gX11_shelfAt sx_rg e1) (gX12_shelfAt sx_rg e2) dL_law_1767 (by decide) (fun _ => ?_) (fun z => absurd rfl z)
  exact K _ _ _ I2 (by omega) (by omega)
set_option maxHeartbeats 1000000 in
set_option maxRecDepth 20000 in
theorem lwc_pieced {D : va_G} {cy : Nat → ClassId} {B : Nat} {p : Program} {l : Launch} {e : Env} {s : State} {m : MethodId} {b L X0 i : Nat} {xs : Nat → Int32} {below : List Frame} {meth : Method} {c : Code} {Q : State → Prop} (X : CXd D cy B p s m #[.ref b] c cL_law RL 4) (S : LSc s B b L xs) {h : Hp} {k n : Nat} (hi : i + 6 ≤ L) (hkn : k + 31 ≤ 600000 ∧ n + 292 ≤ 7302250) (I : Inv h X0) (K : ∀ (h' : Hp) (k' n' : Nat), Inv h' X0 → k' ≤ k + 31 → n' ≤ n + 292 → AWd D cy B p l e room_1 s m #[.ref b] below meth c 4 Q h' k' n' 2132 (LVs b X0 i) []) : AWd D cy B p l e room_1 s m #[.ref b] below meth c 4 Q h k n 1772 (LVs b X0 i) [] := by
  obtain ⟨c9, J, -, -, -⟩ := id I
  have g1 : (hK h X0).1 = 11 := J.x.k
  obtain ⟨v, h1, h2, e1, e2, I2⟩ := ok3 I J (ok_pieced (s := sx xs i 1) (u := sx xs i 2) J.x J.m)
  have e1 : fX11_pieced h X0 (sx xs i 1) (sx xs i 2) = some (v, h1) := e1
  have e2 : fX12_pieced h1 (X0 + 121) (sx xs i 1) (sx xs i 2) = some (v, h2) := e2
  have g2 : (hK h1 (X0 + 121)).1 = 12 := by
    have z := e2
    rw [fX12_pieced.eq_1] at z
    exact (gd_some z).1
  refine aw_aload_n (pc := 1772) X dL_law_1772 2 rfl ?_
  refine aw_word (pc := 1773) X S hi 1 (by decide) rfl dL_law_1773 dL_law_1774 dL_law_1775 dL_law_1776 dL_law_1777 ?_
  refine aw_word (pc := 1778) X S hi 2 (by decide) rfl dL_law_1778 dL_law_1779 dL_law_1780 dL_law_1781 dL_law_1782 ?_
  refine aw_invV (pc := 1783) X (kX11_pieced sx_rg sx_rg e1) mw_yX11_pieced kw_1400 kw_1401 kw_1402 g1 rfl (by decide) rfl ⟨(Nat.le_of_ble_eq_true rfl), (Nat.le_of_ble_eq_true rfl)⟩ rfl (Nat.le_of_ble_eq_true rfl) (lw_rm ⟨by omega, by omega⟩) dL_law_1783 ?_
  refine aw_ret1 (k' := k + 0) (n' := n + 0) rfl rfl ?_
  refine aw_aload_n (pc := 1786) X dL_law_1786 3 rfl ?_
  refine aw_word (pc := 1787) X S hi 1 (by decide) rfl dL_law_1787 dL_law_1788 dL_law_1789 dL_law_1790 dL_law_1791 ?_
  refine aw_word (pc := 1792) X S hi 2 (by decide) rfl dL_law_1792 dL_law_1793 dL_law_1794 dL_law_1795 dL_law_1796 ?_
  refine aw_invV (pc := 1797) X (kX12_pieced sx_rg sx_rg e2) mw_yX12_pieced kw_2175 kw_2176 kw_2177 g2 rfl (by decide) rfl ⟨(Nat.le_of_ble_eq_true rfl), (Nat.le_of_ble_eq_true rfl)⟩ rfl (Nat.le_of_ble_eq_true rfl) (lw_rm ⟨by omega, by omega⟩) dL_law_1797 ?_
  refine aw_ret1 (k' := k + 0 + 0) (n' := n + 0 + 0) rfl rfl ?_
  refine aw_icmp_eq (pc := 1800) (tgt := 2132) X (gX11_pieced sx_rg sx_rg e1) (gX12_pieced sx_rg sx_rg e2) dL_law_1800 (by decide) (fun _ => ?_) (fun z => absurd rfl z)
  exact K _ _ _ I2 (by omega) (by omega)
