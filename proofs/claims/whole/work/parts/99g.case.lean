set_option maxHeartbeats 1000000 in
set_option maxRecDepth 20000 in
theorem lwc_letter {D : va_G} {cy : Nat → ClassId} {B : Nat} {p : Program} {l : Launch} {e : Env} {s : State} {m : MethodId} {b L X0 i : Nat} {xs : Nat → Int32} {below : List Frame} {meth : Method} {c : Code} {Q : State → Prop} (X : CXd D cy B p s m #[.ref b] c cL_law RL 4) (S : LSc s B b L xs) {h : Hp} {k n : Nat} (hi : i + 6 ≤ L) (hkn : k + 31 ≤ 600000 ∧ n + 292 ≤ 7302250) (I : Inv h X0) (K : ∀ (h' : Hp) (k' n' : Nat), Inv h' X0 → k' ≤ k + 31 → n' ≤ n + 292 → AWd D cy B p l e room_1 s m #[.ref b] below meth c 4 Q h' k' n' 2132 (LVs b X0 i) []) : AWd D cy B p l e room_1 s m #[.ref b] below meth c 4 Q h k n 685 (LVs b X0 i) [] := by
  obtain ⟨c9, J, -, -, -⟩ := id I
  have g1 : (hK h X0).1 = 11 := J.x.k
  obtain ⟨v, h1, h2, e1, e2, I2⟩ := ok3 I J (ok_letter (a := sx xs i 1) (k := sx xs i 2) J.x J.m)
  have e1 : fX11_letter h X0 (sx xs i 1) (sx xs i 2) = some (v, h1) := e1
  have e2 : fX12_letter h1 (X0 + 121) (sx xs i 1) (sx xs i 2) = some (v, h2) := e2
  have g2 : (hK h1 (X0 + 121)).1 = 12 := by
    have z := e2
    rw [fX12_letter.eq_1] at z
    exact (gd_some z).1
  refine aw_aload_n (pc := 685) X dL_law_685 2 rfl ?_
  refine aw_word (pc := 686) X S hi 1 (by decide) rfl dL_law_686 dL_law_687 dL_law_688 dL_law_689 dL_law_690 ?_
  refine aw_word (pc := 691) X S hi 2 (by decide) rfl dL_law_691 dL_law_692 dL_law_693 dL_law_694 dL_law_695 ?_
  refine aw_invV (pc := 696) X (kX11_letter sx_rg sx_rg e1) mw_yX11_letter kw_918 kw_919 kw_920 g1 rfl (by decide) rfl ⟨(Nat.le_of_ble_eq_true rfl), (Nat.le_of_ble_eq_true rfl)⟩ rfl (Nat.le_of_ble_eq_true rfl) (lw_rm ⟨by omega, by omega⟩) dL_law_696 ?_
  refine aw_ret1 (k' := k + 0) (n' := n + 0) rfl rfl ?_
  refine aw_aload_n (pc := 699) X dL_law_699 3 rfl ?_
  refine aw_word (pc := 700) X S hi 1 (by decide) rfl dL_law_700 dL_law_701 dL_law_702 dL_law_703 dL_law_704 ?_
  refine aw_word (pc := 705) X S hi 2 (by decide) rfl dL_law_705 dL_law_706 dL_law_707 dL_law_708 dL_law_709 ?_
  refine aw_invV (pc := 710) X (kX12_letter sx_rg sx_rg e2) mw_yX12_letter kw_1891 kw_1892 kw_1893 g2 rfl (by decide) rfl ⟨(Nat.le_of_ble_eq_true rfl), (Nat.le_of_ble_eq_true rfl)⟩ rfl (Nat.le_of_ble_eq_true rfl) (lw_rm ⟨by omega, by omega⟩) dL_law_710 ?_
  refine aw_ret1 (k' := k + 0 + 0) (n' := n + 0 + 0) rfl rfl ?_
  refine aw_icmp_eq (pc := 713) (tgt := 2132) X (gX11_letter sx_rg sx_rg e1) (gX12_letter sx_rg sx_rg e2) dL_law_713 (by decide) (fun _ => ?_) (fun z => absurd rfl z)
  exact K _ _ _ I2 (by omega) (by omega)
set_option maxHeartbeats 1000000 in
set_option maxRecDepth 20000 in
theorem lwc_jar {D : va_G} {cy : Nat → ClassId} {B : Nat} {p : Program} {l : Launch} {e : Env} {s : State} {m : MethodId} {b L X0 i : Nat} {xs : Nat → Int32} {below : List Frame} {meth : Method} {c : Code} {Q : State → Prop} (X : CXd D cy B p s m #[.ref b] c cL_law RL 4) (S : LSc s B b L xs) {h : Hp} {k n : Nat} (hi : i + 6 ≤ L) (hkn : k + 31 ≤ 600000 ∧ n + 292 ≤ 7302250) (I : Inv h X0) (K : ∀ (h' : Hp) (k' n' : Nat), Inv h' X0 → k' ≤ k + 31 → n' ≤ n + 292 → AWd D cy B p l e room_1 s m #[.ref b] below meth c 4 Q h' k' n' 2132 (LVs b X0 i) []) : AWd D cy B p l e room_1 s m #[.ref b] below meth c 4 Q h k n 718 (LVs b X0 i) [] := by
  obtain ⟨c9, J, -, -, -⟩ := id I
  have g1 : (hK h X0).1 = 11 := J.x.k
  obtain ⟨v, h1, h2, e1, e2, I2⟩ := ok3 I J (ok_jar (a := sx xs i 1) (u := sx xs i 2) J.x J.m)
  have e1 : fX11_jar h X0 (sx xs i 1) (sx xs i 2) = some (v, h1) := e1
  have e2 : fX12_jar h1 (X0 + 121) (sx xs i 1) (sx xs i 2) = some (v, h2) := e2
  have g2 : (hK h1 (X0 + 121)).1 = 12 := by
    have z := e2
    rw [fX12_jar.eq_1] at z
    exact (gd_some z).1
  refine aw_aload_n (pc := 718) X dL_law_718 2 rfl ?_
  refine aw_word (pc := 719) X S hi 1 (by decide) rfl dL_law_719 dL_law_720 dL_law_721 dL_law_722 dL_law_723 ?_
  refine aw_word (pc := 724) X S hi 2 (by decide) rfl dL_law_724 dL_law_725 dL_law_726 dL_law_727 dL_law_728 ?_
  refine aw_invV (pc := 729) X (kX11_jar sx_rg sx_rg e1) mw_yX11_jar kw_939 kw_940 kw_941 g1 rfl (by decide) rfl ⟨(Nat.le_of_ble_eq_true rfl), (Nat.le_of_ble_eq_true rfl)⟩ rfl (Nat.le_of_ble_eq_true rfl) (lw_rm ⟨by omega, by omega⟩) dL_law_729 ?_
  refine aw_ret1 (k' := k + 0) (n' := n + 0) rfl rfl ?_
  refine aw_aload_n (pc := 732) X dL_law_732 3 rfl ?_
  refine aw_word (pc := 733) X S hi 1 (by decide) rfl dL_law_733 dL_law_734 dL_law_735 dL_law_736 dL_law_737 ?_
  refine aw_word (pc := 738) X S hi 2 (by decide) rfl dL_law_738 dL_law_739 dL_law_740 dL_law_741 dL_law_742 ?_
  refine aw_invV (pc := 743) X (kX12_jar sx_rg sx_rg e2) mw_yX12_jar kw_1903 kw_1904 kw_1905 g2 rfl (by decide) rfl ⟨(Nat.le_of_ble_eq_true rfl), (Nat.le_of_ble_eq_true rfl)⟩ rfl (Nat.le_of_ble_eq_true rfl) (lw_rm ⟨by omega, by omega⟩) dL_law_743 ?_
  refine aw_ret1 (k' := k + 0 + 0) (n' := n + 0 + 0) rfl rfl ?_
  refine aw_icmp_eq (pc := 746) (tgt := 2132) X (gX11_jar sx_rg sx_rg e1) (gX12_jar sx_rg sx_rg e2) dL_law_746 (by decide) (fun _ => ?_) (fun z => absurd rfl z)
  exact K _ _ _ I2 (by omega) (by omega)
set_option maxHeartbeats 1000000 in
set_option maxRecDepth 20000 in
theorem lwc_day {D : va_G} {cy : Nat → ClassId} {B : Nat} {p : Program} {l : Launch} {e : Env} {s : State} {m : MethodId} {b L X0 i : Nat} {xs : Nat → Int32} {below : List Frame} {meth : Method} {c : Code} {Q : State → Prop} (X : CXd D cy B p s m #[.ref b] c cL_law RL 4) (S : LSc s B b L xs) {h : Hp} {k n : Nat} (hi : i + 6 ≤ L) (hkn : k + 31 ≤ 600000 ∧ n + 292 ≤ 7302250) (I : Inv h X0) (K : ∀ (h' : Hp) (k' n' : Nat), Inv h' X0 → k' ≤ k + 31 → n' ≤ n + 292 → AWd D cy B p l e room_1 s m #[.ref b] below meth c 4 Q h' k' n' 2132 (LVs b X0 i) []) : AWd D cy B p l e room_1 s m #[.ref b] below meth c 4 Q h k n 751 (LVs b X0 i) [] := by
  obtain ⟨c9, J, -, -, -⟩ := id I
  have g1 : (hK h X0).1 = 11 := J.x.k
  obtain ⟨v, h1, h2, e1, e2, I2⟩ := ok_day (a := sx xs i 1) I
  have e1 : fX11_day h X0 (sx xs i 1) = some (v, h1) := e1
  have e2 : fX12_day h1 (X0 + 121) (sx xs i 1) = some (v, h2) := e2
  have g2 : (hK h1 (X0 + 121)).1 = 12 := by
    have z := e2
    rw [fX12_day.eq_1] at z
    exact (gd_some z).1
  refine aw_aload_n (pc := 751) X dL_law_751 2 rfl ?_
  refine aw_word (pc := 752) X S hi 1 (by decide) rfl dL_law_752 dL_law_753 dL_law_754 dL_law_755 dL_law_756 ?_
  refine aw_invV (pc := 757) X (kX11_day sx_rg e1) mw_yX11_day kw_953 kw_954 kw_955 g1 rfl (by decide) rfl ⟨(Nat.le_of_ble_eq_true rfl), (Nat.le_of_ble_eq_true rfl)⟩ rfl (Nat.le_of_ble_eq_true rfl) (lw_rm ⟨by omega, by omega⟩) dL_law_757 ?_
  refine aw_ret1 (k' := k + 0) (n' := n + 0) rfl rfl ?_
  refine aw_aload_n (pc := 760) X dL_law_760 3 rfl ?_
  refine aw_word (pc := 761) X S hi 1 (by decide) rfl dL_law_761 dL_law_762 dL_law_763 dL_law_764 dL_law_765 ?_
  refine aw_invV (pc := 766) X (kX12_day sx_rg e2) mw_yX12_day kw_1911 kw_1912 kw_1913 g2 rfl (by decide) rfl ⟨(Nat.le_of_ble_eq_true rfl), (Nat.le_of_ble_eq_true rfl)⟩ rfl (Nat.le_of_ble_eq_true rfl) (lw_rm ⟨by omega, by omega⟩) dL_law_766 ?_
  refine aw_ret1 (k' := k + 0 + 0) (n' := n + 0 + 0) rfl rfl ?_
  refine aw_icmp_eq (pc := 769) (tgt := 2132) X (rg_01 (gX11_day sx_rg e1)) (rg_01 (gX12_day sx_rg e2)) dL_law_769 (by decide) (fun _ => ?_) (fun z => absurd rfl z)
  exact K _ _ _ I2 (by omega) (by omega)
set_option maxHeartbeats 1000000 in
set_option maxRecDepth 20000 in
theorem lwc_heard {D : va_G} {cy : Nat → ClassId} {B : Nat} {p : Program} {l : Launch} {e : Env} {s : State} {m : MethodId} {b L X0 i : Nat} {xs : Nat → Int32} {below : List Frame} {meth : Method} {c : Code} {Q : State → Prop} (X : CXd D cy B p s m #[.ref b] c cL_law RL 4) (S : LSc s B b L xs) {h : Hp} {k n : Nat} (hi : i + 6 ≤ L) (hkn : k + 31 ≤ 600000 ∧ n + 292 ≤ 7302250) (I : Inv h X0) (K : ∀ (h' : Hp) (k' n' : Nat), Inv h' X0 → k' ≤ k + 31 → n' ≤ n + 292 → AWd D cy B p l e room_1 s m #[.ref b] below meth c 4 Q h' k' n' 2132 (LVs b X0 i) []) : AWd D cy B p l e room_1 s m #[.ref b] below meth c 4 Q h k n 774 (LVs b X0 i) [] := by
  obtain ⟨c9, J, -, -, -⟩ := id I
  have g1 : (hK h X0).1 = 11 := J.x.k
  obtain ⟨v, h1, h2, e1, e2, I2⟩ := ok3 I J (ok_heard (a := sx xs i 1) J.x J.m)
  have e1 : fX11_heard h X0 (sx xs i 1) = some (v, h1) := e1
  have e2 : fX12_heard h1 (X0 + 121) (sx xs i 1) = some (v, h2) := e2
  have g2 : (hK h1 (X0 + 121)).1 = 12 := by
    have z := e2
    rw [fX12_heard.eq_1] at z
    exact (gd_some z).1
  refine aw_aload_n (pc := 774) X dL_law_774 2 rfl ?_
  refine aw_word (pc := 775) X S hi 1 (by decide) rfl dL_law_775 dL_law_776 dL_law_777 dL_law_778 dL_law_779 ?_
  refine aw_invV (pc := 780) X (kX11_heard sx_rg e1) mw_yX11_heard kw_958 kw_959 kw_960 g1 rfl (by decide) rfl ⟨(Nat.le_of_ble_eq_true rfl), (Nat.le_of_ble_eq_true rfl)⟩ rfl (Nat.le_of_ble_eq_true rfl) (lw_rm ⟨by omega, by omega⟩) dL_law_780 ?_
  refine aw_ret1 (k' := k + 0) (n' := n + 0) rfl rfl ?_
  refine aw_aload_n (pc := 783) X dL_law_783 3 rfl ?_
  refine aw_word (pc := 784) X S hi 1 (by decide) rfl dL_law_784 dL_law_785 dL_law_786 dL_law_787 dL_law_788 ?_
  refine aw_invV (pc := 789) X (kX12_heard sx_rg e2) mw_yX12_heard kw_1916 kw_1917 kw_1918 g2 rfl (by decide) rfl ⟨(Nat.le_of_ble_eq_true rfl), (Nat.le_of_ble_eq_true rfl)⟩ rfl (Nat.le_of_ble_eq_true rfl) (lw_rm ⟨by omega, by omega⟩) dL_law_789 ?_
  refine aw_ret1 (k' := k + 0 + 0) (n' := n + 0 + 0) rfl rfl ?_
  refine aw_icmp_eq (pc := 792) (tgt := 2132) X (gX11_heard sx_rg e1) (gX12_heard sx_rg e2) dL_law_792 (by decide) (fun _ => ?_) (fun z => absurd rfl z)
  exact K _ _ _ I2 (by omega) (by omega)
set_option maxHeartbeats 1000000 in
set_option maxRecDepth 20000 in
theorem lwc_heardAt {D : va_G} {cy : Nat → ClassId} {B : Nat} {p : Program} {l : Launch} {e : Env} {s : State} {m : MethodId} {b L X0 i : Nat} {xs : Nat → Int32} {below : List Frame} {meth : Method} {c : Code} {Q : State → Prop} (X : CXd D cy B p s m #[.ref b] c cL_law RL 4) (S : LSc s B b L xs) {h : Hp} {k n : Nat} (hi : i + 6 ≤ L) (hkn : k + 31 ≤ 600000 ∧ n + 292 ≤ 7302250) (I : Inv h X0) (K : ∀ (h' : Hp) (k' n' : Nat), Inv h' X0 → k' ≤ k + 31 → n' ≤ n + 292 → AWd D cy B p l e room_1 s m #[.ref b] below meth c 4 Q h' k' n' 2132 (LVs b X0 i) []) : AWd D cy B p l e room_1 s m #[.ref b] below meth c 4 Q h k n 797 (LVs b X0 i) [] := by
  obtain ⟨c9, J, -, -, -⟩ := id I
  have g1 : (hK h X0).1 = 11 := J.x.k
  obtain ⟨v, h1, h2, e1, e2, I2⟩ := ok3 I J (ok_heardAt (a := sx xs i 1) (k := sx xs i 2) J.x J.m)
  have e1 : fX11_heardAt h X0 (sx xs i 1) (sx xs i 2) = some (v, h1) := e1
  have e2 : fX12_heardAt h1 (X0 + 121) (sx xs i 1) (sx xs i 2) = some (v, h2) := e2
  have g2 : (hK h1 (X0 + 121)).1 = 12 := by
    have z := e2
    rw [fX12_heardAt.eq_1] at z
    exact (gd_some z).1
  refine aw_aload_n (pc := 797) X dL_law_797 2 rfl ?_
  refine aw_word (pc := 798) X S hi 1 (by decide) rfl dL_law_798 dL_law_799 dL_law_800 dL_law_801 dL_law_802 ?_
  refine aw_word (pc := 803) X S hi 2 (by decide) rfl dL_law_803 dL_law_804 dL_law_805 dL_law_806 dL_law_807 ?_
  refine aw_invV (pc := 808) X (kX11_heardAt sx_rg sx_rg e1) mw_yX11_heardAt kw_992 kw_993 kw_994 g1 rfl (by decide) rfl ⟨(Nat.le_of_ble_eq_true rfl), (Nat.le_of_ble_eq_true rfl)⟩ rfl (Nat.le_of_ble_eq_true rfl) (lw_rm ⟨by omega, by omega⟩) dL_law_808 ?_
  refine aw_ret1 (k' := k + 0) (n' := n + 0) rfl rfl ?_
  refine aw_aload_n (pc := 811) X dL_law_811 3 rfl ?_
  refine aw_word (pc := 812) X S hi 1 (by decide) rfl dL_law_812 dL_law_813 dL_law_814 dL_law_815 dL_law_816 ?_
  refine aw_word (pc := 817) X S hi 2 (by decide) rfl dL_law_817 dL_law_818 dL_law_819 dL_law_820 dL_law_821 ?_
  refine aw_invV (pc := 822) X (kX12_heardAt sx_rg sx_rg e2) mw_yX12_heardAt kw_1932 kw_1933 kw_1934 g2 rfl (by decide) rfl ⟨(Nat.le_of_ble_eq_true rfl), (Nat.le_of_ble_eq_true rfl)⟩ rfl (Nat.le_of_ble_eq_true rfl) (lw_rm ⟨by omega, by omega⟩) dL_law_822 ?_
  refine aw_ret1 (k' := k + 0 + 0) (n' := n + 0 + 0) rfl rfl ?_
  refine aw_icmp_eq (pc := 825) (tgt := 2132) X (gX11_heardAt sx_rg sx_rg e1) (gX12_heardAt sx_rg sx_rg e2) dL_law_825 (by decide) (fun _ => ?_) (fun z => absurd rfl z)
  exact K _ _ _ I2 (by omega) (by omega)
set_option maxHeartbeats 1000000 in
set_option maxRecDepth 20000 in
theorem lwc_pourOut {D : va_G} {cy : Nat → ClassId} {B : Nat} {p : Program} {l : Launch} {e : Env} {s : State} {m : MethodId} {b L X0 i : Nat} {xs : Nat → Int32} {below : List Frame} {meth : Method} {c : Code} {Q : State → Prop} (X : CXd D cy B p s m #[.ref b] c cL_law RL 4) (S : LSc s B b L xs) {h : Hp} {k n : Nat} (hi : i + 6 ≤ L) (hkn : k + 31 ≤ 600000 ∧ n + 292 ≤ 7302250) (I : Inv h X0) (K : ∀ (h' : Hp) (k' n' : Nat), Inv h' X0 → k' ≤ k + 31 → n' ≤ n + 292 → AWd D cy B p l e room_1 s m #[.ref b] below meth c 4 Q h' k' n' 2132 (LVs b X0 i) []) : AWd D cy B p l e room_1 s m #[.ref b] below meth c 4 Q h k n 830 (LVs b X0 i) [] := by
  obtain ⟨c9, J, -, -, -⟩ := id I
  have g1 : (hK h X0).1 = 11 := J.x.k
  obtain ⟨v, h1, h2, e1, e2, I2⟩ := ok_pourOut (a := sx xs i 1) (t := sx xs i 2) I
  have e1 : fX11_pourOut h X0 (sx xs i 1) (sx xs i 2) = some (v, h1) := e1
  have e2 : fX12_pourOut h1 (X0 + 121) (sx xs i 1) (sx xs i 2) = some (v, h2) := e2
  have g2 : (hK h1 (X0 + 121)).1 = 12 := by
    have z := e2
    rw [fX12_pourOut.eq_1] at z
    exact (gd_some z).1
  refine aw_aload_n (pc := 830) X dL_law_830 2 rfl ?_
  refine aw_word (pc := 831) X S hi 1 (by decide) rfl dL_law_831 dL_law_832 dL_law_833 dL_law_834 dL_law_835 ?_
  refine aw_word (pc := 836) X S hi 2 (by decide) rfl dL_law_836 dL_law_837 dL_law_838 dL_law_839 dL_law_840 ?_
  refine aw_invV (pc := 841) X (kX11_pourOut sx_rg sx_rg e1) mw_yX11_pourOut kw_996 kw_997 kw_998 g1 rfl (by decide) rfl ⟨(Nat.le_of_ble_eq_true rfl), (Nat.le_of_ble_eq_true rfl)⟩ rfl (Nat.le_of_ble_eq_true rfl) (lw_rm ⟨by omega, by omega⟩) dL_law_841 ?_
  refine aw_ret1 (k' := k + 0) (n' := n + 0) rfl rfl ?_
  refine aw_aload_n (pc := 844) X dL_law_844 3 rfl ?_
  refine aw_word (pc := 845) X S hi 1 (by decide) rfl dL_law_845 dL_law_846 dL_law_847 dL_law_848 dL_law_849 ?_
  refine aw_word (pc := 850) X S hi 2 (by decide) rfl dL_law_850 dL_law_851 dL_law_852 dL_law_853 dL_law_854 ?_
  refine aw_invV (pc := 855) X (kX12_pourOut sx_rg sx_rg e2) mw_yX12_pourOut kw_1944 kw_1945 kw_1946 g2 rfl (by decide) rfl ⟨(Nat.le_of_ble_eq_true rfl), (Nat.le_of_ble_eq_true rfl)⟩ rfl (Nat.le_of_ble_eq_true rfl) (lw_rm ⟨by omega, by omega⟩) dL_law_855 ?_
  refine aw_ret1 (k' := k + 0 + 0) (n' := n + 0 + 0) rfl rfl ?_
  refine aw_icmp_eq (pc := 858) (tgt := 2132) X (gX11_pourOut sx_rg sx_rg e1) (gX12_pourOut sx_rg sx_rg e2) dL_law_858 (by decide) (fun _ => ?_) (fun z => absurd rfl z)
  exact K _ _ _ I2 (by omega) (by omega)
set_option maxHeartbeats 1000000 in
set_option maxRecDepth 20000 in
theorem lwc_lost {D : va_G} {cy : Nat → ClassId} {B : Nat} {p : Program} {l : Launch} {e : Env} {s : State} {m : MethodId} {b L X0 i : Nat} {xs : Nat → Int32} {below : List Frame} {meth : Method} {c : Code} {Q : State → Prop} (X : CXd D cy B p s m #[.ref b] c cL_law RL 4) (S : LSc s B b L xs) {h : Hp} {k n : Nat} (hi : i + 6 ≤ L) (hkn : k + 31 ≤ 600000 ∧ n + 292 ≤ 7302250) (I : Inv h X0) (K : ∀ (h' : Hp) (k' n' : Nat), Inv h' X0 → k' ≤ k + 31 → n' ≤ n + 292 → AWd D cy B p l e room_1 s m #[.ref b] below meth c 4 Q h' k' n' 2132 (LVs b X0 i) []) : AWd D cy B p l e room_1 s m #[.ref b] below meth c 4 Q h k n 863 (LVs b X0 i) [] := by
  obtain ⟨c9, J, -, -, -⟩ := id I
  have g1 : (hK h X0).1 = 11 := J.x.k
  obtain ⟨v, h1, h2, e1, e2, I2⟩ := ok3 I J (ok_lost (a := sx xs i 1) J.x J.m)
  have e1 : fX11_lost h X0 (sx xs i 1) = some (v, h1) := e1
  have e2 : fX12_lost h1 (X0 + 121) (sx xs i 1) = some (v, h2) := e2
  have g2 : (hK h1 (X0 + 121)).1 = 12 := by
    have z := e2
    rw [fX12_lost.eq_1] at z
    exact (gd_some z).1
  refine aw_aload_n (pc := 863) X dL_law_863 2 rfl ?_
  refine aw_word (pc := 864) X S hi 1 (by decide) rfl dL_law_864 dL_law_865 dL_law_866 dL_law_867 dL_law_868 ?_
  refine aw_invV (pc := 869) X (kX11_lost sx_rg e1) mw_yX11_lost kw_1004 kw_1005 kw_1006 g1 rfl (by decide) rfl ⟨(Nat.le_of_ble_eq_true rfl), (Nat.le_of_ble_eq_true rfl)⟩ rfl (Nat.le_of_ble_eq_true rfl) (lw_rm ⟨by omega, by omega⟩) dL_law_869 ?_
  refine aw_ret1 (k' := k + 0) (n' := n + 0) rfl rfl ?_
  refine aw_aload_n (pc := 872) X dL_law_872 3 rfl ?_
  refine aw_word (pc := 873) X S hi 1 (by decide) rfl dL_law_873 dL_law_874 dL_law_875 dL_law_876 dL_law_877 ?_
  refine aw_invV (pc := 878) X (kX12_lost sx_rg e2) mw_yX12_lost kw_1961 kw_1962 kw_1963 g2 rfl (by decide) rfl ⟨(Nat.le_of_ble_eq_true rfl), (Nat.le_of_ble_eq_true rfl)⟩ rfl (Nat.le_of_ble_eq_true rfl) (lw_rm ⟨by omega, by omega⟩) dL_law_878 ?_
  refine aw_ret1 (k' := k + 0 + 0) (n' := n + 0 + 0) rfl rfl ?_
  refine aw_icmp_eq (pc := 881) (tgt := 2132) X (gX11_lost sx_rg e1) (gX12_lost sx_rg e2) dL_law_881 (by decide) (fun _ => ?_) (fun z => absurd rfl z)
  exact K _ _ _ I2 (by omega) (by omega)
set_option maxHeartbeats 1000000 in
set_option maxRecDepth 20000 in
theorem lwc_silent {D : va_G} {cy : Nat → ClassId} {B : Nat} {p : Program} {l : Launch} {e : Env} {s : State} {m : MethodId} {b L X0 i : Nat} {xs : Nat → Int32} {below : List Frame} {meth : Method} {c : Code} {Q : State → Prop} (X : CXd D cy B p s m #[.ref b] c cL_law RL 4) (S : LSc s B b L xs) {h : Hp} {k n : Nat} (hi : i + 6 ≤ L) (hkn : k + 31 ≤ 600000 ∧ n + 292 ≤ 7302250) (I : Inv h X0) (K : ∀ (h' : Hp) (k' n' : Nat), Inv h' X0 → k' ≤ k + 31 → n' ≤ n + 292 → AWd D cy B p l e room_1 s m #[.ref b] below meth c 4 Q h' k' n' 2132 (LVs b X0 i) []) : AWd D cy B p l e room_1 s m #[.ref b] below meth c 4 Q h k n 886 (LVs b X0 i) [] := by
  obtain ⟨c9, J, -, -, -⟩ := id I
  have g1 : (hK h X0).1 = 11 := J.x.k
  obtain ⟨v, h1, h2, e1, e2, I2⟩ := ok3 I J (ok_silent (a := sx xs i 1) J.x J.m)
  have e1 : fX11_silent h X0 (sx xs i 1) = some (v, h1) := e1
  have e2 : fX12_silent h1 (X0 + 121) (sx xs i 1) = some (v, h2) := e2
  have g2 : (hK h1 (X0 + 121)).1 = 12 := by
    have z := e2
    rw [fX12_silent.eq_1] at z
    exact (gd_some z).1
  refine aw_aload_n (pc := 886) X dL_law_886 2 rfl ?_
  refine aw_word (pc := 887) X S hi 1 (by decide) rfl dL_law_887 dL_law_888 dL_law_889 dL_law_890 dL_law_891 ?_
  refine aw_invV (pc := 892) X (kX11_silent sx_rg e1) mw_yX11_silent kw_1009 kw_1010 kw_1011 g1 rfl (by decide) rfl ⟨(Nat.le_of_ble_eq_true rfl), (Nat.le_of_ble_eq_true rfl)⟩ rfl (Nat.le_of_ble_eq_true rfl) (lw_rm ⟨by omega, by omega⟩) dL_law_892 ?_
  refine aw_ret1 (k' := k + 0) (n' := n + 0) rfl rfl ?_
  refine aw_aload_n (pc := 895) X dL_law_895 3 rfl ?_
  refine aw_word (pc := 896) X S hi 1 (by decide) rfl dL_law_896 dL_law_897 dL_law_898 dL_law_899 dL_law_900 ?_
  refine aw_invV (pc := 901) X (kX12_silent sx_rg e2) mw_yX12_silent kw_1965 kw_1966 kw_1967 g2 rfl (by decide) rfl ⟨(Nat.le_of_ble_eq_true rfl), (Nat.le_of_ble_eq_true rfl)⟩ rfl (Nat.le_of_ble_eq_true rfl) (lw_rm ⟨by omega, by omega⟩) dL_law_901 ?_
  refine aw_ret1 (k' := k + 0 + 0) (n' := n + 0 + 0) rfl rfl ?_
  refine aw_icmp_eq (pc := 904) (tgt := 2132) X (gX11_silent sx_rg e1) (gX12_silent sx_rg e2) dL_law_904 (by decide) (fun _ => ?_) (fun z => absurd rfl z)
  exact K _ _ _ I2 (by omega) (by omega)
set_option maxHeartbeats 1000000 in
set_option maxRecDepth 20000 in
theorem lwc_loudest {D : va_G} {cy : Nat → ClassId} {B : Nat} {p : Program} {l : Launch} {e : Env} {s : State} {m : MethodId} {b L X0 i : Nat} {xs : Nat → Int32} {below : List Frame} {meth : Method} {c : Code} {Q : State → Prop} (X : CXd D cy B p s m #[.ref b] c cL_law RL 4) (S : LSc s B b L xs) {h : Hp} {k n : Nat} (hi : i + 6 ≤ L) (hkn : k + 31 ≤ 600000 ∧ n + 292 ≤ 7302250) (I : Inv h X0) (K : ∀ (h' : Hp) (k' n' : Nat), Inv h' X0 → k' ≤ k + 31 → n' ≤ n + 292 → AWd D cy B p l e room_1 s m #[.ref b] below meth c 4 Q h' k' n' 2132 (LVs b X0 i) []) : AWd D cy B p l e room_1 s m #[.ref b] below meth c 4 Q h k n 909 (LVs b X0 i) [] := by
  obtain ⟨c9, J, -, -, -⟩ := id I
  have g1 : (hK h X0).1 = 11 := J.x.k
  obtain ⟨v, h1, h2, e1, e2, I2⟩ := ok3 I J (ok_loudest (d := sx xs i 1) (u := sx xs i 2) J.x J.m)
  have e1 : fX11_loudest h X0 (sx xs i 1) (sx xs i 2) = some (v, h1) := e1
  have e2 : fX12_loudest h1 (X0 + 121) (sx xs i 1) (sx xs i 2) = some (v, h2) := e2
  have g2 : (hK h1 (X0 + 121)).1 = 12 := by
    have z := e2
    rw [fX12_loudest.eq_1] at z
    exact (gd_some z).1
  refine aw_aload_n (pc := 909) X dL_law_909 2 rfl ?_
  refine aw_word (pc := 910) X S hi 1 (by decide) rfl dL_law_910 dL_law_911 dL_law_912 dL_law_913 dL_law_914 ?_
  refine aw_word (pc := 915) X S hi 2 (by decide) rfl dL_law_915 dL_law_916 dL_law_917 dL_law_918 dL_law_919 ?_
  refine aw_invV (pc := 920) X (kX11_loudest sx_rg sx_rg e1) mw_yX11_loudest kw_1022 kw_1023 kw_1024 g1 rfl (by decide) rfl ⟨(Nat.le_of_ble_eq_true rfl), (Nat.le_of_ble_eq_true rfl)⟩ rfl (Nat.le_of_ble_eq_true rfl) (lw_rm ⟨by omega, by omega⟩) dL_law_920 ?_
  refine aw_ret1 (k' := k + 0) (n' := n + 0) rfl rfl ?_
  refine aw_aload_n (pc := 923) X dL_law_923 3 rfl ?_
  refine aw_word (pc := 924) X S hi 1 (by decide) rfl dL_law_924 dL_law_925 dL_law_926 dL_law_927 dL_law_928 ?_
  refine aw_word (pc := 929) X S hi 2 (by decide) rfl dL_law_929 dL_law_930 dL_law_931 dL_law_932 dL_law_933 ?_
  refine aw_invV (pc := 934) X (kX12_loudest sx_rg sx_rg e2) mw_yX12_loudest kw_1974 kw_1975 kw_1976 g2 rfl (by decide) rfl ⟨(Nat.le_of_ble_eq_true rfl), (Nat.le_of_ble_eq_true rfl)⟩ rfl (Nat.le_of_ble_eq_true rfl) (lw_rm ⟨by omega, by omega⟩) dL_law_934 ?_
  refine aw_ret1 (k' := k + 0 + 0) (n' := n + 0 + 0) rfl rfl ?_
  refine aw_icmp_eq (pc := 937) (tgt := 2132) X (gX11_loudest sx_rg sx_rg e1) (gX12_loudest sx_rg sx_rg e2) dL_law_937 (by decide) (fun _ => ?_) (fun z => absurd rfl z)
  exact K _ _ _ I2 (by omega) (by omega)
set_option maxHeartbeats 1000000 in
set_option maxRecDepth 20000 in
theorem lwc_atOnce {D : va_G} {cy : Nat → ClassId} {B : Nat} {p : Program} {l : Launch} {e : Env} {s : State} {m : MethodId} {b L X0 i : Nat} {xs : Nat → Int32} {below : List Frame} {meth : Method} {c : Code} {Q : State → Prop} (X : CXd D cy B p s m #[.ref b] c cL_law RL 4) (S : LSc s B b L xs) {h : Hp} {k n : Nat} (hi : i + 6 ≤ L) (hkn : k + 31 ≤ 600000 ∧ n + 292 ≤ 7302250) (I : Inv h X0) (K : ∀ (h' : Hp) (k' n' : Nat), Inv h' X0 → k' ≤ k + 31 → n' ≤ n + 292 → AWd D cy B p l e room_1 s m #[.ref b] below meth c 4 Q h' k' n' 2132 (LVs b X0 i) []) : AWd D cy B p l e room_1 s m #[.ref b] below meth c 4 Q h k n 942 (LVs b X0 i) [] := by
  obtain ⟨c9, J, -, -, -⟩ := id I
  have g1 : (hK h X0).1 = 11 := J.x.k
  obtain ⟨v, h1, h2, e1, e2, I2⟩ := ok_atOnce (a := sx xs i 1) (b := sx xs i 2) (t := sx xs i 3) I
  have e1 : fX11_atOnce h X0 (sx xs i 1) (sx xs i 2) (sx xs i 3) = some (v, h1) := e1
  have e2 : fX12_atOnce h1 (X0 + 121) (sx xs i 1) (sx xs i 2) (sx xs i 3) = some (v, h2) := e2
  have g2 : (hK h1 (X0 + 121)).1 = 12 := by
    have z := e2
    rw [fX12_atOnce.eq_1] at z
    exact (gd_some z).1
  refine aw_aload_n (pc := 942) X dL_law_942 2 rfl ?_
  refine aw_word (pc := 943) X S hi 1 (by decide) rfl dL_law_943 dL_law_944 dL_law_945 dL_law_946 dL_law_947 ?_
  refine aw_word (pc := 948) X S hi 2 (by decide) rfl dL_law_948 dL_law_949 dL_law_950 dL_law_951 dL_law_952 ?_
  refine aw_word (pc := 953) X S hi 3 (by decide) rfl dL_law_953 dL_law_954 dL_law_955 dL_law_956 dL_law_957 ?_
  refine aw_invV (pc := 958) X (kX11_atOnce sx_rg sx_rg sx_rg e1) mw_yX11_atOnce kw_1036 kw_1037 kw_1038 g1 rfl (by decide) rfl ⟨(Nat.le_of_ble_eq_true rfl), (Nat.le_of_ble_eq_true rfl)⟩ rfl (Nat.le_of_ble_eq_true rfl) (lw_rm ⟨by omega, by omega⟩) dL_law_958 ?_
  refine aw_ret1 (k' := k + 0) (n' := n + 0) rfl rfl ?_
  refine aw_aload_n (pc := 961) X dL_law_961 3 rfl ?_
  refine aw_word (pc := 962) X S hi 1 (by decide) rfl dL_law_962 dL_law_963 dL_law_964 dL_law_965 dL_law_966 ?_
  refine aw_word (pc := 967) X S hi 2 (by decide) rfl dL_law_967 dL_law_968 dL_law_969 dL_law_970 dL_law_971 ?_
  refine aw_word (pc := 972) X S hi 3 (by decide) rfl dL_law_972 dL_law_973 dL_law_974 dL_law_975 dL_law_976 ?_
  refine aw_invV (pc := 977) X (kX12_atOnce sx_rg sx_rg sx_rg e2) mw_yX12_atOnce kw_1979 kw_1980 kw_1981 g2 rfl (by decide) rfl ⟨(Nat.le_of_ble_eq_true rfl), (Nat.le_of_ble_eq_true rfl)⟩ rfl (Nat.le_of_ble_eq_true rfl) (lw_rm ⟨by omega, by omega⟩) dL_law_977 ?_
  refine aw_ret1 (k' := k + 0 + 0) (n' := n + 0 + 0) rfl rfl ?_
  refine aw_icmp_eq (pc := 980) (tgt := 2132) X (gX11_atOnce sx_rg sx_rg sx_rg e1) (gX12_atOnce sx_rg sx_rg sx_rg e2) dL_law_980 (by decide) (fun _ => ?_) (fun z => absurd rfl z)
  exact K _ _ _ I2 (by omega) (by omega)
set_option maxHeartbeats 1000000 in
set_option maxRecDepth 20000 in
theorem lwc_couples {D : va_G} {cy : Nat → ClassId} {B : Nat} {p : Program} {l : Launch} {e : Env} {s : State} {m : MethodId} {b L X0 i : Nat} {xs : Nat → Int32} {below : List Frame} {meth : Method} {c : Code} {Q : State → Prop} (X : CXd D cy B p s m #[.ref b] c cL_law RL 4) (S : LSc s B b L xs) {h : Hp} {k n : Nat} (hi : i + 6 ≤ L) (hkn : k + 31 ≤ 600000 ∧ n + 292 ≤ 7302250) (I : Inv h X0) (K : ∀ (h' : Hp) (k' n' : Nat), Inv h' X0 → k' ≤ k + 31 → n' ≤ n + 292 → AWd D cy B p l e room_1 s m #[.ref b] below meth c 4 Q h' k' n' 2132 (LVs b X0 i) []) : AWd D cy B p l e room_1 s m #[.ref b] below meth c 4 Q h k n 985 (LVs b X0 i) [] := by
  obtain ⟨c9, J, -, -, -⟩ := id I
  have g1 : (hK h X0).1 = 11 := J.x.k
  obtain ⟨v, h1, h2, e1, e2, I2⟩ := ok_couples (t := sx xs i 1) (n := sx xs i 2) I
  have e1 : fX11_couples h X0 (sx xs i 1) (sx xs i 2) = some (v, h1) := e1
  have e2 : fX12_couples h1 (X0 + 121) (sx xs i 1) (sx xs i 2) = some (v, h2) := e2
  have g2 : (hK h1 (X0 + 121)).1 = 12 := by
    have z := e2
    rw [fX12_couples.eq_1] at z
    exact (gd_some z).1
  refine aw_aload_n (pc := 985) X dL_law_985 2 rfl ?_
  refine aw_word (pc := 986) X S hi 1 (by decide) rfl dL_law_986 dL_law_987 dL_law_988 dL_law_989 dL_law_990 ?_
  refine aw_word (pc := 991) X S hi 2 (by decide) rfl dL_law_991 dL_law_992 dL_law_993 dL_law_994 dL_law_995 ?_
  refine aw_invV (pc := 996) X (kX11_couples sx_rg sx_rg e1) mw_yX11_couples kw_1062 kw_1063 kw_1064 g1 rfl (by decide) rfl ⟨(Nat.le_of_ble_eq_true rfl), (Nat.le_of_ble_eq_true rfl)⟩ rfl (Nat.le_of_ble_eq_true rfl) (lw_rm ⟨by omega, by omega⟩) dL_law_996 ?_
  refine aw_ret1 (k' := k + 0) (n' := n + 0) rfl rfl ?_
  refine aw_aload_n (pc := 999) X dL_law_999 3 rfl ?_
  refine aw_word (pc := 1000) X S hi 1 (by decide) rfl dL_law_1000 dL_law_1001 dL_law_1002 dL_law_1003 dL_law_1004 ?_
  refine aw_word (pc := 1005) X S hi 2 (by decide) rfl dL_law_1005 dL_law_1006 dL_law_1007 dL_law_1008 dL_law_1009 ?_
  refine aw_invV (pc := 1010) X (kX12_couples sx_rg sx_rg e2) mw_yX12_couples kw_2021 kw_2022 kw_2023 g2 rfl (by decide) rfl ⟨(Nat.le_of_ble_eq_true rfl), (Nat.le_of_ble_eq_true rfl)⟩ rfl (Nat.le_of_ble_eq_true rfl) (lw_rm ⟨by omega, by omega⟩) dL_law_1010 ?_
  refine aw_ret1 (k' := k + 0 + 0) (n' := n + 0 + 0) rfl rfl ?_
  refine aw_lc_eq (pc := 1013) (tgt := 2132) X (gX11_couples sx_rg sx_rg e1) (gX12_couples sx_rg sx_rg e2) dL_law_1013 dL_law_1014 (by decide) (fun _ => ?_) (fun z => absurd rfl z)
  exact K _ _ _ I2 (by omega) (by omega)
set_option maxHeartbeats 1000000 in
set_option maxRecDepth 20000 in
theorem lwc_mixes {D : va_G} {cy : Nat → ClassId} {B : Nat} {p : Program} {l : Launch} {e : Env} {s : State} {m : MethodId} {b L X0 i : Nat} {xs : Nat → Int32} {below : List Frame} {meth : Method} {c : Code} {Q : State → Prop} (X : CXd D cy B p s m #[.ref b] c cL_law RL 4) (S : LSc s B b L xs) {h : Hp} {k n : Nat} (hi : i + 6 ≤ L) (hkn : k + 31 ≤ 600000 ∧ n + 292 ≤ 7302250) (I : Inv h X0) (K : ∀ (h' : Hp) (k' n' : Nat), Inv h' X0 → k' ≤ k + 31 → n' ≤ n + 292 → AWd D cy B p l e room_1 s m #[.ref b] below meth c 4 Q h' k' n' 2132 (LVs b X0 i) []) : AWd D cy B p l e room_1 s m #[.ref b] below meth c 4 Q h k n 1019 (LVs b X0 i) [] := by
  obtain ⟨c9, J, -, -, -⟩ := id I
  have g1 : (hK h X0).1 = 11 := J.x.k
  obtain ⟨v, h1, h2, e1, e2, I2⟩ := ok3 I J (ok_mixes (a := sx xs i 1) (b := sx xs i 2) J.x J.m)
  have e1 : fX11_mixes h X0 (sx xs i 1) (sx xs i 2) = some (v, h1) := e1
  have e2 : fX12_mixes h1 (X0 + 121) (sx xs i 1) (sx xs i 2) = some (v, h2) := e2
  have g2 : (hK h1 (X0 + 121)).1 = 12 := by
    have z := e2
    rw [fX12_mixes.eq_1] at z
    exact (gd_some z).1
  refine aw_aload_n (pc := 1019) X dL_law_1019 2 rfl ?_
  refine aw_word (pc := 1020) X S hi 1 (by decide) rfl dL_law_1020 dL_law_1021 dL_law_1022 dL_law_1023 dL_law_1024 ?_
  refine aw_word (pc := 1025) X S hi 2 (by decide) rfl dL_law_1025 dL_law_1026 dL_law_1027 dL_law_1028 dL_law_1029 ?_
  refine aw_invV (pc := 1030) X (kX11_mixes sx_rg sx_rg e1) mw_yX11_mixes kw_1079 kw_1080 kw_1081 g1 rfl (by decide) rfl ⟨(Nat.le_of_ble_eq_true rfl), (Nat.le_of_ble_eq_true rfl)⟩ rfl (Nat.le_of_ble_eq_true rfl) (lw_rm ⟨by omega, by omega⟩) dL_law_1030 ?_
  refine aw_ret1 (k' := k + 0) (n' := n + 0) rfl rfl ?_
  refine aw_aload_n (pc := 1033) X dL_law_1033 3 rfl ?_
  refine aw_word (pc := 1034) X S hi 1 (by decide) rfl dL_law_1034 dL_law_1035 dL_law_1036 dL_law_1037 dL_law_1038 ?_
  refine aw_word (pc := 1039) X S hi 2 (by decide) rfl dL_law_1039 dL_law_1040 dL_law_1041 dL_law_1042 dL_law_1043 ?_
  refine aw_invV (pc := 1044) X (kX12_mixes sx_rg sx_rg e2) mw_yX12_mixes kw_1995 kw_1996 kw_1997 g2 rfl (by decide) rfl ⟨(Nat.le_of_ble_eq_true rfl), (Nat.le_of_ble_eq_true rfl)⟩ rfl (Nat.le_of_ble_eq_true rfl) (lw_rm ⟨by omega, by omega⟩) dL_law_1044 ?_
  refine aw_ret1 (k' := k + 0 + 0) (n' := n + 0 + 0) rfl rfl ?_
  refine aw_icmp_eq (pc := 1047) (tgt := 2132) X (gX11_mixes sx_rg sx_rg e1) (gX12_mixes sx_rg sx_rg e2) dL_law_1047 (by decide) (fun _ => ?_) (fun z => absurd rfl z)
  exact K _ _ _ I2 (by omega) (by omega)
