set_option maxHeartbeats 1000000 in
set_option maxRecDepth 20000 in
theorem lwc_others {D : va_G} {cy : Nat → ClassId} {B : Nat} {p : Program} {l : Launch} {e : Env} {s : State} {m : MethodId} {b L X0 i : Nat} {xs : Nat → Int32} {below : List Frame} {meth : Method} {c : Code} {Q : State → Prop} (X : CXd D cy B p s m #[.ref b] c cL_law RL 4) (S : LSc s B b L xs) {h : Hp} {k n : Nat} (hi : i + 6 ≤ L) (hkn : k + 31 ≤ 600000 ∧ n + 292 ≤ 7302250) (I : Inv h X0) (K : ∀ (h' : Hp) (k' n' : Nat), Inv h' X0 → k' ≤ k + 31 → n' ≤ n + 292 → AWd D cy B p l e room_1 s m #[.ref b] below meth c 4 Q h' k' n' 2132 (LVs b X0 i) []) : AWd D cy B p l e room_1 s m #[.ref b] below meth c 4 Q h k n 1052 (LVs b X0 i) [] := by
  obtain ⟨c9, J, -, -, -⟩ := id I
  have g1 : (hK h X0).1 = 11 := J.x.k
  obtain ⟨v, h1, h2, e1, e2, I2⟩ := ok3 I J (ok_others (a := sx xs i 1) (b := sx xs i 2) J.x J.m)
  have e1 : fX11_others h X0 (sx xs i 1) (sx xs i 2) = some (v, h1) := e1
  have e2 : fX12_others h1 (X0 + 121) (sx xs i 1) (sx xs i 2) = some (v, h2) := e2
  have g2 : (hK h1 (X0 + 121)).1 = 12 := by
    have z := e2
    rw [fX12_others.eq_1] at z
    exact (gd_some z).1
  refine aw_aload_n (pc := 1052) X dL_law_1052 2 rfl ?_
  refine aw_word (pc := 1053) X S hi 1 (by decide) rfl dL_law_1053 dL_law_1054 dL_law_1055 dL_law_1056 dL_law_1057 ?_
  refine aw_word (pc := 1058) X S hi 2 (by decide) rfl dL_law_1058 dL_law_1059 dL_law_1060 dL_law_1061 dL_law_1062 ?_
  refine aw_invV (pc := 1063) X (kX11_others sx_rg sx_rg e1) mw_yX11_others kw_1087 kw_1088 kw_1089 g1 rfl (by decide) rfl ⟨(Nat.le_of_ble_eq_true rfl), (Nat.le_of_ble_eq_true rfl)⟩ rfl (Nat.le_of_ble_eq_true rfl) (lw_rm ⟨by omega, by omega⟩) dL_law_1063 ?_
  refine aw_ret1 (k' := k + 0) (n' := n + 0) rfl rfl ?_
  refine aw_aload_n (pc := 1066) X dL_law_1066 3 rfl ?_
  refine aw_word (pc := 1067) X S hi 1 (by decide) rfl dL_law_1067 dL_law_1068 dL_law_1069 dL_law_1070 dL_law_1071 ?_
  refine aw_word (pc := 1072) X S hi 2 (by decide) rfl dL_law_1072 dL_law_1073 dL_law_1074 dL_law_1075 dL_law_1076 ?_
  refine aw_invV (pc := 1077) X (kX12_others sx_rg sx_rg e2) mw_yX12_others kw_2000 kw_2001 kw_2002 g2 rfl (by decide) rfl ⟨(Nat.le_of_ble_eq_true rfl), (Nat.le_of_ble_eq_true rfl)⟩ rfl (Nat.le_of_ble_eq_true rfl) (lw_rm ⟨by omega, by omega⟩) dL_law_1077 ?_
  refine aw_ret1 (k' := k + 0 + 0) (n' := n + 0 + 0) rfl rfl ?_
  refine aw_icmp_eq (pc := 1080) (tgt := 2132) X (gX11_others sx_rg sx_rg e1) (gX12_others sx_rg sx_rg e2) dL_law_1080 (by decide) (fun _ => ?_) (fun z => absurd rfl z)
  exact K _ _ _ I2 (by omega) (by omega)
set_option maxHeartbeats 1000000 in
set_option maxRecDepth 20000 in
theorem lwc_echoed {D : va_G} {cy : Nat → ClassId} {B : Nat} {p : Program} {l : Launch} {e : Env} {s : State} {m : MethodId} {b L X0 i : Nat} {xs : Nat → Int32} {below : List Frame} {meth : Method} {c : Code} {Q : State → Prop} (X : CXd D cy B p s m #[.ref b] c cL_law RL 4) (S : LSc s B b L xs) {h : Hp} {k n : Nat} (hi : i + 6 ≤ L) (hkn : k + 31 ≤ 600000 ∧ n + 292 ≤ 7302250) (I : Inv h X0) (K : ∀ (h' : Hp) (k' n' : Nat), Inv h' X0 → k' ≤ k + 31 → n' ≤ n + 292 → AWd D cy B p l e room_1 s m #[.ref b] below meth c 4 Q h' k' n' 2132 (LVs b X0 i) []) : AWd D cy B p l e room_1 s m #[.ref b] below meth c 4 Q h k n 1085 (LVs b X0 i) [] := by
  obtain ⟨c9, J, -, -, -⟩ := id I
  have g1 : (hK h X0).1 = 11 := J.x.k
  obtain ⟨v, h1, h2, e1, e2, I2⟩ := ok_echoed (a := sx xs i 1) (l := sx xs i 2) (t := sx xs i 3) I
  have e1 : fX11_echoed h X0 (sx xs i 1) (sx xs i 2) (sx xs i 3) = some (v, h1) := e1
  have e2 : fX12_echoed h1 (X0 + 121) (sx xs i 1) (sx xs i 2) (sx xs i 3) = some (v, h2) := e2
  have g2 : (hK h1 (X0 + 121)).1 = 12 := by
    have z := e2
    rw [fX12_echoed.eq_1] at z
    exact (gd_some z).1
  refine aw_aload_n (pc := 1085) X dL_law_1085 2 rfl ?_
  refine aw_word (pc := 1086) X S hi 1 (by decide) rfl dL_law_1086 dL_law_1087 dL_law_1088 dL_law_1089 dL_law_1090 ?_
  refine aw_word (pc := 1091) X S hi 2 (by decide) rfl dL_law_1091 dL_law_1092 dL_law_1093 dL_law_1094 dL_law_1095 ?_
  refine aw_word (pc := 1096) X S hi 3 (by decide) rfl dL_law_1096 dL_law_1097 dL_law_1098 dL_law_1099 dL_law_1100 ?_
  refine aw_invV (pc := 1101) X (kX11_echoed sx_rg sx_rg sx_rg e1) mw_yX11_echoed kw_1096 kw_1097 kw_1098 g1 rfl (by decide) rfl ⟨(Nat.le_of_ble_eq_true rfl), (Nat.le_of_ble_eq_true rfl)⟩ rfl (Nat.le_of_ble_eq_true rfl) (lw_rm ⟨by omega, by omega⟩) dL_law_1101 ?_
  refine aw_ret1 (k' := k + 0) (n' := n + 0) rfl rfl ?_
  refine aw_aload_n (pc := 1104) X dL_law_1104 3 rfl ?_
  refine aw_word (pc := 1105) X S hi 1 (by decide) rfl dL_law_1105 dL_law_1106 dL_law_1107 dL_law_1108 dL_law_1109 ?_
  refine aw_word (pc := 1110) X S hi 2 (by decide) rfl dL_law_1110 dL_law_1111 dL_law_1112 dL_law_1113 dL_law_1114 ?_
  refine aw_word (pc := 1115) X S hi 3 (by decide) rfl dL_law_1115 dL_law_1116 dL_law_1117 dL_law_1118 dL_law_1119 ?_
  refine aw_invV (pc := 1120) X (kX12_echoed sx_rg sx_rg sx_rg e2) mw_yX12_echoed kw_2008 kw_2009 kw_2010 g2 rfl (by decide) rfl ⟨(Nat.le_of_ble_eq_true rfl), (Nat.le_of_ble_eq_true rfl)⟩ rfl (Nat.le_of_ble_eq_true rfl) (lw_rm ⟨by omega, by omega⟩) dL_law_1120 ?_
  refine aw_ret1 (k' := k + 0 + 0) (n' := n + 0 + 0) rfl rfl ?_
  refine aw_icmp_eq (pc := 1123) (tgt := 2132) X (gX11_echoed sx_rg sx_rg sx_rg e1) (gX12_echoed sx_rg sx_rg sx_rg e2) dL_law_1123 (by decide) (fun _ => ?_) (fun z => absurd rfl z)
  exact K _ _ _ I2 (by omega) (by omega)
set_option maxHeartbeats 1000000 in
set_option maxRecDepth 20000 in
theorem lwc_clearest {D : va_G} {cy : Nat → ClassId} {B : Nat} {p : Program} {l : Launch} {e : Env} {s : State} {m : MethodId} {b L X0 i : Nat} {xs : Nat → Int32} {below : List Frame} {meth : Method} {c : Code} {Q : State → Prop} (X : CXd D cy B p s m #[.ref b] c cL_law RL 4) (S : LSc s B b L xs) {h : Hp} {k n : Nat} (hi : i + 6 ≤ L) (hkn : k + 31 ≤ 600000 ∧ n + 292 ≤ 7302250) (I : Inv h X0) (K : ∀ (h' : Hp) (k' n' : Nat), Inv h' X0 → k' ≤ k + 31 → n' ≤ n + 292 → AWd D cy B p l e room_1 s m #[.ref b] below meth c 4 Q h' k' n' 2132 (LVs b X0 i) []) : AWd D cy B p l e room_1 s m #[.ref b] below meth c 4 Q h k n 1128 (LVs b X0 i) [] := by
  obtain ⟨c9, J, -, -, -⟩ := id I
  have g1 : (hK h X0).1 = 11 := J.x.k
  obtain ⟨v, h1, h2, e1, e2, I2⟩ := ok3 I J (ok_clearest (a := sx xs i 1) (b := sx xs i 2) (u := sx xs i 3) J.x J.m)
  have e1 : fX11_clearest h X0 (sx xs i 1) (sx xs i 2) (sx xs i 3) = some (v, h1) := e1
  have e2 : fX12_clearest h1 (X0 + 121) (sx xs i 1) (sx xs i 2) (sx xs i 3) = some (v, h2) := e2
  have g2 : (hK h1 (X0 + 121)).1 = 12 := by
    have z := e2
    rw [fX12_clearest.eq_1] at z
    exact (gd_some z).1
  refine aw_aload_n (pc := 1128) X dL_law_1128 2 rfl ?_
  refine aw_word (pc := 1129) X S hi 1 (by decide) rfl dL_law_1129 dL_law_1130 dL_law_1131 dL_law_1132 dL_law_1133 ?_
  refine aw_word (pc := 1134) X S hi 2 (by decide) rfl dL_law_1134 dL_law_1135 dL_law_1136 dL_law_1137 dL_law_1138 ?_
  refine aw_word (pc := 1139) X S hi 3 (by decide) rfl dL_law_1139 dL_law_1140 dL_law_1141 dL_law_1142 dL_law_1143 ?_
  refine aw_invV (pc := 1144) X (kX11_clearest sx_rg sx_rg sx_rg e1) mw_yX11_clearest kw_1101 kw_1102 kw_1103 g1 rfl (by decide) rfl ⟨(Nat.le_of_ble_eq_true rfl), (Nat.le_of_ble_eq_true rfl)⟩ rfl (Nat.le_of_ble_eq_true rfl) (lw_rm ⟨by omega, by omega⟩) dL_law_1144 ?_
  refine aw_ret1 (k' := k + 0) (n' := n + 0) rfl rfl ?_
  refine aw_aload_n (pc := 1147) X dL_law_1147 3 rfl ?_
  refine aw_word (pc := 1148) X S hi 1 (by decide) rfl dL_law_1148 dL_law_1149 dL_law_1150 dL_law_1151 dL_law_1152 ?_
  refine aw_word (pc := 1153) X S hi 2 (by decide) rfl dL_law_1153 dL_law_1154 dL_law_1155 dL_law_1156 dL_law_1157 ?_
  refine aw_word (pc := 1158) X S hi 3 (by decide) rfl dL_law_1158 dL_law_1159 dL_law_1160 dL_law_1161 dL_law_1162 ?_
  refine aw_invV (pc := 1163) X (kX12_clearest sx_rg sx_rg sx_rg e2) mw_yX12_clearest kw_2017 kw_2018 kw_2019 g2 rfl (by decide) rfl ⟨(Nat.le_of_ble_eq_true rfl), (Nat.le_of_ble_eq_true rfl)⟩ rfl (Nat.le_of_ble_eq_true rfl) (lw_rm ⟨by omega, by omega⟩) dL_law_1163 ?_
  refine aw_ret1 (k' := k + 0 + 0) (n' := n + 0 + 0) rfl rfl ?_
  refine aw_icmp_eq (pc := 1166) (tgt := 2132) X (gX11_clearest sx_rg sx_rg sx_rg e1) (gX12_clearest sx_rg sx_rg sx_rg e2) dL_law_1166 (by decide) (fun _ => ?_) (fun z => absurd rfl z)
  exact K _ _ _ I2 (by omega) (by omega)
set_option maxHeartbeats 1000000 in
set_option maxRecDepth 20000 in
theorem lwc_beside {D : va_G} {cy : Nat → ClassId} {B : Nat} {p : Program} {l : Launch} {e : Env} {s : State} {m : MethodId} {b L X0 i : Nat} {xs : Nat → Int32} {below : List Frame} {meth : Method} {c : Code} {Q : State → Prop} (X : CXd D cy B p s m #[.ref b] c cL_law RL 4) (S : LSc s B b L xs) {h : Hp} {k n : Nat} (hi : i + 6 ≤ L) (hkn : k + 31 ≤ 600000 ∧ n + 292 ≤ 7302250) (I : Inv h X0) (K : ∀ (h' : Hp) (k' n' : Nat), Inv h' X0 → k' ≤ k + 31 → n' ≤ n + 292 → AWd D cy B p l e room_1 s m #[.ref b] below meth c 4 Q h' k' n' 2132 (LVs b X0 i) []) : AWd D cy B p l e room_1 s m #[.ref b] below meth c 4 Q h k n 1171 (LVs b X0 i) [] := by
  obtain ⟨c9, J, -, -, -⟩ := id I
  have g1 : (hK h X0).1 = 11 := J.x.k
  obtain ⟨v, h1, h2, e1, e2, I2⟩ := ok_beside (t := sx xs i 1) (n := sx xs i 2) (s := sx xs i 3) (f := sx xs i 4) I
  have e1 : fX11_beside h X0 (sx xs i 1) (sx xs i 2) (sx xs i 3) (sx xs i 4) = some (v, h1) := e1
  have e2 : fX12_beside h1 (X0 + 121) (sx xs i 1) (sx xs i 2) (sx xs i 3) (sx xs i 4) = some (v, h2) := e2
  have g2 : (hK h1 (X0 + 121)).1 = 12 := by
    have z := e2
    rw [fX12_beside.eq_1] at z
    exact (gd_some z).1
  refine aw_aload_n (pc := 1171) X dL_law_1171 2 rfl ?_
  refine aw_word (pc := 1172) X S hi 1 (by decide) rfl dL_law_1172 dL_law_1173 dL_law_1174 dL_law_1175 dL_law_1176 ?_
  refine aw_word (pc := 1177) X S hi 2 (by decide) rfl dL_law_1177 dL_law_1178 dL_law_1179 dL_law_1180 dL_law_1181 ?_
  refine aw_word (pc := 1182) X S hi 3 (by decide) rfl dL_law_1182 dL_law_1183 dL_law_1184 dL_law_1185 dL_law_1186 ?_
  refine aw_word (pc := 1187) X S hi 4 (by decide) rfl dL_law_1187 dL_law_1188 dL_law_1189 dL_law_1190 dL_law_1191 ?_
  refine aw_invV (pc := 1192) X (kX11_beside sx_rg sx_rg sx_rg sx_rg e1) mw_yX11_beside kw_1110 kw_1111 kw_1112 g1 rfl (by decide) rfl ⟨(Nat.le_of_ble_eq_true rfl), (Nat.le_of_ble_eq_true rfl)⟩ rfl (Nat.le_of_ble_eq_true rfl) (lw_rm ⟨by omega, by omega⟩) dL_law_1192 ?_
  refine aw_ret1 (k' := k + 0) (n' := n + 0) rfl rfl ?_
  refine aw_aload_n (pc := 1195) X dL_law_1195 3 rfl ?_
  refine aw_word (pc := 1196) X S hi 1 (by decide) rfl dL_law_1196 dL_law_1197 dL_law_1198 dL_law_1199 dL_law_1200 ?_
  refine aw_word (pc := 1201) X S hi 2 (by decide) rfl dL_law_1201 dL_law_1202 dL_law_1203 dL_law_1204 dL_law_1205 ?_
  refine aw_word (pc := 1206) X S hi 3 (by decide) rfl dL_law_1206 dL_law_1207 dL_law_1208 dL_law_1209 dL_law_1210 ?_
  refine aw_word (pc := 1211) X S hi 4 (by decide) rfl dL_law_1211 dL_law_1212 dL_law_1213 dL_law_1214 dL_law_1215 ?_
  refine aw_invV (pc := 1216) X (kX12_beside sx_rg sx_rg sx_rg sx_rg e2) mw_yX12_beside kw_2034 kw_2035 kw_2036 g2 rfl (by decide) rfl ⟨(Nat.le_of_ble_eq_true rfl), (Nat.le_of_ble_eq_true rfl)⟩ rfl (Nat.le_of_ble_eq_true rfl) (lw_rm ⟨by omega, by omega⟩) dL_law_1216 ?_
  refine aw_ret1 (k' := k + 0 + 0) (n' := n + 0 + 0) rfl rfl ?_
  refine aw_lc_eq (pc := 1219) (tgt := 2132) X (gX11_beside sx_rg sx_rg sx_rg sx_rg e1) (gX12_beside sx_rg sx_rg sx_rg sx_rg e2) dL_law_1219 dL_law_1220 (by decide) (fun _ => ?_) (fun z => absurd rfl z)
  exact K _ _ _ I2 (by omega) (by omega)
set_option maxHeartbeats 1000000 in
set_option maxRecDepth 20000 in
theorem lwc_fits {D : va_G} {cy : Nat → ClassId} {B : Nat} {p : Program} {l : Launch} {e : Env} {s : State} {m : MethodId} {b L X0 i : Nat} {xs : Nat → Int32} {below : List Frame} {meth : Method} {c : Code} {Q : State → Prop} (X : CXd D cy B p s m #[.ref b] c cL_law RL 4) (S : LSc s B b L xs) {h : Hp} {k n : Nat} (hi : i + 6 ≤ L) (hkn : k + 31 ≤ 600000 ∧ n + 292 ≤ 7302250) (I : Inv h X0) (K : ∀ (h' : Hp) (k' n' : Nat), Inv h' X0 → k' ≤ k + 31 → n' ≤ n + 292 → AWd D cy B p l e room_1 s m #[.ref b] below meth c 4 Q h' k' n' 2132 (LVs b X0 i) []) : AWd D cy B p l e room_1 s m #[.ref b] below meth c 4 Q h k n 1225 (LVs b X0 i) [] := by
  obtain ⟨c9, J, -, -, -⟩ := id I
  have g1 : (hK h X0).1 = 11 := J.x.k
  obtain ⟨v, h1, h2, e1, e2, I2⟩ := ok3 I J (ok_fits (a := sx xs i 1) J.x J.m)
  have e1 : fX11_fits h X0 (sx xs i 1) = some (v, h1) := e1
  have e2 : fX12_fits h1 (X0 + 121) (sx xs i 1) = some (v, h2) := e2
  have g2 : (hK h1 (X0 + 121)).1 = 12 := by
    have z := e2
    rw [fX12_fits.eq_1] at z
    exact (gd_some z).1
  refine aw_aload_n (pc := 1225) X dL_law_1225 2 rfl ?_
  refine aw_word (pc := 1226) X S hi 1 (by decide) rfl dL_law_1226 dL_law_1227 dL_law_1228 dL_law_1229 dL_law_1230 ?_
  refine aw_invV (pc := 1231) X (kX11_fits sx_rg e1) mw_yX11_fits kw_1114 kw_1115 kw_1116 g1 rfl (by decide) rfl ⟨(Nat.le_of_ble_eq_true rfl), (Nat.le_of_ble_eq_true rfl)⟩ rfl (Nat.le_of_ble_eq_true rfl) (lw_rm ⟨by omega, by omega⟩) dL_law_1231 ?_
  refine aw_ret1 (k' := k + 0) (n' := n + 0) rfl rfl ?_
  refine aw_aload_n (pc := 1234) X dL_law_1234 3 rfl ?_
  refine aw_word (pc := 1235) X S hi 1 (by decide) rfl dL_law_1235 dL_law_1236 dL_law_1237 dL_law_1238 dL_law_1239 ?_
  refine aw_invV (pc := 1240) X (kX12_fits sx_rg e2) mw_yX12_fits kw_2039 kw_2040 kw_2041 g2 rfl (by decide) rfl ⟨(Nat.le_of_ble_eq_true rfl), (Nat.le_of_ble_eq_true rfl)⟩ rfl (Nat.le_of_ble_eq_true rfl) (lw_rm ⟨by omega, by omega⟩) dL_law_1240 ?_
  refine aw_ret1 (k' := k + 0 + 0) (n' := n + 0 + 0) rfl rfl ?_
  refine aw_icmp_eq (pc := 1243) (tgt := 2132) X (gX11_fits sx_rg e1) (gX12_fits sx_rg e2) dL_law_1243 (by decide) (fun _ => ?_) (fun z => absurd rfl z)
  exact K _ _ _ I2 (by omega) (by omega)
set_option maxHeartbeats 1000000 in
set_option maxRecDepth 20000 in
theorem lwc_places {D : va_G} {cy : Nat → ClassId} {B : Nat} {p : Program} {l : Launch} {e : Env} {s : State} {m : MethodId} {b L X0 i : Nat} {xs : Nat → Int32} {below : List Frame} {meth : Method} {c : Code} {Q : State → Prop} (X : CXd D cy B p s m #[.ref b] c cL_law RL 4) (S : LSc s B b L xs) {h : Hp} {k n : Nat} (hi : i + 6 ≤ L) (hkn : k + 31 ≤ 600000 ∧ n + 292 ≤ 7302250) (I : Inv h X0) (K : ∀ (h' : Hp) (k' n' : Nat), Inv h' X0 → k' ≤ k + 31 → n' ≤ n + 292 → AWd D cy B p l e room_1 s m #[.ref b] below meth c 4 Q h' k' n' 2132 (LVs b X0 i) []) : AWd D cy B p l e room_1 s m #[.ref b] below meth c 4 Q h k n 1248 (LVs b X0 i) [] := by
  obtain ⟨c9, J, -, -, -⟩ := id I
  have g1 : (hK h X0).1 = 11 := J.x.k
  obtain ⟨v, h1, h2, e1, e2, I2⟩ := ok3 I J (ok_places (a := sx xs i 1) (s := sx xs i 2) J.x J.m)
  have e1 : fX11_places h X0 (sx xs i 1) (sx xs i 2) = some (v, h1) := e1
  have e2 : fX12_places h1 (X0 + 121) (sx xs i 1) (sx xs i 2) = some (v, h2) := e2
  have g2 : (hK h1 (X0 + 121)).1 = 12 := by
    have z := e2
    rw [fX12_places.eq_1] at z
    exact (gd_some z).1
  refine aw_aload_n (pc := 1248) X dL_law_1248 2 rfl ?_
  refine aw_word (pc := 1249) X S hi 1 (by decide) rfl dL_law_1249 dL_law_1250 dL_law_1251 dL_law_1252 dL_law_1253 ?_
  refine aw_word (pc := 1254) X S hi 2 (by decide) rfl dL_law_1254 dL_law_1255 dL_law_1256 dL_law_1257 dL_law_1258 ?_
  refine aw_invV (pc := 1259) X (kX11_places sx_rg sx_rg e1) mw_yX11_places kw_1149 kw_1150 kw_1151 g1 rfl (by decide) rfl ⟨(Nat.le_of_ble_eq_true rfl), (Nat.le_of_ble_eq_true rfl)⟩ rfl (Nat.le_of_ble_eq_true rfl) (lw_rm ⟨by omega, by omega⟩) dL_law_1259 ?_
  refine aw_ret1 (k' := k + 0) (n' := n + 0) rfl rfl ?_
  refine aw_aload_n (pc := 1262) X dL_law_1262 3 rfl ?_
  refine aw_word (pc := 1263) X S hi 1 (by decide) rfl dL_law_1263 dL_law_1264 dL_law_1265 dL_law_1266 dL_law_1267 ?_
  refine aw_word (pc := 1268) X S hi 2 (by decide) rfl dL_law_1268 dL_law_1269 dL_law_1270 dL_law_1271 dL_law_1272 ?_
  refine aw_invV (pc := 1273) X (kX12_places sx_rg sx_rg e2) mw_yX12_places kw_2062 kw_2063 kw_2064 g2 rfl (by decide) rfl ⟨(Nat.le_of_ble_eq_true rfl), (Nat.le_of_ble_eq_true rfl)⟩ rfl (Nat.le_of_ble_eq_true rfl) (lw_rm ⟨by omega, by omega⟩) dL_law_1273 ?_
  refine aw_ret1 (k' := k + 0 + 0) (n' := n + 0 + 0) rfl rfl ?_
  refine aw_icmp_eq (pc := 1276) (tgt := 2132) X (gX11_places sx_rg sx_rg e1) (gX12_places sx_rg sx_rg e2) dL_law_1276 (by decide) (fun _ => ?_) (fun z => absurd rfl z)
  exact K _ _ _ I2 (by omega) (by omega)
set_option maxHeartbeats 1000000 in
set_option maxRecDepth 20000 in
theorem lwc_speaks {D : va_G} {cy : Nat → ClassId} {B : Nat} {p : Program} {l : Launch} {e : Env} {s : State} {m : MethodId} {b L X0 i : Nat} {xs : Nat → Int32} {below : List Frame} {meth : Method} {c : Code} {Q : State → Prop} (X : CXd D cy B p s m #[.ref b] c cL_law RL 4) (S : LSc s B b L xs) {h : Hp} {k n : Nat} (hi : i + 6 ≤ L) (hkn : k + 31 ≤ 600000 ∧ n + 292 ≤ 7302250) (I : Inv h X0) (K : ∀ (h' : Hp) (k' n' : Nat), Inv h' X0 → k' ≤ k + 31 → n' ≤ n + 292 → AWd D cy B p l e room_1 s m #[.ref b] below meth c 4 Q h' k' n' 2132 (LVs b X0 i) []) : AWd D cy B p l e room_1 s m #[.ref b] below meth c 4 Q h k n 1281 (LVs b X0 i) [] := by
  obtain ⟨c9, J, -, -, -⟩ := id I
  have g1 : (hK h X0).1 = 11 := J.x.k
  obtain ⟨v, h1, h2, e1, e2, I2⟩ := ok3 I J (ok_speaks (s := sx xs i 1) J.x J.m)
  have e1 : fX11_speaks h X0 (sx xs i 1) = some (v, h1) := e1
  have e2 : fX12_speaks h1 (X0 + 121) (sx xs i 1) = some (v, h2) := e2
  have g2 : (hK h1 (X0 + 121)).1 = 12 := by
    have z := e2
    rw [fX12_speaks.eq_1] at z
    exact (gd_some z).1
  refine aw_aload_n (pc := 1281) X dL_law_1281 2 rfl ?_
  refine aw_word (pc := 1282) X S hi 1 (by decide) rfl dL_law_1282 dL_law_1283 dL_law_1284 dL_law_1285 dL_law_1286 ?_
  refine aw_invV (pc := 1287) X (kX11_speaks sx_rg e1) mw_yX11_speaks kw_1154 kw_1155 kw_1156 g1 rfl (by decide) rfl ⟨(Nat.le_of_ble_eq_true rfl), (Nat.le_of_ble_eq_true rfl)⟩ rfl (Nat.le_of_ble_eq_true rfl) (lw_rm ⟨by omega, by omega⟩) dL_law_1287 ?_
  refine aw_ret1 (k' := k + 0) (n' := n + 0) rfl rfl ?_
  refine aw_aload_n (pc := 1290) X dL_law_1290 3 rfl ?_
  refine aw_word (pc := 1291) X S hi 1 (by decide) rfl dL_law_1291 dL_law_1292 dL_law_1293 dL_law_1294 dL_law_1295 ?_
  refine aw_invV (pc := 1296) X (kX12_speaks sx_rg e2) mw_yX12_speaks kw_2066 kw_2067 kw_2068 g2 rfl (by decide) rfl ⟨(Nat.le_of_ble_eq_true rfl), (Nat.le_of_ble_eq_true rfl)⟩ rfl (Nat.le_of_ble_eq_true rfl) (lw_rm ⟨by omega, by omega⟩) dL_law_1296 ?_
  refine aw_ret1 (k' := k + 0 + 0) (n' := n + 0 + 0) rfl rfl ?_
  refine aw_icmp_eq (pc := 1299) (tgt := 2132) X (gX11_speaks sx_rg e1) (gX12_speaks sx_rg e2) dL_law_1299 (by decide) (fun _ => ?_) (fun z => absurd rfl z)
  exact K _ _ _ I2 (by omega) (by omega)
set_option maxHeartbeats 1000000 in
set_option maxRecDepth 20000 in
theorem lwc_kinds {D : va_G} {cy : Nat → ClassId} {B : Nat} {p : Program} {l : Launch} {e : Env} {s : State} {m : MethodId} {b L X0 i : Nat} {xs : Nat → Int32} {below : List Frame} {meth : Method} {c : Code} {Q : State → Prop} (X : CXd D cy B p s m #[.ref b] c cL_law RL 4) (S : LSc s B b L xs) {h : Hp} {k n : Nat} (hi : i + 6 ≤ L) (hkn : k + 31 ≤ 600000 ∧ n + 292 ≤ 7302250) (I : Inv h X0) (K : ∀ (h' : Hp) (k' n' : Nat), Inv h' X0 → k' ≤ k + 31 → n' ≤ n + 292 → AWd D cy B p l e room_1 s m #[.ref b] below meth c 4 Q h' k' n' 2132 (LVs b X0 i) []) : AWd D cy B p l e room_1 s m #[.ref b] below meth c 4 Q h k n 1304 (LVs b X0 i) [] := by
  obtain ⟨c9, J, -, -, -⟩ := id I
  have g1 : (hK h X0).1 = 11 := J.x.k
  obtain ⟨v, h1, h2, e1, e2, I2⟩ := ok3 I J (ok_kinds (a := sx xs i 1) J.x J.m)
  have e1 : fX11_kinds h X0 (sx xs i 1) = some (v, h1) := e1
  have e2 : fX12_kinds h1 (X0 + 121) (sx xs i 1) = some (v, h2) := e2
  have g2 : (hK h1 (X0 + 121)).1 = 12 := by
    have z := e2
    rw [fX12_kinds.eq_1] at z
    exact (gd_some z).1
  refine aw_aload_n (pc := 1304) X dL_law_1304 2 rfl ?_
  refine aw_word (pc := 1305) X S hi 1 (by decide) rfl dL_law_1305 dL_law_1306 dL_law_1307 dL_law_1308 dL_law_1309 ?_
  refine aw_invV (pc := 1310) X (kX11_kinds sx_rg e1) mw_yX11_kinds kw_1162 kw_1163 kw_1164 g1 rfl (by decide) rfl ⟨(Nat.le_of_ble_eq_true rfl), (Nat.le_of_ble_eq_true rfl)⟩ rfl (Nat.le_of_ble_eq_true rfl) (lw_rm ⟨by omega, by omega⟩) dL_law_1310 ?_
  refine aw_ret1 (k' := k + 0) (n' := n + 0) rfl rfl ?_
  refine aw_aload_n (pc := 1313) X dL_law_1313 3 rfl ?_
  refine aw_word (pc := 1314) X S hi 1 (by decide) rfl dL_law_1314 dL_law_1315 dL_law_1316 dL_law_1317 dL_law_1318 ?_
  refine aw_invV (pc := 1319) X (kX12_kinds sx_rg e2) mw_yX12_kinds kw_2078 kw_2079 kw_2080 g2 rfl (by decide) rfl ⟨(Nat.le_of_ble_eq_true rfl), (Nat.le_of_ble_eq_true rfl)⟩ rfl (Nat.le_of_ble_eq_true rfl) (lw_rm ⟨by omega, by omega⟩) dL_law_1319 ?_
  refine aw_ret1 (k' := k + 0 + 0) (n' := n + 0 + 0) rfl rfl ?_
  refine aw_icmp_eq (pc := 1322) (tgt := 2132) X (gX11_kinds sx_rg e1) (gX12_kinds sx_rg e2) dL_law_1322 (by decide) (fun _ => ?_) (fun z => absurd rfl z)
  exact K _ _ _ I2 (by omega) (by omega)
set_option maxHeartbeats 1000000 in
set_option maxRecDepth 20000 in
theorem lwc_laps {D : va_G} {cy : Nat → ClassId} {B : Nat} {p : Program} {l : Launch} {e : Env} {s : State} {m : MethodId} {b L X0 i : Nat} {xs : Nat → Int32} {below : List Frame} {meth : Method} {c : Code} {Q : State → Prop} (X : CXd D cy B p s m #[.ref b] c cL_law RL 4) (S : LSc s B b L xs) {h : Hp} {k n : Nat} (hi : i + 6 ≤ L) (hkn : k + 31 ≤ 600000 ∧ n + 292 ≤ 7302250) (I : Inv h X0) (K : ∀ (h' : Hp) (k' n' : Nat), Inv h' X0 → k' ≤ k + 31 → n' ≤ n + 292 → AWd D cy B p l e room_1 s m #[.ref b] below meth c 4 Q h' k' n' 2132 (LVs b X0 i) []) : AWd D cy B p l e room_1 s m #[.ref b] below meth c 4 Q h k n 1327 (LVs b X0 i) [] := by
  obtain ⟨c9, J, -, -, -⟩ := id I
  have g1 : (hK h X0).1 = 11 := J.x.k
  obtain ⟨v, h1, h2, e1, e2, I2⟩ := ok3 I J (ok_laps (a := sx xs i 1) (b := sx xs i 2) J.x J.m)
  have e1 : fX11_laps h X0 (sx xs i 1) (sx xs i 2) = some (v, h1) := e1
  have e2 : fX12_laps h1 (X0 + 121) (sx xs i 1) (sx xs i 2) = some (v, h2) := e2
  have g2 : (hK h1 (X0 + 121)).1 = 12 := by
    have z := e2
    rw [fX12_laps.eq_1] at z
    exact (gd_some z).1
  refine aw_aload_n (pc := 1327) X dL_law_1327 2 rfl ?_
  refine aw_word (pc := 1328) X S hi 1 (by decide) rfl dL_law_1328 dL_law_1329 dL_law_1330 dL_law_1331 dL_law_1332 ?_
  refine aw_word (pc := 1333) X S hi 2 (by decide) rfl dL_law_1333 dL_law_1334 dL_law_1335 dL_law_1336 dL_law_1337 ?_
  refine aw_invV (pc := 1338) X (kX11_laps sx_rg sx_rg e1) mw_yX11_laps kw_1170 kw_1171 kw_1172 g1 rfl (by decide) rfl ⟨(Nat.le_of_ble_eq_true rfl), (Nat.le_of_ble_eq_true rfl)⟩ rfl (Nat.le_of_ble_eq_true rfl) (lw_rm ⟨by omega, by omega⟩) dL_law_1338 ?_
  refine aw_ret1 (k' := k + 0) (n' := n + 0) rfl rfl ?_
  refine aw_aload_n (pc := 1341) X dL_law_1341 3 rfl ?_
  refine aw_word (pc := 1342) X S hi 1 (by decide) rfl dL_law_1342 dL_law_1343 dL_law_1344 dL_law_1345 dL_law_1346 ?_
  refine aw_word (pc := 1347) X S hi 2 (by decide) rfl dL_law_1347 dL_law_1348 dL_law_1349 dL_law_1350 dL_law_1351 ?_
  refine aw_invV (pc := 1352) X (kX12_laps sx_rg sx_rg e2) mw_yX12_laps kw_2070 kw_2071 kw_2072 g2 rfl (by decide) rfl ⟨(Nat.le_of_ble_eq_true rfl), (Nat.le_of_ble_eq_true rfl)⟩ rfl (Nat.le_of_ble_eq_true rfl) (lw_rm ⟨by omega, by omega⟩) dL_law_1352 ?_
  refine aw_ret1 (k' := k + 0 + 0) (n' := n + 0 + 0) rfl rfl ?_
  refine aw_icmp_eq (pc := 1355) (tgt := 2132) X (gX11_laps sx_rg sx_rg e1) (gX12_laps sx_rg sx_rg e2) dL_law_1355 (by decide) (fun _ => ?_) (fun z => absurd rfl z)
  exact K _ _ _ I2 (by omega) (by omega)
set_option maxHeartbeats 1000000 in
set_option maxRecDepth 20000 in
theorem lwc_merged {D : va_G} {cy : Nat → ClassId} {B : Nat} {p : Program} {l : Launch} {e : Env} {s : State} {m : MethodId} {b L X0 i : Nat} {xs : Nat → Int32} {below : List Frame} {meth : Method} {c : Code} {Q : State → Prop} (X : CXd D cy B p s m #[.ref b] c cL_law RL 4) (S : LSc s B b L xs) {h : Hp} {k n : Nat} (hi : i + 6 ≤ L) (hkn : k + 31 ≤ 600000 ∧ n + 292 ≤ 7302250) (I : Inv h X0) (K : ∀ (h' : Hp) (k' n' : Nat), Inv h' X0 → k' ≤ k + 31 → n' ≤ n + 292 → AWd D cy B p l e room_1 s m #[.ref b] below meth c 4 Q h' k' n' 2132 (LVs b X0 i) []) : AWd D cy B p l e room_1 s m #[.ref b] below meth c 4 Q h k n 1360 (LVs b X0 i) [] := by
  obtain ⟨c9, J, -, -, -⟩ := id I
  have g1 : (hK h X0).1 = 11 := J.x.k
  obtain ⟨v, h1, h2, e1, e2, I2⟩ := ok_merged (a := sx xs i 1) I
  have e1 : fX11_merged h X0 (sx xs i 1) = some (v, h1) := e1
  have e2 : fX12_merged h1 (X0 + 121) (sx xs i 1) = some (v, h2) := e2
  have g2 : (hK h1 (X0 + 121)).1 = 12 := by
    have z := e2
    rw [fX12_merged.eq_1] at z
    exact (gd_some z).1
  refine aw_aload_n (pc := 1360) X dL_law_1360 2 rfl ?_
  refine aw_word (pc := 1361) X S hi 1 (by decide) rfl dL_law_1361 dL_law_1362 dL_law_1363 dL_law_1364 dL_law_1365 ?_
  refine aw_invV (pc := 1366) X (kX11_merged sx_rg e1) mw_yX11_merged kw_1183 kw_1184 kw_1185 g1 rfl (by decide) rfl ⟨(Nat.le_of_ble_eq_true rfl), (Nat.le_of_ble_eq_true rfl)⟩ rfl (Nat.le_of_ble_eq_true rfl) (lw_rm ⟨by omega, by omega⟩) dL_law_1366 ?_
  refine aw_ret1 (k' := k + 0) (n' := n + 0) rfl rfl ?_
  refine aw_aload_n (pc := 1369) X dL_law_1369 3 rfl ?_
  refine aw_word (pc := 1370) X S hi 1 (by decide) rfl dL_law_1370 dL_law_1371 dL_law_1372 dL_law_1373 dL_law_1374 ?_
  refine aw_invV (pc := 1375) X (kX12_merged sx_rg e2) mw_yX12_merged kw_2111 kw_2112 kw_2113 g2 rfl (by decide) rfl ⟨(Nat.le_of_ble_eq_true rfl), (Nat.le_of_ble_eq_true rfl)⟩ rfl (Nat.le_of_ble_eq_true rfl) (lw_rm ⟨by omega, by omega⟩) dL_law_1375 ?_
  refine aw_ret1 (k' := k + 0 + 0) (n' := n + 0 + 0) rfl rfl ?_
  refine aw_icmp_eq (pc := 1378) (tgt := 2132) X (gX11_merged sx_rg e1) (gX12_merged sx_rg e2) dL_law_1378 (by decide) (fun _ => ?_) (fun z => absurd rfl z)
  exact K _ _ _ I2 (by omega) (by omega)
set_option maxHeartbeats 1000000 in
set_option maxRecDepth 20000 in
theorem lwc_mergedAt {D : va_G} {cy : Nat → ClassId} {B : Nat} {p : Program} {l : Launch} {e : Env} {s : State} {m : MethodId} {b L X0 i : Nat} {xs : Nat → Int32} {below : List Frame} {meth : Method} {c : Code} {Q : State → Prop} (X : CXd D cy B p s m #[.ref b] c cL_law RL 4) (S : LSc s B b L xs) {h : Hp} {k n : Nat} (hi : i + 6 ≤ L) (hkn : k + 31 ≤ 600000 ∧ n + 292 ≤ 7302250) (I : Inv h X0) (K : ∀ (h' : Hp) (k' n' : Nat), Inv h' X0 → k' ≤ k + 31 → n' ≤ n + 292 → AWd D cy B p l e room_1 s m #[.ref b] below meth c 4 Q h' k' n' 2132 (LVs b X0 i) []) : AWd D cy B p l e room_1 s m #[.ref b] below meth c 4 Q h k n 1383 (LVs b X0 i) [] := by
  obtain ⟨c9, J, -, -, -⟩ := id I
  have g1 : (hK h X0).1 = 11 := J.x.k
  obtain ⟨v, h1, h2, e1, e2, I2⟩ := ok_mergedAt (a := sx xs i 1) I
  have e1 : fX11_mergedAt h X0 (sx xs i 1) = some (v, h1) := e1
  have e2 : fX12_mergedAt h1 (X0 + 121) (sx xs i 1) = some (v, h2) := e2
  have g2 : (hK h1 (X0 + 121)).1 = 12 := by
    have z := e2
    rw [fX12_mergedAt.eq_1] at z
    exact (gd_some z).1
  refine aw_aload_n (pc := 1383) X dL_law_1383 2 rfl ?_
  refine aw_word (pc := 1384) X S hi 1 (by decide) rfl dL_law_1384 dL_law_1385 dL_law_1386 dL_law_1387 dL_law_1388 ?_
  refine aw_invV (pc := 1389) X (kX11_mergedAt sx_rg e1) mw_yX11_mergedAt kw_1250 kw_1251 kw_1252 g1 rfl (by decide) rfl ⟨(Nat.le_of_ble_eq_true rfl), (Nat.le_of_ble_eq_true rfl)⟩ rfl (Nat.le_of_ble_eq_true rfl) (lw_rm ⟨by omega, by omega⟩) dL_law_1389 ?_
  refine aw_ret1 (k' := k + 0) (n' := n + 0) rfl rfl ?_
  refine aw_aload_n (pc := 1392) X dL_law_1392 3 rfl ?_
  refine aw_word (pc := 1393) X S hi 1 (by decide) rfl dL_law_1393 dL_law_1394 dL_law_1395 dL_law_1396 dL_law_1397 ?_
  refine aw_invV (pc := 1398) X (kX12_mergedAt sx_rg e2) mw_yX12_mergedAt kw_2131 kw_2132 kw_2133 g2 rfl (by decide) rfl ⟨(Nat.le_of_ble_eq_true rfl), (Nat.le_of_ble_eq_true rfl)⟩ rfl (Nat.le_of_ble_eq_true rfl) (lw_rm ⟨by omega, by omega⟩) dL_law_1398 ?_
  refine aw_ret1 (k' := k + 0 + 0) (n' := n + 0 + 0) rfl rfl ?_
  refine aw_icmp_eq (pc := 1401) (tgt := 2132) X (gX11_mergedAt sx_rg e1) (gX12_mergedAt sx_rg e2) dL_law_1401 (by decide) (fun _ => ?_) (fun z => absurd rfl z)
  exact K _ _ _ I2 (by omega) (by omega)
set_option maxHeartbeats 1000000 in
set_option maxRecDepth 20000 in
theorem lwc_since {D : va_G} {cy : Nat → ClassId} {B : Nat} {p : Program} {l : Launch} {e : Env} {s : State} {m : MethodId} {b L X0 i : Nat} {xs : Nat → Int32} {below : List Frame} {meth : Method} {c : Code} {Q : State → Prop} (X : CXd D cy B p s m #[.ref b] c cL_law RL 4) (S : LSc s B b L xs) {h : Hp} {k n : Nat} (hi : i + 6 ≤ L) (hkn : k + 31 ≤ 600000 ∧ n + 292 ≤ 7302250) (I : Inv h X0) (K : ∀ (h' : Hp) (k' n' : Nat), Inv h' X0 → k' ≤ k + 31 → n' ≤ n + 292 → AWd D cy B p l e room_1 s m #[.ref b] below meth c 4 Q h' k' n' 2132 (LVs b X0 i) []) : AWd D cy B p l e room_1 s m #[.ref b] below meth c 4 Q h k n 1406 (LVs b X0 i) [] := by
  obtain ⟨c9, J, -, -, -⟩ := id I
  have g1 : (hK h X0).1 = 11 := J.x.k
  obtain ⟨v, h1, h2, e1, e2, I2⟩ := ok3 I J (ok_since (a := sx xs i 1) (m := sx xs i 2) (u := sx xs i 3) J.x J.m)
  have e1 : fX11_since h X0 (sx xs i 1) (sx xs i 2) (sx xs i 3) = some (v, h1) := e1
  have e2 : fX12_since h1 (X0 + 121) (sx xs i 1) (sx xs i 2) (sx xs i 3) = some (v, h2) := e2
  have g2 : (hK h1 (X0 + 121)).1 = 12 := by
    have z := e2
    rw [fX12_since.eq_1] at z
    exact (gd_some z).1
  refine aw_aload_n (pc := 1406) X dL_law_1406 2 rfl ?_
  refine aw_word (pc := 1407) X S hi 1 (by decide) rfl dL_law_1407 dL_law_1408 dL_law_1409 dL_law_1410 dL_law_1411 ?_
  refine aw_word (pc := 1412) X S hi 2 (by decide) rfl dL_law_1412 dL_law_1413 dL_law_1414 dL_law_1415 dL_law_1416 ?_
  refine aw_word (pc := 1417) X S hi 3 (by decide) rfl dL_law_1417 dL_law_1418 dL_law_1419 dL_law_1420 dL_law_1421 ?_
  refine aw_invV (pc := 1422) X (kX11_since sx_rg sx_rg sx_rg e1) mw_yX11_since kw_1254 kw_1255 kw_1256 g1 rfl (by decide) rfl ⟨(Nat.le_of_ble_eq_true rfl), (Nat.le_of_ble_eq_true rfl)⟩ rfl (Nat.le_of_ble_eq_true rfl) (lw_rm ⟨by omega, by omega⟩) dL_law_1422 ?_
  refine aw_ret1 (k' := k + 0) (n' := n + 0) rfl rfl ?_
  refine aw_aload_n (pc := 1425) X dL_law_1425 3 rfl ?_
  refine aw_word (pc := 1426) X S hi 1 (by decide) rfl dL_law_1426 dL_law_1427 dL_law_1428 dL_law_1429 dL_law_1430 ?_
  refine aw_word (pc := 1431) X S hi 2 (by decide) rfl dL_law_1431 dL_law_1432 dL_law_1433 dL_law_1434 dL_law_1435 ?_
  refine aw_word (pc := 1436) X S hi 3 (by decide) rfl dL_law_1436 dL_law_1437 dL_law_1438 dL_law_1439 dL_law_1440 ?_
  refine aw_invV (pc := 1441) X (kX12_since sx_rg sx_rg sx_rg e2) mw_yX12_since kw_1969 kw_1970 kw_1971 g2 rfl (by decide) rfl ⟨(Nat.le_of_ble_eq_true rfl), (Nat.le_of_ble_eq_true rfl)⟩ rfl (Nat.le_of_ble_eq_true rfl) (lw_rm ⟨by omega, by omega⟩) dL_law_1441 ?_
  refine aw_ret1 (k' := k + 0 + 0) (n' := n + 0 + 0) rfl rfl ?_
  refine aw_icmp_eq (pc := 1444) (tgt := 2132) X (gX11_since sx_rg sx_rg sx_rg e1) (gX12_since sx_rg sx_rg sx_rg e2) dL_law_1444 (by decide) (fun _ => ?_) (fun z => absurd rfl z)
  exact K _ _ _ I2 (by omega) (by omega)
