section CASES
variable {G : EV} {p : Program} {l : Launch} {e : Env} {s : State} {m : MethodId} {args : Array Value} {below : List Frame} {meth : Method} {c : Code} {Q : State → Prop} {μ : MI} {S : Sh} {mm : Me} {L : Nat} {xs : Nat → Int32} {i : Int32}
set_option maxRecDepth 20000 in
theorem cs_24 (E : LE G p l s m args meth c μ L xs) (hS : ShOK S) (hI : Inv mm) (hW : WI mm) (hin : ∀ k : Int32, 0 ≤ k ∧ k < 6 → inb (i + k) L) (next : ∀ mm', Inv mm' → WI mm' → LW G p l e s m args below meth c Q (1829, [(4, .int i), (0, .ref 3000000), (1, .ref 0), (2, .ref 138), (3, .ref 158)], [], S, mm')) : LW G p l e s m args below meth c Q (1076, [(4, .int i), (0, .ref 3000000), (1, .ref 0), (2, .ref 138), (3, .ref 158)], [], S, mm) := by
  have hK := LW.cl (l := l) (e := e) (below := below) (Q := Q) E.1
  have hT : Two fX10_mendAll fX11_mendAll mm := by
    obtain ⟨H, r, s0, T, L0, b0, U, ss, A, im, ⟨hC, hM, hO, hSC⟩, hF, hT, hU, hA, hN, hD⟩ := id hW
    exact (b_mendAll hI hC hM hO).two hI hW
  obtain ⟨V, m1, m2, e1, e2, w2⟩ := hT
  have q1 := kX10_mendAll hS e1 hI
  have q2 := kX11_mendAll hS e2 q1.2
  refine ko_aload_n hK (q := 1077) rfl (by decide) (E.dc dL_law_1076) rfl ?_
  refine ko_virt hK (q := 1080) mX10_mendAll [] (E.dc dL_law_1077) rfl rfl (Nat.le_of_ble_eq_true rfl) mo_X10_mendAll (E.ml mv_L_120) (Or.inl ⟨10, 17, _, h_0 hS, rfl, rfl⟩) (Call_mono (by decide) q1.1) ?_
  refine ko_aload_n hK (q := 1081) rfl (by decide) (E.dc dL_law_1080) rfl ?_
  refine ko_virt hK (q := 1084) mX11_mendAll [] (E.dc dL_law_1081) rfl rfl (Nat.le_of_ble_eq_true rfl) mo_X11_mendAll (E.ml mv_L_123) (Or.inl ⟨11, 37, _, h_138 hS, rfl, rfl⟩) (Call_mono (by decide) q2.1) ?_
  exact ko_icT hK (q := 1829) (op := .eq) rfl (E.dc dL_law_1084) rfl (next _ q2.2 w2)
set_option maxRecDepth 20000 in
theorem cs_25 (E : LE G p l s m args meth c μ L xs) (hS : ShOK S) (hI : Inv mm) (hW : WI mm) (hin : ∀ k : Int32, 0 ≤ k ∧ k < 6 → inb (i + k) L) (next : ∀ mm', Inv mm' → WI mm' → LW G p l e s m args below meth c Q (1829, [(4, .int i), (0, .ref 3000000), (1, .ref 0), (2, .ref 138), (3, .ref 158)], [], S, mm')) : LW G p l e s m args below meth c Q (1089, [(4, .int i), (0, .ref 3000000), (1, .ref 0), (2, .ref 138), (3, .ref 158)], [], S, mm) := by
  have hK := LW.cl (l := l) (e := e) (below := below) (Q := Q) E.1
  have hT : Two (fX10_loses (xs (i + 1).toNatClampNeg)) (fX11_loses (xs (i + 1).toNatClampNeg)) mm := by
    obtain ⟨H, r, s0, T, L0, b0, U, ss, A, im, ⟨hC, hM, hO, hSC⟩, hF, hT, hU, hA, hN, hD⟩ := id hW
    exact (b_loses hI hC hM hO).two hI hW
  obtain ⟨V, m1, m2, e1, e2, w2⟩ := hT
  have q1 := kX10_loses hS e1 hI
  have q2 := kX11_loses hS e2 q1.2
  refine ko_aload_n hK (q := 1090) rfl (by decide) (E.dc dL_law_1089) rfl ?_
  refine lw_arg E (q := 1096) (kk := 1) 1 dL_law_1090 dL_law_1091 dL_law_1093 dL_law_1094 dL_law_1095 (by decide) (hin _ (by decide)) rfl rfl rfl ?_
  refine ko_virt hK (q := 1099) mX10_loses [.int (xs (i + 1).toNatClampNeg)] (E.dc dL_law_1096) rfl rfl (Nat.le_of_ble_eq_true rfl) mo_X10_loses (E.ml mv_L_124) (Or.inl ⟨10, 17, _, h_0 hS, rfl, rfl⟩) (Call_mono (by decide) q1.1) ?_
  refine ko_aload_n hK (q := 1100) rfl (by decide) (E.dc dL_law_1099) rfl ?_
  refine lw_arg E (q := 1106) (kk := 1) 1 dL_law_1100 dL_law_1101 dL_law_1103 dL_law_1104 dL_law_1105 (by decide) (hin _ (by decide)) rfl rfl rfl ?_
  refine ko_virt hK (q := 1109) mX11_loses [.int (xs (i + 1).toNatClampNeg)] (E.dc dL_law_1106) rfl rfl (Nat.le_of_ble_eq_true rfl) mo_X11_loses (E.ml mv_L_127) (Or.inl ⟨11, 37, _, h_138 hS, rfl, rfl⟩) (Call_mono (by decide) q2.1) ?_
  exact ko_icT hK (q := 1829) (op := .eq) rfl (E.dc dL_law_1109) rfl (next _ q2.2 w2)
set_option maxRecDepth 20000 in
theorem cs_26 (E : LE G p l s m args meth c μ L xs) (hS : ShOK S) (hI : Inv mm) (hW : WI mm) (hin : ∀ k : Int32, 0 ≤ k ∧ k < 6 → inb (i + k) L) (next : ∀ mm', Inv mm' → WI mm' → LW G p l e s m args below meth c Q (1829, [(4, .int i), (0, .ref 3000000), (1, .ref 0), (2, .ref 138), (3, .ref 158)], [], S, mm')) : LW G p l e s m args below meth c Q (1114, [(4, .int i), (0, .ref 3000000), (1, .ref 0), (2, .ref 138), (3, .ref 158)], [], S, mm) := by
  have hK := LW.cl (l := l) (e := e) (below := below) (Q := Q) E.1
  by_cases hz : (xs (i + 2).toNatClampNeg) = 0
  · have hT : Two (fX10_treaty (xs (i + 1).toNatClampNeg) (0 : Int32)) (fX11_treaty (xs (i + 1).toNatClampNeg) (0 : Int32)) mm := by
      obtain ⟨H, r, s0, T, L0, b0, U, ss, A, im, ⟨hC, hM, hO, hSC⟩, hF, hT, hU, hA, hN, hD⟩ := id hW
      exact (b_treaty hI hC hM hO).two hI hW
    obtain ⟨V, m1, m2, e1, e2, w2⟩ := hT
    have q1 := kX10_treaty hS e1 hI
    have q2 := kX11_treaty hS e2 q1.2
    refine ko_aload_n hK (q := 1115) rfl (by decide) (E.dc dL_law_1114) rfl ?_
    refine lw_arg E (q := 1121) (kk := 1) 1 dL_law_1115 dL_law_1116 dL_law_1118 dL_law_1119 dL_law_1120 (by decide) (hin _ (by decide)) rfl rfl rfl ?_
    refine lw_arg E (q := 1127) (kk := 2) 2 dL_law_1121 dL_law_1122 dL_law_1124 dL_law_1125 dL_law_1126 (by decide) (hin _ (by decide)) rfl rfl rfl ?_
    refine ko_ifT hK (q := 1134) (op := .eq) hz (E.dc dL_law_1127) rfl ?_
    refine ko_iconst hK (q := 1135) ic_0 (E.dc dL_law_1134) rfl ?_
    refine ko_virt hK (q := 1138) mX10_treaty [.int (xs (i + 1).toNatClampNeg), .int (0 : Int32)] (E.dc dL_law_1135) rfl rfl (Nat.le_of_ble_eq_true rfl) mo_X10_treaty (E.ml mv_L_128) (Or.inl ⟨10, 17, _, h_0 hS, rfl, rfl⟩) (Call_mono (by decide) q1.1) ?_
    refine ko_aload_n hK (q := 1139) rfl (by decide) (E.dc dL_law_1138) rfl ?_
    refine lw_arg E (q := 1145) (kk := 1) 1 dL_law_1139 dL_law_1140 dL_law_1142 dL_law_1143 dL_law_1144 (by decide) (hin _ (by decide)) rfl rfl rfl ?_
    refine lw_arg E (q := 1151) (kk := 2) 2 dL_law_1145 dL_law_1146 dL_law_1148 dL_law_1149 dL_law_1150 (by decide) (hin _ (by decide)) rfl rfl rfl ?_
    refine ko_ifT hK (q := 1158) (op := .eq) hz (E.dc dL_law_1151) rfl ?_
    refine ko_iconst hK (q := 1159) ic_0 (E.dc dL_law_1158) rfl ?_
    refine ko_virt hK (q := 1162) mX11_treaty [.int (xs (i + 1).toNatClampNeg), .int (0 : Int32)] (E.dc dL_law_1159) rfl rfl (Nat.le_of_ble_eq_true rfl) mo_X11_treaty (E.ml mv_L_132) (Or.inl ⟨11, 37, _, h_138 hS, rfl, rfl⟩) (Call_mono (by decide) q2.1) ?_
    exact ko_icT hK (q := 1829) (op := .eq) rfl (E.dc dL_law_1162) rfl (next _ q2.2 w2)
  · have hT : Two (fX10_treaty (xs (i + 1).toNatClampNeg) (1 : Int32)) (fX11_treaty (xs (i + 1).toNatClampNeg) (1 : Int32)) mm := by
      obtain ⟨H, r, s0, T, L0, b0, U, ss, A, im, ⟨hC, hM, hO, hSC⟩, hF, hT, hU, hA, hN, hD⟩ := id hW
      exact (b_treaty hI hC hM hO).two hI hW
    obtain ⟨V, m1, m2, e1, e2, w2⟩ := hT
    have q1 := kX10_treaty hS e1 hI
    have q2 := kX11_treaty hS e2 q1.2
    refine ko_aload_n hK (q := 1115) rfl (by decide) (E.dc dL_law_1114) rfl ?_
    refine lw_arg E (q := 1121) (kk := 1) 1 dL_law_1115 dL_law_1116 dL_law_1118 dL_law_1119 dL_law_1120 (by decide) (hin _ (by decide)) rfl rfl rfl ?_
    refine lw_arg E (q := 1127) (kk := 2) 2 dL_law_1121 dL_law_1122 dL_law_1124 dL_law_1125 dL_law_1126 (by decide) (hin _ (by decide)) rfl rfl rfl ?_
    refine ko_ifF hK (q := 1130) (op := .eq) 1134 hz (E.dc dL_law_1127) rfl rfl ?_
    refine ko_iconst hK (q := 1131) ic_1 (E.dc dL_law_1130) rfl ?_
    refine ko_goto hK (q := 1135) (E.dc dL_law_1131) rfl ?_
    refine ko_virt hK (q := 1138) mX10_treaty [.int (xs (i + 1).toNatClampNeg), .int (1 : Int32)] (E.dc dL_law_1135) rfl rfl (Nat.le_of_ble_eq_true rfl) mo_X10_treaty (E.ml mv_L_128) (Or.inl ⟨10, 17, _, h_0 hS, rfl, rfl⟩) (Call_mono (by decide) q1.1) ?_
    refine ko_aload_n hK (q := 1139) rfl (by decide) (E.dc dL_law_1138) rfl ?_
    refine lw_arg E (q := 1145) (kk := 1) 1 dL_law_1139 dL_law_1140 dL_law_1142 dL_law_1143 dL_law_1144 (by decide) (hin _ (by decide)) rfl rfl rfl ?_
    refine lw_arg E (q := 1151) (kk := 2) 2 dL_law_1145 dL_law_1146 dL_law_1148 dL_law_1149 dL_law_1150 (by decide) (hin _ (by decide)) rfl rfl rfl ?_
    refine ko_ifF hK (q := 1154) (op := .eq) 1158 hz (E.dc dL_law_1151) rfl rfl ?_
    refine ko_iconst hK (q := 1155) ic_1 (E.dc dL_law_1154) rfl ?_
    refine ko_goto hK (q := 1159) (E.dc dL_law_1155) rfl ?_
    refine ko_virt hK (q := 1162) mX11_treaty [.int (xs (i + 1).toNatClampNeg), .int (1 : Int32)] (E.dc dL_law_1159) rfl rfl (Nat.le_of_ble_eq_true rfl) mo_X11_treaty (E.ml mv_L_132) (Or.inl ⟨11, 37, _, h_138 hS, rfl, rfl⟩) (Call_mono (by decide) q2.1) ?_
    exact ko_icT hK (q := 1829) (op := .eq) rfl (E.dc dL_law_1162) rfl (next _ q2.2 w2)
set_option maxRecDepth 20000 in
theorem cs_27 (E : LE G p l s m args meth c μ L xs) (hS : ShOK S) (hI : Inv mm) (hW : WI mm) (hin : ∀ k : Int32, 0 ≤ k ∧ k < 6 → inb (i + k) L) (next : ∀ mm', Inv mm' → WI mm' → LW G p l e s m args below meth c Q (1829, [(4, .int i), (0, .ref 3000000), (1, .ref 0), (2, .ref 138), (3, .ref 158)], [], S, mm')) : LW G p l e s m args below meth c Q (1167, [(4, .int i), (0, .ref 3000000), (1, .ref 0), (2, .ref 138), (3, .ref 158)], [], S, mm) := by
  have hK := LW.cl (l := l) (e := e) (below := below) (Q := Q) E.1
  by_cases hz : (xs (i + 4).toNatClampNeg) = 0
  · have hT : Two (fX10_sever (xs (i + 1).toNatClampNeg) (xs (i + 2).toNatClampNeg) (xs (i + 3).toNatClampNeg) (0 : Int32)) (fX11_sever (xs (i + 1).toNatClampNeg) (xs (i + 2).toNatClampNeg) (xs (i + 3).toNatClampNeg) (0 : Int32)) mm := by
      obtain ⟨H, r, s0, T, L0, b0, U, ss, A, im, ⟨hC, hM, hO, hSC⟩, hF, hT, hU, hA, hN, hD⟩ := id hW
      exact (b_sever hI hC hM hO).two hI hW
    obtain ⟨V, m1, m2, e1, e2, w2⟩ := hT
    have q1 := kX10_sever hS e1 hI
    have q2 := kX11_sever hS e2 q1.2
    refine ko_aload_n hK (q := 1168) rfl (by decide) (E.dc dL_law_1167) rfl ?_
    refine lw_arg E (q := 1174) (kk := 1) 1 dL_law_1168 dL_law_1169 dL_law_1171 dL_law_1172 dL_law_1173 (by decide) (hin _ (by decide)) rfl rfl rfl ?_
    refine lw_arg E (q := 1180) (kk := 2) 2 dL_law_1174 dL_law_1175 dL_law_1177 dL_law_1178 dL_law_1179 (by decide) (hin _ (by decide)) rfl rfl rfl ?_
    refine lw_arg E (q := 1186) (kk := 3) 3 dL_law_1180 dL_law_1181 dL_law_1183 dL_law_1184 dL_law_1185 (by decide) (hin _ (by decide)) rfl rfl rfl ?_
    refine lw_arg E (q := 1192) (kk := 4) 4 dL_law_1186 dL_law_1187 dL_law_1189 dL_law_1190 dL_law_1191 (by decide) (hin _ (by decide)) rfl rfl rfl ?_
    refine ko_ifT hK (q := 1199) (op := .eq) hz (E.dc dL_law_1192) rfl ?_
    refine ko_iconst hK (q := 1200) ic_0 (E.dc dL_law_1199) rfl ?_
    refine ko_virt hK (q := 1203) mX10_sever [.int (xs (i + 1).toNatClampNeg), .int (xs (i + 2).toNatClampNeg), .int (xs (i + 3).toNatClampNeg), .int (0 : Int32)] (E.dc dL_law_1200) rfl rfl (Nat.le_of_ble_eq_true rfl) mo_X10_sever (E.ml mv_L_133) (Or.inl ⟨10, 17, _, h_0 hS, rfl, rfl⟩) (Call_mono (by decide) q1.1) ?_
    refine ko_aload_n hK (q := 1204) rfl (by decide) (E.dc dL_law_1203) rfl ?_
    refine lw_arg E (q := 1210) (kk := 1) 1 dL_law_1204 dL_law_1205 dL_law_1207 dL_law_1208 dL_law_1209 (by decide) (hin _ (by decide)) rfl rfl rfl ?_
    refine lw_arg E (q := 1216) (kk := 2) 2 dL_law_1210 dL_law_1211 dL_law_1213 dL_law_1214 dL_law_1215 (by decide) (hin _ (by decide)) rfl rfl rfl ?_
    refine lw_arg E (q := 1222) (kk := 3) 3 dL_law_1216 dL_law_1217 dL_law_1219 dL_law_1220 dL_law_1221 (by decide) (hin _ (by decide)) rfl rfl rfl ?_
    refine lw_arg E (q := 1228) (kk := 4) 4 dL_law_1222 dL_law_1223 dL_law_1225 dL_law_1226 dL_law_1227 (by decide) (hin _ (by decide)) rfl rfl rfl ?_
    refine ko_ifT hK (q := 1235) (op := .eq) hz (E.dc dL_law_1228) rfl ?_
    refine ko_iconst hK (q := 1236) ic_0 (E.dc dL_law_1235) rfl ?_
    refine ko_virt hK (q := 1239) mX11_sever [.int (xs (i + 1).toNatClampNeg), .int (xs (i + 2).toNatClampNeg), .int (xs (i + 3).toNatClampNeg), .int (0 : Int32)] (E.dc dL_law_1236) rfl rfl (Nat.le_of_ble_eq_true rfl) mo_X11_sever (E.ml mv_L_136) (Or.inl ⟨11, 37, _, h_138 hS, rfl, rfl⟩) (Call_mono (by decide) q2.1) ?_
    exact ko_icT hK (q := 1829) (op := .eq) rfl (E.dc dL_law_1239) rfl (next _ q2.2 w2)
  · have hT : Two (fX10_sever (xs (i + 1).toNatClampNeg) (xs (i + 2).toNatClampNeg) (xs (i + 3).toNatClampNeg) (1 : Int32)) (fX11_sever (xs (i + 1).toNatClampNeg) (xs (i + 2).toNatClampNeg) (xs (i + 3).toNatClampNeg) (1 : Int32)) mm := by
      obtain ⟨H, r, s0, T, L0, b0, U, ss, A, im, ⟨hC, hM, hO, hSC⟩, hF, hT, hU, hA, hN, hD⟩ := id hW
      exact (b_sever hI hC hM hO).two hI hW
    obtain ⟨V, m1, m2, e1, e2, w2⟩ := hT
    have q1 := kX10_sever hS e1 hI
    have q2 := kX11_sever hS e2 q1.2
    refine ko_aload_n hK (q := 1168) rfl (by decide) (E.dc dL_law_1167) rfl ?_
    refine lw_arg E (q := 1174) (kk := 1) 1 dL_law_1168 dL_law_1169 dL_law_1171 dL_law_1172 dL_law_1173 (by decide) (hin _ (by decide)) rfl rfl rfl ?_
    refine lw_arg E (q := 1180) (kk := 2) 2 dL_law_1174 dL_law_1175 dL_law_1177 dL_law_1178 dL_law_1179 (by decide) (hin _ (by decide)) rfl rfl rfl ?_
    refine lw_arg E (q := 1186) (kk := 3) 3 dL_law_1180 dL_law_1181 dL_law_1183 dL_law_1184 dL_law_1185 (by decide) (hin _ (by decide)) rfl rfl rfl ?_
    refine lw_arg E (q := 1192) (kk := 4) 4 dL_law_1186 dL_law_1187 dL_law_1189 dL_law_1190 dL_law_1191 (by decide) (hin _ (by decide)) rfl rfl rfl ?_
    refine ko_ifF hK (q := 1195) (op := .eq) 1199 hz (E.dc dL_law_1192) rfl rfl ?_
    refine ko_iconst hK (q := 1196) ic_1 (E.dc dL_law_1195) rfl ?_
    refine ko_goto hK (q := 1200) (E.dc dL_law_1196) rfl ?_
    refine ko_virt hK (q := 1203) mX10_sever [.int (xs (i + 1).toNatClampNeg), .int (xs (i + 2).toNatClampNeg), .int (xs (i + 3).toNatClampNeg), .int (1 : Int32)] (E.dc dL_law_1200) rfl rfl (Nat.le_of_ble_eq_true rfl) mo_X10_sever (E.ml mv_L_133) (Or.inl ⟨10, 17, _, h_0 hS, rfl, rfl⟩) (Call_mono (by decide) q1.1) ?_
    refine ko_aload_n hK (q := 1204) rfl (by decide) (E.dc dL_law_1203) rfl ?_
    refine lw_arg E (q := 1210) (kk := 1) 1 dL_law_1204 dL_law_1205 dL_law_1207 dL_law_1208 dL_law_1209 (by decide) (hin _ (by decide)) rfl rfl rfl ?_
    refine lw_arg E (q := 1216) (kk := 2) 2 dL_law_1210 dL_law_1211 dL_law_1213 dL_law_1214 dL_law_1215 (by decide) (hin _ (by decide)) rfl rfl rfl ?_
    refine lw_arg E (q := 1222) (kk := 3) 3 dL_law_1216 dL_law_1217 dL_law_1219 dL_law_1220 dL_law_1221 (by decide) (hin _ (by decide)) rfl rfl rfl ?_
    refine lw_arg E (q := 1228) (kk := 4) 4 dL_law_1222 dL_law_1223 dL_law_1225 dL_law_1226 dL_law_1227 (by decide) (hin _ (by decide)) rfl rfl rfl ?_
    refine ko_ifF hK (q := 1231) (op := .eq) 1235 hz (E.dc dL_law_1228) rfl rfl ?_
    refine ko_iconst hK (q := 1232) ic_1 (E.dc dL_law_1231) rfl ?_
    refine ko_goto hK (q := 1236) (E.dc dL_law_1232) rfl ?_
    refine ko_virt hK (q := 1239) mX11_sever [.int (xs (i + 1).toNatClampNeg), .int (xs (i + 2).toNatClampNeg), .int (xs (i + 3).toNatClampNeg), .int (1 : Int32)] (E.dc dL_law_1236) rfl rfl (Nat.le_of_ble_eq_true rfl) mo_X11_sever (E.ml mv_L_136) (Or.inl ⟨11, 37, _, h_138 hS, rfl, rfl⟩) (Call_mono (by decide) q2.1) ?_
    exact ko_icT hK (q := 1829) (op := .eq) rfl (E.dc dL_law_1239) rfl (next _ q2.2 w2)
set_option maxRecDepth 20000 in
theorem cs_28 (E : LE G p l s m args meth c μ L xs) (hS : ShOK S) (hI : Inv mm) (hW : WI mm) (hin : ∀ k : Int32, 0 ≤ k ∧ k < 6 → inb (i + k) L) (next : ∀ mm', Inv mm' → WI mm' → LW G p l e s m args below meth c Q (1829, [(4, .int i), (0, .ref 3000000), (1, .ref 0), (2, .ref 138), (3, .ref 158)], [], S, mm')) : LW G p l e s m args below meth c Q (1244, [(4, .int i), (0, .ref 3000000), (1, .ref 0), (2, .ref 138), (3, .ref 158)], [], S, mm) := by
  have hK := LW.cl (l := l) (e := e) (below := below) (Q := Q) E.1
  have hT : Two (fX10_pack (xs (i + 1).toNatClampNeg)) (fX11_pack (xs (i + 1).toNatClampNeg)) mm := by
    obtain ⟨H, r, s0, T, L0, b0, U, ss, A, im, ⟨hC, hM, hO, hSC⟩, hF, hT, hU, hA, hN, hD⟩ := id hW
    exact (b_pack hI hC hM hO).two hI hW
  obtain ⟨V, m1, m2, e1, e2, w2⟩ := hT
  have q1 := kX10_pack hS e1 hI
  have q2 := kX11_pack hS e2 q1.2
  refine ko_aload_n hK (q := 1245) rfl (by decide) (E.dc dL_law_1244) rfl ?_
  refine lw_arg E (q := 1251) (kk := 1) 1 dL_law_1245 dL_law_1246 dL_law_1248 dL_law_1249 dL_law_1250 (by decide) (hin _ (by decide)) rfl rfl rfl ?_
  refine ko_virt hK (q := 1254) mX10_pack [.int (xs (i + 1).toNatClampNeg)] (E.dc dL_law_1251) rfl rfl (Nat.le_of_ble_eq_true rfl) mo_X10_pack (E.ml mv_L_137) (Or.inl ⟨10, 17, _, h_0 hS, rfl, rfl⟩) (Call_mono (by decide) q1.1) ?_
  refine ko_aload_n hK (q := 1255) rfl (by decide) (E.dc dL_law_1254) rfl ?_
  refine lw_arg E (q := 1261) (kk := 1) 1 dL_law_1255 dL_law_1256 dL_law_1258 dL_law_1259 dL_law_1260 (by decide) (hin _ (by decide)) rfl rfl rfl ?_
  refine ko_virt hK (q := 1264) mX11_pack [.int (xs (i + 1).toNatClampNeg)] (E.dc dL_law_1261) rfl rfl (Nat.le_of_ble_eq_true rfl) mo_X11_pack (E.ml mv_L_140) (Or.inl ⟨11, 37, _, h_138 hS, rfl, rfl⟩) (Call_mono (by decide) q2.1) ?_
  exact ko_icT hK (q := 1829) (op := .eq) rfl (E.dc dL_law_1264) rfl (next _ q2.2 w2)
set_option maxRecDepth 20000 in
theorem cs_29 (E : LE G p l s m args meth c μ L xs) (hS : ShOK S) (hI : Inv mm) (hW : WI mm) (hin : ∀ k : Int32, 0 ≤ k ∧ k < 6 → inb (i + k) L) (next : ∀ mm', Inv mm' → WI mm' → LW G p l e s m args below meth c Q (1829, [(4, .int i), (0, .ref 3000000), (1, .ref 0), (2, .ref 138), (3, .ref 158)], [], S, mm')) : LW G p l e s m args below meth c Q (1269, [(4, .int i), (0, .ref 3000000), (1, .ref 0), (2, .ref 138), (3, .ref 158)], [], S, mm) := by
  have hK := LW.cl (l := l) (e := e) (below := below) (Q := Q) E.1
  have hT : Two fX10_clash fX11_clash mm := by
    obtain ⟨H, r, s0, T, L0, b0, U, ss, A, im, ⟨hC, hM, hO, hSC⟩, hF, hT, hU, hA, hN, hD⟩ := id hW
    exact (b_clash hC hM hO hSC).two hI hW
  obtain ⟨V, m1, m2, e1, e2, w2⟩ := hT
  have q1 := kX10_clash hS e1 hI
  have q2 := kX11_clash hS e2 q1.2
  refine ko_aload_n hK (q := 1270) rfl (by decide) (E.dc dL_law_1269) rfl ?_
  refine ko_virt hK (q := 1273) mX10_clash [] (E.dc dL_law_1270) rfl rfl (Nat.le_of_ble_eq_true rfl) mo_X10_clash (E.ml mv_L_141) (Or.inl ⟨10, 17, _, h_0 hS, rfl, rfl⟩) (Call_mono (by decide) q1.1) ?_
  refine ko_aload_n hK (q := 1274) rfl (by decide) (E.dc dL_law_1273) rfl ?_
  refine ko_virt hK (q := 1277) mX11_clash [] (E.dc dL_law_1274) rfl rfl (Nat.le_of_ble_eq_true rfl) mo_X11_clash (E.ml mv_L_144) (Or.inl ⟨11, 37, _, h_138 hS, rfl, rfl⟩) (Call_mono (by decide) q2.1) ?_
  exact ko_icT hK (q := 1829) (op := .eq) rfl (E.dc dL_law_1277) rfl (next _ q2.2 w2)
set_option maxRecDepth 20000 in
theorem cs_30 (E : LE G p l s m args meth c μ L xs) (hS : ShOK S) (hI : Inv mm) (hW : WI mm) (hin : ∀ k : Int32, 0 ≤ k ∧ k < 6 → inb (i + k) L) (next : ∀ mm', Inv mm' → WI mm' → LW G p l e s m args below meth c Q (1829, [(4, .int i), (0, .ref 3000000), (1, .ref 0), (2, .ref 138), (3, .ref 158)], [], S, mm')) : LW G p l e s m args below meth c Q (1282, [(4, .int i), (0, .ref 3000000), (1, .ref 0), (2, .ref 138), (3, .ref 158)], [], S, mm) := by
  have hK := LW.cl (l := l) (e := e) (below := below) (Q := Q) E.1
  have hT : Two (fX10_sure (xs (i + 1).toNatClampNeg) (xs (i + 2).toNatClampNeg) (xs (i + 3).toNatClampNeg)) (fX11_sure (xs (i + 1).toNatClampNeg) (xs (i + 2).toNatClampNeg) (xs (i + 3).toNatClampNeg)) mm := by
    obtain ⟨H, r, s0, T, L0, b0, U, ss, A, im, ⟨hC, hM, hO, hSC⟩, hF, hT, hU, hA, hN, hD⟩ := id hW
    exact (b_sure hI hC hM hO hSC).two hI hW
  obtain ⟨V, m1, m2, e1, e2, w2⟩ := hT
  have q1 := kX10_sure hS e1 hI
  have q2 := kX11_sure hS e2 q1.2
  refine ko_aload_n hK (q := 1283) rfl (by decide) (E.dc dL_law_1282) rfl ?_
  refine lw_arg E (q := 1289) (kk := 1) 1 dL_law_1283 dL_law_1284 dL_law_1286 dL_law_1287 dL_law_1288 (by decide) (hin _ (by decide)) rfl rfl rfl ?_
  refine lw_arg E (q := 1295) (kk := 2) 2 dL_law_1289 dL_law_1290 dL_law_1292 dL_law_1293 dL_law_1294 (by decide) (hin _ (by decide)) rfl rfl rfl ?_
  refine lw_arg E (q := 1301) (kk := 3) 3 dL_law_1295 dL_law_1296 dL_law_1298 dL_law_1299 dL_law_1300 (by decide) (hin _ (by decide)) rfl rfl rfl ?_
  refine ko_virt hK (q := 1304) mX10_sure [.int (xs (i + 1).toNatClampNeg), .int (xs (i + 2).toNatClampNeg), .int (xs (i + 3).toNatClampNeg)] (E.dc dL_law_1301) rfl rfl (Nat.le_of_ble_eq_true rfl) mo_X10_sure (E.ml mv_L_145) (Or.inl ⟨10, 17, _, h_0 hS, rfl, rfl⟩) (Call_mono (by decide) q1.1) ?_
  refine ko_aload_n hK (q := 1305) rfl (by decide) (E.dc dL_law_1304) rfl ?_
  refine lw_arg E (q := 1311) (kk := 1) 1 dL_law_1305 dL_law_1306 dL_law_1308 dL_law_1309 dL_law_1310 (by decide) (hin _ (by decide)) rfl rfl rfl ?_
  refine lw_arg E (q := 1317) (kk := 2) 2 dL_law_1311 dL_law_1312 dL_law_1314 dL_law_1315 dL_law_1316 (by decide) (hin _ (by decide)) rfl rfl rfl ?_
  refine lw_arg E (q := 1323) (kk := 3) 3 dL_law_1317 dL_law_1318 dL_law_1320 dL_law_1321 dL_law_1322 (by decide) (hin _ (by decide)) rfl rfl rfl ?_
  refine ko_virt hK (q := 1326) mX11_sure [.int (xs (i + 1).toNatClampNeg), .int (xs (i + 2).toNatClampNeg), .int (xs (i + 3).toNatClampNeg)] (E.dc dL_law_1323) rfl rfl (Nat.le_of_ble_eq_true rfl) mo_X11_sure (E.ml mv_L_148) (Or.inl ⟨11, 37, _, h_138 hS, rfl, rfl⟩) (Call_mono (by decide) q2.1) ?_
  exact ko_icT hK (q := 1829) (op := .eq) rfl (E.dc dL_law_1326) rfl (next _ q2.2 w2)
set_option maxRecDepth 20000 in
theorem cs_31 (E : LE G p l s m args meth c μ L xs) (hS : ShOK S) (hI : Inv mm) (hW : WI mm) (hin : ∀ k : Int32, 0 ≤ k ∧ k < 6 → inb (i + k) L) (next : ∀ mm', Inv mm' → WI mm' → LW G p l e s m args below meth c Q (1829, [(4, .int i), (0, .ref 3000000), (1, .ref 0), (2, .ref 138), (3, .ref 158)], [], S, mm')) : LW G p l e s m args below meth c Q (1331, [(4, .int i), (0, .ref 3000000), (1, .ref 0), (2, .ref 138), (3, .ref 158)], [], S, mm) := by
  have hK := LW.cl (l := l) (e := e) (below := below) (Q := Q) E.1
  have hT : Two fX10_sureCells fX11_sureCells mm := by
    obtain ⟨H, r, s0, T, L0, b0, U, ss, A, im, ⟨hC, hM, hO, hSC⟩, hF, hT, hU, hA, hN, hD⟩ := id hW
    exact (b_sureCells hC hM hO hSC).two hI hW
  obtain ⟨V, m1, m2, e1, e2, w2⟩ := hT
  have q1 := kX10_sureCells hS e1 hI
  have q2 := kX11_sureCells hS e2 q1.2
  refine ko_aload_n hK (q := 1332) rfl (by decide) (E.dc dL_law_1331) rfl ?_
  refine ko_virt hK (q := 1335) mX10_sureCells [] (E.dc dL_law_1332) rfl rfl (Nat.le_of_ble_eq_true rfl) mo_X10_sureCells (E.ml mv_L_149) (Or.inl ⟨10, 17, _, h_0 hS, rfl, rfl⟩) (Call_mono (by decide) q1.1) ?_
  refine ko_aload_n hK (q := 1336) rfl (by decide) (E.dc dL_law_1335) rfl ?_
  refine ko_virt hK (q := 1339) mX11_sureCells [] (E.dc dL_law_1336) rfl rfl (Nat.le_of_ble_eq_true rfl) mo_X11_sureCells (E.ml mv_L_152) (Or.inl ⟨11, 37, _, h_138 hS, rfl, rfl⟩) (Call_mono (by decide) q2.1) ?_
  exact ko_icT hK (q := 1829) (op := .eq) rfl (E.dc dL_law_1339) rfl (next _ q2.2 w2)
set_option maxRecDepth 20000 in
theorem cs_32 (E : LE G p l s m args meth c μ L xs) (hS : ShOK S) (hI : Inv mm) (hW : WI mm) (hin : ∀ k : Int32, 0 ≤ k ∧ k < 6 → inb (i + k) L) (next : ∀ mm', Inv mm' → WI mm' → LW G p l e s m args below meth c Q (1829, [(4, .int i), (0, .ref 3000000), (1, .ref 0), (2, .ref 138), (3, .ref 158)], [], S, mm')) : LW G p l e s m args below meth c Q (1344, [(4, .int i), (0, .ref 3000000), (1, .ref 0), (2, .ref 138), (3, .ref 158)], [], S, mm) := by
  have hK := LW.cl (l := l) (e := e) (below := below) (Q := Q) E.1
  have hT : Two fX10_fits fX11_fits mm := by
    obtain ⟨H, r, s0, T, L0, b0, U, ss, A, im, ⟨hC, hM, hO, hSC⟩, hF, hT, hU, hA, hN, hD⟩ := id hW
    exact (b_fits hI hC hM hO).two hI hW
  obtain ⟨V, m1, m2, e1, e2, w2⟩ := hT
  have q1 := kX10_fits hS e1 hI
  have q2 := kX11_fits hS e2 q1.2
  refine ko_aload_n hK (q := 1345) rfl (by decide) (E.dc dL_law_1344) rfl ?_
  refine ko_virt hK (q := 1348) mX10_fits [] (E.dc dL_law_1345) rfl rfl (Nat.le_of_ble_eq_true rfl) mo_X10_fits (E.ml mv_L_153) (Or.inl ⟨10, 17, _, h_0 hS, rfl, rfl⟩) (Call_mono (by decide) q1.1) ?_
  refine ko_aload_n hK (q := 1349) rfl (by decide) (E.dc dL_law_1348) rfl ?_
  refine ko_virt hK (q := 1352) mX11_fits [] (E.dc dL_law_1349) rfl rfl (Nat.le_of_ble_eq_true rfl) mo_X11_fits (E.ml mv_L_156) (Or.inl ⟨11, 37, _, h_138 hS, rfl, rfl⟩) (Call_mono (by decide) q2.1) ?_
  exact ko_icT hK (q := 1829) (op := .eq) rfl (E.dc dL_law_1352) rfl (next _ q2.2 w2)
set_option maxRecDepth 20000 in
theorem cs_33 (E : LE G p l s m args meth c μ L xs) (hS : ShOK S) (hI : Inv mm) (hW : WI mm) (hin : ∀ k : Int32, 0 ≤ k ∧ k < 6 → inb (i + k) L) (next : ∀ mm', Inv mm' → WI mm' → LW G p l e s m args below meth c Q (1829, [(4, .int i), (0, .ref 3000000), (1, .ref 0), (2, .ref 138), (3, .ref 158)], [], S, mm')) : LW G p l e s m args below meth c Q (1357, [(4, .int i), (0, .ref 3000000), (1, .ref 0), (2, .ref 138), (3, .ref 158)], [], S, mm) := by
  have hK := LW.cl (l := l) (e := e) (below := below) (Q := Q) E.1
  have hT : Two fX10_ask fX11_ask mm := by
    obtain ⟨H, r, s0, T, L0, b0, U, ss, A, im, ⟨hC, hM, hO, hSC⟩, hF, hT, hU, hA, hN, hD⟩ := id hW
    exact (b_ask hI hC hM hO hSC).two hI hW
  obtain ⟨V, m1, m2, e1, e2, w2⟩ := hT
  have q1 := kX10_ask hS e1 hI
  have q2 := kX11_ask hS e2 q1.2
  refine ko_aload_n hK (q := 1358) rfl (by decide) (E.dc dL_law_1357) rfl ?_
  refine ko_virt hK (q := 1361) mX10_ask [] (E.dc dL_law_1358) rfl rfl (Nat.le_of_ble_eq_true rfl) mo_X10_ask (E.ml mv_L_157) (Or.inl ⟨10, 17, _, h_0 hS, rfl, rfl⟩) (Call_mono (by decide) q1.1) ?_
  refine ko_aload_n hK (q := 1362) rfl (by decide) (E.dc dL_law_1361) rfl ?_
  refine ko_virt hK (q := 1365) mX11_ask [] (E.dc dL_law_1362) rfl rfl (Nat.le_of_ble_eq_true rfl) mo_X11_ask (E.ml mv_L_160) (Or.inl ⟨11, 37, _, h_138 hS, rfl, rfl⟩) (Call_mono (by decide) q2.1) ?_
  exact ko_icT hK (q := 1829) (op := .eq) rfl (E.dc dL_law_1365) rfl (next _ q2.2 w2)
set_option maxRecDepth 20000 in
theorem cs_34 (E : LE G p l s m args meth c μ L xs) (hS : ShOK S) (hI : Inv mm) (hW : WI mm) (hin : ∀ k : Int32, 0 ≤ k ∧ k < 6 → inb (i + k) L) (next : ∀ mm', Inv mm' → WI mm' → LW G p l e s m args below meth c Q (1829, [(4, .int i), (0, .ref 3000000), (1, .ref 0), (2, .ref 138), (3, .ref 158)], [], S, mm')) : LW G p l e s m args below meth c Q (1370, [(4, .int i), (0, .ref 3000000), (1, .ref 0), (2, .ref 138), (3, .ref 158)], [], S, mm) := by
  have hK := LW.cl (l := l) (e := e) (below := below) (Q := Q) E.1
  have hT : Two (fX10_smear (xs (i + 1).toNatClampNeg) (xs (i + 2).toNatClampNeg) (xs (i + 3).toNatClampNeg)) (fX11_smear (xs (i + 1).toNatClampNeg) (xs (i + 2).toNatClampNeg) (xs (i + 3).toNatClampNeg)) mm := by
    obtain ⟨H, r, s0, T, L0, b0, U, ss, A, im, ⟨hC, hM, hO, hSC⟩, hF, hT, hU, hA, hN, hD⟩ := id hW
    exact (b_smear hI hC hM hO).two hI hW
  obtain ⟨V, m1, m2, e1, e2, w2⟩ := hT
  have q1 := kX10_smear hS e1 hI
  have q2 := kX11_smear hS e2 q1.2
  refine ko_aload_n hK (q := 1371) rfl (by decide) (E.dc dL_law_1370) rfl ?_
  refine lw_arg E (q := 1377) (kk := 1) 1 dL_law_1371 dL_law_1372 dL_law_1374 dL_law_1375 dL_law_1376 (by decide) (hin _ (by decide)) rfl rfl rfl ?_
  refine lw_arg E (q := 1383) (kk := 2) 2 dL_law_1377 dL_law_1378 dL_law_1380 dL_law_1381 dL_law_1382 (by decide) (hin _ (by decide)) rfl rfl rfl ?_
  refine lw_arg E (q := 1389) (kk := 3) 3 dL_law_1383 dL_law_1384 dL_law_1386 dL_law_1387 dL_law_1388 (by decide) (hin _ (by decide)) rfl rfl rfl ?_
  refine ko_virt hK (q := 1392) mX10_smear [.int (xs (i + 1).toNatClampNeg), .int (xs (i + 2).toNatClampNeg), .int (xs (i + 3).toNatClampNeg)] (E.dc dL_law_1389) rfl rfl (Nat.le_of_ble_eq_true rfl) mo_X10_smear (E.ml mv_L_161) (Or.inl ⟨10, 17, _, h_0 hS, rfl, rfl⟩) (Call_mono (by decide) q1.1) ?_
  refine ko_aload_n hK (q := 1393) rfl (by decide) (E.dc dL_law_1392) rfl ?_
  refine lw_arg E (q := 1399) (kk := 1) 1 dL_law_1393 dL_law_1394 dL_law_1396 dL_law_1397 dL_law_1398 (by decide) (hin _ (by decide)) rfl rfl rfl ?_
  refine lw_arg E (q := 1405) (kk := 2) 2 dL_law_1399 dL_law_1400 dL_law_1402 dL_law_1403 dL_law_1404 (by decide) (hin _ (by decide)) rfl rfl rfl ?_
  refine lw_arg E (q := 1411) (kk := 3) 3 dL_law_1405 dL_law_1406 dL_law_1408 dL_law_1409 dL_law_1410 (by decide) (hin _ (by decide)) rfl rfl rfl ?_
  refine ko_virt hK (q := 1414) mX11_smear [.int (xs (i + 1).toNatClampNeg), .int (xs (i + 2).toNatClampNeg), .int (xs (i + 3).toNatClampNeg)] (E.dc dL_law_1411) rfl rfl (Nat.le_of_ble_eq_true rfl) mo_X11_smear (E.ml mv_L_164) (Or.inl ⟨11, 37, _, h_138 hS, rfl, rfl⟩) (Call_mono (by decide) q2.1) ?_
  exact ko_icT hK (q := 1829) (op := .eq) rfl (E.dc dL_law_1414) rfl (next _ q2.2 w2)
set_option maxRecDepth 20000 in
theorem cs_35 (E : LE G p l s m args meth c μ L xs) (hS : ShOK S) (hI : Inv mm) (hW : WI mm) (hin : ∀ k : Int32, 0 ≤ k ∧ k < 6 → inb (i + k) L) (next : ∀ mm', Inv mm' → WI mm' → LW G p l e s m args below meth c Q (1829, [(4, .int i), (0, .ref 3000000), (1, .ref 0), (2, .ref 138), (3, .ref 158)], [], S, mm')) : LW G p l e s m args below meth c Q (1419, [(4, .int i), (0, .ref 3000000), (1, .ref 0), (2, .ref 138), (3, .ref 158)], [], S, mm) := by
  have hK := LW.cl (l := l) (e := e) (below := below) (Q := Q) E.1
  have hT : Two fX10_beats fX11_beats mm := by
    obtain ⟨H, r, s0, T, L0, b0, U, ss, A, im, ⟨hC, hM, hO, hSC⟩, hF, hT, hU, hA, hN, hD⟩ := id hW
    exact (b_beats hI hC hM hO).two hI hW
  obtain ⟨V, m1, m2, e1, e2, w2⟩ := hT
  have q1 := kX10_beats hS e1 hI
  have q2 := kX11_beats hS e2 q1.2
  refine ko_aload_n hK (q := 1420) rfl (by decide) (E.dc dL_law_1419) rfl ?_
  refine ko_virt hK (q := 1423) mX10_beats [] (E.dc dL_law_1420) rfl rfl (Nat.le_of_ble_eq_true rfl) mo_X10_beats (E.ml mv_L_165) (Or.inl ⟨10, 17, _, h_0 hS, rfl, rfl⟩) (Call_mono (by decide) q1.1) ?_
  refine ko_aload_n hK (q := 1424) rfl (by decide) (E.dc dL_law_1423) rfl ?_
  refine ko_virt hK (q := 1427) mX11_beats [] (E.dc dL_law_1424) rfl rfl (Nat.le_of_ble_eq_true rfl) mo_X11_beats (E.ml mv_L_168) (Or.inl ⟨11, 37, _, h_138 hS, rfl, rfl⟩) (Call_mono (by decide) q2.1) ?_
  exact ko_icT hK (q := 1829) (op := .eq) rfl (E.dc dL_law_1427) rfl (next _ q2.2 w2)
set_option maxRecDepth 20000 in
theorem cs_36 (E : LE G p l s m args meth c μ L xs) (hS : ShOK S) (hI : Inv mm) (hW : WI mm) (hin : ∀ k : Int32, 0 ≤ k ∧ k < 6 → inb (i + k) L) (next : ∀ mm', Inv mm' → WI mm' → LW G p l e s m args below meth c Q (1829, [(4, .int i), (0, .ref 3000000), (1, .ref 0), (2, .ref 138), (3, .ref 158)], [], S, mm')) : LW G p l e s m args below meth c Q (1432, [(4, .int i), (0, .ref 3000000), (1, .ref 0), (2, .ref 138), (3, .ref 158)], [], S, mm) := by
  have hK := LW.cl (l := l) (e := e) (below := below) (Q := Q) E.1
  have hT : Two fX10_calm fX11_calm mm := by
    obtain ⟨H, r, s0, T, L0, b0, U, ss, A, im, ⟨hC, hM, hO, hSC⟩, hF, hT, hU, hA, hN, hD⟩ := id hW
    exact (b_calm hI hC hM hO).two hI hW
  obtain ⟨V, m1, m2, e1, e2, w2⟩ := hT
  have q1 := kX10_calm hS e1 hI
  have q2 := kX11_calm hS e2 q1.2
  refine ko_aload_n hK (q := 1433) rfl (by decide) (E.dc dL_law_1432) rfl ?_
  refine ko_virt hK (q := 1436) mX10_calm [] (E.dc dL_law_1433) rfl rfl (Nat.le_of_ble_eq_true rfl) mo_X10_calm (E.ml mv_L_169) (Or.inl ⟨10, 17, _, h_0 hS, rfl, rfl⟩) (Call_mono (by decide) q1.1) ?_
  refine ko_aload_n hK (q := 1437) rfl (by decide) (E.dc dL_law_1436) rfl ?_
  refine ko_virt hK (q := 1440) mX11_calm [] (E.dc dL_law_1437) rfl rfl (Nat.le_of_ble_eq_true rfl) mo_X11_calm (E.ml mv_L_172) (Or.inl ⟨11, 37, _, h_138 hS, rfl, rfl⟩) (Call_mono (by decide) q2.1) ?_
  exact ko_icT hK (q := 1829) (op := .eq) rfl (E.dc dL_law_1440) rfl (next _ q2.2 w2)
set_option maxRecDepth 20000 in
theorem cs_37 (E : LE G p l s m args meth c μ L xs) (hS : ShOK S) (hI : Inv mm) (hW : WI mm) (hin : ∀ k : Int32, 0 ≤ k ∧ k < 6 → inb (i + k) L) (next : ∀ mm', Inv mm' → WI mm' → LW G p l e s m args below meth c Q (1829, [(4, .int i), (0, .ref 3000000), (1, .ref 0), (2, .ref 138), (3, .ref 158)], [], S, mm')) : LW G p l e s m args below meth c Q (1445, [(4, .int i), (0, .ref 3000000), (1, .ref 0), (2, .ref 138), (3, .ref 158)], [], S, mm) := by
  have hK := LW.cl (l := l) (e := e) (below := below) (Q := Q) E.1
  have hT : Two (fX10_calmAt (xs (i + 1).toNatClampNeg)) (fX11_calmAt (xs (i + 1).toNatClampNeg)) mm := by
    obtain ⟨H, r, s0, T, L0, b0, U, ss, A, im, ⟨hC, hM, hO, hSC⟩, hF, hT, hU, hA, hN, hD⟩ := id hW
    exact (b_calmAt hI hC hM hO).two hI hW
  obtain ⟨V, m1, m2, e1, e2, w2⟩ := hT
  have q1 := kX10_calmAt hS e1 hI
  have q2 := kX11_calmAt hS e2 q1.2
  refine ko_aload_n hK (q := 1446) rfl (by decide) (E.dc dL_law_1445) rfl ?_
  refine lw_arg E (q := 1452) (kk := 1) 1 dL_law_1446 dL_law_1447 dL_law_1449 dL_law_1450 dL_law_1451 (by decide) (hin _ (by decide)) rfl rfl rfl ?_
  refine ko_virt hK (q := 1455) mX10_calmAt [.int (xs (i + 1).toNatClampNeg)] (E.dc dL_law_1452) rfl rfl (Nat.le_of_ble_eq_true rfl) mo_X10_calmAt (E.ml mv_L_173) (Or.inl ⟨10, 17, _, h_0 hS, rfl, rfl⟩) (Call_mono (by decide) q1.1) ?_
  refine ko_aload_n hK (q := 1456) rfl (by decide) (E.dc dL_law_1455) rfl ?_
  refine lw_arg E (q := 1462) (kk := 1) 1 dL_law_1456 dL_law_1457 dL_law_1459 dL_law_1460 dL_law_1461 (by decide) (hin _ (by decide)) rfl rfl rfl ?_
  refine ko_virt hK (q := 1465) mX11_calmAt [.int (xs (i + 1).toNatClampNeg)] (E.dc dL_law_1462) rfl rfl (Nat.le_of_ble_eq_true rfl) mo_X11_calmAt (E.ml mv_L_176) (Or.inl ⟨11, 37, _, h_138 hS, rfl, rfl⟩) (Call_mono (by decide) q2.1) ?_
  exact ko_icT hK (q := 1829) (op := .eq) rfl (E.dc dL_law_1465) rfl (next _ q2.2 w2)
set_option maxRecDepth 20000 in
theorem cs_38 (E : LE G p l s m args meth c μ L xs) (hS : ShOK S) (hI : Inv mm) (hW : WI mm) (hin : ∀ k : Int32, 0 ≤ k ∧ k < 6 → inb (i + k) L) (next : ∀ mm', Inv mm' → WI mm' → LW G p l e s m args below meth c Q (1829, [(4, .int i), (0, .ref 3000000), (1, .ref 0), (2, .ref 138), (3, .ref 158)], [], S, mm')) : LW G p l e s m args below meth c Q (1470, [(4, .int i), (0, .ref 3000000), (1, .ref 0), (2, .ref 138), (3, .ref 158)], [], S, mm) := by
  have hK := LW.cl (l := l) (e := e) (below := below) (Q := Q) E.1
  have hT : Two (fX10_flutters (xs (i + 1).toNatClampNeg)) (fX11_flutters (xs (i + 1).toNatClampNeg)) mm := by
    obtain ⟨H, r, s0, T, L0, b0, U, ss, A, im, ⟨hC, hM, hO, hSC⟩, hF, hT, hU, hA, hN, hD⟩ := id hW
    exact (b_flutters hI hC hM hO).two hI hW
  obtain ⟨V, m1, m2, e1, e2, w2⟩ := hT
  have q1 := kX10_flutters hS e1 hI
  have q2 := kX11_flutters hS e2 q1.2
  refine ko_aload_n hK (q := 1471) rfl (by decide) (E.dc dL_law_1470) rfl ?_
  refine lw_arg E (q := 1477) (kk := 1) 1 dL_law_1471 dL_law_1472 dL_law_1474 dL_law_1475 dL_law_1476 (by decide) (hin _ (by decide)) rfl rfl rfl ?_
  refine ko_virt hK (q := 1480) mX10_flutters [.int (xs (i + 1).toNatClampNeg)] (E.dc dL_law_1477) rfl rfl (Nat.le_of_ble_eq_true rfl) mo_X10_flutters (E.ml mv_L_177) (Or.inl ⟨10, 17, _, h_0 hS, rfl, rfl⟩) (Call_mono (by decide) q1.1) ?_
  refine ko_aload_n hK (q := 1481) rfl (by decide) (E.dc dL_law_1480) rfl ?_
  refine lw_arg E (q := 1487) (kk := 1) 1 dL_law_1481 dL_law_1482 dL_law_1484 dL_law_1485 dL_law_1486 (by decide) (hin _ (by decide)) rfl rfl rfl ?_
  refine ko_virt hK (q := 1490) mX11_flutters [.int (xs (i + 1).toNatClampNeg)] (E.dc dL_law_1487) rfl rfl (Nat.le_of_ble_eq_true rfl) mo_X11_flutters (E.ml mv_L_180) (Or.inl ⟨11, 37, _, h_138 hS, rfl, rfl⟩) (Call_mono (by decide) q2.1) ?_
  exact ko_icT hK (q := 1829) (op := .eq) rfl (E.dc dL_law_1490) rfl (next _ q2.2 w2)
set_option maxRecDepth 20000 in
theorem cs_39 (E : LE G p l s m args meth c μ L xs) (hS : ShOK S) (hI : Inv mm) (hW : WI mm) (hin : ∀ k : Int32, 0 ≤ k ∧ k < 6 → inb (i + k) L) (next : ∀ mm', Inv mm' → WI mm' → LW G p l e s m args below meth c Q (1829, [(4, .int i), (0, .ref 3000000), (1, .ref 0), (2, .ref 138), (3, .ref 158)], [], S, mm')) : LW G p l e s m args below meth c Q (1495, [(4, .int i), (0, .ref 3000000), (1, .ref 0), (2, .ref 138), (3, .ref 158)], [], S, mm) := by
  have hK := LW.cl (l := l) (e := e) (below := below) (Q := Q) E.1
  have hT : Two (fX10_paint (xs (i + 1).toNatClampNeg) (xs (i + 2).toNatClampNeg) (xs (i + 3).toNatClampNeg) (xs (i + 4).toNatClampNeg)) (fX11_paint (xs (i + 1).toNatClampNeg) (xs (i + 2).toNatClampNeg) (xs (i + 3).toNatClampNeg) (xs (i + 4).toNatClampNeg)) mm := t_paint hI hW
  obtain ⟨V, m1, m2, e1, e2, w2⟩ := hT
  have q1 := kX10_paint hS e1 hI
  have q2 := kX11_paint hS e2 q1.2
  refine ko_aload_n hK (q := 1496) rfl (by decide) (E.dc dL_law_1495) rfl ?_
  refine lw_arg E (q := 1502) (kk := 1) 1 dL_law_1496 dL_law_1497 dL_law_1499 dL_law_1500 dL_law_1501 (by decide) (hin _ (by decide)) rfl rfl rfl ?_
  refine lw_arg E (q := 1508) (kk := 2) 2 dL_law_1502 dL_law_1503 dL_law_1505 dL_law_1506 dL_law_1507 (by decide) (hin _ (by decide)) rfl rfl rfl ?_
  refine lw_arg E (q := 1514) (kk := 3) 3 dL_law_1508 dL_law_1509 dL_law_1511 dL_law_1512 dL_law_1513 (by decide) (hin _ (by decide)) rfl rfl rfl ?_
  refine lw_arg E (q := 1520) (kk := 4) 4 dL_law_1514 dL_law_1515 dL_law_1517 dL_law_1518 dL_law_1519 (by decide) (hin _ (by decide)) rfl rfl rfl ?_
  refine ko_virt hK (q := 1523) mX10_paint [.int (xs (i + 1).toNatClampNeg), .int (xs (i + 2).toNatClampNeg), .int (xs (i + 3).toNatClampNeg), .int (xs (i + 4).toNatClampNeg)] (E.dc dL_law_1520) rfl rfl (Nat.le_of_ble_eq_true rfl) mo_X10_paint (E.ml mv_L_181) (Or.inl ⟨10, 17, _, h_0 hS, rfl, rfl⟩) (Call_mono (by decide) q1.1) ?_
  refine ko_aload_n hK (q := 1524) rfl (by decide) (E.dc dL_law_1523) rfl ?_
  refine lw_arg E (q := 1530) (kk := 1) 1 dL_law_1524 dL_law_1525 dL_law_1527 dL_law_1528 dL_law_1529 (by decide) (hin _ (by decide)) rfl rfl rfl ?_
  refine lw_arg E (q := 1536) (kk := 2) 2 dL_law_1530 dL_law_1531 dL_law_1533 dL_law_1534 dL_law_1535 (by decide) (hin _ (by decide)) rfl rfl rfl ?_
  refine lw_arg E (q := 1542) (kk := 3) 3 dL_law_1536 dL_law_1537 dL_law_1539 dL_law_1540 dL_law_1541 (by decide) (hin _ (by decide)) rfl rfl rfl ?_
  refine lw_arg E (q := 1548) (kk := 4) 4 dL_law_1542 dL_law_1543 dL_law_1545 dL_law_1546 dL_law_1547 (by decide) (hin _ (by decide)) rfl rfl rfl ?_
  refine ko_virt hK (q := 1551) mX11_paint [.int (xs (i + 1).toNatClampNeg), .int (xs (i + 2).toNatClampNeg), .int (xs (i + 3).toNatClampNeg), .int (xs (i + 4).toNatClampNeg)] (E.dc dL_law_1548) rfl rfl (Nat.le_of_ble_eq_true rfl) mo_X11_paint (E.ml mv_L_185) (Or.inl ⟨11, 37, _, h_138 hS, rfl, rfl⟩) (Call_mono (by decide) q2.1) ?_
  exact ko_icT hK (q := 1829) (op := .eq) rfl (E.dc dL_law_1551) rfl (next _ q2.2 w2)
set_option maxRecDepth 20000 in
theorem cs_40 (E : LE G p l s m args meth c μ L xs) (hS : ShOK S) (hI : Inv mm) (hW : WI mm) (hin : ∀ k : Int32, 0 ≤ k ∧ k < 6 → inb (i + k) L) (next : ∀ mm', Inv mm' → WI mm' → LW G p l e s m args below meth c Q (1829, [(4, .int i), (0, .ref 3000000), (1, .ref 0), (2, .ref 138), (3, .ref 158)], [], S, mm')) : LW G p l e s m args below meth c Q (1556, [(4, .int i), (0, .ref 3000000), (1, .ref 0), (2, .ref 138), (3, .ref 158)], [], S, mm) := by
  have hK := LW.cl (l := l) (e := e) (below := below) (Q := Q) E.1
  by_cases hz : (xs (i + 2).toNatClampNeg) = 0
  · have hT : Two (fX10_breaks (xs (i + 1).toNatClampNeg) (0 : Int32)) (fX11_breaks (xs (i + 1).toNatClampNeg) (0 : Int32)) mm := t_breaks hI hW (Or.inl rfl)
    obtain ⟨V, m1, m2, e1, e2, w2⟩ := hT
    have q1 := kX10_breaks hS e1 hI
    have q2 := kX11_breaks hS e2 q1.2
    refine ko_aload_n hK (q := 1557) rfl (by decide) (E.dc dL_law_1556) rfl ?_
    refine lw_arg E (q := 1563) (kk := 1) 1 dL_law_1557 dL_law_1558 dL_law_1560 dL_law_1561 dL_law_1562 (by decide) (hin _ (by decide)) rfl rfl rfl ?_
    refine lw_arg E (q := 1569) (kk := 2) 2 dL_law_1563 dL_law_1564 dL_law_1566 dL_law_1567 dL_law_1568 (by decide) (hin _ (by decide)) rfl rfl rfl ?_
    refine ko_ifT hK (q := 1576) (op := .eq) hz (E.dc dL_law_1569) rfl ?_
    refine ko_iconst hK (q := 1577) ic_0 (E.dc dL_law_1576) rfl ?_
    refine ko_virt hK (q := 1580) mX10_breaks [.int (xs (i + 1).toNatClampNeg), .int (0 : Int32)] (E.dc dL_law_1577) rfl rfl (Nat.le_of_ble_eq_true rfl) mo_X10_breaks (E.ml mv_L_186) (Or.inl ⟨10, 17, _, h_0 hS, rfl, rfl⟩) (Call_mono (by decide) q1.1) ?_
    refine ko_aload_n hK (q := 1581) rfl (by decide) (E.dc dL_law_1580) rfl ?_
    refine lw_arg E (q := 1587) (kk := 1) 1 dL_law_1581 dL_law_1582 dL_law_1584 dL_law_1585 dL_law_1586 (by decide) (hin _ (by decide)) rfl rfl rfl ?_
    refine lw_arg E (q := 1593) (kk := 2) 2 dL_law_1587 dL_law_1588 dL_law_1590 dL_law_1591 dL_law_1592 (by decide) (hin _ (by decide)) rfl rfl rfl ?_
    refine ko_ifT hK (q := 1600) (op := .eq) hz (E.dc dL_law_1593) rfl ?_
    refine ko_iconst hK (q := 1601) ic_0 (E.dc dL_law_1600) rfl ?_
    refine ko_virt hK (q := 1604) mX11_breaks [.int (xs (i + 1).toNatClampNeg), .int (0 : Int32)] (E.dc dL_law_1601) rfl rfl (Nat.le_of_ble_eq_true rfl) mo_X11_breaks (E.ml mv_L_190) (Or.inl ⟨11, 37, _, h_138 hS, rfl, rfl⟩) (Call_mono (by decide) q2.1) ?_
    exact ko_icT hK (q := 1829) (op := .eq) rfl (E.dc dL_law_1604) rfl (next _ q2.2 w2)
  · have hT : Two (fX10_breaks (xs (i + 1).toNatClampNeg) (1 : Int32)) (fX11_breaks (xs (i + 1).toNatClampNeg) (1 : Int32)) mm := t_breaks hI hW (Or.inr rfl)
    obtain ⟨V, m1, m2, e1, e2, w2⟩ := hT
    have q1 := kX10_breaks hS e1 hI
    have q2 := kX11_breaks hS e2 q1.2
    refine ko_aload_n hK (q := 1557) rfl (by decide) (E.dc dL_law_1556) rfl ?_
    refine lw_arg E (q := 1563) (kk := 1) 1 dL_law_1557 dL_law_1558 dL_law_1560 dL_law_1561 dL_law_1562 (by decide) (hin _ (by decide)) rfl rfl rfl ?_
    refine lw_arg E (q := 1569) (kk := 2) 2 dL_law_1563 dL_law_1564 dL_law_1566 dL_law_1567 dL_law_1568 (by decide) (hin _ (by decide)) rfl rfl rfl ?_
    refine ko_ifF hK (q := 1572) (op := .eq) 1576 hz (E.dc dL_law_1569) rfl rfl ?_
    refine ko_iconst hK (q := 1573) ic_1 (E.dc dL_law_1572) rfl ?_
    refine ko_goto hK (q := 1577) (E.dc dL_law_1573) rfl ?_
    refine ko_virt hK (q := 1580) mX10_breaks [.int (xs (i + 1).toNatClampNeg), .int (1 : Int32)] (E.dc dL_law_1577) rfl rfl (Nat.le_of_ble_eq_true rfl) mo_X10_breaks (E.ml mv_L_186) (Or.inl ⟨10, 17, _, h_0 hS, rfl, rfl⟩) (Call_mono (by decide) q1.1) ?_
    refine ko_aload_n hK (q := 1581) rfl (by decide) (E.dc dL_law_1580) rfl ?_
    refine lw_arg E (q := 1587) (kk := 1) 1 dL_law_1581 dL_law_1582 dL_law_1584 dL_law_1585 dL_law_1586 (by decide) (hin _ (by decide)) rfl rfl rfl ?_
    refine lw_arg E (q := 1593) (kk := 2) 2 dL_law_1587 dL_law_1588 dL_law_1590 dL_law_1591 dL_law_1592 (by decide) (hin _ (by decide)) rfl rfl rfl ?_
    refine ko_ifF hK (q := 1596) (op := .eq) 1600 hz (E.dc dL_law_1593) rfl rfl ?_
    refine ko_iconst hK (q := 1597) ic_1 (E.dc dL_law_1596) rfl ?_
    refine ko_goto hK (q := 1601) (E.dc dL_law_1597) rfl ?_
    refine ko_virt hK (q := 1604) mX11_breaks [.int (xs (i + 1).toNatClampNeg), .int (1 : Int32)] (E.dc dL_law_1601) rfl rfl (Nat.le_of_ble_eq_true rfl) mo_X11_breaks (E.ml mv_L_190) (Or.inl ⟨11, 37, _, h_138 hS, rfl, rfl⟩) (Call_mono (by decide) q2.1) ?_
    exact ko_icT hK (q := 1829) (op := .eq) rfl (E.dc dL_law_1604) rfl (next _ q2.2 w2)
set_option maxRecDepth 20000 in
theorem cs_41 (E : LE G p l s m args meth c μ L xs) (hS : ShOK S) (hI : Inv mm) (hW : WI mm) (hin : ∀ k : Int32, 0 ≤ k ∧ k < 6 → inb (i + k) L) (next : ∀ mm', Inv mm' → WI mm' → LW G p l e s m args below meth c Q (1829, [(4, .int i), (0, .ref 3000000), (1, .ref 0), (2, .ref 138), (3, .ref 158)], [], S, mm')) : LW G p l e s m args below meth c Q (1609, [(4, .int i), (0, .ref 3000000), (1, .ref 0), (2, .ref 138), (3, .ref 158)], [], S, mm) := by
  have hK := LW.cl (l := l) (e := e) (below := below) (Q := Q) E.1
  have hT : Two (fX10_open (xs (i + 1).toNatClampNeg)) (fX11_open (xs (i + 1).toNatClampNeg)) mm := t_open hI hW
  obtain ⟨V, m1, m2, e1, e2, w2⟩ := hT
  have q1 := kX10_open hS e1 hI
  have q2 := kX11_open hS e2 q1.2
  refine ko_aload_n hK (q := 1610) rfl (by decide) (E.dc dL_law_1609) rfl ?_
  refine lw_arg E (q := 1616) (kk := 1) 1 dL_law_1610 dL_law_1611 dL_law_1613 dL_law_1614 dL_law_1615 (by decide) (hin _ (by decide)) rfl rfl rfl ?_
  refine ko_virt hK (q := 1619) mX10_open [.int (xs (i + 1).toNatClampNeg)] (E.dc dL_law_1616) rfl rfl (Nat.le_of_ble_eq_true rfl) mo_X10_open (E.ml mv_L_191) (Or.inl ⟨10, 17, _, h_0 hS, rfl, rfl⟩) (Call_mono (by decide) q1.1) ?_
  refine ko_aload_n hK (q := 1620) rfl (by decide) (E.dc dL_law_1619) rfl ?_
  refine lw_arg E (q := 1626) (kk := 1) 1 dL_law_1620 dL_law_1621 dL_law_1623 dL_law_1624 dL_law_1625 (by decide) (hin _ (by decide)) rfl rfl rfl ?_
  refine ko_virt hK (q := 1629) mX11_open [.int (xs (i + 1).toNatClampNeg)] (E.dc dL_law_1626) rfl rfl (Nat.le_of_ble_eq_true rfl) mo_X11_open (E.ml mv_L_194) (Or.inl ⟨11, 37, _, h_138 hS, rfl, rfl⟩) (Call_mono (by decide) q2.1) ?_
  exact ko_icT hK (q := 1829) (op := .eq) rfl (E.dc dL_law_1629) rfl (next _ q2.2 w2)
set_option maxRecDepth 20000 in
theorem cs_42 (E : LE G p l s m args meth c μ L xs) (hS : ShOK S) (hI : Inv mm) (hW : WI mm) (hin : ∀ k : Int32, 0 ≤ k ∧ k < 6 → inb (i + k) L) (next : ∀ mm', Inv mm' → WI mm' → LW G p l e s m args below meth c Q (1829, [(4, .int i), (0, .ref 3000000), (1, .ref 0), (2, .ref 138), (3, .ref 158)], [], S, mm')) : LW G p l e s m args below meth c Q (1634, [(4, .int i), (0, .ref 3000000), (1, .ref 0), (2, .ref 138), (3, .ref 158)], [], S, mm) := by
  have hK := LW.cl (l := l) (e := e) (below := below) (Q := Q) E.1
  have hT : Two fX10_flutter fX11_flutter mm := t_flutter hI hW
  obtain ⟨V, m1, m2, e1, e2, w2⟩ := hT
  have q1 := kX10_flutter hS e1 hI
  have q2 := kX11_flutter hS e2 q1.2
  refine ko_aload_n hK (q := 1635) rfl (by decide) (E.dc dL_law_1634) rfl ?_
  refine ko_virt hK (q := 1638) mX10_flutter [] (E.dc dL_law_1635) rfl rfl (Nat.le_of_ble_eq_true rfl) mo_X10_flutter (E.ml mv_L_195) (Or.inl ⟨10, 17, _, h_0 hS, rfl, rfl⟩) (Call_mono (by decide) q1.1) ?_
  refine ko_aload_n hK (q := 1639) rfl (by decide) (E.dc dL_law_1638) rfl ?_
  refine ko_virt hK (q := 1642) mX11_flutter [] (E.dc dL_law_1639) rfl rfl (Nat.le_of_ble_eq_true rfl) mo_X11_flutter (E.ml mv_L_198) (Or.inl ⟨11, 37, _, h_138 hS, rfl, rfl⟩) (Call_mono (by decide) q2.1) ?_
  exact ko_icT hK (q := 1829) (op := .eq) rfl (E.dc dL_law_1642) rfl (next _ q2.2 w2)
set_option maxRecDepth 20000 in
theorem cs_43 (E : LE G p l s m args meth c μ L xs) (hS : ShOK S) (hI : Inv mm) (hW : WI mm) (hin : ∀ k : Int32, 0 ≤ k ∧ k < 6 → inb (i + k) L) (next : ∀ mm', Inv mm' → WI mm' → LW G p l e s m args below meth c Q (1829, [(4, .int i), (0, .ref 3000000), (1, .ref 0), (2, .ref 138), (3, .ref 158)], [], S, mm')) : LW G p l e s m args below meth c Q (1647, [(4, .int i), (0, .ref 3000000), (1, .ref 0), (2, .ref 138), (3, .ref 158)], [], S, mm) := by
  have hK := LW.cl (l := l) (e := e) (below := below) (Q := Q) E.1
  have hT : Two fX10_undo fX11_undo mm := t_undo hI hW
  obtain ⟨V, m1, m2, e1, e2, w2⟩ := hT
  have q1 := kX10_undo hS e1 hI
  have q2 := kX11_undo hS e2 q1.2
  refine ko_aload_n hK (q := 1648) rfl (by decide) (E.dc dL_law_1647) rfl ?_
  refine ko_virt hK (q := 1651) mX10_undo [] (E.dc dL_law_1648) rfl rfl (Nat.le_of_ble_eq_true rfl) mo_X10_undo (E.ml mv_L_199) (Or.inl ⟨10, 17, _, h_0 hS, rfl, rfl⟩) (Call_mono (by decide) q1.1) ?_
  refine ko_aload_n hK (q := 1652) rfl (by decide) (E.dc dL_law_1651) rfl ?_
  refine ko_virt hK (q := 1655) mX11_undo [] (E.dc dL_law_1652) rfl rfl (Nat.le_of_ble_eq_true rfl) mo_X11_undo (E.ml mv_L_203) (Or.inl ⟨11, 37, _, h_138 hS, rfl, rfl⟩) (Call_mono (by decide) q2.1) ?_
  exact ko_icT hK (q := 1829) (op := .eq) rfl (E.dc dL_law_1655) rfl (next _ q2.2 w2)
set_option maxRecDepth 20000 in
theorem cs_44 (E : LE G p l s m args meth c μ L xs) (hS : ShOK S) (hI : Inv mm) (hW : WI mm) (hin : ∀ k : Int32, 0 ≤ k ∧ k < 6 → inb (i + k) L) (next : ∀ mm', Inv mm' → WI mm' → LW G p l e s m args below meth c Q (1829, [(4, .int i), (0, .ref 3000000), (1, .ref 0), (2, .ref 138), (3, .ref 158)], [], S, mm')) : LW G p l e s m args below meth c Q (1660, [(4, .int i), (0, .ref 3000000), (1, .ref 0), (2, .ref 138), (3, .ref 158)], [], S, mm) := by
  have hK := LW.cl (l := l) (e := e) (below := below) (Q := Q) E.1
  have hT : Two fX10_image fX11_image mm := t_image hI hW
  obtain ⟨V, m1, m2, e1, e2, w2⟩ := hT
  have q1 := kX10_image hS e1 hI
  have q2 := kX11_image hS e2 q1.2
  refine ko_aload_n hK (q := 1661) rfl (by decide) (E.dc dL_law_1660) rfl ?_
  refine ko_virt hK (q := 1664) mX10_image [] (E.dc dL_law_1661) rfl rfl (Nat.le_of_ble_eq_true rfl) mo_X10_image (E.ml mv_L_204) (Or.inl ⟨10, 17, _, h_0 hS, rfl, rfl⟩) (Call_mono (by decide) q1.1) ?_
  refine ko_aload_n hK (q := 1665) rfl (by decide) (E.dc dL_law_1664) rfl ?_
  refine ko_virt hK (q := 1668) mX11_image [] (E.dc dL_law_1665) rfl rfl (Nat.le_of_ble_eq_true rfl) mo_X11_image (E.ml mv_L_207) (Or.inl ⟨11, 37, _, h_138 hS, rfl, rfl⟩) (Call_mono (by decide) q2.1) ?_
  exact ko_icT hK (q := 1829) (op := .eq) rfl (E.dc dL_law_1668) rfl (next _ q2.2 w2)
set_option maxRecDepth 20000 in
theorem cs_45 (E : LE G p l s m args meth c μ L xs) (hS : ShOK S) (hI : Inv mm) (hW : WI mm) (hin : ∀ k : Int32, 0 ≤ k ∧ k < 6 → inb (i + k) L) (next : ∀ mm', Inv mm' → WI mm' → LW G p l e s m args below meth c Q (1829, [(4, .int i), (0, .ref 3000000), (1, .ref 0), (2, .ref 138), (3, .ref 158)], [], S, mm')) : LW G p l e s m args below meth c Q (1673, [(4, .int i), (0, .ref 3000000), (1, .ref 0), (2, .ref 138), (3, .ref 158)], [], S, mm) := by
  have hK := LW.cl (l := l) (e := e) (below := below) (Q := Q) E.1
  have hT : Two (fX10_back (xs (i + 1).toNatClampNeg)) (fX11_back (xs (i + 1).toNatClampNeg)) mm := t_back hI hW
  obtain ⟨V, m1, m2, e1, e2, w2⟩ := hT
  have q1 := kX10_back hS e1 hI
  have q2 := kX11_back hS e2 q1.2
  refine ko_aload_n hK (q := 1674) rfl (by decide) (E.dc dL_law_1673) rfl ?_
  refine lw_arg E (q := 1680) (kk := 1) 1 dL_law_1674 dL_law_1675 dL_law_1677 dL_law_1678 dL_law_1679 (by decide) (hin _ (by decide)) rfl rfl rfl ?_
  refine ko_virt hK (q := 1683) mX10_back [.int (xs (i + 1).toNatClampNeg)] (E.dc dL_law_1680) rfl rfl (Nat.le_of_ble_eq_true rfl) mo_X10_back (E.ml mv_L_208) (Or.inl ⟨10, 17, _, h_0 hS, rfl, rfl⟩) (Call_mono (by decide) q1.1) ?_
  refine ko_aload_n hK (q := 1684) rfl (by decide) (E.dc dL_law_1683) rfl ?_
  refine lw_arg E (q := 1690) (kk := 1) 1 dL_law_1684 dL_law_1685 dL_law_1687 dL_law_1688 dL_law_1689 (by decide) (hin _ (by decide)) rfl rfl rfl ?_
  refine ko_virt hK (q := 1693) mX11_back [.int (xs (i + 1).toNatClampNeg)] (E.dc dL_law_1690) rfl rfl (Nat.le_of_ble_eq_true rfl) mo_X11_back (E.ml mv_L_212) (Or.inl ⟨11, 37, _, h_138 hS, rfl, rfl⟩) (Call_mono (by decide) q2.1) ?_
  exact ko_icT hK (q := 1829) (op := .eq) rfl (E.dc dL_law_1693) rfl (next _ q2.2 w2)
set_option maxRecDepth 20000 in
theorem cs_46 (E : LE G p l s m args meth c μ L xs) (hS : ShOK S) (hI : Inv mm) (hW : WI mm) (hin : ∀ k : Int32, 0 ≤ k ∧ k < 6 → inb (i + k) L) (next : ∀ mm', Inv mm' → WI mm' → LW G p l e s m args below meth c Q (1829, [(4, .int i), (0, .ref 3000000), (1, .ref 0), (2, .ref 138), (3, .ref 158)], [], S, mm')) : LW G p l e s m args below meth c Q (1698, [(4, .int i), (0, .ref 3000000), (1, .ref 0), (2, .ref 138), (3, .ref 158)], [], S, mm) := by
  have hK := LW.cl (l := l) (e := e) (below := below) (Q := Q) E.1
  have hT : Two (fX10_wish (xs (i + 1).toNatClampNeg) (xs (i + 2).toNatClampNeg)) (fX11_wish (xs (i + 1).toNatClampNeg) (xs (i + 2).toNatClampNeg)) mm := by
    obtain ⟨H, r, s0, T, L0, b0, U, ss, A, im, ⟨hC, hM, hO, hSC⟩, hF, hT, hU, hA, hN, hD⟩ := id hW
    exact (b_wish hI hC hM hO).two hI hW
  obtain ⟨V, m1, m2, e1, e2, w2⟩ := hT
  have q1 := kX10_wish hS e1 hI
  have q2 := kX11_wish hS e2 q1.2
  refine ko_aload_n hK (q := 1699) rfl (by decide) (E.dc dL_law_1698) rfl ?_
  refine lw_arg E (q := 1705) (kk := 1) 1 dL_law_1699 dL_law_1700 dL_law_1702 dL_law_1703 dL_law_1704 (by decide) (hin _ (by decide)) rfl rfl rfl ?_
  refine lw_arg E (q := 1711) (kk := 2) 2 dL_law_1705 dL_law_1706 dL_law_1708 dL_law_1709 dL_law_1710 (by decide) (hin _ (by decide)) rfl rfl rfl ?_
  refine ko_virt hK (q := 1714) mX10_wish [.int (xs (i + 1).toNatClampNeg), .int (xs (i + 2).toNatClampNeg)] (E.dc dL_law_1711) rfl rfl (Nat.le_of_ble_eq_true rfl) mo_X10_wish (E.ml mv_L_213) (Or.inl ⟨10, 17, _, h_0 hS, rfl, rfl⟩) (Call_mono (by decide) q1.1) ?_
  refine ko_aload_n hK (q := 1715) rfl (by decide) (E.dc dL_law_1714) rfl ?_
  refine lw_arg E (q := 1721) (kk := 1) 1 dL_law_1715 dL_law_1716 dL_law_1718 dL_law_1719 dL_law_1720 (by decide) (hin _ (by decide)) rfl rfl rfl ?_
  refine lw_arg E (q := 1727) (kk := 2) 2 dL_law_1721 dL_law_1722 dL_law_1724 dL_law_1725 dL_law_1726 (by decide) (hin _ (by decide)) rfl rfl rfl ?_
  refine ko_virt hK (q := 1730) mX11_wish [.int (xs (i + 1).toNatClampNeg), .int (xs (i + 2).toNatClampNeg)] (E.dc dL_law_1727) rfl rfl (Nat.le_of_ble_eq_true rfl) mo_X11_wish (E.ml mv_L_216) (Or.inl ⟨11, 37, _, h_138 hS, rfl, rfl⟩) (Call_mono (by decide) q2.1) ?_
  exact ko_icT hK (q := 1829) (op := .eq) rfl (E.dc dL_law_1730) rfl (next _ q2.2 w2)
set_option maxRecDepth 20000 in
theorem cs_48 (E : LE G p l s m args meth c μ L xs) (hS : ShOK S) (hI : Inv mm) (hW : WI mm) (hin : ∀ k : Int32, 0 ≤ k ∧ k < 6 → inb (i + k) L) (next : ∀ mm', Inv mm' → WI mm' → LW G p l e s m args below meth c Q (1829, [(4, .int i), (0, .ref 3000000), (1, .ref 0), (2, .ref 138), (3, .ref 158)], [], S, mm')) : LW G p l e s m args below meth c Q (1791, [(4, .int i), (0, .ref 3000000), (1, .ref 0), (2, .ref 138), (3, .ref 158)], [], S, mm) := by
  have hK := LW.cl (l := l) (e := e) (below := below) (Q := Q) E.1
  have hT : Two (fX10_size (xs (i + 1).toNatClampNeg)) (fX11_size (xs (i + 1).toNatClampNeg)) mm := t_size hI hW
  obtain ⟨V, m1, m2, e1, e2, w2⟩ := hT
  have q1 := kX10_size hS e1 hI
  have q2 := kX11_size hS e2 q1.2
  refine ko_aload_n hK (q := 1792) rfl (by decide) (E.dc dL_law_1791) rfl ?_
  refine lw_arg E (q := 1798) (kk := 1) 1 dL_law_1792 dL_law_1793 dL_law_1795 dL_law_1796 dL_law_1797 (by decide) (hin _ (by decide)) rfl rfl rfl ?_
  refine ko_virt hK (q := 1801) mX10_size [.int (xs (i + 1).toNatClampNeg)] (E.dc dL_law_1798) rfl rfl (Nat.le_of_ble_eq_true rfl) mo_X10_size (E.ml mv_L_226) (Or.inl ⟨10, 17, _, h_0 hS, rfl, rfl⟩) (Call_mono (by decide) q1.1) ?_
  refine ko_aload_n hK (q := 1802) rfl (by decide) (E.dc dL_law_1801) rfl ?_
  refine lw_arg E (q := 1808) (kk := 1) 1 dL_law_1802 dL_law_1803 dL_law_1805 dL_law_1806 dL_law_1807 (by decide) (hin _ (by decide)) rfl rfl rfl ?_
  refine ko_virt hK (q := 1811) mX11_size [.int (xs (i + 1).toNatClampNeg)] (E.dc dL_law_1808) rfl rfl (Nat.le_of_ble_eq_true rfl) mo_X11_size (E.ml mv_L_229) (Or.inl ⟨11, 37, _, h_138 hS, rfl, rfl⟩) (Call_mono (by decide) q2.1) ?_
  exact ko_icT hK (q := 1829) (op := .eq) rfl (E.dc dL_law_1811) rfl (next _ q2.2 w2)
set_option maxRecDepth 20000 in
theorem cs_49 (E : LE G p l s m args meth c μ L xs) (hS : ShOK S) (hI : Inv mm) (hW : WI mm) (hin : ∀ k : Int32, 0 ≤ k ∧ k < 6 → inb (i + k) L) (next : ∀ mm', Inv mm' → WI mm' → LW G p l e s m args below meth c Q (1829, [(4, .int i), (0, .ref 3000000), (1, .ref 0), (2, .ref 138), (3, .ref 158)], [], S, mm')) : LW G p l e s m args below meth c Q (1816, [(4, .int i), (0, .ref 3000000), (1, .ref 0), (2, .ref 138), (3, .ref 158)], [], S, mm) := by
  have hK := LW.cl (l := l) (e := e) (below := below) (Q := Q) E.1
  have hT : Two fX10_trouble fX11_trouble mm := t_trouble hI hW
  obtain ⟨V, m1, m2, e1, e2, w2⟩ := hT
  have q1 := kX10_trouble hS e1 hI
  have q2 := kX11_trouble hS e2 q1.2
  refine ko_aload_n hK (q := 1817) rfl (by decide) (E.dc dL_law_1816) rfl ?_
  refine ko_virt hK (q := 1820) mX10_trouble [] (E.dc dL_law_1817) rfl rfl (Nat.le_of_ble_eq_true rfl) mo_X10_trouble (E.ml mv_L_230) (Or.inl ⟨10, 17, _, h_0 hS, rfl, rfl⟩) (Call_mono (by decide) q1.1) ?_
  refine ko_aload_n hK (q := 1821) rfl (by decide) (E.dc dL_law_1820) rfl ?_
  refine ko_virt hK (q := 1824) mX11_trouble [] (E.dc dL_law_1821) rfl rfl (Nat.le_of_ble_eq_true rfl) mo_X11_trouble (E.ml mv_L_233) (Or.inl ⟨11, 37, _, h_138 hS, rfl, rfl⟩) (Call_mono (by decide) q2.1) ?_
  exact ko_icT hK (q := 1829) (op := .eq) rfl (E.dc dL_law_1824) rfl (next _ q2.2 w2)
end CASES
