set_option maxRecDepth 20000 in
theorem kX11_readLine {S : Sh} (hS : ShOK S) {res : Me} {m : Me} (hf : fX11_readLine m = some res) (hI : Inv m) : Call 12 mX11_readLine [.ref 138] (S, m) none (S, res) ∧ Inv res := by
  refine call_of (P := InvS) (Nat.le_of_ble_eq_true rfl) (by simp [Value.category]) ?_
  show TT InvS (Call 11) mX11_readLine (0, [(0, .ref 138)], [], S, m) _ _
  unfold fX11_readLine at hf
  refine to_aload_n (q := 1) rfl (by decide) dX11_readLine_0 rfl ?_
  refine to_ldcS (q := 3) (i := 16) rfl dX11_readLine_1 rfl ?_
  obtain ⟨r3, m4, hc1, hf⟩ := cl2_some hf
  have qc2 := kX11_isWord hS hc1 (by decide) hI
  refine to_virtI (q := 6) mX11_isWord [.ref (1000000 + 16)] dX11_readLine_3 rfl rfl (Nat.le_of_ble_eq_true rfl) mo_X11_isWord mv_X11_126 (Or.inl ⟨_, _, _, h_138 hS, rfl, rfl⟩) (Call_mono (by decide) qc2.1) ?_
  have hI := qc2.2
  by_cases h5 : r3 = (0 : Int32)
  · have hf := ite_pos h5 hf
    refine to_ifT (q := 16) (op := .eq) h5 dX11_readLine_6 rfl ?_
    refine to_aload_n (q := 17) rfl (by decide) dX11_readLine_16 rfl ?_
    refine to_ldcS (q := 19) (i := 23) rfl dX11_readLine_17 rfl ?_
    refine to_aload_n (q := 20) rfl (by decide) dX11_readLine_19 rfl ?_
    refine to_getR (q := 23) (b := 142) (k0 := 11) (C := RX11) (T := TX11) (N := 37) (j := 16) rfl fx_X11_23 (h_138 hS) rfl (iv_138_16 hI) dX11_readLine_20 rfl ?_
    refine to_iconst (q := 24) ic_0 dX11_readLine_23 rfl ?_
    refine to_iaj (q := 25) (h_142 hS) (by decide) (tn_0) dX11_readLine_24 rfl ?_
    by_cases h6 : (m4.1 142 0) = (0 : Int32)
    · have hf := ite_pos h6 hf
      refine to_ifT (q := 43) (op := .eq) h6 dX11_readLine_25 rfl ?_
      exact to_ext [(0, .ref 138)] (ext_cons rfl ext_nil) (kX11_readLine_43 hS hf hI)
    · have hf := ite_neg h6 hf
      refine to_ifF (q := 28) (op := .eq) 43 h6 dX11_readLine_25 rfl rfl ?_
      refine to_aload_n (q := 29) rfl (by decide) dX11_readLine_28 rfl ?_
      refine to_getR (q := 32) (b := 142) (k0 := 11) (C := RX11) (T := TX11) (N := 37) (j := 16) rfl fx_X11_23 (h_138 hS) rfl (iv_138_16 hI) dX11_readLine_29 rfl ?_
      refine to_iconst (q := 33) ic_4 dX11_readLine_32 rfl ?_
      refine to_iaj (q := 34) (h_142 hS) (by decide) (tn_4) dX11_readLine_33 rfl ?_
      refine to_aload_n (q := 35) rfl (by decide) dX11_readLine_34 rfl ?_
      refine to_getR (q := 38) (b := 142) (k0 := 11) (C := RX11) (T := TX11) (N := 37) (j := 16) rfl fx_X11_23 (h_138 hS) rfl (iv_138_16 hI) dX11_readLine_35 rfl ?_
      refine to_iconst (q := 39) ic_0 dX11_readLine_38 rfl ?_
      refine to_iaj (q := 40) (h_142 hS) (by decide) (tn_0) dX11_readLine_39 rfl ?_
      by_cases h7 : (m4.1 142 0) ≤ (m4.1 142 4)
      · have hf := ite_pos h7 hf
        refine to_icT (q := 47) (op := .ge) h7 dX11_readLine_40 rfl ?_
        refine to_iconst (q := 48) ic_0 dX11_readLine_47 rfl ?_
        exact to_ext [(0, .ref 138)] (ext_cons rfl ext_nil) (kX11_readLine_48 hS hf hI)
      · have hf := ite_neg h7 hf
        refine to_icF (q := 43) (op := .ge) 47 h7 dX11_readLine_40 rfl rfl ?_
        exact to_ext [(0, .ref 138)] (ext_cons rfl ext_nil) (kX11_readLine_43 hS hf hI)
  · have hf := ite_neg h5 hf
    refine to_ifF (q := 9) (op := .eq) 16 h5 dX11_readLine_6 rfl rfl ?_
    refine to_aload_n (q := 10) rfl (by decide) dX11_readLine_9 rfl ?_
    obtain ⟨m10, hc8, hf⟩ := cl1_some hf
    have qc9 := kX11_fanLine hS hc8 hI
    refine to_virtV (q := 13) mX11_fanLine [] dX11_readLine_10 rfl rfl (Nat.le_of_ble_eq_true rfl) mo_X11_fanLine mv_X11_184 (Or.inl ⟨_, _, _, h_138 hS, rfl, rfl⟩) (Call_mono (by decide) qc9.1) ?_
    have hI := qc9.2
    refine to_goto (q := 203) dX11_readLine_13 rfl ?_
    exact to_ext [] ext_nil (kX11_readLine_203 hS hf hI)
def fX11_fan_185 (m : Me) : Option (Int32 × Me) := if (m.1 138 13) = (0 : Int32) then cl1 (fX11_copy 142 (0 : Int32) 141 (0 : Int32) (186 : Int32) m) fun m45 => cl1 (fX11_copy 144 (0 : Int32) 143 (0 : Int32) (62 : Int32) m45) fun m48 => cl2 (fX11_mostOpen 141 (setI (setI (setI m48 138 14 (1 : Int32)) 138 21 (0 : Int32)) 138 22 (0 : Int32))) fun r51 m52 => some ((r51 + (1 : Int32)), m52) else cl2 (fX11_no (4 : Int32) m) fun r55 m56 => some (r55, m56)
set_option maxRecDepth 20000 in
theorem kX11_fan_185 {S : Sh} (hS : ShOK S) {res : Int32 × Me} {m : Me} (hf : fX11_fan_185 m = some res) (hI : Inv m) : TT InvS (Call 12) mX11_fan (185, [(0, .ref 138)], [], S, m) (some (.int res.1)) (S, res.2) := by
  unfold fX11_fan_185 at hf
  refine to_aload_n (q := 186) rfl (by decide) dX11_fan_185 rfl ?_
  refine to_getI (q := 189) (k0 := 11) (C := RX11) (T := TX11) (N := 37) (j := 13) rfl fx_X11_109 (h_138 hS) rfl dX11_fan_186 rfl ?_
  by_cases h42 : (m.1 138 13) = (0 : Int32)
  · have hf := ite_pos h42 hf
    refine to_ifT (q := 198) (op := .eq) h42 dX11_fan_189 rfl ?_
    refine to_aload_n (q := 199) rfl (by decide) dX11_fan_198 rfl ?_
    refine to_getR (q := 202) (b := 142) (k0 := 11) (C := RX11) (T := TX11) (N := 37) (j := 16) rfl fx_X11_23 (h_138 hS) rfl (iv_138_16 hI) dX11_fan_199 rfl ?_
    refine to_iconst (q := 203) ic_0 dX11_fan_202 rfl ?_
    refine to_aload_n (q := 204) rfl (by decide) dX11_fan_203 rfl ?_
    refine to_getR (q := 207) (b := 141) (k0 := 11) (C := RX11) (T := TX11) (N := 37) (j := 15) rfl fx_X11_20 (h_138 hS) rfl (iv_138_15 hI) dX11_fan_204 rfl ?_
    refine to_iconst (q := 208) ic_0 dX11_fan_207 rfl ?_
    refine to_sipush (q := 211) sp_186 dX11_fan_208 rfl ?_
    obtain ⟨m45, hc43, hf⟩ := cl1_some hf
    have qc44 := kX11_copy hS hc43 rfl rfl hI
    refine to_statV (q := 214) mX11_copy [.ref 142, .int (0 : Int32), .ref 141, .int (0 : Int32), .int (186 : Int32)] dX11_fan_211 rfl rfl (Nat.le_of_ble_eq_true rfl) mo_X11_copy (Or.inl ml_X11_165) sa_X11_copy (Call_mono (by decide) qc44.1) ?_
    have hI := qc44.2
    refine to_aload_n (q := 215) rfl (by decide) dX11_fan_214 rfl ?_
    refine to_getR (q := 218) (b := 144) (k0 := 11) (C := RX11) (T := TX11) (N := 37) (j := 18) rfl fx_X11_29 (h_138 hS) rfl (iv_138_18 hI) dX11_fan_215 rfl ?_
    refine to_iconst (q := 219) ic_0 dX11_fan_218 rfl ?_
    refine to_aload_n (q := 220) rfl (by decide) dX11_fan_219 rfl ?_
    refine to_getR (q := 223) (b := 143) (k0 := 11) (C := RX11) (T := TX11) (N := 37) (j := 17) rfl fx_X11_26 (h_138 hS) rfl (iv_138_17 hI) dX11_fan_220 rfl ?_
    refine to_iconst (q := 224) ic_0 dX11_fan_223 rfl ?_
    refine to_bipush (q := 226) bp_62 dX11_fan_224 rfl ?_
    obtain ⟨m48, hc46, hf⟩ := cl1_some hf
    have qc47 := kX11_copy hS hc46 rfl rfl hI
    refine to_statV (q := 229) mX11_copy [.ref 144, .int (0 : Int32), .ref 143, .int (0 : Int32), .int (62 : Int32)] dX11_fan_226 rfl rfl (Nat.le_of_ble_eq_true rfl) mo_X11_copy (Or.inl ml_X11_165) sa_X11_copy (Call_mono (by decide) qc47.1) ?_
    have hI := qc47.2
    refine to_aload_n (q := 230) rfl (by decide) dX11_fan_229 rfl ?_
    refine to_iconst (q := 231) ic_1 dX11_fan_230 rfl ?_
    refine to_putI (q := 234) (ty := .boolean) (k0 := 11) (C := RX11) (T := TX11) (N := 37) (j := 14) rfl fx_X11_169 (h_138 hS) rfl pD_Z (Or.inl rfl) (nf_Z (by decide)) dX11_fan_231 rfl ?_
    refine to_aload_n (q := 235) rfl (by decide) dX11_fan_234 rfl ?_
    refine to_iconst (q := 236) ic_0 dX11_fan_235 rfl ?_
    refine to_putI (q := 239) (ty := .int) (k0 := 11) (C := RX11) (T := TX11) (N := 37) (j := 21) rfl fx_X11_172 (h_138 hS) rfl pD_I (Or.inl rfl) (nf_I _) dX11_fan_236 rfl ?_
    refine to_aload_n (q := 240) rfl (by decide) dX11_fan_239 rfl ?_
    refine to_iconst (q := 241) ic_0 dX11_fan_240 rfl ?_
    refine to_putI (q := 244) (ty := .int) (k0 := 11) (C := RX11) (T := TX11) (N := 37) (j := 22) rfl fx_X11_175 (h_138 hS) rfl pD_I (Or.inl rfl) (nf_I _) dX11_fan_241 rfl ?_
    refine to_aload_n (q := 245) rfl (by decide) dX11_fan_244 rfl ?_
    refine to_getR (q := 248) (b := 141) (k0 := 11) (C := RX11) (T := TX11) (N := 37) (j := 15) rfl fx_X11_20 (h_138 hS) rfl (iv_138_15 hI) dX11_fan_245 rfl ?_
    obtain ⟨r51, m52, hc49, hf⟩ := cl2_some hf
    have qc50 := kX11_mostOpen hS hc49 rfl hI
    refine to_statI (q := 251) mX11_mostOpen [.ref 141] dX11_fan_248 rfl rfl (Nat.le_of_ble_eq_true rfl) mo_X11_mostOpen (Or.inl ml_X11_178) sa_X11_mostOpen (Call_mono (by decide) qc50.1) ?_
    have hI := qc50.2
    refine to_iconst (q := 252) ic_1 dX11_fan_251 rfl ?_
    refine to_iadd (q := 253) dX11_fan_252 rfl ?_
    cases hf
    exact to_iret dX11_fan_253 rfl rfl rfl rfl hI
  · have hf := ite_neg h42 hf
    refine to_ifF (q := 192) (op := .eq) 198 h42 dX11_fan_189 rfl rfl ?_
    refine to_aload_n (q := 193) rfl (by decide) dX11_fan_192 rfl ?_
    refine to_iconst (q := 194) ic_4 dX11_fan_193 rfl ?_
    obtain ⟨r55, m56, hc53, hf⟩ := cl2_some hf
    have qc54 := kX11_no hS hc53 hI
    refine to_virtI (q := 197) mX11_no [.int (4 : Int32)] dX11_fan_194 rfl rfl (Nat.le_of_ble_eq_true rfl) mo_X11_no mv_X11_159 (Or.inl ⟨_, _, _, h_138 hS, rfl, rfl⟩) (Call_mono (by decide) qc54.1) ?_
    have hI := qc54.2
    cases hf
    exact to_iret dX11_fan_197 rfl rfl rfl rfl hI
def fX11_fan_159 (m : Me) : Option (Int32 × Me) := if (m.1 138 13) = (0 : Int32) then if (m.1 142 0) = (0 : Int32) then cl1 (fX11_wrong (6 : Int32) (m.1 138 4) m) fun m41 => fX11_fan_185 m41 else fX11_fan_185 m else fX11_fan_185 m
set_option maxRecDepth 20000 in
theorem kX11_fan_159 {S : Sh} (hS : ShOK S) {res : Int32 × Me} {m : Me} (hf : fX11_fan_159 m = some res) (hI : Inv m) : TT InvS (Call 12) mX11_fan (159, [(0, .ref 138)], [], S, m) (some (.int res.1)) (S, res.2) := by
  unfold fX11_fan_159 at hf
  refine to_aload_n (q := 160) rfl (by decide) dX11_fan_159 rfl ?_
  refine to_getI (q := 163) (k0 := 11) (C := RX11) (T := TX11) (N := 37) (j := 13) rfl fx_X11_109 (h_138 hS) rfl dX11_fan_160 rfl ?_
  by_cases h37 : (m.1 138 13) = (0 : Int32)
  · have hf := ite_pos h37 hf
    refine to_ifF (q := 166) (op := .ne) 185 (fun z => z h37) dX11_fan_163 rfl rfl ?_
    refine to_aload_n (q := 167) rfl (by decide) dX11_fan_166 rfl ?_
    refine to_getR (q := 170) (b := 142) (k0 := 11) (C := RX11) (T := TX11) (N := 37) (j := 16) rfl fx_X11_23 (h_138 hS) rfl (iv_138_16 hI) dX11_fan_167 rfl ?_
    refine to_iconst (q := 171) ic_0 dX11_fan_170 rfl ?_
    refine to_iaj (q := 172) (h_142 hS) (by decide) (tn_0) dX11_fan_171 rfl ?_
    by_cases h38 : (m.1 142 0) = (0 : Int32)
    · have hf := ite_pos h38 hf
      refine to_ifF (q := 175) (op := .ne) 185 (fun z => z h38) dX11_fan_172 rfl rfl ?_
      refine to_aload_n (q := 176) rfl (by decide) dX11_fan_175 rfl ?_
      refine to_bipush (q := 178) bp_6 dX11_fan_176 rfl ?_
      refine to_aload_n (q := 179) rfl (by decide) dX11_fan_178 rfl ?_
      refine to_getI (q := 182) (k0 := 11) (C := RX11) (T := TX11) (N := 37) (j := 4) rfl fx_X11_90 (h_138 hS) rfl dX11_fan_179 rfl ?_
      obtain ⟨m41, hc39, hf⟩ := cl1_some hf
      have qc40 := kX11_wrong hS hc39 hI
      refine to_virtV (q := 185) mX11_wrong [.int (6 : Int32), .int (m.1 138 4)] dX11_fan_182 rfl rfl (Nat.le_of_ble_eq_true rfl) mo_X11_wrong mv_X11_136 (Or.inl ⟨_, _, _, h_138 hS, rfl, rfl⟩) (Call_mono (by decide) qc40.1) ?_
      have hI := qc40.2
      exact to_ext [(0, .ref 138)] (ext_cons rfl ext_nil) (kX11_fan_185 hS hf hI)
    · have hf := ite_neg h38 hf
      refine to_ifT (q := 185) (op := .ne) h38 dX11_fan_172 rfl ?_
      exact to_ext [(0, .ref 138)] (ext_cons rfl ext_nil) (kX11_fan_185 hS hf hI)
  · have hf := ite_neg h37 hf
    refine to_ifT (q := 185) (op := .ne) h37 dX11_fan_163 rfl ?_
    exact to_ext [(0, .ref 138)] (ext_cons rfl ext_nil) (kX11_fan_185 hS hf hI)
def fX11_fan_136 (m : Me) : Option (Int32 × Me) := if (m.1 138 13) = (0 : Int32) then if (m.1 138 6) = (0 : Int32) then fX11_fan_159 m else cl1 (fX11_wrong (1 : Int32) (m.1 138 4) m) fun m36 => fX11_fan_159 m36 else fX11_fan_159 m
set_option maxRecDepth 20000 in
theorem kX11_fan_136 {S : Sh} (hS : ShOK S) {res : Int32 × Me} {m : Me} (hf : fX11_fan_136 m = some res) (hI : Inv m) : TT InvS (Call 12) mX11_fan (136, [(0, .ref 138)], [], S, m) (some (.int res.1)) (S, res.2) := by
  unfold fX11_fan_136 at hf
  refine to_aload_n (q := 137) rfl (by decide) dX11_fan_136 rfl ?_
  refine to_getI (q := 140) (k0 := 11) (C := RX11) (T := TX11) (N := 37) (j := 13) rfl fx_X11_109 (h_138 hS) rfl dX11_fan_137 rfl ?_
  by_cases h32 : (m.1 138 13) = (0 : Int32)
  · have hf := ite_pos h32 hf
    refine to_ifF (q := 143) (op := .ne) 159 (fun z => z h32) dX11_fan_140 rfl rfl ?_
    refine to_aload_n (q := 144) rfl (by decide) dX11_fan_143 rfl ?_
    refine to_getI (q := 147) (k0 := 11) (C := RX11) (T := TX11) (N := 37) (j := 6) rfl fx_X11_99 (h_138 hS) rfl dX11_fan_144 rfl ?_
    by_cases h33 : (m.1 138 6) = (0 : Int32)
    · have hf := ite_pos h33 hf
      refine to_ifT (q := 159) (op := .eq) h33 dX11_fan_147 rfl ?_
      exact to_ext [(0, .ref 138)] (ext_cons rfl ext_nil) (kX11_fan_159 hS hf hI)
    · have hf := ite_neg h33 hf
      refine to_ifF (q := 150) (op := .eq) 159 h33 dX11_fan_147 rfl rfl ?_
      refine to_aload_n (q := 151) rfl (by decide) dX11_fan_150 rfl ?_
      refine to_iconst (q := 152) ic_1 dX11_fan_151 rfl ?_
      refine to_aload_n (q := 153) rfl (by decide) dX11_fan_152 rfl ?_
      refine to_getI (q := 156) (k0 := 11) (C := RX11) (T := TX11) (N := 37) (j := 4) rfl fx_X11_90 (h_138 hS) rfl dX11_fan_153 rfl ?_
      obtain ⟨m36, hc34, hf⟩ := cl1_some hf
      have qc35 := kX11_wrong hS hc34 hI
      refine to_virtV (q := 159) mX11_wrong [.int (1 : Int32), .int (m.1 138 4)] dX11_fan_156 rfl rfl (Nat.le_of_ble_eq_true rfl) mo_X11_wrong mv_X11_136 (Or.inl ⟨_, _, _, h_138 hS, rfl, rfl⟩) (Call_mono (by decide) qc35.1) ?_
      have hI := qc35.2
      exact to_ext [(0, .ref 138)] (ext_cons rfl ext_nil) (kX11_fan_159 hS hf hI)
  · have hf := ite_neg h32 hf
    refine to_ifT (q := 159) (op := .ne) h32 dX11_fan_140 rfl ?_
    exact to_ext [(0, .ref 138)] (ext_cons rfl ext_nil) (kX11_fan_159 hS hf hI)
def fX11_fan_109 (n : Nat) (m : Me) : Option (Int32 × Me) := match n with
  | 0 => none
  | n + 1 => if (m.1 138 13) = (0 : Int32) then if (m.1 138 6) = (59 : Int32) then cl1 (fX11_next m) fun m27 => cl1 (fX11_readLine m27) fun m30 => fX11_fan_109 n m30 else fX11_fan_136 m else fX11_fan_136 m
set_option maxRecDepth 20000 in
theorem kX11_fan_109 {S : Sh} (hS : ShOK S) {res : Int32 × Me} (n : Nat) : ∀ {m : Me}, fX11_fan_109 n m = some res → Inv m → TT InvS (Call 12) mX11_fan (109, [(0, .ref 138)], [], S, m) (some (.int res.1)) (S, res.2) := by
  induction n with
  | zero => intro  m hf; cases hf
  | succ n ih =>
    intro  m hf  hI
    unfold fX11_fan_109 at hf
    refine to_aload_n (q := 110) rfl (by decide) dX11_fan_109 rfl ?_
    refine to_getI (q := 113) (k0 := 11) (C := RX11) (T := TX11) (N := 37) (j := 13) rfl fx_X11_109 (h_138 hS) rfl dX11_fan_110 rfl ?_
    by_cases h23 : (m.1 138 13) = (0 : Int32)
    · have hf := ite_pos h23 hf
      refine to_ifF (q := 116) (op := .ne) 136 (fun z => z h23) dX11_fan_113 rfl rfl ?_
      refine to_aload_n (q := 117) rfl (by decide) dX11_fan_116 rfl ?_
      refine to_getI (q := 120) (k0 := 11) (C := RX11) (T := TX11) (N := 37) (j := 6) rfl fx_X11_99 (h_138 hS) rfl dX11_fan_117 rfl ?_
      refine to_bipush (q := 122) bp_59 dX11_fan_120 rfl ?_
      by_cases h24 : (m.1 138 6) = (59 : Int32)
      · have hf := ite_pos h24 hf
        refine to_icF (q := 125) (op := .ne) 136 (fun z => z h24) dX11_fan_122 rfl rfl ?_
        refine to_aload_n (q := 126) rfl (by decide) dX11_fan_125 rfl ?_
        obtain ⟨m27, hc25, hf⟩ := cl1_some hf
        have qc26 := kX11_next hS hc25 hI
        refine to_virtV (q := 129) mX11_next [] dX11_fan_126 rfl rfl (Nat.le_of_ble_eq_true rfl) mo_X11_next mv_X11_130 (Or.inl ⟨_, _, _, h_138 hS, rfl, rfl⟩) (Call_mono (by decide) qc26.1) ?_
        have hI := qc26.2
        refine to_aload_n (q := 130) rfl (by decide) dX11_fan_129 rfl ?_
        obtain ⟨m30, hc28, hf⟩ := cl1_some hf
        have qc29 := kX11_readLine hS hc28 hI
        refine to_virtV (q := 133) mX11_readLine [] dX11_fan_130 rfl rfl (Nat.le_of_ble_eq_true rfl) mo_X11_readLine mv_X11_162 (Or.inl ⟨_, _, _, h_138 hS, rfl, rfl⟩) (Call_mono (by decide) qc29.1) ?_
        have hI := qc29.2
        refine to_goto (q := 109) dX11_fan_133 rfl ?_
        exact to_ext [(0, .ref 138)] (ext_cons rfl ext_nil) (ih hf hI)
      · have hf := ite_neg h24 hf
        refine to_icT (q := 136) (op := .ne) h24 dX11_fan_122 rfl ?_
        exact to_ext [(0, .ref 138)] (ext_cons rfl ext_nil) (kX11_fan_136 hS hf hI)
    · have hf := ite_neg h23 hf
      refine to_ifT (q := 136) (op := .ne) h23 dX11_fan_113 rfl ?_
      exact to_ext [(0, .ref 138)] (ext_cons rfl ext_nil) (kX11_fan_136 hS hf hI)
def fX11_fan_84 (k61 : Int32 → Int32 → Me → Option (Int32 × Me)) (x1 : Int32) (x2 : Int32) (t0 : Int32) (t1 : Int32) (m : Me) : Option (Int32 × Me) := ck (inb t1 62) (k61 x1 ((x2 + (1 : Int32))) (setI m 144 t1.toNatClampNeg t0))
set_option maxRecDepth 20000 in
theorem kX11_fan_84 {S : Sh} (hS : ShOK S) {res : Int32 × Me} {k61 : Int32 → Int32 → Me → Option (Int32 × Me)} (hk61 : ∀ {x1 : Int32} {x2 : Int32} {m : Me}, k61 x1 x2 m = some res → Inv m → TT InvS (Call 12) mX11_fan (61, [(0, .ref 138), (1, .int x1), (2, .int x2)], [], S, m) (some (.int res.1)) (S, res.2)) {x1 : Int32} {x2 : Int32} {t0 : Int32} {t1 : Int32} {m : Me} (hf : fX11_fan_84 k61 x1 x2 t0 t1 m = some res) (hI : Inv m) : TT InvS (Call 12) mX11_fan (84, [(0, .ref 138), (1, .int x1), (2, .int x2)], [.int t0, .int t1, .ref 144], S, m) (some (.int res.1)) (S, res.2) := by
  unfold fX11_fan_84 at hf
  obtain ⟨hb31, hf⟩ := ck_some hf
  refine to_iasj (q := 85) (h_144 hS) hb31 (rfl) dX11_fan_84 rfl ?_
  refine to_iinc (q := 88) (v := (x2 + (1 : Int32))) rfl (congrArg (fun z => x2 + z) ic_1) [(2, .int (x2 + (1 : Int32))), (0, .ref 138), (1, .int x1)] rfl (by decide) dX11_fan_85 rfl ?_
  refine to_goto (q := 61) dX11_fan_88 rfl ?_
  exact to_ext [(0, .ref 138), (1, .int x1), (2, .int (x2 + (1 : Int32)))] (ext_cons rfl (ext_cons rfl (ext_cons rfl ext_nil))) (hk61 hf hI)
def fX11_fan_61 (n : Nat) (x1 : Int32) (x2 : Int32) (m : Me) : Option (Int32 × Me) := match n with
  | 0 => none
  | n + 1 => if (62 : Int32) ≤ x2 then cl1 (fX11_next (setI (setI m 138 3 x1) 138 5 (0 : Int32))) fun m18 => cl1 (fX11_readLine m18) fun m21 => fX11_fan_109 FU m21 else if (60 : Int32) ≤ x2 then fX11_fan_84 (fX11_fan_61 n) x1 x2 ((0 : Int32)) x2 m else fX11_fan_84 (fX11_fan_61 n) x1 x2 ((25 : Int32)) x2 m
set_option maxRecDepth 20000 in
theorem kX11_fan_61 {S : Sh} (hS : ShOK S) {res : Int32 × Me} (n : Nat) : ∀ {x1 : Int32} {x2 : Int32} {m : Me}, fX11_fan_61 n x1 x2 m = some res → Inv m → TT InvS (Call 12) mX11_fan (61, [(0, .ref 138), (1, .int x1), (2, .int x2)], [], S, m) (some (.int res.1)) (S, res.2) := by
  induction n with
  | zero => intro x1 x2 m hf; cases hf
  | succ n ih =>
    intro x1 x2 m hf  hI
    unfold fX11_fan_61 at hf
    refine to_iload_n (q := 62) rfl dX11_fan_61 rfl ?_
    refine to_bipush (q := 64) bp_62 dX11_fan_62 rfl ?_
    by_cases h15 : (62 : Int32) ≤ x2
    · have hf := ite_pos h15 hf
      refine to_icT (q := 91) (op := .ge) h15 dX11_fan_64 rfl ?_
      refine to_aload_n (q := 92) rfl (by decide) dX11_fan_91 rfl ?_
      refine to_iload_n (q := 93) rfl dX11_fan_92 rfl ?_
      refine to_putI (q := 96) (ty := .int) (k0 := 11) (C := RX11) (T := TX11) (N := 37) (j := 3) rfl fx_X11_80 (h_138 hS) rfl pD_I (Or.inl rfl) (nf_I _) dX11_fan_93 rfl ?_
      refine to_aload_n (q := 97) rfl (by decide) dX11_fan_96 rfl ?_
      refine to_iconst (q := 98) ic_0 dX11_fan_97 rfl ?_
      refine to_putI (q := 101) (ty := .int) (k0 := 11) (C := RX11) (T := TX11) (N := 37) (j := 5) rfl fx_X11_83 (h_138 hS) rfl pD_I (Or.inl rfl) (nf_I _) dX11_fan_98 rfl ?_
      refine to_aload_n (q := 102) rfl (by decide) dX11_fan_101 rfl ?_
      obtain ⟨m18, hc16, hf⟩ := cl1_some hf
      have qc17 := kX11_next hS hc16 hI
      refine to_virtV (q := 105) mX11_next [] dX11_fan_102 rfl rfl (Nat.le_of_ble_eq_true rfl) mo_X11_next mv_X11_130 (Or.inl ⟨_, _, _, h_138 hS, rfl, rfl⟩) (Call_mono (by decide) qc17.1) ?_
      have hI := qc17.2
      refine to_aload_n (q := 106) rfl (by decide) dX11_fan_105 rfl ?_
      obtain ⟨m21, hc19, hf⟩ := cl1_some hf
      have qc20 := kX11_readLine hS hc19 hI
      refine to_virtV (q := 109) mX11_readLine [] dX11_fan_106 rfl rfl (Nat.le_of_ble_eq_true rfl) mo_X11_readLine mv_X11_162 (Or.inl ⟨_, _, _, h_138 hS, rfl, rfl⟩) (Call_mono (by decide) qc20.1) ?_
      have hI := qc20.2
      exact to_ext [(0, .ref 138)] (ext_cons rfl ext_nil) (kX11_fan_109 hS FU hf hI)
    · have hf := ite_neg h15 hf
      refine to_icF (q := 67) (op := .ge) 91 h15 dX11_fan_64 rfl rfl ?_
      refine to_aload_n (q := 68) rfl (by decide) dX11_fan_67 rfl ?_
      refine to_getR (q := 71) (b := 144) (k0 := 11) (C := RX11) (T := TX11) (N := 37) (j := 18) rfl fx_X11_29 (h_138 hS) rfl (iv_138_18 hI) dX11_fan_68 rfl ?_
      refine to_iload_n (q := 72) rfl dX11_fan_71 rfl ?_
      refine to_iload_n (q := 73) rfl dX11_fan_72 rfl ?_
      refine to_bipush (q := 75) bp_60 dX11_fan_73 rfl ?_
      by_cases h22 : (60 : Int32) ≤ x2
      · have hf := ite_pos h22 hf
        refine to_icT (q := 83) (op := .ge) h22 dX11_fan_75 rfl ?_
        refine to_iconst (q := 84) ic_0 dX11_fan_83 rfl ?_
        exact to_ext [(0, .ref 138), (1, .int x1), (2, .int x2)] (ext_cons rfl (ext_cons rfl (ext_cons rfl ext_nil))) (kX11_fan_84 hS ih hf hI)
      · have hf := ite_neg h22 hf
        refine to_icF (q := 78) (op := .ge) 83 h22 dX11_fan_75 rfl rfl ?_
        refine to_bipush (q := 80) bp_25 dX11_fan_78 rfl ?_
        refine to_goto (q := 84) dX11_fan_80 rfl ?_
        exact to_ext [(0, .ref 138), (1, .int x1), (2, .int x2)] (ext_cons rfl (ext_cons rfl (ext_cons rfl ext_nil))) (kX11_fan_84 hS ih hf hI)
def fX11_fan_39 (n : Nat) (x1 : Int32) (x2 : Int32) (m : Me) : Option (Int32 × Me) := match n with
  | 0 => none
  | n + 1 => if (186 : Int32) ≤ x2 then fX11_fan_61 FU x1 ((0 : Int32)) m else ck (inb x2 186) (fX11_fan_39 n x1 ((x2 + (1 : Int32))) (setI m 142 x2.toNatClampNeg (0 : Int32)))
set_option maxRecDepth 20000 in
theorem kX11_fan_39 {S : Sh} (hS : ShOK S) {res : Int32 × Me} (n : Nat) : ∀ {x1 : Int32} {x2 : Int32} {m : Me}, fX11_fan_39 n x1 x2 m = some res → Inv m → TT InvS (Call 12) mX11_fan (39, [(0, .ref 138), (1, .int x1), (2, .int x2)], [], S, m) (some (.int res.1)) (S, res.2) := by
  induction n with
  | zero => intro x1 x2 m hf; cases hf
  | succ n ih =>
    intro x1 x2 m hf  hI
    unfold fX11_fan_39 at hf
    refine to_iload_n (q := 40) rfl dX11_fan_39 rfl ?_
    refine to_sipush (q := 43) sp_186 dX11_fan_40 rfl ?_
    by_cases h13 : (186 : Int32) ≤ x2
    · have hf := ite_pos h13 hf
      refine to_icT (q := 59) (op := .ge) h13 dX11_fan_43 rfl ?_
      refine to_iconst (q := 60) ic_0 dX11_fan_59 rfl ?_
      refine to_istore_n (q := 61) [(2, .int (0 : Int32)), (0, .ref 138), (1, .int x1)] rfl (by decide) dX11_fan_60 rfl ?_
      exact to_ext [(0, .ref 138), (1, .int x1), (2, .int (0 : Int32))] (ext_cons rfl (ext_cons rfl (ext_cons rfl ext_nil))) (kX11_fan_61 hS FU hf hI)
    · have hf := ite_neg h13 hf
      refine to_icF (q := 46) (op := .ge) 59 h13 dX11_fan_43 rfl rfl ?_
      refine to_aload_n (q := 47) rfl (by decide) dX11_fan_46 rfl ?_
      refine to_getR (q := 50) (b := 142) (k0 := 11) (C := RX11) (T := TX11) (N := 37) (j := 16) rfl fx_X11_23 (h_138 hS) rfl (iv_138_16 hI) dX11_fan_47 rfl ?_
      refine to_iload_n (q := 51) rfl dX11_fan_50 rfl ?_
      refine to_iconst (q := 52) ic_0 dX11_fan_51 rfl ?_
      obtain ⟨hb14, hf⟩ := ck_some hf
      refine to_iasj (q := 53) (h_142 hS) hb14 (rfl) dX11_fan_52 rfl ?_
      refine to_iinc (q := 56) (v := (x2 + (1 : Int32))) rfl (congrArg (fun z => x2 + z) ic_1) [(2, .int (x2 + (1 : Int32))), (0, .ref 138), (1, .int x1)] rfl (by decide) dX11_fan_53 rfl ?_
      refine to_goto (q := 39) dX11_fan_56 rfl ?_
      exact to_ext [(0, .ref 138), (1, .int x1), (2, .int (x2 + (1 : Int32)))] (ext_cons rfl (ext_cons rfl (ext_cons rfl ext_nil))) (ih hf hI)
def fX11_fan (x1 : Int32) (m : Me) : Option (Int32 × Me) := cl1 (fX11_good m) fun m3 => cl2 (fX11_within x1 (0 : Int32) (m3.1 138 2) m3) fun r6 m7 => if r6 = (0 : Int32) then cl2 (fX11_no (2 : Int32) m7) fun r11 m12 => some (r11, m12) else fX11_fan_39 FU x1 ((0 : Int32)) (setI (setI (setI m7 138 2 (0 : Int32)) 138 9 (0 : Int32)) 138 13 (0 : Int32))
set_option maxRecDepth 20000 in
theorem kX11_fan {S : Sh} (hS : ShOK S) {res : Int32 × Me} {x1 : Int32} {m : Me} (hf : fX11_fan x1 m = some res) (hI : Inv m) : Call 13 mX11_fan [.ref 138, .int x1] (S, m) (some (.int res.1)) (S, res.2) ∧ Inv res.2 := by
  refine call_of (P := InvS) (Nat.le_of_ble_eq_true rfl) (by simp [Value.category]) ?_
  show TT InvS (Call 12) mX11_fan (0, [(0, .ref 138), (1, .int x1)], [], S, m) _ _
  unfold fX11_fan at hf
  refine to_aload_n (q := 1) rfl (by decide) dX11_fan_0 rfl ?_
  obtain ⟨m3, hc1, hf⟩ := cl1_some hf
  have qc2 := kX11_good hS hc1 hI
  refine to_virtV (q := 4) mX11_good [] dX11_fan_1 rfl rfl (Nat.le_of_ble_eq_true rfl) mo_X11_good mv_X11_156 (Or.inl ⟨_, _, _, h_138 hS, rfl, rfl⟩) (Call_mono (by decide) qc2.1) ?_
  have hI := qc2.2
  refine to_iload_n (q := 5) rfl dX11_fan_4 rfl ?_
  refine to_iconst (q := 6) ic_0 dX11_fan_5 rfl ?_
  refine to_aload_n (q := 7) rfl (by decide) dX11_fan_6 rfl ?_
  refine to_getI (q := 10) (k0 := 11) (C := RX11) (T := TX11) (N := 37) (j := 2) rfl fx_X11_77 (h_138 hS) rfl dX11_fan_7 rfl ?_
  obtain ⟨r6, m7, hc4, hf⟩ := cl2_some hf
  have qc5 := kX11_within hS hc4 hI
  refine to_statI (q := 13) mX11_within [.int x1, .int (0 : Int32), .int (m3.1 138 2)] dX11_fan_10 rfl rfl (Nat.le_of_ble_eq_true rfl) mo_X11_within (Or.inl ml_X11_140) sa_X11_within (Call_mono (by decide) qc5.1) ?_
  have hI := qc5.2
  by_cases h8 : r6 = (0 : Int32)
  · have hf := ite_pos h8 hf
    refine to_ifF (q := 16) (op := .ne) 22 (fun z => z h8) dX11_fan_13 rfl rfl ?_
    refine to_aload_n (q := 17) rfl (by decide) dX11_fan_16 rfl ?_
    refine to_iconst (q := 18) ic_2 dX11_fan_17 rfl ?_
    obtain ⟨r11, m12, hc9, hf⟩ := cl2_some hf
    have qc10 := kX11_no hS hc9 hI
    refine to_virtI (q := 21) mX11_no [.int (2 : Int32)] dX11_fan_18 rfl rfl (Nat.le_of_ble_eq_true rfl) mo_X11_no mv_X11_159 (Or.inl ⟨_, _, _, h_138 hS, rfl, rfl⟩) (Call_mono (by decide) qc10.1) ?_
    have hI := qc10.2
    cases hf
    exact to_iret dX11_fan_21 rfl rfl rfl rfl hI
  · have hf := ite_neg h8 hf
    refine to_ifT (q := 22) (op := .ne) h8 dX11_fan_13 rfl ?_
    refine to_aload_n (q := 23) rfl (by decide) dX11_fan_22 rfl ?_
    refine to_iconst (q := 24) ic_0 dX11_fan_23 rfl ?_
    refine to_putI (q := 27) (ty := .int) (k0 := 11) (C := RX11) (T := TX11) (N := 37) (j := 2) rfl fx_X11_77 (h_138 hS) rfl pD_I (Or.inl rfl) (nf_I _) dX11_fan_24 rfl ?_
    refine to_aload_n (q := 28) rfl (by decide) dX11_fan_27 rfl ?_
    refine to_iconst (q := 29) ic_0 dX11_fan_28 rfl ?_
    refine to_putI (q := 32) (ty := .int) (k0 := 11) (C := RX11) (T := TX11) (N := 37) (j := 9) rfl fx_X11_113 (h_138 hS) rfl pD_I (Or.inl rfl) (nf_I _) dX11_fan_29 rfl ?_
    refine to_aload_n (q := 33) rfl (by decide) dX11_fan_32 rfl ?_
    refine to_iconst (q := 34) ic_0 dX11_fan_33 rfl ?_
    refine to_putI (q := 37) (ty := .boolean) (k0 := 11) (C := RX11) (T := TX11) (N := 37) (j := 13) rfl fx_X11_109 (h_138 hS) rfl pD_Z (Or.inl rfl) (nf_Z (by decide)) dX11_fan_34 rfl ?_
    refine to_iconst (q := 38) ic_0 dX11_fan_37 rfl ?_
    refine to_istore_n (q := 39) [(2, .int (0 : Int32)), (0, .ref 138), (1, .int x1)] rfl (by decide) dX11_fan_38 rfl ?_
    exact to_ext [(0, .ref 138), (1, .int x1), (2, .int (0 : Int32))] (ext_cons rfl (ext_cons rfl (ext_cons rfl ext_nil))) (kX11_fan_39 hS FU hf hI)
def fX11_fault (m : Me) : Option (Int32 × Me) := some (((setI m 138 0 (0 : Int32)).1 138 9), (setI m 138 0 (0 : Int32)))
set_option maxRecDepth 20000 in
theorem kX11_fault {S : Sh} (hS : ShOK S) {res : Int32 × Me} {m : Me} (hf : fX11_fault m = some res) (hI : Inv m) : Call 1 mX11_fault [.ref 138] (S, m) (some (.int res.1)) (S, res.2) ∧ Inv res.2 := by
  refine call_of (P := InvS) (Nat.le_of_ble_eq_true rfl) (by simp [Value.category]) ?_
  show TT InvS (Call 0) mX11_fault (0, [(0, .ref 138)], [], S, m) _ _
  unfold fX11_fault at hf
  refine to_aload_n (q := 1) rfl (by decide) dX11_fault_0 rfl ?_
  refine to_iconst (q := 2) ic_0 dX11_fault_1 rfl ?_
  refine to_putI (q := 5) (ty := .int) (k0 := 11) (C := RX11) (T := TX11) (N := 37) (j := 0) rfl fx_X11_71 (h_138 hS) rfl pD_I (Or.inl rfl) (nf_I _) dX11_fault_2 rfl ?_
  refine to_aload_n (q := 6) rfl (by decide) dX11_fault_5 rfl ?_
  refine to_getI (q := 9) (k0 := 11) (C := RX11) (T := TX11) (N := 37) (j := 9) rfl fx_X11_113 (h_138 hS) rfl dX11_fault_6 rfl ?_
  cases hf
  exact to_iret dX11_fault_9 rfl rfl rfl rfl hI
def fX11_where_21 (t0 : Int32) (m : Me) : Option (Int32 × Me) := some (t0, m)
set_option maxRecDepth 20000 in
theorem kX11_where_21 {S : Sh} (hS : ShOK S) {res : Int32 × Me} {t0 : Int32} {m : Me} (hf : fX11_where_21 t0 m = some res) (hI : Inv m) : TT InvS (Call 0) mX11_where (21, [], [.int t0], S, m) (some (.int res.1)) (S, res.2) := by
  unfold fX11_where_21 at hf
  cases hf
  exact to_iret dX11_where_21 rfl rfl rfl rfl hI
def fX11_where (m : Me) : Option (Int32 × Me) := if ((setI m 138 0 (0 : Int32)).1 138 11) = (4 : Int32) then fX11_where_21 (((setI m 138 0 (0 : Int32)).1 138 10)) (setI m 138 0 (0 : Int32)) else fX11_where_21 ((-1 : Int32)) (setI m 138 0 (0 : Int32))
set_option maxRecDepth 20000 in
theorem kX11_where {S : Sh} (hS : ShOK S) {res : Int32 × Me} {m : Me} (hf : fX11_where m = some res) (hI : Inv m) : Call 1 mX11_where [.ref 138] (S, m) (some (.int res.1)) (S, res.2) ∧ Inv res.2 := by
  refine call_of (P := InvS) (Nat.le_of_ble_eq_true rfl) (by simp [Value.category]) ?_
  show TT InvS (Call 0) mX11_where (0, [(0, .ref 138)], [], S, m) _ _
  unfold fX11_where at hf
  refine to_aload_n (q := 1) rfl (by decide) dX11_where_0 rfl ?_
  refine to_iconst (q := 2) ic_0 dX11_where_1 rfl ?_
  refine to_putI (q := 5) (ty := .int) (k0 := 11) (C := RX11) (T := TX11) (N := 37) (j := 0) rfl fx_X11_71 (h_138 hS) rfl pD_I (Or.inl rfl) (nf_I _) dX11_where_2 rfl ?_
  refine to_aload_n (q := 6) rfl (by decide) dX11_where_5 rfl ?_
  refine to_getI (q := 9) (k0 := 11) (C := RX11) (T := TX11) (N := 37) (j := 11) rfl fx_X11_74 (h_138 hS) rfl dX11_where_6 rfl ?_
  refine to_iconst (q := 10) ic_4 dX11_where_9 rfl ?_
  by_cases h1 : ((setI m 138 0 (0 : Int32)).1 138 11) = (4 : Int32)
  · have hf := ite_pos h1 hf
    refine to_icF (q := 13) (op := .ne) 20 (fun z => z h1) dX11_where_10 rfl rfl ?_
    refine to_aload_n (q := 14) rfl (by decide) dX11_where_13 rfl ?_
    refine to_getI (q := 17) (k0 := 11) (C := RX11) (T := TX11) (N := 37) (j := 10) rfl fx_X11_13 (h_138 hS) rfl dX11_where_14 rfl ?_
    refine to_goto (q := 21) dX11_where_17 rfl ?_
    exact to_ext [] ext_nil (kX11_where_21 hS hf hI)
  · have hf := ite_neg h1 hf
    refine to_icT (q := 20) (op := .ne) h1 dX11_where_10 rfl ?_
    refine to_iconst (q := 21) ic_m1 dX11_where_20 rfl ?_
    exact to_ext [] ext_nil (kX11_where_21 hS hf hI)
def fX11_isSide_21 (t0 : Int32) (m : Me) : Option (Int32 × Me) := ck (t0 = 0 ∨ t0 = 1) (some (t0, m))
set_option maxRecDepth 20000 in
theorem kX11_isSide_21 {S : Sh} (hS : ShOK S) {res : Int32 × Me} {t0 : Int32} {m : Me} (hf : fX11_isSide_21 t0 m = some res) (hI : Inv m) : TT InvS (Call 1) mX11_isSide (21, [], [.int t0], S, m) (some (.int res.1)) (S, res.2) := by
  unfold fX11_isSide_21 at hf
  obtain ⟨hz7, hf⟩ := ck_some hf
  cases hf
  exact to_iret dX11_isSide_21 rfl (nf_Z hz7).1 rfl rfl hI
def fX11_isSide_20 (m : Me) : Option (Int32 × Me) := fX11_isSide_21 ((0 : Int32)) m
set_option maxRecDepth 20000 in
theorem kX11_isSide_20 {S : Sh} (hS : ShOK S) {res : Int32 × Me} {m : Me} (hf : fX11_isSide_20 m = some res) (hI : Inv m) : TT InvS (Call 1) mX11_isSide (20, [], [], S, m) (some (.int res.1)) (S, res.2) := by
  unfold fX11_isSide_20 at hf
  refine to_iconst (q := 21) ic_0 dX11_isSide_20 rfl ?_
  exact to_ext [] ext_nil (kX11_isSide_21 hS hf hI)
def fX11_isSide (x1 : Int32) (m : Me) : Option (Int32 × Me) := if (m.1 138 14) = (0 : Int32) then fX11_isSide_20 m else cl2 (fX11_within x1 (0 : Int32) (1 : Int32) m) fun r4 m5 => if r4 = (0 : Int32) then fX11_isSide_20 m5 else fX11_isSide_21 ((1 : Int32)) m5
set_option maxRecDepth 20000 in
theorem kX11_isSide {S : Sh} (hS : ShOK S) {res : Int32 × Me} {x1 : Int32} {m : Me} (hf : fX11_isSide x1 m = some res) (hI : Inv m) : Call 2 mX11_isSide [.ref 138, .int x1] (S, m) (some (.int res.1)) (S, res.2) ∧ Inv res.2 := by
  refine call_of (P := InvS) (Nat.le_of_ble_eq_true rfl) (by simp [Value.category]) ?_
  show TT InvS (Call 1) mX11_isSide (0, [(0, .ref 138), (1, .int x1)], [], S, m) _ _
  unfold fX11_isSide at hf
  refine to_aload_n (q := 1) rfl (by decide) dX11_isSide_0 rfl ?_
  refine to_getI (q := 4) (k0 := 11) (C := RX11) (T := TX11) (N := 37) (j := 14) rfl fx_X11_169 (h_138 hS) rfl dX11_isSide_1 rfl ?_
  by_cases h1 : (m.1 138 14) = (0 : Int32)
  · have hf := ite_pos h1 hf
    refine to_ifT (q := 20) (op := .eq) h1 dX11_isSide_4 rfl ?_
    exact to_ext [] ext_nil (kX11_isSide_20 hS hf hI)
  · have hf := ite_neg h1 hf
    refine to_ifF (q := 7) (op := .eq) 20 h1 dX11_isSide_4 rfl rfl ?_
    refine to_iload_n (q := 8) rfl dX11_isSide_7 rfl ?_
    refine to_iconst (q := 9) ic_0 dX11_isSide_8 rfl ?_
    refine to_iconst (q := 10) ic_1 dX11_isSide_9 rfl ?_
    obtain ⟨r4, m5, hc2, hf⟩ := cl2_some hf
    have qc3 := kX11_within hS hc2 hI
    refine to_statI (q := 13) mX11_within [.int x1, .int (0 : Int32), .int (1 : Int32)] dX11_isSide_10 rfl rfl (Nat.le_of_ble_eq_true rfl) mo_X11_within (Or.inl ml_X11_140) sa_X11_within (Call_mono (by decide) qc3.1) ?_
    have hI := qc3.2
    by_cases h6 : r4 = (0 : Int32)
    · have hf := ite_pos h6 hf
      refine to_ifT (q := 20) (op := .eq) h6 dX11_isSide_13 rfl ?_
      exact to_ext [] ext_nil (kX11_isSide_20 hS hf hI)
    · have hf := ite_neg h6 hf
      refine to_ifF (q := 16) (op := .eq) 20 h6 dX11_isSide_13 rfl rfl ?_
      refine to_iconst (q := 17) ic_1 dX11_isSide_16 rfl ?_
      refine to_goto (q := 21) dX11_isSide_17 rfl ?_
      exact to_ext [] ext_nil (kX11_isSide_21 hS hf hI)
def fX11_isRib_28 (t0 : Int32) (m : Me) : Option (Int32 × Me) := ck (t0 = 0 ∨ t0 = 1) (some (t0, m))
set_option maxRecDepth 20000 in
theorem kX11_isRib_28 {S : Sh} (hS : ShOK S) {res : Int32 × Me} {t0 : Int32} {m : Me} (hf : fX11_isRib_28 t0 m = some res) (hI : Inv m) : TT InvS (Call 1) mX11_isRib (28, [], [.int t0], S, m) (some (.int res.1)) (S, res.2) := by
  unfold fX11_isRib_28 at hf
  obtain ⟨hz7, hf⟩ := ck_some hf
  cases hf
  exact to_iret dX11_isRib_28 rfl (nf_Z hz7).1 rfl rfl hI
def fX11_isRib_27 (m : Me) : Option (Int32 × Me) := fX11_isRib_28 ((0 : Int32)) m
set_option maxRecDepth 20000 in
theorem kX11_isRib_27 {S : Sh} (hS : ShOK S) {res : Int32 × Me} {m : Me} (hf : fX11_isRib_27 m = some res) (hI : Inv m) : TT InvS (Call 1) mX11_isRib (27, [], [], S, m) (some (.int res.1)) (S, res.2) := by
  unfold fX11_isRib_27 at hf
  refine to_iconst (q := 28) ic_0 dX11_isRib_27 rfl ?_
  exact to_ext [] ext_nil (kX11_isRib_28 hS hf hI)
def fX11_isRib (x1 : Int32) (m : Me) : Option (Int32 × Me) := if (m.1 138 14) = (0 : Int32) then fX11_isRib_27 m else cl2 (fX11_within x1 (0 : Int32) (((m.1 141 0) - (1 : Int32))) m) fun r4 m5 => if r4 = (0 : Int32) then fX11_isRib_27 m5 else fX11_isRib_28 ((1 : Int32)) m5
set_option maxRecDepth 20000 in
theorem kX11_isRib {S : Sh} (hS : ShOK S) {res : Int32 × Me} {x1 : Int32} {m : Me} (hf : fX11_isRib x1 m = some res) (hI : Inv m) : Call 2 mX11_isRib [.ref 138, .int x1] (S, m) (some (.int res.1)) (S, res.2) ∧ Inv res.2 := by
  refine call_of (P := InvS) (Nat.le_of_ble_eq_true rfl) (by simp [Value.category]) ?_
  show TT InvS (Call 1) mX11_isRib (0, [(0, .ref 138), (1, .int x1)], [], S, m) _ _
  unfold fX11_isRib at hf
  refine to_aload_n (q := 1) rfl (by decide) dX11_isRib_0 rfl ?_
  refine to_getI (q := 4) (k0 := 11) (C := RX11) (T := TX11) (N := 37) (j := 14) rfl fx_X11_169 (h_138 hS) rfl dX11_isRib_1 rfl ?_
  by_cases h1 : (m.1 138 14) = (0 : Int32)
  · have hf := ite_pos h1 hf
    refine to_ifT (q := 27) (op := .eq) h1 dX11_isRib_4 rfl ?_
    exact to_ext [] ext_nil (kX11_isRib_27 hS hf hI)
  · have hf := ite_neg h1 hf
    refine to_ifF (q := 7) (op := .eq) 27 h1 dX11_isRib_4 rfl rfl ?_
    refine to_iload_n (q := 8) rfl dX11_isRib_7 rfl ?_
    refine to_iconst (q := 9) ic_0 dX11_isRib_8 rfl ?_
    refine to_aload_n (q := 10) rfl (by decide) dX11_isRib_9 rfl ?_
    refine to_getR (q := 13) (b := 141) (k0 := 11) (C := RX11) (T := TX11) (N := 37) (j := 15) rfl fx_X11_20 (h_138 hS) rfl (iv_138_15 hI) dX11_isRib_10 rfl ?_
    refine to_iconst (q := 14) ic_0 dX11_isRib_13 rfl ?_
    refine to_iaj (q := 15) (h_141 hS) (by decide) (tn_0) dX11_isRib_14 rfl ?_
    refine to_iconst (q := 16) ic_1 dX11_isRib_15 rfl ?_
    refine to_isub (q := 17) dX11_isRib_16 rfl ?_
    obtain ⟨r4, m5, hc2, hf⟩ := cl2_some hf
    have qc3 := kX11_within hS hc2 hI
    refine to_statI (q := 20) mX11_within [.int x1, .int (0 : Int32), .int ((m.1 141 0) - (1 : Int32))] dX11_isRib_17 rfl rfl (Nat.le_of_ble_eq_true rfl) mo_X11_within (Or.inl ml_X11_140) sa_X11_within (Call_mono (by decide) qc3.1) ?_
    have hI := qc3.2
    by_cases h6 : r4 = (0 : Int32)
    · have hf := ite_pos h6 hf
      refine to_ifT (q := 27) (op := .eq) h6 dX11_isRib_20 rfl ?_
      exact to_ext [] ext_nil (kX11_isRib_27 hS hf hI)
    · have hf := ite_neg h6 hf
      refine to_ifF (q := 23) (op := .eq) 27 h6 dX11_isRib_20 rfl rfl ?_
      refine to_iconst (q := 24) ic_1 dX11_isRib_23 rfl ?_
      refine to_goto (q := 28) dX11_isRib_24 rfl ?_
      exact to_ext [] ext_nil (kX11_isRib_28 hS hf hI)
def fX11_isCell_37 (t0 : Int32) (m : Me) : Option (Int32 × Me) := ck (t0 = 0 ∨ t0 = 1) (some (t0, m))
set_option maxRecDepth 20000 in
theorem kX11_isCell_37 {S : Sh} (hS : ShOK S) {res : Int32 × Me} {t0 : Int32} {m : Me} (hf : fX11_isCell_37 t0 m = some res) (hI : Inv m) : TT InvS (Call 2) mX11_isCell (37, [], [.int t0], S, m) (some (.int res.1)) (S, res.2) := by
  unfold fX11_isCell_37 at hf
  obtain ⟨hz16, hf⟩ := ck_some hf
  cases hf
  exact to_iret dX11_isCell_37 rfl (nf_Z hz16).1 rfl rfl hI
def fX11_isCell_36 (m : Me) : Option (Int32 × Me) := fX11_isCell_37 ((0 : Int32)) m
set_option maxRecDepth 20000 in
theorem kX11_isCell_36 {S : Sh} (hS : ShOK S) {res : Int32 × Me} {m : Me} (hf : fX11_isCell_36 m = some res) (hI : Inv m) : TT InvS (Call 2) mX11_isCell (36, [], [], S, m) (some (.int res.1)) (S, res.2) := by
  unfold fX11_isCell_36 at hf
  refine to_iconst (q := 37) ic_0 dX11_isCell_36 rfl ?_
  exact to_ext [] ext_nil (kX11_isCell_37 hS hf hI)
def fX11_isCell (x1 : Int32) (x2 : Int32) (x3 : Int32) (m : Me) : Option (Int32 × Me) := cl2 (fX11_isSide x1 m) fun r3 m4 => if r3 = (0 : Int32) then fX11_isCell_36 m4 else cl2 (fX11_isRib x2 m4) fun r8 m9 => if r8 = (0 : Int32) then fX11_isCell_36 m9 else cl2 (fX11_within x3 (0 : Int32) (((m9.1 141 1) - (1 : Int32))) m9) fun r13 m14 => if r13 = (0 : Int32) then fX11_isCell_36 m14 else fX11_isCell_37 ((1 : Int32)) m14
set_option maxRecDepth 20000 in
theorem kX11_isCell {S : Sh} (hS : ShOK S) {res : Int32 × Me} {x1 : Int32} {x2 : Int32} {x3 : Int32} {m : Me} (hf : fX11_isCell x1 x2 x3 m = some res) (hI : Inv m) : Call 3 mX11_isCell [.ref 138, .int x1, .int x2, .int x3] (S, m) (some (.int res.1)) (S, res.2) ∧ Inv res.2 := by
  refine call_of (P := InvS) (Nat.le_of_ble_eq_true rfl) (by simp [Value.category]) ?_
  show TT InvS (Call 2) mX11_isCell (0, [(0, .ref 138), (1, .int x1), (2, .int x2), (3, .int x3)], [], S, m) _ _
  unfold fX11_isCell at hf
  refine to_aload_n (q := 1) rfl (by decide) dX11_isCell_0 rfl ?_
  refine to_iload_n (q := 2) rfl dX11_isCell_1 rfl ?_
  obtain ⟨r3, m4, hc1, hf⟩ := cl2_some hf
  have qc2 := kX11_isSide hS hc1 hI
  refine to_virtI (q := 5) mX11_isSide [.int x1] dX11_isCell_2 rfl rfl (Nat.le_of_ble_eq_true rfl) mo_X11_isSide mv_X11_253 (Or.inl ⟨_, _, _, h_138 hS, rfl, rfl⟩) (Call_mono (by decide) qc2.1) ?_
  have hI := qc2.2
  by_cases h5 : r3 = (0 : Int32)
  · have hf := ite_pos h5 hf
    refine to_ifT (q := 36) (op := .eq) h5 dX11_isCell_5 rfl ?_
    exact to_ext [] ext_nil (kX11_isCell_36 hS hf hI)
  · have hf := ite_neg h5 hf
    refine to_ifF (q := 8) (op := .eq) 36 h5 dX11_isCell_5 rfl rfl ?_
    refine to_aload_n (q := 9) rfl (by decide) dX11_isCell_8 rfl ?_
    refine to_iload_n (q := 10) rfl dX11_isCell_9 rfl ?_
    obtain ⟨r8, m9, hc6, hf⟩ := cl2_some hf
    have qc7 := kX11_isRib hS hc6 hI
    refine to_virtI (q := 13) mX11_isRib [.int x2] dX11_isCell_10 rfl rfl (Nat.le_of_ble_eq_true rfl) mo_X11_isRib mv_X11_256 (Or.inl ⟨_, _, _, h_138 hS, rfl, rfl⟩) (Call_mono (by decide) qc7.1) ?_
    have hI := qc7.2
    by_cases h10 : r8 = (0 : Int32)
    · have hf := ite_pos h10 hf
      refine to_ifT (q := 36) (op := .eq) h10 dX11_isCell_13 rfl ?_
      exact to_ext [] ext_nil (kX11_isCell_36 hS hf hI)
    · have hf := ite_neg h10 hf
      refine to_ifF (q := 16) (op := .eq) 36 h10 dX11_isCell_13 rfl rfl ?_
      refine to_iload_n (q := 17) rfl dX11_isCell_16 rfl ?_
      refine to_iconst (q := 18) ic_0 dX11_isCell_17 rfl ?_
      refine to_aload_n (q := 19) rfl (by decide) dX11_isCell_18 rfl ?_
      refine to_getR (q := 22) (b := 141) (k0 := 11) (C := RX11) (T := TX11) (N := 37) (j := 15) rfl fx_X11_20 (h_138 hS) rfl (iv_138_15 hI) dX11_isCell_19 rfl ?_
      refine to_iconst (q := 23) ic_1 dX11_isCell_22 rfl ?_
      refine to_iaj (q := 24) (h_141 hS) (by decide) (tn_1) dX11_isCell_23 rfl ?_
      refine to_iconst (q := 25) ic_1 dX11_isCell_24 rfl ?_
      refine to_isub (q := 26) dX11_isCell_25 rfl ?_
      obtain ⟨r13, m14, hc11, hf⟩ := cl2_some hf
      have qc12 := kX11_within hS hc11 hI
      refine to_statI (q := 29) mX11_within [.int x3, .int (0 : Int32), .int ((m9.1 141 1) - (1 : Int32))] dX11_isCell_26 rfl rfl (Nat.le_of_ble_eq_true rfl) mo_X11_within (Or.inl ml_X11_140) sa_X11_within (Call_mono (by decide) qc12.1) ?_
      have hI := qc12.2
      by_cases h15 : r13 = (0 : Int32)
      · have hf := ite_pos h15 hf
        refine to_ifT (q := 36) (op := .eq) h15 dX11_isCell_29 rfl ?_
        exact to_ext [] ext_nil (kX11_isCell_36 hS hf hI)
      · have hf := ite_neg h15 hf
        refine to_ifF (q := 32) (op := .eq) 36 h15 dX11_isCell_29 rfl rfl ?_
        refine to_iconst (q := 33) ic_1 dX11_isCell_32 rfl ?_
        refine to_goto (q := 37) dX11_isCell_33 rfl ?_
        exact to_ext [] ext_nil (kX11_isCell_37 hS hf hI)
def fX11_isOpening (x1 : Int32) (m : Me) : Option (Int32 × Me) := cl2 (fX11_mostOpen 141 m) fun r3 m4 => cl2 (fX11_within x1 (0 : Int32) r3 m4) fun r7 m8 => ck (r7 = 0 ∨ r7 = 1) (some (r7, m8))
set_option maxRecDepth 20000 in
theorem kX11_isOpening {S : Sh} (hS : ShOK S) {res : Int32 × Me} {x1 : Int32} {m : Me} (hf : fX11_isOpening x1 m = some res) (hI : Inv m) : Call 2 mX11_isOpening [.ref 138, .int x1] (S, m) (some (.int res.1)) (S, res.2) ∧ Inv res.2 := by
  refine call_of (P := InvS) (Nat.le_of_ble_eq_true rfl) (by simp [Value.category]) ?_
  show TT InvS (Call 1) mX11_isOpening (0, [(0, .ref 138), (1, .int x1)], [], S, m) _ _
  unfold fX11_isOpening at hf
  refine to_iload_n (q := 1) rfl dX11_isOpening_0 rfl ?_
  refine to_iconst (q := 2) ic_0 dX11_isOpening_1 rfl ?_
  refine to_aload_n (q := 3) rfl (by decide) dX11_isOpening_2 rfl ?_
  refine to_getR (q := 6) (b := 141) (k0 := 11) (C := RX11) (T := TX11) (N := 37) (j := 15) rfl fx_X11_20 (h_138 hS) rfl (iv_138_15 hI) dX11_isOpening_3 rfl ?_
  obtain ⟨r3, m4, hc1, hf⟩ := cl2_some hf
  have qc2 := kX11_mostOpen hS hc1 rfl hI
  refine to_statI (q := 9) mX11_mostOpen [.ref 141] dX11_isOpening_6 rfl rfl (Nat.le_of_ble_eq_true rfl) mo_X11_mostOpen (Or.inl ml_X11_178) sa_X11_mostOpen (Call_mono (by decide) qc2.1) ?_
  have hI := qc2.2
  obtain ⟨r7, m8, hc5, hf⟩ := cl2_some hf
  have qc6 := kX11_within hS hc5 hI
  refine to_statI (q := 12) mX11_within [.int x1, .int (0 : Int32), .int r3] dX11_isOpening_9 rfl rfl (Nat.le_of_ble_eq_true rfl) mo_X11_within (Or.inl ml_X11_140) sa_X11_within (Call_mono (by decide) qc6.1) ?_
  have hI := qc6.2
  obtain ⟨hz9, hf⟩ := ck_some hf
  cases hf
  exact to_iret dX11_isOpening_12 rfl (nf_Z hz9).1 rfl rfl hI
def fX11_isWordThere_28 (t0 : Int32) (m : Me) : Option (Int32 × Me) := ck (t0 = 0 ∨ t0 = 1) (some (t0, m))
set_option maxRecDepth 20000 in
theorem kX11_isWordThere_28 {S : Sh} (hS : ShOK S) {res : Int32 × Me} {t0 : Int32} {m : Me} (hf : fX11_isWordThere_28 t0 m = some res) (hI : Inv m) : TT InvS (Call 1) mX11_isWordThere (28, [], [.int t0], S, m) (some (.int res.1)) (S, res.2) := by
  unfold fX11_isWordThere_28 at hf
  obtain ⟨hz7, hf⟩ := ck_some hf
  cases hf
  exact to_iret dX11_isWordThere_28 rfl (nf_Z hz7).1 rfl rfl hI
def fX11_isWordThere_27 (m : Me) : Option (Int32 × Me) := fX11_isWordThere_28 ((0 : Int32)) m
set_option maxRecDepth 20000 in
theorem kX11_isWordThere_27 {S : Sh} (hS : ShOK S) {res : Int32 × Me} {m : Me} (hf : fX11_isWordThere_27 m = some res) (hI : Inv m) : TT InvS (Call 1) mX11_isWordThere (27, [], [], S, m) (some (.int res.1)) (S, res.2) := by
  unfold fX11_isWordThere_27 at hf
  refine to_iconst (q := 28) ic_0 dX11_isWordThere_27 rfl ?_
  exact to_ext [] ext_nil (kX11_isWordThere_28 hS hf hI)
def fX11_isWordThere (x1 : Int32) (m : Me) : Option (Int32 × Me) := if (m.1 138 14) = (0 : Int32) then fX11_isWordThere_27 m else cl2 (fX11_within x1 (0 : Int32) (((m.1 141 5) - (1 : Int32))) m) fun r4 m5 => if r4 = (0 : Int32) then fX11_isWordThere_27 m5 else fX11_isWordThere_28 ((1 : Int32)) m5
set_option maxRecDepth 20000 in
theorem kX11_isWordThere {S : Sh} (hS : ShOK S) {res : Int32 × Me} {x1 : Int32} {m : Me} (hf : fX11_isWordThere x1 m = some res) (hI : Inv m) : Call 2 mX11_isWordThere [.ref 138, .int x1] (S, m) (some (.int res.1)) (S, res.2) ∧ Inv res.2 := by
  refine call_of (P := InvS) (Nat.le_of_ble_eq_true rfl) (by simp [Value.category]) ?_
  show TT InvS (Call 1) mX11_isWordThere (0, [(0, .ref 138), (1, .int x1)], [], S, m) _ _
  unfold fX11_isWordThere at hf
  refine to_aload_n (q := 1) rfl (by decide) dX11_isWordThere_0 rfl ?_
  refine to_getI (q := 4) (k0 := 11) (C := RX11) (T := TX11) (N := 37) (j := 14) rfl fx_X11_169 (h_138 hS) rfl dX11_isWordThere_1 rfl ?_
  by_cases h1 : (m.1 138 14) = (0 : Int32)
  · have hf := ite_pos h1 hf
    refine to_ifT (q := 27) (op := .eq) h1 dX11_isWordThere_4 rfl ?_
    exact to_ext [] ext_nil (kX11_isWordThere_27 hS hf hI)
  · have hf := ite_neg h1 hf
    refine to_ifF (q := 7) (op := .eq) 27 h1 dX11_isWordThere_4 rfl rfl ?_
    refine to_iload_n (q := 8) rfl dX11_isWordThere_7 rfl ?_
    refine to_iconst (q := 9) ic_0 dX11_isWordThere_8 rfl ?_
    refine to_aload_n (q := 10) rfl (by decide) dX11_isWordThere_9 rfl ?_
    refine to_getR (q := 13) (b := 141) (k0 := 11) (C := RX11) (T := TX11) (N := 37) (j := 15) rfl fx_X11_20 (h_138 hS) rfl (iv_138_15 hI) dX11_isWordThere_10 rfl ?_
    refine to_iconst (q := 14) ic_5 dX11_isWordThere_13 rfl ?_
    refine to_iaj (q := 15) (h_141 hS) (by decide) (tn_5) dX11_isWordThere_14 rfl ?_
    refine to_iconst (q := 16) ic_1 dX11_isWordThere_15 rfl ?_
    refine to_isub (q := 17) dX11_isWordThere_16 rfl ?_
    obtain ⟨r4, m5, hc2, hf⟩ := cl2_some hf
    have qc3 := kX11_within hS hc2 hI
    refine to_statI (q := 20) mX11_within [.int x1, .int (0 : Int32), .int ((m.1 141 5) - (1 : Int32))] dX11_isWordThere_17 rfl rfl (Nat.le_of_ble_eq_true rfl) mo_X11_within (Or.inl ml_X11_140) sa_X11_within (Call_mono (by decide) qc3.1) ?_
    have hI := qc3.2
    by_cases h6 : r4 = (0 : Int32)
    · have hf := ite_pos h6 hf
      refine to_ifT (q := 27) (op := .eq) h6 dX11_isWordThere_20 rfl ?_
      exact to_ext [] ext_nil (kX11_isWordThere_27 hS hf hI)
    · have hf := ite_neg h6 hf
      refine to_ifF (q := 23) (op := .eq) 27 h6 dX11_isWordThere_20 rfl rfl ?_
      refine to_iconst (q := 24) ic_1 dX11_isWordThere_23 rfl ?_
      refine to_goto (q := 28) dX11_isWordThere_24 rfl ?_
      exact to_ext [] ext_nil (kX11_isWordThere_28 hS hf hI)
def fX11_isWish_29 (t0 : Int32) (m : Me) : Option (Int32 × Me) := ck (t0 = 0 ∨ t0 = 1) (some (t0, m))
set_option maxRecDepth 20000 in
theorem kX11_isWish_29 {S : Sh} (hS : ShOK S) {res : Int32 × Me} {t0 : Int32} {m : Me} (hf : fX11_isWish_29 t0 m = some res) (hI : Inv m) : TT InvS (Call 1) mX11_isWish (29, [], [.int t0], S, m) (some (.int res.1)) (S, res.2) := by
  unfold fX11_isWish_29 at hf
  obtain ⟨hz7, hf⟩ := ck_some hf
  cases hf
  exact to_iret dX11_isWish_29 rfl (nf_Z hz7).1 rfl rfl hI
def fX11_isWish_28 (m : Me) : Option (Int32 × Me) := fX11_isWish_29 ((0 : Int32)) m
set_option maxRecDepth 20000 in
theorem kX11_isWish_28 {S : Sh} (hS : ShOK S) {res : Int32 × Me} {m : Me} (hf : fX11_isWish_28 m = some res) (hI : Inv m) : TT InvS (Call 1) mX11_isWish (28, [], [], S, m) (some (.int res.1)) (S, res.2) := by
  unfold fX11_isWish_28 at hf
  refine to_iconst (q := 29) ic_0 dX11_isWish_28 rfl ?_
  exact to_ext [] ext_nil (kX11_isWish_29 hS hf hI)
def fX11_isWish (x1 : Int32) (m : Me) : Option (Int32 × Me) := if (m.1 138 14) = (0 : Int32) then fX11_isWish_28 m else cl2 (fX11_within x1 (0 : Int32) (((m.1 141 6) - (1 : Int32))) m) fun r4 m5 => if r4 = (0 : Int32) then fX11_isWish_28 m5 else fX11_isWish_29 ((1 : Int32)) m5
set_option maxRecDepth 20000 in
theorem kX11_isWish {S : Sh} (hS : ShOK S) {res : Int32 × Me} {x1 : Int32} {m : Me} (hf : fX11_isWish x1 m = some res) (hI : Inv m) : Call 2 mX11_isWish [.ref 138, .int x1] (S, m) (some (.int res.1)) (S, res.2) ∧ Inv res.2 := by
  refine call_of (P := InvS) (Nat.le_of_ble_eq_true rfl) (by simp [Value.category]) ?_
  show TT InvS (Call 1) mX11_isWish (0, [(0, .ref 138), (1, .int x1)], [], S, m) _ _
  unfold fX11_isWish at hf
  refine to_aload_n (q := 1) rfl (by decide) dX11_isWish_0 rfl ?_
  refine to_getI (q := 4) (k0 := 11) (C := RX11) (T := TX11) (N := 37) (j := 14) rfl fx_X11_169 (h_138 hS) rfl dX11_isWish_1 rfl ?_
  by_cases h1 : (m.1 138 14) = (0 : Int32)
  · have hf := ite_pos h1 hf
    refine to_ifT (q := 28) (op := .eq) h1 dX11_isWish_4 rfl ?_
    exact to_ext [] ext_nil (kX11_isWish_28 hS hf hI)
  · have hf := ite_neg h1 hf
    refine to_ifF (q := 7) (op := .eq) 28 h1 dX11_isWish_4 rfl rfl ?_
    refine to_iload_n (q := 8) rfl dX11_isWish_7 rfl ?_
    refine to_iconst (q := 9) ic_0 dX11_isWish_8 rfl ?_
    refine to_aload_n (q := 10) rfl (by decide) dX11_isWish_9 rfl ?_
    refine to_getR (q := 13) (b := 141) (k0 := 11) (C := RX11) (T := TX11) (N := 37) (j := 15) rfl fx_X11_20 (h_138 hS) rfl (iv_138_15 hI) dX11_isWish_10 rfl ?_
    refine to_bipush (q := 15) bp_6 dX11_isWish_13 rfl ?_
    refine to_iaj (q := 16) (h_141 hS) (by decide) (tn_6) dX11_isWish_15 rfl ?_
    refine to_iconst (q := 17) ic_1 dX11_isWish_16 rfl ?_
    refine to_isub (q := 18) dX11_isWish_17 rfl ?_
    obtain ⟨r4, m5, hc2, hf⟩ := cl2_some hf
    have qc3 := kX11_within hS hc2 hI
    refine to_statI (q := 21) mX11_within [.int x1, .int (0 : Int32), .int ((m.1 141 6) - (1 : Int32))] dX11_isWish_18 rfl rfl (Nat.le_of_ble_eq_true rfl) mo_X11_within (Or.inl ml_X11_140) sa_X11_within (Call_mono (by decide) qc3.1) ?_
    have hI := qc3.2
    by_cases h6 : r4 = (0 : Int32)
    · have hf := ite_pos h6 hf
      refine to_ifT (q := 28) (op := .eq) h6 dX11_isWish_21 rfl ?_
      exact to_ext [] ext_nil (kX11_isWish_28 hS hf hI)
    · have hf := ite_neg h6 hf
      refine to_ifF (q := 24) (op := .eq) 28 h6 dX11_isWish_21 rfl rfl ?_
      refine to_iconst (q := 25) ic_1 dX11_isWish_24 rfl ?_
      refine to_goto (q := 29) dX11_isWish_25 rfl ?_
      exact to_ext [] ext_nil (kX11_isWish_29 hS hf hI)
def fX11_layNow (x1 : Int32) (x2 : Int32) (m : Me) : Option (Int32 × Me) := cl2 (fX11_lay 141 x1 x2 (m.1 143 60) m) fun r3 m4 => some (r3, m4)
set_option maxRecDepth 20000 in
theorem kX11_layNow {S : Sh} (hS : ShOK S) {res : Int32 × Me} {x1 : Int32} {x2 : Int32} {m : Me} (hf : fX11_layNow x1 x2 m = some res) (hI : Inv m) : Call 3 mX11_layNow [.ref 138, .int x1, .int x2] (S, m) (some (.int res.1)) (S, res.2) ∧ Inv res.2 := by
  refine call_of (P := InvS) (Nat.le_of_ble_eq_true rfl) (by simp [Value.category]) ?_
  show TT InvS (Call 2) mX11_layNow (0, [(0, .ref 138), (1, .int x1), (2, .int x2)], [], S, m) _ _
  unfold fX11_layNow at hf
  refine to_aload_n (q := 1) rfl (by decide) dX11_layNow_0 rfl ?_
  refine to_aload_n (q := 2) rfl (by decide) dX11_layNow_1 rfl ?_
  refine to_getR (q := 5) (b := 141) (k0 := 11) (C := RX11) (T := TX11) (N := 37) (j := 15) rfl fx_X11_20 (h_138 hS) rfl (iv_138_15 hI) dX11_layNow_2 rfl ?_
  refine to_iload_n (q := 6) rfl dX11_layNow_5 rfl ?_
  refine to_iload_n (q := 7) rfl dX11_layNow_6 rfl ?_
  refine to_aload_n (q := 8) rfl (by decide) dX11_layNow_7 rfl ?_
  refine to_getR (q := 11) (b := 143) (k0 := 11) (C := RX11) (T := TX11) (N := 37) (j := 17) rfl fx_X11_26 (h_138 hS) rfl (iv_138_17 hI) dX11_layNow_8 rfl ?_
  refine to_bipush (q := 13) bp_60 dX11_layNow_11 rfl ?_
  refine to_iaj (q := 14) (h_143 hS) (by decide) (tn_60) dX11_layNow_13 rfl ?_
  obtain ⟨r3, m4, hc1, hf⟩ := cl2_some hf
  have qc2 := kX11_lay hS hc1 rfl hI
  refine to_virtI (q := 17) mX11_lay [.ref 141, .int x1, .int x2, .int (m.1 143 60)] dX11_layNow_14 rfl rfl (Nat.le_of_ble_eq_true rfl) mo_X11_lay mv_X11_245 (Or.inl ⟨_, _, _, h_138 hS, rfl, rfl⟩) (Call_mono (by decide) qc2.1) ?_
  have hI := qc2.2
  cases hf
  exact to_iret dX11_layNow_17 rfl rfl rfl rfl hI
def fX11_letterAt (x1 : Int32) (x2 : Int32) (m : Me) : Option (Int32 × Me) := ck (inb x2 30) (ck (inb (((30 : Int32) * x1) + (m.1 147 x2.toNatClampNeg)) 62) (some ((m.1 143 (((30 : Int32) * x1) + (m.1 147 x2.toNatClampNeg)).toNatClampNeg), m)))
set_option maxRecDepth 20000 in
theorem kX11_letterAt {S : Sh} (hS : ShOK S) {res : Int32 × Me} {x1 : Int32} {x2 : Int32} {m : Me} (hf : fX11_letterAt x1 x2 m = some res) (hI : Inv m) : Call 1 mX11_letterAt [.ref 138, .int x1, .int x2] (S, m) (some (.int res.1)) (S, res.2) ∧ Inv res.2 := by
  refine call_of (P := InvS) (Nat.le_of_ble_eq_true rfl) (by simp [Value.category]) ?_
  show TT InvS (Call 0) mX11_letterAt (0, [(0, .ref 138), (1, .int x1), (2, .int x2)], [], S, m) _ _
  unfold fX11_letterAt at hf
  refine to_aload_n (q := 1) rfl (by decide) dX11_letterAt_0 rfl ?_
  refine to_getR (q := 4) (b := 143) (k0 := 11) (C := RX11) (T := TX11) (N := 37) (j := 17) rfl fx_X11_26 (h_138 hS) rfl (iv_138_17 hI) dX11_letterAt_1 rfl ?_
  refine to_bipush (q := 6) bp_30 dX11_letterAt_4 rfl ?_
  refine to_iload_n (q := 7) rfl dX11_letterAt_6 rfl ?_
  refine to_imul (q := 8) dX11_letterAt_7 rfl ?_
  refine to_aload_n (q := 9) rfl (by decide) dX11_letterAt_8 rfl ?_
  refine to_getR (q := 12) (b := 147) (k0 := 11) (C := RX11) (T := TX11) (N := 37) (j := 23) rfl fx_X11_38 (h_138 hS) rfl (iv_138_23 hI) dX11_letterAt_9 rfl ?_
  refine to_iload_n (q := 13) rfl dX11_letterAt_12 rfl ?_
  obtain ⟨hb1, hf⟩ := ck_some hf
  refine to_iaj (q := 14) (h_147 hS) hb1 (rfl) dX11_letterAt_13 rfl ?_
  refine to_iadd (q := 15) dX11_letterAt_14 rfl ?_
  obtain ⟨hb2, hf⟩ := ck_some hf
  refine to_iaj (q := 16) (h_143 hS) hb2 (rfl) dX11_letterAt_15 rfl ?_
  cases hf
  exact to_iret dX11_letterAt_16 rfl rfl rfl rfl hI
def fX11_seenAs_12 (t0 : Int32) (m : Me) : Option (Int32 × Me) := some (t0, m)
set_option maxRecDepth 20000 in
theorem kX11_seenAs_12 {S : Sh} (hS : ShOK S) {res : Int32 × Me} {t0 : Int32} {m : Me} (hf : fX11_seenAs_12 t0 m = some res) (hI : Inv m) : TT InvS (Call 0) mX11_seenAs (12, [], [.int t0], S, m) (some (.int res.1)) (S, res.2) := by
  unfold fX11_seenAs_12 at hf
  cases hf
  exact to_iret dX11_seenAs_12 rfl rfl rfl rfl hI
def fX11_seenAs (x0 : Int32) (m : Me) : Option (Int32 × Me) := if x0 = (25 : Int32) then fX11_seenAs_12 ((-2 : Int32)) m else fX11_seenAs_12 x0 m
set_option maxRecDepth 20000 in
theorem kX11_seenAs {S : Sh} (hS : ShOK S) {res : Int32 × Me} {x0 : Int32} {m : Me} (hf : fX11_seenAs x0 m = some res) (hI : Inv m) : Call 1 mX11_seenAs [.int x0] (S, m) (some (.int res.1)) (S, res.2) ∧ Inv res.2 := by
  refine call_of (P := InvS) (Nat.le_of_ble_eq_true rfl) (by simp [Value.category]) ?_
  show TT InvS (Call 0) mX11_seenAs (0, [(0, .int x0)], [], S, m) _ _
  unfold fX11_seenAs at hf
  refine to_iload_n (q := 1) rfl dX11_seenAs_0 rfl ?_
  refine to_bipush (q := 3) bp_25 dX11_seenAs_1 rfl ?_
  by_cases h1 : x0 = (25 : Int32)
  · have hf := ite_pos h1 hf
    refine to_icF (q := 6) (op := .ne) 11 (fun z => z h1) dX11_seenAs_3 rfl rfl ?_
    refine to_bipush (q := 8) bp_m2 dX11_seenAs_6 rfl ?_
    refine to_goto (q := 12) dX11_seenAs_8 rfl ?_
    exact to_ext [] ext_nil (kX11_seenAs_12 hS hf hI)
  · have hf := ite_neg h1 hf
    refine to_icT (q := 11) (op := .ne) h1 dX11_seenAs_3 rfl ?_
    refine to_iload_n (q := 12) rfl dX11_seenAs_11 rfl ?_
    exact to_ext [] ext_nil (kX11_seenAs_12 hS hf hI)
def fX11_cell_40 (t0 : Int32) (m : Me) : Option (Int32 × Me) := some (t0, m)
set_option maxRecDepth 20000 in
theorem kX11_cell_40 {S : Sh} (hS : ShOK S) {res : Int32 × Me} {t0 : Int32} {m : Me} (hf : fX11_cell_40 t0 m = some res) (hI : Inv m) : TT InvS (Call 3) mX11_cell (40, [], [.int t0], S, m) (some (.int res.1)) (S, res.2) := by
  unfold fX11_cell_40 at hf
  cases hf
  exact to_iret dX11_cell_40 rfl rfl rfl rfl hI
def fX11_cell (x1 : Int32) (x2 : Int32) (x3 : Int32) (m : Me) : Option (Int32 × Me) := cl1 (fX11_good m) fun m3 => cl2 (fX11_isCell x1 x2 x3 m3) fun r6 m7 => if r6 = (0 : Int32) then cl2 (fX11_no (1 : Int32) m7) fun r11 m12 => fX11_cell_40 r11 m12 else ck (inb ((((30 : Int32) * x1) + ((3 : Int32) * x2)) + x3) 62) (cl2 (fX11_seenAs ((m7.1 143 ((((30 : Int32) * x1) + ((3 : Int32) * x2)) + x3).toNatClampNeg)) m7) fun r16 m17 => fX11_cell_40 r16 m17)
set_option maxRecDepth 20000 in
theorem kX11_cell {S : Sh} (hS : ShOK S) {res : Int32 × Me} {x1 : Int32} {x2 : Int32} {x3 : Int32} {m : Me} (hf : fX11_cell x1 x2 x3 m = some res) (hI : Inv m) : Call 4 mX11_cell [.ref 138, .int x1, .int x2, .int x3] (S, m) (some (.int res.1)) (S, res.2) ∧ Inv res.2 := by
  refine call_of (P := InvS) (Nat.le_of_ble_eq_true rfl) (by simp [Value.category]) ?_
  show TT InvS (Call 3) mX11_cell (0, [(0, .ref 138), (1, .int x1), (2, .int x2), (3, .int x3)], [], S, m) _ _
  unfold fX11_cell at hf
  refine to_aload_n (q := 1) rfl (by decide) dX11_cell_0 rfl ?_
  obtain ⟨m3, hc1, hf⟩ := cl1_some hf
  have qc2 := kX11_good hS hc1 hI
  refine to_virtV (q := 4) mX11_good [] dX11_cell_1 rfl rfl (Nat.le_of_ble_eq_true rfl) mo_X11_good mv_X11_156 (Or.inl ⟨_, _, _, h_138 hS, rfl, rfl⟩) (Call_mono (by decide) qc2.1) ?_
  have hI := qc2.2
  refine to_aload_n (q := 5) rfl (by decide) dX11_cell_4 rfl ?_
  refine to_iload_n (q := 6) rfl dX11_cell_5 rfl ?_
  refine to_iload_n (q := 7) rfl dX11_cell_6 rfl ?_
  refine to_iload_n (q := 8) rfl dX11_cell_7 rfl ?_
  obtain ⟨r6, m7, hc4, hf⟩ := cl2_some hf
  have qc5 := kX11_isCell hS hc4 hI
  refine to_virtI (q := 11) mX11_isCell [.int x1, .int x2, .int x3] dX11_cell_8 rfl rfl (Nat.le_of_ble_eq_true rfl) mo_X11_isCell mv_X11_267 (Or.inl ⟨_, _, _, h_138 hS, rfl, rfl⟩) (Call_mono (by decide) qc5.1) ?_
  have hI := qc5.2
  by_cases h8 : r6 = (0 : Int32)
  · have hf := ite_pos h8 hf
    refine to_ifT (q := 35) (op := .eq) h8 dX11_cell_11 rfl ?_
    refine to_aload_n (q := 36) rfl (by decide) dX11_cell_35 rfl ?_
    refine to_iconst (q := 37) ic_1 dX11_cell_36 rfl ?_
    obtain ⟨r11, m12, hc9, hf⟩ := cl2_some hf
    have qc10 := kX11_no hS hc9 hI
    refine to_virtI (q := 40) mX11_no [.int (1 : Int32)] dX11_cell_37 rfl rfl (Nat.le_of_ble_eq_true rfl) mo_X11_no mv_X11_159 (Or.inl ⟨_, _, _, h_138 hS, rfl, rfl⟩) (Call_mono (by decide) qc10.1) ?_
    have hI := qc10.2
    exact to_ext [] ext_nil (kX11_cell_40 hS hf hI)
  · have hf := ite_neg h8 hf
    refine to_ifF (q := 14) (op := .eq) 35 h8 dX11_cell_11 rfl rfl ?_
    refine to_aload_n (q := 15) rfl (by decide) dX11_cell_14 rfl ?_
    refine to_getR (q := 18) (b := 143) (k0 := 11) (C := RX11) (T := TX11) (N := 37) (j := 17) rfl fx_X11_26 (h_138 hS) rfl (iv_138_17 hI) dX11_cell_15 rfl ?_
    refine to_bipush (q := 20) bp_30 dX11_cell_18 rfl ?_
    refine to_iload_n (q := 21) rfl dX11_cell_20 rfl ?_
    refine to_imul (q := 22) dX11_cell_21 rfl ?_
    refine to_iconst (q := 23) ic_3 dX11_cell_22 rfl ?_
    refine to_iload_n (q := 24) rfl dX11_cell_23 rfl ?_
    refine to_imul (q := 25) dX11_cell_24 rfl ?_
    refine to_iadd (q := 26) dX11_cell_25 rfl ?_
    refine to_iload_n (q := 27) rfl dX11_cell_26 rfl ?_
    refine to_iadd (q := 28) dX11_cell_27 rfl ?_
    obtain ⟨hb13, hf⟩ := ck_some hf
    refine to_iaj (q := 29) (h_143 hS) hb13 (rfl) dX11_cell_28 rfl ?_
    obtain ⟨r16, m17, hc14, hf⟩ := cl2_some hf
    have qc15 := kX11_seenAs hS hc14 hI
    refine to_statI (q := 32) mX11_seenAs [.int (m7.1 143 ((((30 : Int32) * x1) + ((3 : Int32) * x2)) + x3).toNatClampNeg)] dX11_cell_29 rfl rfl (Nat.le_of_ble_eq_true rfl) mo_X11_seenAs (Or.inl ml_X11_270) sa_X11_seenAs (Call_mono (by decide) qc15.1) ?_
    have hI := qc15.2
    refine to_goto (q := 40) dX11_cell_32 rfl ?_
    exact to_ext [] ext_nil (kX11_cell_40 hS hf hI)
def fX11_broken_39 (t0 : Int32) (m : Me) : Option (Int32 × Me) := some (t0, m)
set_option maxRecDepth 20000 in
theorem kX11_broken_39 {S : Sh} (hS : ShOK S) {res : Int32 × Me} {t0 : Int32} {m : Me} (hf : fX11_broken_39 t0 m = some res) (hI : Inv m) : TT InvS (Call 2) mX11_broken (39, [], [.int t0], S, m) (some (.int res.1)) (S, res.2) := by
  unfold fX11_broken_39 at hf
  cases hf
  exact to_iret dX11_broken_39 rfl rfl rfl rfl hI
def fX11_broken (x1 : Int32) (m : Me) : Option (Int32 × Me) := cl1 (fX11_good m) fun m3 => cl2 (fX11_isRib x1 m3) fun r6 m7 => if r6 = (0 : Int32) then cl2 (fX11_no (1 : Int32) m7) fun r11 m12 => fX11_broken_39 r11 m12 else cl2 (fX11_has (m7.1 143 60) x1 m7) fun r15 m16 => if r15 = (0 : Int32) then fX11_broken_39 ((0 : Int32)) m16 else fX11_broken_39 ((1 : Int32)) m16
set_option maxRecDepth 20000 in
theorem kX11_broken {S : Sh} (hS : ShOK S) {res : Int32 × Me} {x1 : Int32} {m : Me} (hf : fX11_broken x1 m = some res) (hI : Inv m) : Call 3 mX11_broken [.ref 138, .int x1] (S, m) (some (.int res.1)) (S, res.2) ∧ Inv res.2 := by
  refine call_of (P := InvS) (Nat.le_of_ble_eq_true rfl) (by simp [Value.category]) ?_
  show TT InvS (Call 2) mX11_broken (0, [(0, .ref 138), (1, .int x1)], [], S, m) _ _
  unfold fX11_broken at hf
  refine to_aload_n (q := 1) rfl (by decide) dX11_broken_0 rfl ?_
  obtain ⟨m3, hc1, hf⟩ := cl1_some hf
  have qc2 := kX11_good hS hc1 hI
  refine to_virtV (q := 4) mX11_good [] dX11_broken_1 rfl rfl (Nat.le_of_ble_eq_true rfl) mo_X11_good mv_X11_156 (Or.inl ⟨_, _, _, h_138 hS, rfl, rfl⟩) (Call_mono (by decide) qc2.1) ?_
  have hI := qc2.2
  refine to_aload_n (q := 5) rfl (by decide) dX11_broken_4 rfl ?_
  refine to_iload_n (q := 6) rfl dX11_broken_5 rfl ?_
  obtain ⟨r6, m7, hc4, hf⟩ := cl2_some hf
  have qc5 := kX11_isRib hS hc4 hI
  refine to_virtI (q := 9) mX11_isRib [.int x1] dX11_broken_6 rfl rfl (Nat.le_of_ble_eq_true rfl) mo_X11_isRib mv_X11_256 (Or.inl ⟨_, _, _, h_138 hS, rfl, rfl⟩) (Call_mono (by decide) qc5.1) ?_
  have hI := qc5.2
  by_cases h8 : r6 = (0 : Int32)
  · have hf := ite_pos h8 hf
    refine to_ifT (q := 34) (op := .eq) h8 dX11_broken_9 rfl ?_
    refine to_aload_n (q := 35) rfl (by decide) dX11_broken_34 rfl ?_
    refine to_iconst (q := 36) ic_1 dX11_broken_35 rfl ?_
    obtain ⟨r11, m12, hc9, hf⟩ := cl2_some hf
    have qc10 := kX11_no hS hc9 hI
    refine to_virtI (q := 39) mX11_no [.int (1 : Int32)] dX11_broken_36 rfl rfl (Nat.le_of_ble_eq_true rfl) mo_X11_no mv_X11_159 (Or.inl ⟨_, _, _, h_138 hS, rfl, rfl⟩) (Call_mono (by decide) qc10.1) ?_
    have hI := qc10.2
    exact to_ext [] ext_nil (kX11_broken_39 hS hf hI)
  · have hf := ite_neg h8 hf
    refine to_ifF (q := 12) (op := .eq) 34 h8 dX11_broken_9 rfl rfl ?_
    refine to_aload_n (q := 13) rfl (by decide) dX11_broken_12 rfl ?_
    refine to_getR (q := 16) (b := 143) (k0 := 11) (C := RX11) (T := TX11) (N := 37) (j := 17) rfl fx_X11_26 (h_138 hS) rfl (iv_138_17 hI) dX11_broken_13 rfl ?_
    refine to_bipush (q := 18) bp_60 dX11_broken_16 rfl ?_
    refine to_iaj (q := 19) (h_143 hS) (by decide) (tn_60) dX11_broken_18 rfl ?_
    refine to_iload_n (q := 20) rfl dX11_broken_19 rfl ?_
    obtain ⟨r15, m16, hc13, hf⟩ := cl2_some hf
    have qc14 := kX11_has hS hc13 hI
    refine to_statI (q := 23) mX11_has [.int (m7.1 143 60), .int x1] dX11_broken_20 rfl rfl (Nat.le_of_ble_eq_true rfl) mo_X11_has (Or.inl ml_X11_259) sa_X11_has (Call_mono (by decide) qc14.1) ?_
    have hI := qc14.2
    by_cases h17 : r15 = (0 : Int32)
    · have hf := ite_pos h17 hf
      refine to_ifT (q := 30) (op := .eq) h17 dX11_broken_23 rfl ?_
      refine to_iconst (q := 31) ic_0 dX11_broken_30 rfl ?_
      refine to_goto (q := 39) dX11_broken_31 rfl ?_
      exact to_ext [] ext_nil (kX11_broken_39 hS hf hI)
    · have hf := ite_neg h17 hf
      refine to_ifF (q := 26) (op := .eq) 30 h17 dX11_broken_23 rfl rfl ?_
      refine to_iconst (q := 27) ic_1 dX11_broken_26 rfl ?_
      refine to_goto (q := 39) dX11_broken_27 rfl ?_
      exact to_ext [] ext_nil (kX11_broken_39 hS hf hI)
def fX11_openWhy_25 (t0 : Int32) (m : Me) : Option (Int32 × Me) := some (t0, m)
set_option maxRecDepth 20000 in
theorem kX11_openWhy_25 {S : Sh} (hS : ShOK S) {res : Int32 × Me} {t0 : Int32} {m : Me} (hf : fX11_openWhy_25 t0 m = some res) (hI : Inv m) : TT InvS (Call 2) mX11_openWhy (25, [], [.int t0], S, m) (some (.int res.1)) (S, res.2) := by
  unfold fX11_openWhy_25 at hf
  cases hf
  exact to_iret dX11_openWhy_25 rfl rfl rfl rfl hI
def fX11_openWhy (x1 : Int32) (x2 : Int32) (m : Me) : Option (Int32 × Me) := cl2 (fX11_isSide x1 m) fun r3 m4 => if r3 = (0 : Int32) then fX11_openWhy_25 ((1 : Int32)) m4 else cl2 (fX11_isOpening x2 m4) fun r8 m9 => if r8 = (0 : Int32) then fX11_openWhy_25 ((2 : Int32)) m9 else fX11_openWhy_25 ((0 : Int32)) m9
set_option maxRecDepth 20000 in
theorem kX11_openWhy {S : Sh} (hS : ShOK S) {res : Int32 × Me} {x1 : Int32} {x2 : Int32} {m : Me} (hf : fX11_openWhy x1 x2 m = some res) (hI : Inv m) : Call 3 mX11_openWhy [.ref 138, .int x1, .int x2] (S, m) (some (.int res.1)) (S, res.2) ∧ Inv res.2 := by
  refine call_of (P := InvS) (Nat.le_of_ble_eq_true rfl) (by simp [Value.category]) ?_
  show TT InvS (Call 2) mX11_openWhy (0, [(0, .ref 138), (1, .int x1), (2, .int x2)], [], S, m) _ _
  unfold fX11_openWhy at hf
  refine to_aload_n (q := 1) rfl (by decide) dX11_openWhy_0 rfl ?_
  refine to_iload_n (q := 2) rfl dX11_openWhy_1 rfl ?_
  obtain ⟨r3, m4, hc1, hf⟩ := cl2_some hf
  have qc2 := kX11_isSide hS hc1 hI
  refine to_virtI (q := 5) mX11_isSide [.int x1] dX11_openWhy_2 rfl rfl (Nat.le_of_ble_eq_true rfl) mo_X11_isSide mv_X11_253 (Or.inl ⟨_, _, _, h_138 hS, rfl, rfl⟩) (Call_mono (by decide) qc2.1) ?_
  have hI := qc2.2
  by_cases h5 : r3 = (0 : Int32)
  · have hf := ite_pos h5 hf
    refine to_ifF (q := 8) (op := .ne) 12 (fun z => z h5) dX11_openWhy_5 rfl rfl ?_
    refine to_iconst (q := 9) ic_1 dX11_openWhy_8 rfl ?_
    refine to_goto (q := 25) dX11_openWhy_9 rfl ?_
    exact to_ext [] ext_nil (kX11_openWhy_25 hS hf hI)
  · have hf := ite_neg h5 hf
    refine to_ifT (q := 12) (op := .ne) h5 dX11_openWhy_5 rfl ?_
    refine to_aload_n (q := 13) rfl (by decide) dX11_openWhy_12 rfl ?_
    refine to_iload_n (q := 14) rfl dX11_openWhy_13 rfl ?_
    obtain ⟨r8, m9, hc6, hf⟩ := cl2_some hf
    have qc7 := kX11_isOpening hS hc6 hI
    refine to_virtI (q := 17) mX11_isOpening [.int x2] dX11_openWhy_14 rfl rfl (Nat.le_of_ble_eq_true rfl) mo_X11_isOpening mv_X11_273 (Or.inl ⟨_, _, _, h_138 hS, rfl, rfl⟩) (Call_mono (by decide) qc7.1) ?_
    have hI := qc7.2
    by_cases h10 : r8 = (0 : Int32)
    · have hf := ite_pos h10 hf
      refine to_ifT (q := 24) (op := .eq) h10 dX11_openWhy_17 rfl ?_
      refine to_iconst (q := 25) ic_2 dX11_openWhy_24 rfl ?_
      exact to_ext [] ext_nil (kX11_openWhy_25 hS hf hI)
    · have hf := ite_neg h10 hf
      refine to_ifF (q := 20) (op := .eq) 24 h10 dX11_openWhy_17 rfl rfl ?_
      refine to_iconst (q := 21) ic_0 dX11_openWhy_20 rfl ?_
      refine to_goto (q := 25) dX11_openWhy_21 rfl ?_
      exact to_ext [] ext_nil (kX11_openWhy_25 hS hf hI)
def fX11_shows_29 (t0 : Int32) (m : Me) : Option (Int32 × Me) := some (t0, m)
set_option maxRecDepth 20000 in
theorem kX11_shows_29 {S : Sh} (hS : ShOK S) {res : Int32 × Me} {t0 : Int32} {m : Me} (hf : fX11_shows_29 t0 m = some res) (hI : Inv m) : TT InvS (Call 3) mX11_shows (29, [], [.int t0], S, m) (some (.int res.1)) (S, res.2) := by
  unfold fX11_shows_29 at hf
  cases hf
  exact to_iret dX11_shows_29 rfl rfl rfl rfl hI
def fX11_shows (x1 : Int32) (x2 : Int32) (m : Me) : Option (Int32 × Me) := cl1 (fX11_good m) fun m3 => cl2 (fX11_openWhy x1 x2 m3) fun r6 m7 => if r6 = (0 : Int32) then cl2 (fX11_layNow x1 x2 m7) fun r11 m12 => fX11_shows_29 r11 m12 else cl2 (fX11_no r6 m7) fun r15 m16 => fX11_shows_29 r15 m16
set_option maxRecDepth 20000 in
theorem kX11_shows {S : Sh} (hS : ShOK S) {res : Int32 × Me} {x1 : Int32} {x2 : Int32} {m : Me} (hf : fX11_shows x1 x2 m = some res) (hI : Inv m) : Call 4 mX11_shows [.ref 138, .int x1, .int x2] (S, m) (some (.int res.1)) (S, res.2) ∧ Inv res.2 := by
  refine call_of (P := InvS) (Nat.le_of_ble_eq_true rfl) (by simp [Value.category]) ?_
  show TT InvS (Call 3) mX11_shows (0, [(0, .ref 138), (1, .int x1), (2, .int x2)], [], S, m) _ _
  unfold fX11_shows at hf
  refine to_aload_n (q := 1) rfl (by decide) dX11_shows_0 rfl ?_
  obtain ⟨m3, hc1, hf⟩ := cl1_some hf
  have qc2 := kX11_good hS hc1 hI
  refine to_virtV (q := 4) mX11_good [] dX11_shows_1 rfl rfl (Nat.le_of_ble_eq_true rfl) mo_X11_good mv_X11_156 (Or.inl ⟨_, _, _, h_138 hS, rfl, rfl⟩) (Call_mono (by decide) qc2.1) ?_
  have hI := qc2.2
  refine to_aload_n (q := 5) rfl (by decide) dX11_shows_4 rfl ?_
  refine to_iload_n (q := 6) rfl dX11_shows_5 rfl ?_
  refine to_iload_n (q := 7) rfl dX11_shows_6 rfl ?_
  obtain ⟨r6, m7, hc4, hf⟩ := cl2_some hf
  have qc5 := kX11_openWhy hS hc4 hI
  refine to_virtI (q := 10) mX11_openWhy [.int x1, .int x2] dX11_shows_7 rfl rfl (Nat.le_of_ble_eq_true rfl) mo_X11_openWhy mv_X11_276 (Or.inl ⟨_, _, _, h_138 hS, rfl, rfl⟩) (Call_mono (by decide) qc5.1) ?_
  have hI := qc5.2
  refine to_istore_n (q := 11) [(3, .int r6), (0, .ref 138), (1, .int x1), (2, .int x2)] rfl (by decide) dX11_shows_10 rfl ?_
  refine to_iload_n (q := 12) rfl dX11_shows_11 rfl ?_
  by_cases h8 : r6 = (0 : Int32)
  · have hf := ite_pos h8 hf
    refine to_ifT (q := 23) (op := .eq) h8 dX11_shows_12 rfl ?_
    refine to_aload_n (q := 24) rfl (by decide) dX11_shows_23 rfl ?_
    refine to_iload_n (q := 25) rfl dX11_shows_24 rfl ?_
    refine to_iload_n (q := 26) rfl dX11_shows_25 rfl ?_
    obtain ⟨r11, m12, hc9, hf⟩ := cl2_some hf
    have qc10 := kX11_layNow hS hc9 hI
    refine to_virtI (q := 29) mX11_layNow [.int x1, .int x2] dX11_shows_26 rfl rfl (Nat.le_of_ble_eq_true rfl) mo_X11_layNow mv_X11_279 (Or.inl ⟨_, _, _, h_138 hS, rfl, rfl⟩) (Call_mono (by decide) qc10.1) ?_
    have hI := qc10.2
    exact to_ext [] ext_nil (kX11_shows_29 hS hf hI)
  · have hf := ite_neg h8 hf
    refine to_ifF (q := 15) (op := .eq) 23 h8 dX11_shows_12 rfl rfl ?_
    refine to_aload_n (q := 16) rfl (by decide) dX11_shows_15 rfl ?_
    refine to_iload_n (q := 17) rfl dX11_shows_16 rfl ?_
    obtain ⟨r15, m16, hc13, hf⟩ := cl2_some hf
    have qc14 := kX11_no hS hc13 hI
    refine to_virtI (q := 20) mX11_no [.int r6] dX11_shows_17 rfl rfl (Nat.le_of_ble_eq_true rfl) mo_X11_no mv_X11_159 (Or.inl ⟨_, _, _, h_138 hS, rfl, rfl⟩) (Call_mono (by decide) qc14.1) ?_
    have hI := qc14.2
    refine to_goto (q := 29) dX11_shows_20 rfl ?_
    exact to_ext [] ext_nil (kX11_shows_29 hS hf hI)
def fX11_placeWhy_37 (t0 : Int32) (m : Me) : Option (Int32 × Me) := some (t0, m)
set_option maxRecDepth 20000 in
theorem kX11_placeWhy_37 {S : Sh} (hS : ShOK S) {res : Int32 × Me} {t0 : Int32} {m : Me} (hf : fX11_placeWhy_37 t0 m = some res) (hI : Inv m) : TT InvS (Call 3) mX11_placeWhy (37, [], [.int t0], S, m) (some (.int res.1)) (S, res.2) := by
  unfold fX11_placeWhy_37 at hf
  cases hf
  exact to_iret dX11_placeWhy_37 rfl rfl rfl rfl hI
def fX11_placeWhy (x1 : Int32) (x2 : Int32) (x3 : Int32) (m : Me) : Option (Int32 × Me) := cl2 (fX11_openWhy x1 x2 m) fun r3 m4 => if r3 = (0 : Int32) then cl2 (fX11_layNow x1 x2 m4) fun r8 m9 => cl2 (fX11_within x3 (0 : Int32) ((r8 - (1 : Int32))) m9) fun r12 m13 => if r12 = (0 : Int32) then fX11_placeWhy_37 ((1 : Int32)) m13 else fX11_placeWhy_37 ((0 : Int32)) m13 else some (r3, m4)
set_option maxRecDepth 20000 in
theorem kX11_placeWhy {S : Sh} (hS : ShOK S) {res : Int32 × Me} {x1 : Int32} {x2 : Int32} {x3 : Int32} {m : Me} (hf : fX11_placeWhy x1 x2 x3 m = some res) (hI : Inv m) : Call 4 mX11_placeWhy [.ref 138, .int x1, .int x2, .int x3] (S, m) (some (.int res.1)) (S, res.2) ∧ Inv res.2 := by
  refine call_of (P := InvS) (Nat.le_of_ble_eq_true rfl) (by simp [Value.category]) ?_
  show TT InvS (Call 3) mX11_placeWhy (0, [(0, .ref 138), (1, .int x1), (2, .int x2), (3, .int x3)], [], S, m) _ _
  unfold fX11_placeWhy at hf
  refine to_aload_n (q := 1) rfl (by decide) dX11_placeWhy_0 rfl ?_
  refine to_iload_n (q := 2) rfl dX11_placeWhy_1 rfl ?_
  refine to_iload_n (q := 3) rfl dX11_placeWhy_2 rfl ?_
  obtain ⟨r3, m4, hc1, hf⟩ := cl2_some hf
  have qc2 := kX11_openWhy hS hc1 hI
  refine to_virtI (q := 6) mX11_openWhy [.int x1, .int x2] dX11_placeWhy_3 rfl rfl (Nat.le_of_ble_eq_true rfl) mo_X11_openWhy mv_X11_276 (Or.inl ⟨_, _, _, h_138 hS, rfl, rfl⟩) (Call_mono (by decide) qc2.1) ?_
  have hI := qc2.2
  refine to_istore (q := 8) [(4, .int r3), (0, .ref 138), (1, .int x1), (2, .int x2), (3, .int x3)] rfl (by decide) dX11_placeWhy_6 rfl ?_
  refine to_iload (q := 10) rfl dX11_placeWhy_8 rfl ?_
  by_cases h5 : r3 = (0 : Int32)
  · have hf := ite_pos h5 hf
    refine to_ifT (q := 16) (op := .eq) h5 dX11_placeWhy_10 rfl ?_
    refine to_iload_n (q := 17) rfl dX11_placeWhy_16 rfl ?_
    refine to_iconst (q := 18) ic_0 dX11_placeWhy_17 rfl ?_
    refine to_aload_n (q := 19) rfl (by decide) dX11_placeWhy_18 rfl ?_
    refine to_iload_n (q := 20) rfl dX11_placeWhy_19 rfl ?_
    refine to_iload_n (q := 21) rfl dX11_placeWhy_20 rfl ?_
    obtain ⟨r8, m9, hc6, hf⟩ := cl2_some hf
    have qc7 := kX11_layNow hS hc6 hI
    refine to_virtI (q := 24) mX11_layNow [.int x1, .int x2] dX11_placeWhy_21 rfl rfl (Nat.le_of_ble_eq_true rfl) mo_X11_layNow mv_X11_279 (Or.inl ⟨_, _, _, h_138 hS, rfl, rfl⟩) (Call_mono (by decide) qc7.1) ?_
    have hI := qc7.2
    refine to_iconst (q := 25) ic_1 dX11_placeWhy_24 rfl ?_
    refine to_isub (q := 26) dX11_placeWhy_25 rfl ?_
    obtain ⟨r12, m13, hc10, hf⟩ := cl2_some hf
    have qc11 := kX11_within hS hc10 hI
    refine to_statI (q := 29) mX11_within [.int x3, .int (0 : Int32), .int (r8 - (1 : Int32))] dX11_placeWhy_26 rfl rfl (Nat.le_of_ble_eq_true rfl) mo_X11_within (Or.inl ml_X11_140) sa_X11_within (Call_mono (by decide) qc11.1) ?_
    have hI := qc11.2
    by_cases h14 : r12 = (0 : Int32)
    · have hf := ite_pos h14 hf
      refine to_ifT (q := 36) (op := .eq) h14 dX11_placeWhy_29 rfl ?_
      refine to_iconst (q := 37) ic_1 dX11_placeWhy_36 rfl ?_
      exact to_ext [] ext_nil (kX11_placeWhy_37 hS hf hI)
    · have hf := ite_neg h14 hf
      refine to_ifF (q := 32) (op := .eq) 36 h14 dX11_placeWhy_29 rfl rfl ?_
      refine to_iconst (q := 33) ic_0 dX11_placeWhy_32 rfl ?_
      refine to_goto (q := 37) dX11_placeWhy_33 rfl ?_
      exact to_ext [] ext_nil (kX11_placeWhy_37 hS hf hI)
  · have hf := ite_neg h5 hf
    refine to_ifF (q := 13) (op := .eq) 16 h5 dX11_placeWhy_10 rfl rfl ?_
    refine to_iload (q := 15) rfl dX11_placeWhy_13 rfl ?_
    cases hf
    exact to_iret dX11_placeWhy_15 rfl rfl rfl rfl hI
def fX11_letter_36 (t0 : Int32) (m : Me) : Option (Int32 × Me) := some (t0, m)
set_option maxRecDepth 20000 in
theorem kX11_letter_36 {S : Sh} (hS : ShOK S) {res : Int32 × Me} {t0 : Int32} {m : Me} (hf : fX11_letter_36 t0 m = some res) (hI : Inv m) : TT InvS (Call 4) mX11_letter (36, [], [.int t0], S, m) (some (.int res.1)) (S, res.2) := by
  unfold fX11_letter_36 at hf
  cases hf
  exact to_iret dX11_letter_36 rfl rfl rfl rfl hI
def fX11_letter (x1 : Int32) (x2 : Int32) (x3 : Int32) (m : Me) : Option (Int32 × Me) := cl1 (fX11_good m) fun m3 => cl2 (fX11_placeWhy x1 x2 x3 m3) fun r6 m7 => if r6 = (0 : Int32) then cl2 (fX11_letterAt x1 x3 m7) fun r11 m12 => cl2 (fX11_seenAs r11 m12) fun r15 m16 => fX11_letter_36 r15 m16 else cl2 (fX11_no r6 m7) fun r19 m20 => fX11_letter_36 r19 m20
set_option maxRecDepth 20000 in
theorem kX11_letter {S : Sh} (hS : ShOK S) {res : Int32 × Me} {x1 : Int32} {x2 : Int32} {x3 : Int32} {m : Me} (hf : fX11_letter x1 x2 x3 m = some res) (hI : Inv m) : Call 5 mX11_letter [.ref 138, .int x1, .int x2, .int x3] (S, m) (some (.int res.1)) (S, res.2) ∧ Inv res.2 := by
  refine call_of (P := InvS) (Nat.le_of_ble_eq_true rfl) (by simp [Value.category]) ?_
  show TT InvS (Call 4) mX11_letter (0, [(0, .ref 138), (1, .int x1), (2, .int x2), (3, .int x3)], [], S, m) _ _
  unfold fX11_letter at hf
  refine to_aload_n (q := 1) rfl (by decide) dX11_letter_0 rfl ?_
  obtain ⟨m3, hc1, hf⟩ := cl1_some hf
  have qc2 := kX11_good hS hc1 hI
  refine to_virtV (q := 4) mX11_good [] dX11_letter_1 rfl rfl (Nat.le_of_ble_eq_true rfl) mo_X11_good mv_X11_156 (Or.inl ⟨_, _, _, h_138 hS, rfl, rfl⟩) (Call_mono (by decide) qc2.1) ?_
  have hI := qc2.2
  refine to_aload_n (q := 5) rfl (by decide) dX11_letter_4 rfl ?_
  refine to_iload_n (q := 6) rfl dX11_letter_5 rfl ?_
  refine to_iload_n (q := 7) rfl dX11_letter_6 rfl ?_
  refine to_iload_n (q := 8) rfl dX11_letter_7 rfl ?_
  obtain ⟨r6, m7, hc4, hf⟩ := cl2_some hf
  have qc5 := kX11_placeWhy hS hc4 hI
  refine to_virtI (q := 11) mX11_placeWhy [.int x1, .int x2, .int x3] dX11_letter_8 rfl rfl (Nat.le_of_ble_eq_true rfl) mo_X11_placeWhy mv_X11_282 (Or.inl ⟨_, _, _, h_138 hS, rfl, rfl⟩) (Call_mono (by decide) qc5.1) ?_
  have hI := qc5.2
  refine to_istore (q := 13) [(4, .int r6), (0, .ref 138), (1, .int x1), (2, .int x2), (3, .int x3)] rfl (by decide) dX11_letter_11 rfl ?_
  refine to_iload (q := 15) rfl dX11_letter_13 rfl ?_
  by_cases h8 : r6 = (0 : Int32)
  · have hf := ite_pos h8 hf
    refine to_ifT (q := 27) (op := .eq) h8 dX11_letter_15 rfl ?_
    refine to_aload_n (q := 28) rfl (by decide) dX11_letter_27 rfl ?_
    refine to_iload_n (q := 29) rfl dX11_letter_28 rfl ?_
    refine to_iload_n (q := 30) rfl dX11_letter_29 rfl ?_
    obtain ⟨r11, m12, hc9, hf⟩ := cl2_some hf
    have qc10 := kX11_letterAt hS hc9 hI
    refine to_virtI (q := 33) mX11_letterAt [.int x1, .int x3] dX11_letter_30 rfl rfl (Nat.le_of_ble_eq_true rfl) mo_X11_letterAt mv_X11_286 (Or.inl ⟨_, _, _, h_138 hS, rfl, rfl⟩) (Call_mono (by decide) qc10.1) ?_
    have hI := qc10.2
    obtain ⟨r15, m16, hc13, hf⟩ := cl2_some hf
    have qc14 := kX11_seenAs hS hc13 hI
    refine to_statI (q := 36) mX11_seenAs [.int r11] dX11_letter_33 rfl rfl (Nat.le_of_ble_eq_true rfl) mo_X11_seenAs (Or.inl ml_X11_270) sa_X11_seenAs (Call_mono (by decide) qc14.1) ?_
    have hI := qc14.2
    exact to_ext [] ext_nil (kX11_letter_36 hS hf hI)
  · have hf := ite_neg h8 hf
    refine to_ifF (q := 18) (op := .eq) 27 h8 dX11_letter_15 rfl rfl ?_
    refine to_aload_n (q := 19) rfl (by decide) dX11_letter_18 rfl ?_
    refine to_iload (q := 21) rfl dX11_letter_19 rfl ?_
    obtain ⟨r19, m20, hc17, hf⟩ := cl2_some hf
    have qc18 := kX11_no hS hc17 hI
    refine to_virtI (q := 24) mX11_no [.int r6] dX11_letter_21 rfl rfl (Nat.le_of_ble_eq_true rfl) mo_X11_no mv_X11_159 (Or.inl ⟨_, _, _, h_138 hS, rfl, rfl⟩) (Call_mono (by decide) qc18.1) ?_
    have hI := qc18.2
    refine to_goto (q := 36) dX11_letter_24 rfl ?_
    exact to_ext [] ext_nil (kX11_letter_36 hS hf hI)
def fX11_at_51 (t0 : Int32) (m : Me) : Option (Int32 × Me) := some (t0, m)
set_option maxRecDepth 20000 in
theorem kX11_at_51 {S : Sh} (hS : ShOK S) {res : Int32 × Me} {t0 : Int32} {m : Me} (hf : fX11_at_51 t0 m = some res) (hI : Inv m) : TT InvS (Call 4) mX11_at (51, [], [.int t0], S, m) (some (.int res.1)) (S, res.2) := by
  unfold fX11_at_51 at hf
  cases hf
  exact to_iret dX11_at_51 rfl rfl rfl rfl hI
def fX11_at (x1 : Int32) (x2 : Int32) (x3 : Int32) (m : Me) : Option (Int32 × Me) := cl1 (fX11_good m) fun m3 => cl2 (fX11_placeWhy x1 x2 x3 m3) fun r6 m7 => if r6 = (0 : Int32) then ck (inb x3 30) (ck (inb x3 30) (fX11_at_51 ((((m7.1 141 1) * ((m7.1 147 x3.toNatClampNeg) / (3 : Int32))) + ((m7.1 147 x3.toNatClampNeg) - (m7.1 147 x3.toNatClampNeg) / (3 : Int32) * (3 : Int32)))) m7)) else cl2 (fX11_no r6 m7) fun r13 m14 => fX11_at_51 r13 m14
set_option maxRecDepth 20000 in
theorem kX11_at {S : Sh} (hS : ShOK S) {res : Int32 × Me} {x1 : Int32} {x2 : Int32} {x3 : Int32} {m : Me} (hf : fX11_at x1 x2 x3 m = some res) (hI : Inv m) : Call 5 mX11_at [.ref 138, .int x1, .int x2, .int x3] (S, m) (some (.int res.1)) (S, res.2) ∧ Inv res.2 := by
  refine call_of (P := InvS) (Nat.le_of_ble_eq_true rfl) (by simp [Value.category]) ?_
  show TT InvS (Call 4) mX11_at (0, [(0, .ref 138), (1, .int x1), (2, .int x2), (3, .int x3)], [], S, m) _ _
  unfold fX11_at at hf
  refine to_aload_n (q := 1) rfl (by decide) dX11_at_0 rfl ?_
  obtain ⟨m3, hc1, hf⟩ := cl1_some hf
  have qc2 := kX11_good hS hc1 hI
  refine to_virtV (q := 4) mX11_good [] dX11_at_1 rfl rfl (Nat.le_of_ble_eq_true rfl) mo_X11_good mv_X11_156 (Or.inl ⟨_, _, _, h_138 hS, rfl, rfl⟩) (Call_mono (by decide) qc2.1) ?_
  have hI := qc2.2
  refine to_aload_n (q := 5) rfl (by decide) dX11_at_4 rfl ?_
  refine to_iload_n (q := 6) rfl dX11_at_5 rfl ?_
  refine to_iload_n (q := 7) rfl dX11_at_6 rfl ?_
  refine to_iload_n (q := 8) rfl dX11_at_7 rfl ?_
  obtain ⟨r6, m7, hc4, hf⟩ := cl2_some hf
  have qc5 := kX11_placeWhy hS hc4 hI
  refine to_virtI (q := 11) mX11_placeWhy [.int x1, .int x2, .int x3] dX11_at_8 rfl rfl (Nat.le_of_ble_eq_true rfl) mo_X11_placeWhy mv_X11_282 (Or.inl ⟨_, _, _, h_138 hS, rfl, rfl⟩) (Call_mono (by decide) qc5.1) ?_
  have hI := qc5.2
  refine to_istore (q := 13) [(4, .int r6), (0, .ref 138), (1, .int x1), (2, .int x2), (3, .int x3)] rfl (by decide) dX11_at_11 rfl ?_
  refine to_iload (q := 15) rfl dX11_at_13 rfl ?_
  by_cases h8 : r6 = (0 : Int32)
  · have hf := ite_pos h8 hf
    refine to_ifT (q := 27) (op := .eq) h8 dX11_at_15 rfl ?_
    refine to_aload_n (q := 28) rfl (by decide) dX11_at_27 rfl ?_
    refine to_getR (q := 31) (b := 141) (k0 := 11) (C := RX11) (T := TX11) (N := 37) (j := 15) rfl fx_X11_20 (h_138 hS) rfl (iv_138_15 hI) dX11_at_28 rfl ?_
    refine to_iconst (q := 32) ic_1 dX11_at_31 rfl ?_
    refine to_iaj (q := 33) (h_141 hS) (by decide) (tn_1) dX11_at_32 rfl ?_
    refine to_aload_n (q := 34) rfl (by decide) dX11_at_33 rfl ?_
    refine to_getR (q := 37) (b := 147) (k0 := 11) (C := RX11) (T := TX11) (N := 37) (j := 23) rfl fx_X11_38 (h_138 hS) rfl (iv_138_23 hI) dX11_at_34 rfl ?_
    refine to_iload_n (q := 38) rfl dX11_at_37 rfl ?_
    obtain ⟨hb9, hf⟩ := ck_some hf
    refine to_iaj (q := 39) (h_147 hS) hb9 (rfl) dX11_at_38 rfl ?_
    refine to_iconst (q := 40) ic_3 dX11_at_39 rfl ?_
    refine to_idiv (q := 41) (by decide) dX11_at_40 rfl ?_
    refine to_imul (q := 42) dX11_at_41 rfl ?_
    refine to_aload_n (q := 43) rfl (by decide) dX11_at_42 rfl ?_
    refine to_getR (q := 46) (b := 147) (k0 := 11) (C := RX11) (T := TX11) (N := 37) (j := 23) rfl fx_X11_38 (h_138 hS) rfl (iv_138_23 hI) dX11_at_43 rfl ?_
    refine to_iload_n (q := 47) rfl dX11_at_46 rfl ?_
    obtain ⟨hb10, hf⟩ := ck_some hf
    refine to_iaj (q := 48) (h_147 hS) hb10 (rfl) dX11_at_47 rfl ?_
    refine to_iconst (q := 49) ic_3 dX11_at_48 rfl ?_
    refine to_irem (q := 50) (by decide) dX11_at_49 rfl ?_
    refine to_iadd (q := 51) dX11_at_50 rfl ?_
    exact to_ext [] ext_nil (kX11_at_51 hS hf hI)
  · have hf := ite_neg h8 hf
    refine to_ifF (q := 18) (op := .eq) 27 h8 dX11_at_15 rfl rfl ?_
    refine to_aload_n (q := 19) rfl (by decide) dX11_at_18 rfl ?_
    refine to_iload (q := 21) rfl dX11_at_19 rfl ?_
    obtain ⟨r13, m14, hc11, hf⟩ := cl2_some hf
    have qc12 := kX11_no hS hc11 hI
    refine to_virtI (q := 24) mX11_no [.int r6] dX11_at_21 rfl rfl (Nat.le_of_ble_eq_true rfl) mo_X11_no mv_X11_159 (Or.inl ⟨_, _, _, h_138 hS, rfl, rfl⟩) (Call_mono (by decide) qc12.1) ?_
    have hI := qc12.2
    refine to_goto (q := 51) dX11_at_24 rfl ?_
    exact to_ext [] ext_nil (kX11_at_51 hS hf hI)
def fX11_shown_47 (n : Nat) (k23 : Int32 → Int32 → Int32 → Int32 → Me → Option (Int32 × Me)) (x1 : Int32) (x2 : Int32) (x3 : Int32) (x4 : Int32) (x5 : Int32) (x6 : Int32) (m : Me) : Option (Int32 × Me) := match n with
  | 0 => none
  | n + 1 => if x5 ≤ x6 then k23 x1 x2 x3 ((x4 + (1 : Int32))) m else ck (inb x6 30) (if (m.1 147 x6.toNatClampNeg) = (((3 : Int32) * x2) + x3) then some (x4, m) else fX11_shown_47 n k23 x1 x2 x3 x4 x5 ((x6 + (1 : Int32))) m)
set_option maxRecDepth 20000 in
theorem kX11_shown_47 {S : Sh} (hS : ShOK S) {res : Int32 × Me} {k23 : Int32 → Int32 → Int32 → Int32 → Me → Option (Int32 × Me)} (hk23 : ∀ {x1 : Int32} {x2 : Int32} {x3 : Int32} {x4 : Int32} {m : Me}, k23 x1 x2 x3 x4 m = some res → Inv m → TT InvS (Call 3) mX11_shown (23, [(0, .ref 138), (1, .int x1), (2, .int x2), (3, .int x3), (4, .int x4)], [], S, m) (some (.int res.1)) (S, res.2)) (n : Nat) : ∀ {x1 : Int32} {x2 : Int32} {x3 : Int32} {x4 : Int32} {x5 : Int32} {x6 : Int32} {m : Me}, fX11_shown_47 n k23 x1 x2 x3 x4 x5 x6 m = some res → Inv m → TT InvS (Call 3) mX11_shown (47, [(0, .ref 138), (1, .int x1), (2, .int x2), (3, .int x3), (4, .int x4), (5, .int x5), (6, .int x6)], [], S, m) (some (.int res.1)) (S, res.2) := by
  induction n with
  | zero => intro x1 x2 x3 x4 x5 x6 m hf; cases hf
  | succ n ih =>
    intro x1 x2 x3 x4 x5 x6 m hf  hI
    unfold fX11_shown_47 at hf
    refine to_iload (q := 49) rfl dX11_shown_47 rfl ?_
    refine to_iload (q := 51) rfl dX11_shown_49 rfl ?_
    by_cases h22 : x5 ≤ x6
    · have hf := ite_pos h22 hf
      refine to_icT (q := 78) (op := .ge) h22 dX11_shown_51 rfl ?_
      refine to_iinc (q := 81) (v := (x4 + (1 : Int32))) rfl (congrArg (fun z => x4 + z) ic_1) [(4, .int (x4 + (1 : Int32))), (0, .ref 138), (1, .int x1), (2, .int x2), (3, .int x3), (5, .int x5), (6, .int x6)] rfl (by decide) dX11_shown_78 rfl ?_
      refine to_goto (q := 23) dX11_shown_81 rfl ?_
      exact to_ext [(0, .ref 138), (1, .int x1), (2, .int x2), (3, .int x3), (4, .int (x4 + (1 : Int32)))] (ext_cons rfl (ext_cons rfl (ext_cons rfl (ext_cons rfl (ext_cons rfl ext_nil))))) (hk23 hf hI)
    · have hf := ite_neg h22 hf
      refine to_icF (q := 54) (op := .ge) 78 h22 dX11_shown_51 rfl rfl ?_
      refine to_aload_n (q := 55) rfl (by decide) dX11_shown_54 rfl ?_
      refine to_getR (q := 58) (b := 147) (k0 := 11) (C := RX11) (T := TX11) (N := 37) (j := 23) rfl fx_X11_38 (h_138 hS) rfl (iv_138_23 hI) dX11_shown_55 rfl ?_
      refine to_iload (q := 60) rfl dX11_shown_58 rfl ?_
      obtain ⟨hb23, hf⟩ := ck_some hf
      refine to_iaj (q := 61) (h_147 hS) hb23 (rfl) dX11_shown_60 rfl ?_
      refine to_iconst (q := 62) ic_3 dX11_shown_61 rfl ?_
      refine to_iload_n (q := 63) rfl dX11_shown_62 rfl ?_
      refine to_imul (q := 64) dX11_shown_63 rfl ?_
      refine to_iload_n (q := 65) rfl dX11_shown_64 rfl ?_
      refine to_iadd (q := 66) dX11_shown_65 rfl ?_
      by_cases h24 : (m.1 147 x6.toNatClampNeg) = (((3 : Int32) * x2) + x3)
      · have hf := ite_pos h24 hf
        refine to_icF (q := 69) (op := .ne) 72 (fun z => z h24) dX11_shown_66 rfl rfl ?_
        refine to_iload (q := 71) rfl dX11_shown_69 rfl ?_
        cases hf
        exact to_iret dX11_shown_71 rfl rfl rfl rfl hI
      · have hf := ite_neg h24 hf
        refine to_icT (q := 72) (op := .ne) h24 dX11_shown_66 rfl ?_
        refine to_iinc (q := 75) (v := (x6 + (1 : Int32))) rfl (congrArg (fun z => x6 + z) ic_1) [(6, .int (x6 + (1 : Int32))), (0, .ref 138), (1, .int x1), (2, .int x2), (3, .int x3), (4, .int x4), (5, .int x5)] rfl (by decide) dX11_shown_72 rfl ?_
        refine to_goto (q := 47) dX11_shown_75 rfl ?_
        exact to_ext [(0, .ref 138), (1, .int x1), (2, .int x2), (3, .int x3), (4, .int x4), (5, .int x5), (6, .int (x6 + (1 : Int32)))] (ext_cons rfl (ext_cons rfl (ext_cons rfl (ext_cons rfl (ext_cons rfl (ext_cons rfl (ext_cons rfl ext_nil))))))) (ih hf hI)
def fX11_shown_23 (n : Nat) (x1 : Int32) (x2 : Int32) (x3 : Int32) (x4 : Int32) (m : Me) : Option (Int32 × Me) := match n with
  | 0 => none
  | n + 1 => cl2 (fX11_mostOpen 141 m) fun r15 m16 => if r15 < x4 then some ((-2 : Int32), m16) else cl2 (fX11_layNow x1 x4 m16) fun r20 m21 => fX11_shown_47 FU (fX11_shown_23 n) x1 x2 x3 x4 r20 ((0 : Int32)) m21
set_option maxRecDepth 20000 in
theorem kX11_shown_23 {S : Sh} (hS : ShOK S) {res : Int32 × Me} (n : Nat) : ∀ {x1 : Int32} {x2 : Int32} {x3 : Int32} {x4 : Int32} {m : Me}, fX11_shown_23 n x1 x2 x3 x4 m = some res → Inv m → TT InvS (Call 3) mX11_shown (23, [(0, .ref 138), (1, .int x1), (2, .int x2), (3, .int x3), (4, .int x4)], [], S, m) (some (.int res.1)) (S, res.2) := by
  induction n with
  | zero => intro x1 x2 x3 x4 m hf; cases hf
  | succ n ih =>
    intro x1 x2 x3 x4 m hf  hI
    unfold fX11_shown_23 at hf
    refine to_iload (q := 25) rfl dX11_shown_23 rfl ?_
    refine to_aload_n (q := 26) rfl (by decide) dX11_shown_25 rfl ?_
    refine to_getR (q := 29) (b := 141) (k0 := 11) (C := RX11) (T := TX11) (N := 37) (j := 15) rfl fx_X11_20 (h_138 hS) rfl (iv_138_15 hI) dX11_shown_26 rfl ?_
    obtain ⟨r15, m16, hc13, hf⟩ := cl2_some hf
    have qc14 := kX11_mostOpen hS hc13 rfl hI
    refine to_statI (q := 32) mX11_mostOpen [.ref 141] dX11_shown_29 rfl rfl (Nat.le_of_ble_eq_true rfl) mo_X11_mostOpen (Or.inl ml_X11_178) sa_X11_mostOpen (Call_mono (by decide) qc14.1) ?_
    have hI := qc14.2
    by_cases h17 : r15 < x4
    · have hf := ite_pos h17 hf
      refine to_icT (q := 84) (op := .gt) h17 dX11_shown_32 rfl ?_
      refine to_bipush (q := 86) bp_m2 dX11_shown_84 rfl ?_
      cases hf
      exact to_iret dX11_shown_86 rfl rfl rfl rfl hI
    · have hf := ite_neg h17 hf
      refine to_icF (q := 35) (op := .gt) 84 h17 dX11_shown_32 rfl rfl ?_
      refine to_aload_n (q := 36) rfl (by decide) dX11_shown_35 rfl ?_
      refine to_iload_n (q := 37) rfl dX11_shown_36 rfl ?_
      refine to_iload (q := 39) rfl dX11_shown_37 rfl ?_
      obtain ⟨r20, m21, hc18, hf⟩ := cl2_some hf
      have qc19 := kX11_layNow hS hc18 hI
      refine to_virtI (q := 42) mX11_layNow [.int x1, .int x4] dX11_shown_39 rfl rfl (Nat.le_of_ble_eq_true rfl) mo_X11_layNow mv_X11_279 (Or.inl ⟨_, _, _, h_138 hS, rfl, rfl⟩) (Call_mono (by decide) qc19.1) ?_
      have hI := qc19.2
      refine to_istore (q := 44) [(5, .int r20), (0, .ref 138), (1, .int x1), (2, .int x2), (3, .int x3), (4, .int x4)] rfl (by decide) dX11_shown_42 rfl ?_
      refine to_iconst (q := 45) ic_0 dX11_shown_44 rfl ?_
      refine to_istore (q := 47) [(6, .int (0 : Int32)), (5, .int r20), (0, .ref 138), (1, .int x1), (2, .int x2), (3, .int x3), (4, .int x4)] rfl (by decide) dX11_shown_45 rfl ?_
      exact to_ext [(0, .ref 138), (1, .int x1), (2, .int x2), (3, .int x3), (4, .int x4), (5, .int r20), (6, .int (0 : Int32))] (ext_cons rfl (ext_cons rfl (ext_cons rfl (ext_cons rfl (ext_cons rfl (ext_cons rfl (ext_cons rfl ext_nil))))))) (kX11_shown_47 hS ih FU hf hI)
def fX11_shown (x1 : Int32) (x2 : Int32) (x3 : Int32) (m : Me) : Option (Int32 × Me) := cl1 (fX11_good m) fun m3 => cl2 (fX11_isCell x1 x2 x3 m3) fun r6 m7 => if r6 = (0 : Int32) then cl2 (fX11_no (1 : Int32) m7) fun r11 m12 => some (r11, m12) else fX11_shown_23 FU x1 x2 x3 ((0 : Int32)) m7
set_option maxRecDepth 20000 in
theorem kX11_shown {S : Sh} (hS : ShOK S) {res : Int32 × Me} {x1 : Int32} {x2 : Int32} {x3 : Int32} {m : Me} (hf : fX11_shown x1 x2 x3 m = some res) (hI : Inv m) : Call 4 mX11_shown [.ref 138, .int x1, .int x2, .int x3] (S, m) (some (.int res.1)) (S, res.2) ∧ Inv res.2 := by
  refine call_of (P := InvS) (Nat.le_of_ble_eq_true rfl) (by simp [Value.category]) ?_
  show TT InvS (Call 3) mX11_shown (0, [(0, .ref 138), (1, .int x1), (2, .int x2), (3, .int x3)], [], S, m) _ _
  unfold fX11_shown at hf
  refine to_aload_n (q := 1) rfl (by decide) dX11_shown_0 rfl ?_
  obtain ⟨m3, hc1, hf⟩ := cl1_some hf
  have qc2 := kX11_good hS hc1 hI
  refine to_virtV (q := 4) mX11_good [] dX11_shown_1 rfl rfl (Nat.le_of_ble_eq_true rfl) mo_X11_good mv_X11_156 (Or.inl ⟨_, _, _, h_138 hS, rfl, rfl⟩) (Call_mono (by decide) qc2.1) ?_
  have hI := qc2.2
  refine to_aload_n (q := 5) rfl (by decide) dX11_shown_4 rfl ?_
  refine to_iload_n (q := 6) rfl dX11_shown_5 rfl ?_
  refine to_iload_n (q := 7) rfl dX11_shown_6 rfl ?_
  refine to_iload_n (q := 8) rfl dX11_shown_7 rfl ?_
  obtain ⟨r6, m7, hc4, hf⟩ := cl2_some hf
  have qc5 := kX11_isCell hS hc4 hI
  refine to_virtI (q := 11) mX11_isCell [.int x1, .int x2, .int x3] dX11_shown_8 rfl rfl (Nat.le_of_ble_eq_true rfl) mo_X11_isCell mv_X11_267 (Or.inl ⟨_, _, _, h_138 hS, rfl, rfl⟩) (Call_mono (by decide) qc5.1) ?_
  have hI := qc5.2
  by_cases h8 : r6 = (0 : Int32)
  · have hf := ite_pos h8 hf
    refine to_ifF (q := 14) (op := .ne) 20 (fun z => z h8) dX11_shown_11 rfl rfl ?_
    refine to_aload_n (q := 15) rfl (by decide) dX11_shown_14 rfl ?_
    refine to_iconst (q := 16) ic_1 dX11_shown_15 rfl ?_
    obtain ⟨r11, m12, hc9, hf⟩ := cl2_some hf
    have qc10 := kX11_no hS hc9 hI
    refine to_virtI (q := 19) mX11_no [.int (1 : Int32)] dX11_shown_16 rfl rfl (Nat.le_of_ble_eq_true rfl) mo_X11_no mv_X11_159 (Or.inl ⟨_, _, _, h_138 hS, rfl, rfl⟩) (Call_mono (by decide) qc10.1) ?_
    have hI := qc10.2
    cases hf
    exact to_iret dX11_shown_19 rfl rfl rfl rfl hI
  · have hf := ite_neg h8 hf
    refine to_ifT (q := 20) (op := .ne) h8 dX11_shown_11 rfl ?_
    refine to_iconst (q := 21) ic_0 dX11_shown_20 rfl ?_
    refine to_istore (q := 23) [(4, .int (0 : Int32)), (0, .ref 138), (1, .int x1), (2, .int x2), (3, .int x3)] rfl (by decide) dX11_shown_21 rfl ?_
    exact to_ext [(0, .ref 138), (1, .int x1), (2, .int x2), (3, .int x3), (4, .int (0 : Int32))] (ext_cons rfl (ext_cons rfl (ext_cons rfl (ext_cons rfl (ext_cons rfl ext_nil))))) (kX11_shown_23 hS FU hf hI)
def fX11_ribs_69 (k35 : Int32 → Int32 → Int32 → Me → Option (Int32 × Me)) (x4 : Int32) (x6 : Int32) (t0 : Int32) (t1 : Int32) (m : Me) : Option (Int32 × Me) := k35 x4 ((t1 + t0)) ((x6 + (1 : Int32))) m
set_option maxRecDepth 20000 in
theorem kX11_ribs_69 {S : Sh} (hS : ShOK S) {res : Int32 × Me} {k35 : Int32 → Int32 → Int32 → Me → Option (Int32 × Me)} (hk35 : ∀ {x4 : Int32} {x5 : Int32} {x6 : Int32} {m : Me}, k35 x4 x5 x6 m = some res → Inv m → TT InvS (Call 3) mX11_ribs (35, [(0, .ref 138), (4, .int x4), (5, .int x5), (6, .int x6)], [], S, m) (some (.int res.1)) (S, res.2)) {x4 : Int32} {x6 : Int32} {t0 : Int32} {t1 : Int32} {m : Me} (hf : fX11_ribs_69 k35 x4 x6 t0 t1 m = some res) (hI : Inv m) : TT InvS (Call 3) mX11_ribs (69, [(0, .ref 138), (4, .int x4), (6, .int x6)], [.int t0, .int t1], S, m) (some (.int res.1)) (S, res.2) := by
  unfold fX11_ribs_69 at hf
  refine to_iadd (q := 70) dX11_ribs_69 rfl ?_
  refine to_istore (q := 72) [(5, .int (t1 + t0)), (0, .ref 138), (4, .int x4), (6, .int x6)] rfl (by decide) dX11_ribs_70 rfl ?_
  refine to_iinc (q := 75) (v := (x6 + (1 : Int32))) rfl (congrArg (fun z => x6 + z) ic_1) [(6, .int (x6 + (1 : Int32))), (5, .int (t1 + t0)), (0, .ref 138), (4, .int x4)] rfl (by decide) dX11_ribs_72 rfl ?_
  refine to_goto (q := 35) dX11_ribs_75 rfl ?_
  exact to_ext [(0, .ref 138), (4, .int x4), (5, .int (t1 + t0)), (6, .int (x6 + (1 : Int32)))] (ext_cons rfl (ext_cons rfl (ext_cons rfl (ext_cons rfl ext_nil)))) (hk35 hf hI)
def fX11_ribs_35 (n : Nat) (x4 : Int32) (x5 : Int32) (x6 : Int32) (m : Me) : Option (Int32 × Me) := match n with
  | 0 => none
  | n + 1 => if x4 ≤ x6 then some (x5, m) else ck (inb x6 30) (if ((m.1 147 x6.toNatClampNeg) - (m.1 147 x6.toNatClampNeg) / (3 : Int32) * (3 : Int32)) = ((m.1 141 1) - (1 : Int32)) then fX11_ribs_69 (fX11_ribs_35 n) x4 x6 ((1 : Int32)) x5 m else fX11_ribs_69 (fX11_ribs_35 n) x4 x6 ((0 : Int32)) x5 m)
set_option maxRecDepth 20000 in
theorem kX11_ribs_35 {S : Sh} (hS : ShOK S) {res : Int32 × Me} (n : Nat) : ∀ {x4 : Int32} {x5 : Int32} {x6 : Int32} {m : Me}, fX11_ribs_35 n x4 x5 x6 m = some res → Inv m → TT InvS (Call 3) mX11_ribs (35, [(0, .ref 138), (4, .int x4), (5, .int x5), (6, .int x6)], [], S, m) (some (.int res.1)) (S, res.2) := by
  induction n with
  | zero => intro x4 x5 x6 m hf; cases hf
  | succ n ih =>
    intro x4 x5 x6 m hf  hI
    unfold fX11_ribs_35 at hf
    refine to_iload (q := 37) rfl dX11_ribs_35 rfl ?_
    refine to_iload (q := 39) rfl dX11_ribs_37 rfl ?_
    by_cases h17 : x4 ≤ x6
    · have hf := ite_pos h17 hf
      refine to_icT (q := 78) (op := .ge) h17 dX11_ribs_39 rfl ?_
      refine to_iload (q := 80) rfl dX11_ribs_78 rfl ?_
      cases hf
      exact to_iret dX11_ribs_80 rfl rfl rfl rfl hI
    · have hf := ite_neg h17 hf
      refine to_icF (q := 42) (op := .ge) 78 h17 dX11_ribs_39 rfl rfl ?_
      refine to_iload (q := 44) rfl dX11_ribs_42 rfl ?_
      refine to_aload_n (q := 45) rfl (by decide) dX11_ribs_44 rfl ?_
      refine to_getR (q := 48) (b := 147) (k0 := 11) (C := RX11) (T := TX11) (N := 37) (j := 23) rfl fx_X11_38 (h_138 hS) rfl (iv_138_23 hI) dX11_ribs_45 rfl ?_
      refine to_iload (q := 50) rfl dX11_ribs_48 rfl ?_
      obtain ⟨hb18, hf⟩ := ck_some hf
      refine to_iaj (q := 51) (h_147 hS) hb18 (rfl) dX11_ribs_50 rfl ?_
      refine to_iconst (q := 52) ic_3 dX11_ribs_51 rfl ?_
      refine to_irem (q := 53) (by decide) dX11_ribs_52 rfl ?_
      refine to_aload_n (q := 54) rfl (by decide) dX11_ribs_53 rfl ?_
      refine to_getR (q := 57) (b := 141) (k0 := 11) (C := RX11) (T := TX11) (N := 37) (j := 15) rfl fx_X11_20 (h_138 hS) rfl (iv_138_15 hI) dX11_ribs_54 rfl ?_
      refine to_iconst (q := 58) ic_1 dX11_ribs_57 rfl ?_
      refine to_iaj (q := 59) (h_141 hS) (by decide) (tn_1) dX11_ribs_58 rfl ?_
      refine to_iconst (q := 60) ic_1 dX11_ribs_59 rfl ?_
      refine to_isub (q := 61) dX11_ribs_60 rfl ?_
      by_cases h19 : ((m.1 147 x6.toNatClampNeg) - (m.1 147 x6.toNatClampNeg) / (3 : Int32) * (3 : Int32)) = ((m.1 141 1) - (1 : Int32))
      · have hf := ite_pos h19 hf
        refine to_icF (q := 64) (op := .ne) 68 (fun z => z h19) dX11_ribs_61 rfl rfl ?_
        refine to_iconst (q := 65) ic_1 dX11_ribs_64 rfl ?_
        refine to_goto (q := 69) dX11_ribs_65 rfl ?_
        exact to_ext [(0, .ref 138), (4, .int x4), (6, .int x6)] (ext_cons rfl (ext_cons rfl (ext_cons rfl ext_nil))) (kX11_ribs_69 hS ih hf hI)
      · have hf := ite_neg h19 hf
        refine to_icT (q := 68) (op := .ne) h19 dX11_ribs_61 rfl ?_
        refine to_iconst (q := 69) ic_0 dX11_ribs_68 rfl ?_
        exact to_ext [(0, .ref 138), (4, .int x4), (6, .int x6)] (ext_cons rfl (ext_cons rfl (ext_cons rfl ext_nil))) (kX11_ribs_69 hS ih hf hI)
def fX11_ribs (x1 : Int32) (x2 : Int32) (m : Me) : Option (Int32 × Me) := cl1 (fX11_good m) fun m3 => cl2 (fX11_openWhy x1 x2 m3) fun r6 m7 => if r6 = (0 : Int32) then cl2 (fX11_layNow x1 x2 m7) fun r11 m12 => fX11_ribs_35 FU r11 ((0 : Int32)) ((0 : Int32)) m12 else cl2 (fX11_no r6 m7) fun r15 m16 => some (r15, m16)
set_option maxRecDepth 20000 in
theorem kX11_ribs {S : Sh} (hS : ShOK S) {res : Int32 × Me} {x1 : Int32} {x2 : Int32} {m : Me} (hf : fX11_ribs x1 x2 m = some res) (hI : Inv m) : Call 4 mX11_ribs [.ref 138, .int x1, .int x2] (S, m) (some (.int res.1)) (S, res.2) ∧ Inv res.2 := by
  refine call_of (P := InvS) (Nat.le_of_ble_eq_true rfl) (by simp [Value.category]) ?_
  show TT InvS (Call 3) mX11_ribs (0, [(0, .ref 138), (1, .int x1), (2, .int x2)], [], S, m) _ _
  unfold fX11_ribs at hf
  refine to_aload_n (q := 1) rfl (by decide) dX11_ribs_0 rfl ?_
  obtain ⟨m3, hc1, hf⟩ := cl1_some hf
  have qc2 := kX11_good hS hc1 hI
  refine to_virtV (q := 4) mX11_good [] dX11_ribs_1 rfl rfl (Nat.le_of_ble_eq_true rfl) mo_X11_good mv_X11_156 (Or.inl ⟨_, _, _, h_138 hS, rfl, rfl⟩) (Call_mono (by decide) qc2.1) ?_
  have hI := qc2.2
  refine to_aload_n (q := 5) rfl (by decide) dX11_ribs_4 rfl ?_
  refine to_iload_n (q := 6) rfl dX11_ribs_5 rfl ?_
  refine to_iload_n (q := 7) rfl dX11_ribs_6 rfl ?_
  obtain ⟨r6, m7, hc4, hf⟩ := cl2_some hf
  have qc5 := kX11_openWhy hS hc4 hI
  refine to_virtI (q := 10) mX11_openWhy [.int x1, .int x2] dX11_ribs_7 rfl rfl (Nat.le_of_ble_eq_true rfl) mo_X11_openWhy mv_X11_276 (Or.inl ⟨_, _, _, h_138 hS, rfl, rfl⟩) (Call_mono (by decide) qc5.1) ?_
  have hI := qc5.2
  refine to_istore_n (q := 11) [(3, .int r6), (0, .ref 138), (1, .int x1), (2, .int x2)] rfl (by decide) dX11_ribs_10 rfl ?_
  refine to_iload_n (q := 12) rfl dX11_ribs_11 rfl ?_
  by_cases h8 : r6 = (0 : Int32)
  · have hf := ite_pos h8 hf
    refine to_ifT (q := 21) (op := .eq) h8 dX11_ribs_12 rfl ?_
    refine to_aload_n (q := 22) rfl (by decide) dX11_ribs_21 rfl ?_
    refine to_iload_n (q := 23) rfl dX11_ribs_22 rfl ?_
    refine to_iload_n (q := 24) rfl dX11_ribs_23 rfl ?_
    obtain ⟨r11, m12, hc9, hf⟩ := cl2_some hf
    have qc10 := kX11_layNow hS hc9 hI
    refine to_virtI (q := 27) mX11_layNow [.int x1, .int x2] dX11_ribs_24 rfl rfl (Nat.le_of_ble_eq_true rfl) mo_X11_layNow mv_X11_279 (Or.inl ⟨_, _, _, h_138 hS, rfl, rfl⟩) (Call_mono (by decide) qc10.1) ?_
    have hI := qc10.2
    refine to_istore (q := 29) [(4, .int r11), (3, .int r6), (0, .ref 138), (1, .int x1), (2, .int x2)] rfl (by decide) dX11_ribs_27 rfl ?_
    refine to_iconst (q := 30) ic_0 dX11_ribs_29 rfl ?_
    refine to_istore (q := 32) [(5, .int (0 : Int32)), (4, .int r11), (3, .int r6), (0, .ref 138), (1, .int x1), (2, .int x2)] rfl (by decide) dX11_ribs_30 rfl ?_
    refine to_iconst (q := 33) ic_0 dX11_ribs_32 rfl ?_
    refine to_istore (q := 35) [(6, .int (0 : Int32)), (5, .int (0 : Int32)), (4, .int r11), (3, .int r6), (0, .ref 138), (1, .int x1), (2, .int x2)] rfl (by decide) dX11_ribs_33 rfl ?_
    exact to_ext [(0, .ref 138), (4, .int r11), (5, .int (0 : Int32)), (6, .int (0 : Int32))] (ext_cons rfl (ext_cons rfl (ext_cons rfl (ext_cons rfl ext_nil)))) (kX11_ribs_35 hS FU hf hI)
  · have hf := ite_neg h8 hf
    refine to_ifF (q := 15) (op := .eq) 21 h8 dX11_ribs_12 rfl rfl ?_
    refine to_aload_n (q := 16) rfl (by decide) dX11_ribs_15 rfl ?_
    refine to_iload_n (q := 17) rfl dX11_ribs_16 rfl ?_
    obtain ⟨r15, m16, hc13, hf⟩ := cl2_some hf
    have qc14 := kX11_no hS hc13 hI
    refine to_virtI (q := 20) mX11_no [.int r6] dX11_ribs_17 rfl rfl (Nat.le_of_ble_eq_true rfl) mo_X11_no mv_X11_159 (Or.inl ⟨_, _, _, h_138 hS, rfl, rfl⟩) (Call_mono (by decide) qc14.1) ?_
    have hI := qc14.2
    cases hf
    exact to_iret dX11_ribs_20 rfl rfl rfl rfl hI
def fX11_paintedOf_27 (k4 : Int32 → Int32 → Me → Option (Int32 × Me)) (x2 : Int32) (t0 : Int32) (t1 : Int32) (m : Me) : Option (Int32 × Me) := k4 ((t1 + t0)) ((x2 + (1 : Int32))) m
set_option maxRecDepth 20000 in
theorem kX11_paintedOf_27 {S : Sh} (hS : ShOK S) {res : Int32 × Me} {k4 : Int32 → Int32 → Me → Option (Int32 × Me)} (hk4 : ∀ {x1 : Int32} {x2 : Int32} {m : Me}, k4 x1 x2 m = some res → Inv m → TT InvS (Call 0) mX11_paintedOf (4, [(0, .ref 138), (1, .int x1), (2, .int x2)], [], S, m) (some (.int res.1)) (S, res.2)) {x2 : Int32} {t0 : Int32} {t1 : Int32} {m : Me} (hf : fX11_paintedOf_27 k4 x2 t0 t1 m = some res) (hI : Inv m) : TT InvS (Call 0) mX11_paintedOf (27, [(0, .ref 138), (2, .int x2)], [.int t0, .int t1], S, m) (some (.int res.1)) (S, res.2) := by
  unfold fX11_paintedOf_27 at hf
  refine to_iadd (q := 28) dX11_paintedOf_27 rfl ?_
  refine to_istore_n (q := 29) [(1, .int (t1 + t0)), (0, .ref 138), (2, .int x2)] rfl (by decide) dX11_paintedOf_28 rfl ?_
  refine to_iinc (q := 32) (v := (x2 + (1 : Int32))) rfl (congrArg (fun z => x2 + z) ic_1) [(2, .int (x2 + (1 : Int32))), (1, .int (t1 + t0)), (0, .ref 138)] rfl (by decide) dX11_paintedOf_29 rfl ?_
  refine to_goto (q := 4) dX11_paintedOf_32 rfl ?_
  exact to_ext [(0, .ref 138), (1, .int (t1 + t0)), (2, .int (x2 + (1 : Int32)))] (ext_cons rfl (ext_cons rfl (ext_cons rfl ext_nil))) (hk4 hf hI)
def fX11_paintedOf_4 (n : Nat) (x1 : Int32) (x2 : Int32) (m : Me) : Option (Int32 × Me) := match n with
  | 0 => none
  | n + 1 => if (60 : Int32) ≤ x2 then some (x1, m) else ck (inb x2 62) (if (m.1 143 x2.toNatClampNeg) = (25 : Int32) then fX11_paintedOf_27 (fX11_paintedOf_4 n) x2 ((0 : Int32)) x1 m else fX11_paintedOf_27 (fX11_paintedOf_4 n) x2 ((1 : Int32)) x1 m)
set_option maxRecDepth 20000 in
theorem kX11_paintedOf_4 {S : Sh} (hS : ShOK S) {res : Int32 × Me} (n : Nat) : ∀ {x1 : Int32} {x2 : Int32} {m : Me}, fX11_paintedOf_4 n x1 x2 m = some res → Inv m → TT InvS (Call 0) mX11_paintedOf (4, [(0, .ref 138), (1, .int x1), (2, .int x2)], [], S, m) (some (.int res.1)) (S, res.2) := by
  induction n with
  | zero => intro x1 x2 m hf; cases hf
  | succ n ih =>
    intro x1 x2 m hf  hI
    unfold fX11_paintedOf_4 at hf
    refine to_iload_n (q := 5) rfl dX11_paintedOf_4 rfl ?_
    refine to_bipush (q := 7) bp_60 dX11_paintedOf_5 rfl ?_
    by_cases h1 : (60 : Int32) ≤ x2
    · have hf := ite_pos h1 hf
      refine to_icT (q := 35) (op := .ge) h1 dX11_paintedOf_7 rfl ?_
      refine to_iload_n (q := 36) rfl dX11_paintedOf_35 rfl ?_
      cases hf
      exact to_iret dX11_paintedOf_36 rfl rfl rfl rfl hI
    · have hf := ite_neg h1 hf
      refine to_icF (q := 10) (op := .ge) 35 h1 dX11_paintedOf_7 rfl rfl ?_
      refine to_iload_n (q := 11) rfl dX11_paintedOf_10 rfl ?_
      refine to_aload_n (q := 12) rfl (by decide) dX11_paintedOf_11 rfl ?_
      refine to_getR (q := 15) (b := 143) (k0 := 11) (C := RX11) (T := TX11) (N := 37) (j := 17) rfl fx_X11_26 (h_138 hS) rfl (iv_138_17 hI) dX11_paintedOf_12 rfl ?_
      refine to_iload_n (q := 16) rfl dX11_paintedOf_15 rfl ?_
      obtain ⟨hb2, hf⟩ := ck_some hf
      refine to_iaj (q := 17) (h_143 hS) hb2 (rfl) dX11_paintedOf_16 rfl ?_
      refine to_bipush (q := 19) bp_25 dX11_paintedOf_17 rfl ?_
      by_cases h3 : (m.1 143 x2.toNatClampNeg) = (25 : Int32)
      · have hf := ite_pos h3 hf
        refine to_icF (q := 22) (op := .ne) 26 (fun z => z h3) dX11_paintedOf_19 rfl rfl ?_
        refine to_iconst (q := 23) ic_0 dX11_paintedOf_22 rfl ?_
        refine to_goto (q := 27) dX11_paintedOf_23 rfl ?_
        exact to_ext [(0, .ref 138), (2, .int x2)] (ext_cons rfl (ext_cons rfl ext_nil)) (kX11_paintedOf_27 hS ih hf hI)
      · have hf := ite_neg h3 hf
        refine to_icT (q := 26) (op := .ne) h3 dX11_paintedOf_19 rfl ?_
        refine to_iconst (q := 27) ic_1 dX11_paintedOf_26 rfl ?_
        exact to_ext [(0, .ref 138), (2, .int x2)] (ext_cons rfl (ext_cons rfl ext_nil)) (kX11_paintedOf_27 hS ih hf hI)
def fX11_paintedOf (m : Me) : Option (Int32 × Me) := fX11_paintedOf_4 FU ((0 : Int32)) ((0 : Int32)) m
set_option maxRecDepth 20000 in
theorem kX11_paintedOf {S : Sh} (hS : ShOK S) {res : Int32 × Me} {m : Me} (hf : fX11_paintedOf m = some res) (hI : Inv m) : Call 1 mX11_paintedOf [.ref 138] (S, m) (some (.int res.1)) (S, res.2) ∧ Inv res.2 := by
  refine call_of (P := InvS) (Nat.le_of_ble_eq_true rfl) (by simp [Value.category]) ?_
  show TT InvS (Call 0) mX11_paintedOf (0, [(0, .ref 138)], [], S, m) _ _
  unfold fX11_paintedOf at hf
  refine to_iconst (q := 1) ic_0 dX11_paintedOf_0 rfl ?_
  refine to_istore_n (q := 2) [(1, .int (0 : Int32)), (0, .ref 138)] rfl (by decide) dX11_paintedOf_1 rfl ?_
  refine to_iconst (q := 3) ic_0 dX11_paintedOf_2 rfl ?_
  refine to_istore_n (q := 4) [(2, .int (0 : Int32)), (1, .int (0 : Int32)), (0, .ref 138)] rfl (by decide) dX11_paintedOf_3 rfl ?_
  exact to_ext [(0, .ref 138), (1, .int (0 : Int32)), (2, .int (0 : Int32))] (ext_cons rfl (ext_cons rfl (ext_cons rfl ext_nil))) (kX11_paintedOf_4 hS FU hf hI)
def fX11_painted_23 (t0 : Int32) (m : Me) : Option (Int32 × Me) := some (t0, m)
set_option maxRecDepth 20000 in
theorem kX11_painted_23 {S : Sh} (hS : ShOK S) {res : Int32 × Me} {t0 : Int32} {m : Me} (hf : fX11_painted_23 t0 m = some res) (hI : Inv m) : TT InvS (Call 1) mX11_painted (23, [], [.int t0], S, m) (some (.int res.1)) (S, res.2) := by
  unfold fX11_painted_23 at hf
  cases hf
  exact to_iret dX11_painted_23 rfl rfl rfl rfl hI
def fX11_painted (m : Me) : Option (Int32 × Me) := cl1 (fX11_good m) fun m3 => if (m3.1 138 14) = (0 : Int32) then cl2 (fX11_no (1 : Int32) m3) fun r7 m8 => fX11_painted_23 r7 m8 else cl2 (fX11_paintedOf m3) fun r11 m12 => fX11_painted_23 r11 m12
set_option maxRecDepth 20000 in
theorem kX11_painted {S : Sh} (hS : ShOK S) {res : Int32 × Me} {m : Me} (hf : fX11_painted m = some res) (hI : Inv m) : Call 2 mX11_painted [.ref 138] (S, m) (some (.int res.1)) (S, res.2) ∧ Inv res.2 := by
  refine call_of (P := InvS) (Nat.le_of_ble_eq_true rfl) (by simp [Value.category]) ?_
  show TT InvS (Call 1) mX11_painted (0, [(0, .ref 138)], [], S, m) _ _
  unfold fX11_painted at hf
  refine to_aload_n (q := 1) rfl (by decide) dX11_painted_0 rfl ?_
  obtain ⟨m3, hc1, hf⟩ := cl1_some hf
  have qc2 := kX11_good hS hc1 hI
  refine to_virtV (q := 4) mX11_good [] dX11_painted_1 rfl rfl (Nat.le_of_ble_eq_true rfl) mo_X11_good mv_X11_156 (Or.inl ⟨_, _, _, h_138 hS, rfl, rfl⟩) (Call_mono (by decide) qc2.1) ?_
  have hI := qc2.2
  refine to_aload_n (q := 5) rfl (by decide) dX11_painted_4 rfl ?_
  refine to_getI (q := 8) (k0 := 11) (C := RX11) (T := TX11) (N := 37) (j := 14) rfl fx_X11_169 (h_138 hS) rfl dX11_painted_5 rfl ?_
  by_cases h4 : (m3.1 138 14) = (0 : Int32)
  · have hf := ite_pos h4 hf
    refine to_ifT (q := 18) (op := .eq) h4 dX11_painted_8 rfl ?_
    refine to_aload_n (q := 19) rfl (by decide) dX11_painted_18 rfl ?_
    refine to_iconst (q := 20) ic_1 dX11_painted_19 rfl ?_
    obtain ⟨r7, m8, hc5, hf⟩ := cl2_some hf
    have qc6 := kX11_no hS hc5 hI
    refine to_virtI (q := 23) mX11_no [.int (1 : Int32)] dX11_painted_20 rfl rfl (Nat.le_of_ble_eq_true rfl) mo_X11_no mv_X11_159 (Or.inl ⟨_, _, _, h_138 hS, rfl, rfl⟩) (Call_mono (by decide) qc6.1) ?_
    have hI := qc6.2
    exact to_ext [] ext_nil (kX11_painted_23 hS hf hI)
  · have hf := ite_neg h4 hf
    refine to_ifF (q := 11) (op := .eq) 18 h4 dX11_painted_8 rfl rfl ?_
    refine to_aload_n (q := 12) rfl (by decide) dX11_painted_11 rfl ?_
    obtain ⟨r11, m12, hc9, hf⟩ := cl2_some hf
    have qc10 := kX11_paintedOf hS hc9 hI
    refine to_virtI (q := 15) mX11_paintedOf [] dX11_painted_12 rfl rfl (Nat.le_of_ble_eq_true rfl) mo_X11_paintedOf mv_X11_289 (Or.inl ⟨_, _, _, h_138 hS, rfl, rfl⟩) (Call_mono (by decide) qc10.1) ?_
    have hI := qc10.2
    refine to_goto (q := 23) dX11_painted_15 rfl ?_
    exact to_ext [] ext_nil (kX11_painted_23 hS hf hI)
def fX11_cost_30 (t0 : Int32) (m : Me) : Option (Int32 × Me) := some (t0, m)
set_option maxRecDepth 20000 in
theorem kX11_cost_30 {S : Sh} (hS : ShOK S) {res : Int32 × Me} {t0 : Int32} {m : Me} (hf : fX11_cost_30 t0 m = some res) (hI : Inv m) : TT InvS (Call 1) mX11_cost (30, [], [.int t0], S, m) (some (.int res.1)) (S, res.2) := by
  unfold fX11_cost_30 at hf
  cases hf
  exact to_iret dX11_cost_30 rfl rfl rfl rfl hI
def fX11_cost (m : Me) : Option (Int32 × Me) := cl1 (fX11_good m) fun m3 => if (m3.1 138 14) = (0 : Int32) then cl2 (fX11_no (1 : Int32) m3) fun r7 m8 => fX11_cost_30 r7 m8 else cl2 (fX11_paintedOf m3) fun r11 m12 => fX11_cost_30 (((m3.1 141 2) * r11)) m12
set_option maxRecDepth 20000 in
theorem kX11_cost {S : Sh} (hS : ShOK S) {res : Int32 × Me} {m : Me} (hf : fX11_cost m = some res) (hI : Inv m) : Call 2 mX11_cost [.ref 138] (S, m) (some (.int res.1)) (S, res.2) ∧ Inv res.2 := by
  refine call_of (P := InvS) (Nat.le_of_ble_eq_true rfl) (by simp [Value.category]) ?_
  show TT InvS (Call 1) mX11_cost (0, [(0, .ref 138)], [], S, m) _ _
  unfold fX11_cost at hf
  refine to_aload_n (q := 1) rfl (by decide) dX11_cost_0 rfl ?_
  obtain ⟨m3, hc1, hf⟩ := cl1_some hf
  have qc2 := kX11_good hS hc1 hI
  refine to_virtV (q := 4) mX11_good [] dX11_cost_1 rfl rfl (Nat.le_of_ble_eq_true rfl) mo_X11_good mv_X11_156 (Or.inl ⟨_, _, _, h_138 hS, rfl, rfl⟩) (Call_mono (by decide) qc2.1) ?_
  have hI := qc2.2
  refine to_aload_n (q := 5) rfl (by decide) dX11_cost_4 rfl ?_
  refine to_getI (q := 8) (k0 := 11) (C := RX11) (T := TX11) (N := 37) (j := 14) rfl fx_X11_169 (h_138 hS) rfl dX11_cost_5 rfl ?_
  by_cases h4 : (m3.1 138 14) = (0 : Int32)
  · have hf := ite_pos h4 hf
    refine to_ifT (q := 25) (op := .eq) h4 dX11_cost_8 rfl ?_
    refine to_aload_n (q := 26) rfl (by decide) dX11_cost_25 rfl ?_
    refine to_iconst (q := 27) ic_1 dX11_cost_26 rfl ?_
    obtain ⟨r7, m8, hc5, hf⟩ := cl2_some hf
    have qc6 := kX11_no hS hc5 hI
    refine to_virtI (q := 30) mX11_no [.int (1 : Int32)] dX11_cost_27 rfl rfl (Nat.le_of_ble_eq_true rfl) mo_X11_no mv_X11_159 (Or.inl ⟨_, _, _, h_138 hS, rfl, rfl⟩) (Call_mono (by decide) qc6.1) ?_
    have hI := qc6.2
    exact to_ext [] ext_nil (kX11_cost_30 hS hf hI)
  · have hf := ite_neg h4 hf
    refine to_ifF (q := 11) (op := .eq) 25 h4 dX11_cost_8 rfl rfl ?_
    refine to_aload_n (q := 12) rfl (by decide) dX11_cost_11 rfl ?_
    refine to_getR (q := 15) (b := 141) (k0 := 11) (C := RX11) (T := TX11) (N := 37) (j := 15) rfl fx_X11_20 (h_138 hS) rfl (iv_138_15 hI) dX11_cost_12 rfl ?_
    refine to_iconst (q := 16) ic_2 dX11_cost_15 rfl ?_
    refine to_iaj (q := 17) (h_141 hS) (by decide) (tn_2) dX11_cost_16 rfl ?_
    refine to_aload_n (q := 18) rfl (by decide) dX11_cost_17 rfl ?_
    obtain ⟨r11, m12, hc9, hf⟩ := cl2_some hf
    have qc10 := kX11_paintedOf hS hc9 hI
    refine to_virtI (q := 21) mX11_paintedOf [] dX11_cost_18 rfl rfl (Nat.le_of_ble_eq_true rfl) mo_X11_paintedOf mv_X11_289 (Or.inl ⟨_, _, _, h_138 hS, rfl, rfl⟩) (Call_mono (by decide) qc10.1) ?_
    have hI := qc10.2
    refine to_imul (q := 22) dX11_cost_21 rfl ?_
    refine to_goto (q := 30) dX11_cost_22 rfl ?_
    exact to_ext [] ext_nil (kX11_cost_30 hS hf hI)
def fX11_stands_79 (x6 : Int32) (m : Me) : Option (Int32 × Me) := ck (x6 = 0 ∨ x6 = 1) (some (x6, m))
set_option maxRecDepth 20000 in
theorem kX11_stands_79 {S : Sh} (hS : ShOK S) {res : Int32 × Me} {x6 : Int32} {m : Me} (hf : fX11_stands_79 x6 m = some res) (hI : Inv m) : TT InvS (Call 1) mX11_stands (79, [(6, .int x6)], [], S, m) (some (.int res.1)) (S, res.2) := by
  unfold fX11_stands_79 at hf
  refine to_iload (q := 81) rfl dX11_stands_79 rfl ?_
  obtain ⟨hz12, hf⟩ := ck_some hf
  cases hf
  exact to_iret dX11_stands_81 rfl (nf_Z hz12).1 rfl rfl hI
def fX11_stands_71 (k19 : Int32 → Int32 → Int32 → Int32 → Int32 → Int32 → Me → Option (Int32 × Me)) (x1 : Int32) (x2 : Int32) (x3 : Int32) (x4 : Int32) (x7 : Int32) (t0 : Int32) (m : Me) : Option (Int32 × Me) := k19 x1 x2 x3 x4 t0 ((x7 + (1 : Int32))) m
set_option maxRecDepth 20000 in
theorem kX11_stands_71 {S : Sh} (hS : ShOK S) {res : Int32 × Me} {k19 : Int32 → Int32 → Int32 → Int32 → Int32 → Int32 → Me → Option (Int32 × Me)} (hk19 : ∀ {x1 : Int32} {x2 : Int32} {x3 : Int32} {x4 : Int32} {x6 : Int32} {x7 : Int32} {m : Me}, k19 x1 x2 x3 x4 x6 x7 m = some res → Inv m → TT InvS (Call 1) mX11_stands (19, [(0, .ref 138), (1, .int x1), (2, .int x2), (3, .int x3), (4, .int x4), (6, .int x6), (7, .int x7)], [], S, m) (some (.int res.1)) (S, res.2)) {x1 : Int32} {x2 : Int32} {x3 : Int32} {x4 : Int32} {x7 : Int32} {t0 : Int32} {m : Me} (hf : fX11_stands_71 k19 x1 x2 x3 x4 x7 t0 m = some res) (hI : Inv m) : TT InvS (Call 1) mX11_stands (71, [(0, .ref 138), (1, .int x1), (2, .int x2), (3, .int x3), (4, .int x4), (7, .int x7)], [.int t0], S, m) (some (.int res.1)) (S, res.2) := by
  unfold fX11_stands_71 at hf
  refine to_istore (q := 73) [(6, .int t0), (0, .ref 138), (1, .int x1), (2, .int x2), (3, .int x3), (4, .int x4), (7, .int x7)] rfl (by decide) dX11_stands_71 rfl ?_
  refine to_iinc (q := 76) (v := (x7 + (1 : Int32))) rfl (congrArg (fun z => x7 + z) ic_1) [(7, .int (x7 + (1 : Int32))), (6, .int t0), (0, .ref 138), (1, .int x1), (2, .int x2), (3, .int x3), (4, .int x4)] rfl (by decide) dX11_stands_73 rfl ?_
  refine to_goto (q := 19) dX11_stands_76 rfl ?_
  exact to_ext [(0, .ref 138), (1, .int x1), (2, .int x2), (3, .int x3), (4, .int x4), (6, .int t0), (7, .int (x7 + (1 : Int32)))] (ext_cons rfl (ext_cons rfl (ext_cons rfl (ext_cons rfl (ext_cons rfl (ext_cons rfl (ext_cons rfl ext_nil))))))) (hk19 hf hI)
def fX11_stands_70 (k19 : Int32 → Int32 → Int32 → Int32 → Int32 → Int32 → Me → Option (Int32 × Me)) (x1 : Int32) (x2 : Int32) (x3 : Int32) (x4 : Int32) (x7 : Int32) (m : Me) : Option (Int32 × Me) := fX11_stands_71 k19 x1 x2 x3 x4 x7 ((0 : Int32)) m
set_option maxRecDepth 20000 in
theorem kX11_stands_70 {S : Sh} (hS : ShOK S) {res : Int32 × Me} {k19 : Int32 → Int32 → Int32 → Int32 → Int32 → Int32 → Me → Option (Int32 × Me)} (hk19 : ∀ {x1 : Int32} {x2 : Int32} {x3 : Int32} {x4 : Int32} {x6 : Int32} {x7 : Int32} {m : Me}, k19 x1 x2 x3 x4 x6 x7 m = some res → Inv m → TT InvS (Call 1) mX11_stands (19, [(0, .ref 138), (1, .int x1), (2, .int x2), (3, .int x3), (4, .int x4), (6, .int x6), (7, .int x7)], [], S, m) (some (.int res.1)) (S, res.2)) {x1 : Int32} {x2 : Int32} {x3 : Int32} {x4 : Int32} {x7 : Int32} {m : Me} (hf : fX11_stands_70 k19 x1 x2 x3 x4 x7 m = some res) (hI : Inv m) : TT InvS (Call 1) mX11_stands (70, [(0, .ref 138), (1, .int x1), (2, .int x2), (3, .int x3), (4, .int x4), (7, .int x7)], [], S, m) (some (.int res.1)) (S, res.2) := by
  unfold fX11_stands_70 at hf
  refine to_iconst (q := 71) ic_0 dX11_stands_70 rfl ?_
  exact to_ext [(0, .ref 138), (1, .int x1), (2, .int x2), (3, .int x3), (4, .int x4), (7, .int x7)] (ext_cons rfl (ext_cons rfl (ext_cons rfl (ext_cons rfl (ext_cons rfl (ext_cons rfl ext_nil)))))) (kX11_stands_71 hS hk19 hf hI)
def fX11_stands_19 (n : Nat) (x1 : Int32) (x2 : Int32) (x3 : Int32) (x4 : Int32) (x6 : Int32) (x7 : Int32) (m : Me) : Option (Int32 × Me) := match n with
  | 0 => none
  | n + 1 => if x2 ≤ x7 then fX11_stands_79 x6 m else if x6 = (0 : Int32) then fX11_stands_79 x6 m else ck (inb (x1 + x7) 186) (if (m.1 141 (x1 + x7).toNatClampNeg) = (25 : Int32) then fX11_stands_70 (fX11_stands_19 n) x1 x2 x3 x4 x7 m else cl2 (fX11_letterAt x3 (x4 + x7) m) fun r8 m9 => ck (inb (x1 + x7) 186) (if r8 = (m9.1 141 (x1 + x7).toNatClampNeg) then fX11_stands_71 (fX11_stands_19 n) x1 x2 x3 x4 x7 ((1 : Int32)) m9 else fX11_stands_70 (fX11_stands_19 n) x1 x2 x3 x4 x7 m9))
set_option maxRecDepth 20000 in
theorem kX11_stands_19 {S : Sh} (hS : ShOK S) {res : Int32 × Me} (n : Nat) : ∀ {x1 : Int32} {x2 : Int32} {x3 : Int32} {x4 : Int32} {x6 : Int32} {x7 : Int32} {m : Me}, fX11_stands_19 n x1 x2 x3 x4 x6 x7 m = some res → Inv m → TT InvS (Call 1) mX11_stands (19, [(0, .ref 138), (1, .int x1), (2, .int x2), (3, .int x3), (4, .int x4), (6, .int x6), (7, .int x7)], [], S, m) (some (.int res.1)) (S, res.2) := by
  induction n with
  | zero => intro x1 x2 x3 x4 x6 x7 m hf; cases hf
  | succ n ih =>
    intro x1 x2 x3 x4 x6 x7 m hf  hI
    unfold fX11_stands_19 at hf
    refine to_iload (q := 21) rfl dX11_stands_19 rfl ?_
    refine to_iload_n (q := 22) rfl dX11_stands_21 rfl ?_
    by_cases h2 : x2 ≤ x7
    · have hf := ite_pos h2 hf
      refine to_icT (q := 79) (op := .ge) h2 dX11_stands_22 rfl ?_
      exact to_ext [(6, .int x6)] (ext_cons rfl ext_nil) (kX11_stands_79 hS hf hI)
    · have hf := ite_neg h2 hf
      refine to_icF (q := 25) (op := .ge) 79 h2 dX11_stands_22 rfl rfl ?_
      refine to_iload (q := 27) rfl dX11_stands_25 rfl ?_
      by_cases h3 : x6 = (0 : Int32)
      · have hf := ite_pos h3 hf
        refine to_ifT (q := 79) (op := .eq) h3 dX11_stands_27 rfl ?_
        exact to_ext [(6, .int x6)] (ext_cons rfl ext_nil) (kX11_stands_79 hS hf hI)
      · have hf := ite_neg h3 hf
        refine to_ifF (q := 30) (op := .eq) 79 h3 dX11_stands_27 rfl rfl ?_
        refine to_aload_n (q := 31) rfl (by decide) dX11_stands_30 rfl ?_
        refine to_getR (q := 34) (b := 141) (k0 := 11) (C := RX11) (T := TX11) (N := 37) (j := 15) rfl fx_X11_20 (h_138 hS) rfl (iv_138_15 hI) dX11_stands_31 rfl ?_
        refine to_iload_n (q := 35) rfl dX11_stands_34 rfl ?_
        refine to_iload (q := 37) rfl dX11_stands_35 rfl ?_
        refine to_iadd (q := 38) dX11_stands_37 rfl ?_
        obtain ⟨hb4, hf⟩ := ck_some hf
        refine to_iaj (q := 39) (h_141 hS) hb4 (rfl) dX11_stands_38 rfl ?_
        refine to_bipush (q := 41) bp_25 dX11_stands_39 rfl ?_
        by_cases h5 : (m.1 141 (x1 + x7).toNatClampNeg) = (25 : Int32)
        · have hf := ite_pos h5 hf
          refine to_icT (q := 70) (op := .eq) h5 dX11_stands_41 rfl ?_
          exact to_ext [(0, .ref 138), (1, .int x1), (2, .int x2), (3, .int x3), (4, .int x4), (7, .int x7)] (ext_cons rfl (ext_cons rfl (ext_cons rfl (ext_cons rfl (ext_cons rfl (ext_cons rfl ext_nil)))))) (kX11_stands_70 hS ih hf hI)
        · have hf := ite_neg h5 hf
          refine to_icF (q := 44) (op := .eq) 70 h5 dX11_stands_41 rfl rfl ?_
          refine to_aload_n (q := 45) rfl (by decide) dX11_stands_44 rfl ?_
          refine to_iload_n (q := 46) rfl dX11_stands_45 rfl ?_
          refine to_iload (q := 48) rfl dX11_stands_46 rfl ?_
          refine to_iload (q := 50) rfl dX11_stands_48 rfl ?_
          refine to_iadd (q := 51) dX11_stands_50 rfl ?_
          obtain ⟨r8, m9, hc6, hf⟩ := cl2_some hf
          have qc7 := kX11_letterAt hS hc6 hI
          refine to_virtI (q := 54) mX11_letterAt [.int x3, .int (x4 + x7)] dX11_stands_51 rfl rfl (Nat.le_of_ble_eq_true rfl) mo_X11_letterAt mv_X11_286 (Or.inl ⟨_, _, _, h_138 hS, rfl, rfl⟩) (Call_mono (by decide) qc7.1) ?_
          have hI := qc7.2
          refine to_aload_n (q := 55) rfl (by decide) dX11_stands_54 rfl ?_
          refine to_getR (q := 58) (b := 141) (k0 := 11) (C := RX11) (T := TX11) (N := 37) (j := 15) rfl fx_X11_20 (h_138 hS) rfl (iv_138_15 hI) dX11_stands_55 rfl ?_
          refine to_iload_n (q := 59) rfl dX11_stands_58 rfl ?_
          refine to_iload (q := 61) rfl dX11_stands_59 rfl ?_
          refine to_iadd (q := 62) dX11_stands_61 rfl ?_
          obtain ⟨hb10, hf⟩ := ck_some hf
          refine to_iaj (q := 63) (h_141 hS) hb10 (rfl) dX11_stands_62 rfl ?_
          by_cases h11 : r8 = (m9.1 141 (x1 + x7).toNatClampNeg)
          · have hf := ite_pos h11 hf
            refine to_icF (q := 66) (op := .ne) 70 (fun z => z h11) dX11_stands_63 rfl rfl ?_
            refine to_iconst (q := 67) ic_1 dX11_stands_66 rfl ?_
            refine to_goto (q := 71) dX11_stands_67 rfl ?_
            exact to_ext [(0, .ref 138), (1, .int x1), (2, .int x2), (3, .int x3), (4, .int x4), (7, .int x7)] (ext_cons rfl (ext_cons rfl (ext_cons rfl (ext_cons rfl (ext_cons rfl (ext_cons rfl ext_nil)))))) (kX11_stands_71 hS ih hf hI)
          · have hf := ite_neg h11 hf
            refine to_icT (q := 70) (op := .ne) h11 dX11_stands_63 rfl ?_
            exact to_ext [(0, .ref 138), (1, .int x1), (2, .int x2), (3, .int x3), (4, .int x4), (7, .int x7)] (ext_cons rfl (ext_cons rfl (ext_cons rfl (ext_cons rfl (ext_cons rfl (ext_cons rfl ext_nil)))))) (kX11_stands_70 hS ih hf hI)
def fX11_stands_14 (x1 : Int32) (x2 : Int32) (x3 : Int32) (x4 : Int32) (t0 : Int32) (m : Me) : Option (Int32 × Me) := fX11_stands_19 FU x1 x2 x3 x4 t0 ((0 : Int32)) m
set_option maxRecDepth 20000 in
theorem kX11_stands_14 {S : Sh} (hS : ShOK S) {res : Int32 × Me} {x1 : Int32} {x2 : Int32} {x3 : Int32} {x4 : Int32} {t0 : Int32} {m : Me} (hf : fX11_stands_14 x1 x2 x3 x4 t0 m = some res) (hI : Inv m) : TT InvS (Call 1) mX11_stands (14, [(0, .ref 138), (1, .int x1), (2, .int x2), (3, .int x3), (4, .int x4)], [.int t0], S, m) (some (.int res.1)) (S, res.2) := by
  unfold fX11_stands_14 at hf
  refine to_istore (q := 16) [(6, .int t0), (0, .ref 138), (1, .int x1), (2, .int x2), (3, .int x3), (4, .int x4)] rfl (by decide) dX11_stands_14 rfl ?_
  refine to_iconst (q := 17) ic_0 dX11_stands_16 rfl ?_
  refine to_istore (q := 19) [(7, .int (0 : Int32)), (6, .int t0), (0, .ref 138), (1, .int x1), (2, .int x2), (3, .int x3), (4, .int x4)] rfl (by decide) dX11_stands_17 rfl ?_
  exact to_ext [(0, .ref 138), (1, .int x1), (2, .int x2), (3, .int x3), (4, .int x4), (6, .int t0), (7, .int (0 : Int32))] (ext_cons rfl (ext_cons rfl (ext_cons rfl (ext_cons rfl (ext_cons rfl (ext_cons rfl (ext_cons rfl ext_nil))))))) (kX11_stands_19 hS FU hf hI)
def fX11_stands (x1 : Int32) (x2 : Int32) (x3 : Int32) (x4 : Int32) (x5 : Int32) (m : Me) : Option (Int32 × Me) := if x5 < (x4 + x2) then fX11_stands_14 x1 x2 x3 x4 ((0 : Int32)) m else fX11_stands_14 x1 x2 x3 x4 ((1 : Int32)) m
set_option maxRecDepth 20000 in
theorem kX11_stands {S : Sh} (hS : ShOK S) {res : Int32 × Me} {x1 : Int32} {x2 : Int32} {x3 : Int32} {x4 : Int32} {x5 : Int32} {m : Me} (hf : fX11_stands x1 x2 x3 x4 x5 m = some res) (hI : Inv m) : Call 2 mX11_stands [.ref 138, .int x1, .int x2, .int x3, .int x4, .int x5] (S, m) (some (.int res.1)) (S, res.2) ∧ Inv res.2 := by
  refine call_of (P := InvS) (Nat.le_of_ble_eq_true rfl) (by simp [Value.category]) ?_
  show TT InvS (Call 1) mX11_stands (0, [(0, .ref 138), (1, .int x1), (2, .int x2), (3, .int x3), (4, .int x4), (5, .int x5)], [], S, m) _ _
  unfold fX11_stands at hf
  refine to_iload (q := 2) rfl dX11_stands_0 rfl ?_
  refine to_iload_n (q := 3) rfl dX11_stands_2 rfl ?_
  refine to_iadd (q := 4) dX11_stands_3 rfl ?_
  refine to_iload (q := 6) rfl dX11_stands_4 rfl ?_
  by_cases h1 : x5 < (x4 + x2)
  · have hf := ite_pos h1 hf
    refine to_icT (q := 13) (op := .gt) h1 dX11_stands_6 rfl ?_
    refine to_iconst (q := 14) ic_0 dX11_stands_13 rfl ?_
    exact to_ext [(0, .ref 138), (1, .int x1), (2, .int x2), (3, .int x3), (4, .int x4)] (ext_cons rfl (ext_cons rfl (ext_cons rfl (ext_cons rfl (ext_cons rfl ext_nil))))) (kX11_stands_14 hS hf hI)
  · have hf := ite_neg h1 hf
    refine to_icF (q := 9) (op := .gt) 13 h1 dX11_stands_6 rfl rfl ?_
    refine to_iconst (q := 10) ic_1 dX11_stands_9 rfl ?_
    refine to_goto (q := 14) dX11_stands_10 rfl ?_
    exact to_ext [(0, .ref 138), (1, .int x1), (2, .int x2), (3, .int x3), (4, .int x4)] (ext_cons rfl (ext_cons rfl (ext_cons rfl (ext_cons rfl (ext_cons rfl ext_nil))))) (kX11_stands_14 hS hf hI)
def fX11_readsOf_72 (k27 : Int32 → Int32 → Int32 → Int32 → Int32 → Int32 → Me → Option (Int32 × Me)) (x1 : Int32) (x2 : Int32) (x3 : Int32) (x6 : Int32) (x7 : Int32) (x8 : Int32) (m : Me) : Option (Int32 × Me) := k27 x1 x2 x3 x6 x7 ((x8 + (1 : Int32))) m
set_option maxRecDepth 20000 in
theorem kX11_readsOf_72 {S : Sh} (hS : ShOK S) {res : Int32 × Me} {k27 : Int32 → Int32 → Int32 → Int32 → Int32 → Int32 → Me → Option (Int32 × Me)} (hk27 : ∀ {x1 : Int32} {x2 : Int32} {x3 : Int32} {x6 : Int32} {x7 : Int32} {x8 : Int32} {m : Me}, k27 x1 x2 x3 x6 x7 x8 m = some res → Inv m → TT InvS (Call 2) mX11_readsOf (27, [(0, .ref 138), (1, .int x1), (2, .int x2), (3, .int x3), (6, .int x6), (7, .int x7), (8, .int x8)], [], S, m) (some (.int res.1)) (S, res.2)) {x1 : Int32} {x2 : Int32} {x3 : Int32} {x6 : Int32} {x7 : Int32} {x8 : Int32} {m : Me} (hf : fX11_readsOf_72 k27 x1 x2 x3 x6 x7 x8 m = some res) (hI : Inv m) : TT InvS (Call 2) mX11_readsOf (72, [(0, .ref 138), (1, .int x1), (2, .int x2), (3, .int x3), (6, .int x6), (7, .int x7), (8, .int x8)], [], S, m) (some (.int res.1)) (S, res.2) := by
  unfold fX11_readsOf_72 at hf
  refine to_iinc (q := 75) (v := (x8 + (1 : Int32))) rfl (congrArg (fun z => x8 + z) ic_1) [(8, .int (x8 + (1 : Int32))), (0, .ref 138), (1, .int x1), (2, .int x2), (3, .int x3), (6, .int x6), (7, .int x7)] rfl (by decide) dX11_readsOf_72 rfl ?_
  refine to_goto (q := 27) dX11_readsOf_75 rfl ?_
  exact to_ext [(0, .ref 138), (1, .int x1), (2, .int x2), (3, .int x3), (6, .int x6), (7, .int x7), (8, .int (x8 + (1 : Int32)))] (ext_cons rfl (ext_cons rfl (ext_cons rfl (ext_cons rfl (ext_cons rfl (ext_cons rfl (ext_cons rfl ext_nil))))))) (hk27 hf hI)
def fX11_readsOf_66 (k27 : Int32 → Int32 → Int32 → Int32 → Int32 → Int32 → Me → Option (Int32 × Me)) (x1 : Int32) (x2 : Int32) (x3 : Int32) (x6 : Int32) (x7 : Int32) (x8 : Int32) (t0 : Int32) (m : Me) : Option (Int32 × Me) := fX11_readsOf_72 k27 x1 x2 x3 x6 ((x7 + (1 : Int32))) x8 (setI m 138 25 t0)
set_option maxRecDepth 20000 in
theorem kX11_readsOf_66 {S : Sh} (hS : ShOK S) {res : Int32 × Me} {k27 : Int32 → Int32 → Int32 → Int32 → Int32 → Int32 → Me → Option (Int32 × Me)} (hk27 : ∀ {x1 : Int32} {x2 : Int32} {x3 : Int32} {x6 : Int32} {x7 : Int32} {x8 : Int32} {m : Me}, k27 x1 x2 x3 x6 x7 x8 m = some res → Inv m → TT InvS (Call 2) mX11_readsOf (27, [(0, .ref 138), (1, .int x1), (2, .int x2), (3, .int x3), (6, .int x6), (7, .int x7), (8, .int x8)], [], S, m) (some (.int res.1)) (S, res.2)) {x1 : Int32} {x2 : Int32} {x3 : Int32} {x6 : Int32} {x7 : Int32} {x8 : Int32} {t0 : Int32} {m : Me} (hf : fX11_readsOf_66 k27 x1 x2 x3 x6 x7 x8 t0 m = some res) (hI : Inv m) : TT InvS (Call 2) mX11_readsOf (66, [(0, .ref 138), (1, .int x1), (2, .int x2), (3, .int x3), (6, .int x6), (7, .int x7), (8, .int x8)], [.int t0, .ref 138], S, m) (some (.int res.1)) (S, res.2) := by
  unfold fX11_readsOf_66 at hf
  refine to_putI (q := 69) (ty := .int) (k0 := 11) (C := RX11) (T := TX11) (N := 37) (j := 25) rfl fx_X11_292 (h_138 hS) rfl pD_I (Or.inl rfl) (nf_I _) dX11_readsOf_66 rfl ?_
  refine to_iinc (q := 72) (v := (x7 + (1 : Int32))) rfl (congrArg (fun z => x7 + z) ic_1) [(7, .int (x7 + (1 : Int32))), (0, .ref 138), (1, .int x1), (2, .int x2), (3, .int x3), (6, .int x6), (8, .int x8)] rfl (by decide) dX11_readsOf_69 rfl ?_
  exact to_ext [(0, .ref 138), (1, .int x1), (2, .int x2), (3, .int x3), (6, .int x6), (7, .int (x7 + (1 : Int32))), (8, .int x8)] (ext_cons rfl (ext_cons rfl (ext_cons rfl (ext_cons rfl (ext_cons rfl (ext_cons rfl (ext_cons rfl ext_nil))))))) (kX11_readsOf_72 hS hk27 hf hI)
def fX11_readsOf_27 (n : Nat) (x1 : Int32) (x2 : Int32) (x3 : Int32) (x6 : Int32) (x7 : Int32) (x8 : Int32) (m : Me) : Option (Int32 × Me) := match n with
  | 0 => none
  | n + 1 => if x6 ≤ x8 then some (x7, m) else cl2 (fX11_stands x1 x2 x3 x8 x6 m) fun r8 m9 => if r8 = (0 : Int32) then fX11_readsOf_72 (fX11_readsOf_27 n) x1 x2 x3 x6 x7 x8 m9 else if x7 = (0 : Int32) then fX11_readsOf_66 (fX11_readsOf_27 n) x1 x2 x3 x6 x7 x8 x8 m9 else fX11_readsOf_66 (fX11_readsOf_27 n) x1 x2 x3 x6 x7 x8 ((m9.1 138 25)) m9
set_option maxRecDepth 20000 in
theorem kX11_readsOf_27 {S : Sh} (hS : ShOK S) {res : Int32 × Me} (n : Nat) : ∀ {x1 : Int32} {x2 : Int32} {x3 : Int32} {x6 : Int32} {x7 : Int32} {x8 : Int32} {m : Me}, fX11_readsOf_27 n x1 x2 x3 x6 x7 x8 m = some res → Inv m → TT InvS (Call 2) mX11_readsOf (27, [(0, .ref 138), (1, .int x1), (2, .int x2), (3, .int x3), (6, .int x6), (7, .int x7), (8, .int x8)], [], S, m) (some (.int res.1)) (S, res.2) := by
  induction n with
  | zero => intro x1 x2 x3 x6 x7 x8 m hf; cases hf
  | succ n ih =>
    intro x1 x2 x3 x6 x7 x8 m hf  hI
    unfold fX11_readsOf_27 at hf
    refine to_iload (q := 29) rfl dX11_readsOf_27 rfl ?_
    refine to_iload (q := 31) rfl dX11_readsOf_29 rfl ?_
    by_cases h5 : x6 ≤ x8
    · have hf := ite_pos h5 hf
      refine to_icT (q := 78) (op := .ge) h5 dX11_readsOf_31 rfl ?_
      refine to_iload (q := 80) rfl dX11_readsOf_78 rfl ?_
      cases hf
      exact to_iret dX11_readsOf_80 rfl rfl rfl rfl hI
    · have hf := ite_neg h5 hf
      refine to_icF (q := 34) (op := .ge) 78 h5 dX11_readsOf_31 rfl rfl ?_
      refine to_aload_n (q := 35) rfl (by decide) dX11_readsOf_34 rfl ?_
      refine to_iload_n (q := 36) rfl dX11_readsOf_35 rfl ?_
      refine to_iload_n (q := 37) rfl dX11_readsOf_36 rfl ?_
      refine to_iload_n (q := 38) rfl dX11_readsOf_37 rfl ?_
      refine to_iload (q := 40) rfl dX11_readsOf_38 rfl ?_
      refine to_iload (q := 42) rfl dX11_readsOf_40 rfl ?_
      obtain ⟨r8, m9, hc6, hf⟩ := cl2_some hf
      have qc7 := kX11_stands hS hc6 hI
      refine to_virtI (q := 45) mX11_stands [.int x1, .int x2, .int x3, .int x8, .int x6] dX11_readsOf_42 rfl rfl (Nat.le_of_ble_eq_true rfl) mo_X11_stands mv_X11_295 (Or.inl ⟨_, _, _, h_138 hS, rfl, rfl⟩) (Call_mono (by decide) qc7.1) ?_
      have hI := qc7.2
      by_cases h10 : r8 = (0 : Int32)
      · have hf := ite_pos h10 hf
        refine to_ifF (q := 48) (op := .ne) 51 (fun z => z h10) dX11_readsOf_45 rfl rfl ?_
        refine to_goto (q := 72) dX11_readsOf_48 rfl ?_
        exact to_ext [(0, .ref 138), (1, .int x1), (2, .int x2), (3, .int x3), (6, .int x6), (7, .int x7), (8, .int x8)] (ext_cons rfl (ext_cons rfl (ext_cons rfl (ext_cons rfl (ext_cons rfl (ext_cons rfl (ext_cons rfl ext_nil))))))) (kX11_readsOf_72 hS ih hf hI)
      · have hf := ite_neg h10 hf
        refine to_ifT (q := 51) (op := .ne) h10 dX11_readsOf_45 rfl ?_
        refine to_aload_n (q := 52) rfl (by decide) dX11_readsOf_51 rfl ?_
        refine to_iload (q := 54) rfl dX11_readsOf_52 rfl ?_
        by_cases h11 : x7 = (0 : Int32)
        · have hf := ite_pos h11 hf
          refine to_ifF (q := 57) (op := .ne) 62 (fun z => z h11) dX11_readsOf_54 rfl rfl ?_
          refine to_iload (q := 59) rfl dX11_readsOf_57 rfl ?_
          refine to_goto (q := 66) dX11_readsOf_59 rfl ?_
          exact to_ext [(0, .ref 138), (1, .int x1), (2, .int x2), (3, .int x3), (6, .int x6), (7, .int x7), (8, .int x8)] (ext_cons rfl (ext_cons rfl (ext_cons rfl (ext_cons rfl (ext_cons rfl (ext_cons rfl (ext_cons rfl ext_nil))))))) (kX11_readsOf_66 hS ih hf hI)
        · have hf := ite_neg h11 hf
          refine to_ifT (q := 62) (op := .ne) h11 dX11_readsOf_54 rfl ?_
          refine to_aload_n (q := 63) rfl (by decide) dX11_readsOf_62 rfl ?_
          refine to_getI (q := 66) (k0 := 11) (C := RX11) (T := TX11) (N := 37) (j := 25) rfl fx_X11_292 (h_138 hS) rfl dX11_readsOf_63 rfl ?_
          exact to_ext [(0, .ref 138), (1, .int x1), (2, .int x2), (3, .int x3), (6, .int x6), (7, .int x7), (8, .int x8)] (ext_cons rfl (ext_cons rfl (ext_cons rfl (ext_cons rfl (ext_cons rfl (ext_cons rfl (ext_cons rfl ext_nil))))))) (kX11_readsOf_66 hS ih hf hI)
def fX11_readsOf (x1 : Int32) (x2 : Int32) (x3 : Int32) (x4 : Int32) (x5 : Int32) (m : Me) : Option (Int32 × Me) := cl2 (fX11_lay 141 x3 x4 x5 m) fun r3 m4 => fX11_readsOf_27 FU x1 x2 x3 r3 ((0 : Int32)) ((0 : Int32)) (setI m4 138 25 (-2 : Int32))
set_option maxRecDepth 20000 in
theorem kX11_readsOf {S : Sh} (hS : ShOK S) {res : Int32 × Me} {x1 : Int32} {x2 : Int32} {x3 : Int32} {x4 : Int32} {x5 : Int32} {m : Me} (hf : fX11_readsOf x1 x2 x3 x4 x5 m = some res) (hI : Inv m) : Call 3 mX11_readsOf [.ref 138, .int x1, .int x2, .int x3, .int x4, .int x5] (S, m) (some (.int res.1)) (S, res.2) ∧ Inv res.2 := by
  refine call_of (P := InvS) (Nat.le_of_ble_eq_true rfl) (by simp [Value.category]) ?_
  show TT InvS (Call 2) mX11_readsOf (0, [(0, .ref 138), (1, .int x1), (2, .int x2), (3, .int x3), (4, .int x4), (5, .int x5)], [], S, m) _ _
  unfold fX11_readsOf at hf
  refine to_aload_n (q := 1) rfl (by decide) dX11_readsOf_0 rfl ?_
  refine to_aload_n (q := 2) rfl (by decide) dX11_readsOf_1 rfl ?_
  refine to_getR (q := 5) (b := 141) (k0 := 11) (C := RX11) (T := TX11) (N := 37) (j := 15) rfl fx_X11_20 (h_138 hS) rfl (iv_138_15 hI) dX11_readsOf_2 rfl ?_
  refine to_iload_n (q := 6) rfl dX11_readsOf_5 rfl ?_
  refine to_iload (q := 8) rfl dX11_readsOf_6 rfl ?_
  refine to_iload (q := 10) rfl dX11_readsOf_8 rfl ?_
  obtain ⟨r3, m4, hc1, hf⟩ := cl2_some hf
  have qc2 := kX11_lay hS hc1 rfl hI
  refine to_virtI (q := 13) mX11_lay [.ref 141, .int x3, .int x4, .int x5] dX11_readsOf_10 rfl rfl (Nat.le_of_ble_eq_true rfl) mo_X11_lay mv_X11_245 (Or.inl ⟨_, _, _, h_138 hS, rfl, rfl⟩) (Call_mono (by decide) qc2.1) ?_
  have hI := qc2.2
  refine to_istore (q := 15) [(6, .int r3), (0, .ref 138), (1, .int x1), (2, .int x2), (3, .int x3), (4, .int x4), (5, .int x5)] rfl (by decide) dX11_readsOf_13 rfl ?_
  refine to_iconst (q := 16) ic_0 dX11_readsOf_15 rfl ?_
  refine to_istore (q := 18) [(7, .int (0 : Int32)), (6, .int r3), (0, .ref 138), (1, .int x1), (2, .int x2), (3, .int x3), (4, .int x4), (5, .int x5)] rfl (by decide) dX11_readsOf_16 rfl ?_
  refine to_aload_n (q := 19) rfl (by decide) dX11_readsOf_18 rfl ?_
  refine to_bipush (q := 21) bp_m2 dX11_readsOf_19 rfl ?_
  refine to_putI (q := 24) (ty := .int) (k0 := 11) (C := RX11) (T := TX11) (N := 37) (j := 25) rfl fx_X11_292 (h_138 hS) rfl pD_I (Or.inl rfl) (nf_I _) dX11_readsOf_21 rfl ?_
  refine to_iconst (q := 25) ic_0 dX11_readsOf_24 rfl ?_
  refine to_istore (q := 27) [(8, .int (0 : Int32)), (7, .int (0 : Int32)), (6, .int r3), (0, .ref 138), (1, .int x1), (2, .int x2), (3, .int x3), (4, .int x4), (5, .int x5)] rfl (by decide) dX11_readsOf_25 rfl ?_
  exact to_ext [(0, .ref 138), (1, .int x1), (2, .int x2), (3, .int x3), (6, .int r3), (7, .int (0 : Int32)), (8, .int (0 : Int32))] (ext_cons rfl (ext_cons rfl (ext_cons rfl (ext_cons rfl (ext_cons rfl (ext_cons rfl (ext_cons rfl ext_nil))))))) (kX11_readsOf_27 hS FU hf hI)
def fX11_readsWord (x1 : Int32) (x2 : Int32) (x3 : Int32) (m : Me) : Option (Int32 × Me) := ck (inb ((10 : Int32) + x1) 186) (cl2 (fX11_readsOf (((16 : Int32) + ((8 : Int32) * x1))) ((m.1 141 ((10 : Int32) + x1).toNatClampNeg)) x2 x3 (m.1 143 60) m) fun r4 m5 => some (r4, m5))
set_option maxRecDepth 20000 in
theorem kX11_readsWord {S : Sh} (hS : ShOK S) {res : Int32 × Me} {x1 : Int32} {x2 : Int32} {x3 : Int32} {m : Me} (hf : fX11_readsWord x1 x2 x3 m = some res) (hI : Inv m) : Call 4 mX11_readsWord [.ref 138, .int x1, .int x2, .int x3] (S, m) (some (.int res.1)) (S, res.2) ∧ Inv res.2 := by
  refine call_of (P := InvS) (Nat.le_of_ble_eq_true rfl) (by simp [Value.category]) ?_
  show TT InvS (Call 3) mX11_readsWord (0, [(0, .ref 138), (1, .int x1), (2, .int x2), (3, .int x3)], [], S, m) _ _
  unfold fX11_readsWord at hf
  refine to_aload_n (q := 1) rfl (by decide) dX11_readsWord_0 rfl ?_
  refine to_bipush (q := 3) bp_16 dX11_readsWord_1 rfl ?_
  refine to_bipush (q := 5) bp_8 dX11_readsWord_3 rfl ?_
  refine to_iload_n (q := 6) rfl dX11_readsWord_5 rfl ?_
  refine to_imul (q := 7) dX11_readsWord_6 rfl ?_
  refine to_iadd (q := 8) dX11_readsWord_7 rfl ?_
  refine to_aload_n (q := 9) rfl (by decide) dX11_readsWord_8 rfl ?_
  refine to_getR (q := 12) (b := 141) (k0 := 11) (C := RX11) (T := TX11) (N := 37) (j := 15) rfl fx_X11_20 (h_138 hS) rfl (iv_138_15 hI) dX11_readsWord_9 rfl ?_
  refine to_bipush (q := 14) bp_10 dX11_readsWord_12 rfl ?_
  refine to_iload_n (q := 15) rfl dX11_readsWord_14 rfl ?_
  refine to_iadd (q := 16) dX11_readsWord_15 rfl ?_
  obtain ⟨hb1, hf⟩ := ck_some hf
  refine to_iaj (q := 17) (h_141 hS) hb1 (rfl) dX11_readsWord_16 rfl ?_
  refine to_iload_n (q := 18) rfl dX11_readsWord_17 rfl ?_
  refine to_iload_n (q := 19) rfl dX11_readsWord_18 rfl ?_
  refine to_aload_n (q := 20) rfl (by decide) dX11_readsWord_19 rfl ?_
  refine to_getR (q := 23) (b := 143) (k0 := 11) (C := RX11) (T := TX11) (N := 37) (j := 17) rfl fx_X11_26 (h_138 hS) rfl (iv_138_17 hI) dX11_readsWord_20 rfl ?_
  refine to_bipush (q := 25) bp_60 dX11_readsWord_23 rfl ?_
  refine to_iaj (q := 26) (h_143 hS) (by decide) (tn_60) dX11_readsWord_25 rfl ?_
  obtain ⟨r4, m5, hc2, hf⟩ := cl2_some hf
  have qc3 := kX11_readsOf hS hc2 hI
  refine to_virtI (q := 29) mX11_readsOf [.int ((16 : Int32) + ((8 : Int32) * x1)), .int (m.1 141 ((10 : Int32) + x1).toNatClampNeg), .int x2, .int x3, .int (m.1 143 60)] dX11_readsWord_26 rfl rfl (Nat.le_of_ble_eq_true rfl) mo_X11_readsOf mv_X11_299 (Or.inl ⟨_, _, _, h_138 hS, rfl, rfl⟩) (Call_mono (by decide) qc3.1) ?_
  have hI := qc3.2
  cases hf
  exact to_iret dX11_readsWord_29 rfl rfl rfl rfl hI
def fX11_wordWhy_33 (t0 : Int32) (m : Me) : Option (Int32 × Me) := some (t0, m)
set_option maxRecDepth 20000 in
theorem kX11_wordWhy_33 {S : Sh} (hS : ShOK S) {res : Int32 × Me} {t0 : Int32} {m : Me} (hf : fX11_wordWhy_33 t0 m = some res) (hI : Inv m) : TT InvS (Call 2) mX11_wordWhy (33, [], [.int t0], S, m) (some (.int res.1)) (S, res.2) := by
  unfold fX11_wordWhy_33 at hf
  cases hf
  exact to_iret dX11_wordWhy_33 rfl rfl rfl rfl hI
def fX11_wordWhy_16 (m : Me) : Option (Int32 × Me) := fX11_wordWhy_33 ((1 : Int32)) m
set_option maxRecDepth 20000 in
theorem kX11_wordWhy_16 {S : Sh} (hS : ShOK S) {res : Int32 × Me} {m : Me} (hf : fX11_wordWhy_16 m = some res) (hI : Inv m) : TT InvS (Call 2) mX11_wordWhy (16, [], [], S, m) (some (.int res.1)) (S, res.2) := by
  unfold fX11_wordWhy_16 at hf
  refine to_iconst (q := 17) ic_1 dX11_wordWhy_16 rfl ?_
  refine to_goto (q := 33) dX11_wordWhy_17 rfl ?_
  exact to_ext [] ext_nil (kX11_wordWhy_33 hS hf hI)
def fX11_wordWhy (x1 : Int32) (x2 : Int32) (x3 : Int32) (m : Me) : Option (Int32 × Me) := cl2 (fX11_isWordThere x1 m) fun r3 m4 => if r3 = (0 : Int32) then fX11_wordWhy_16 m4 else cl2 (fX11_isSide x2 m4) fun r8 m9 => if r8 = (0 : Int32) then fX11_wordWhy_16 m9 else cl2 (fX11_isOpening x3 m9) fun r13 m14 => if r13 = (0 : Int32) then fX11_wordWhy_33 ((2 : Int32)) m14 else fX11_wordWhy_33 ((0 : Int32)) m14
set_option maxRecDepth 20000 in
theorem kX11_wordWhy {S : Sh} (hS : ShOK S) {res : Int32 × Me} {x1 : Int32} {x2 : Int32} {x3 : Int32} {m : Me} (hf : fX11_wordWhy x1 x2 x3 m = some res) (hI : Inv m) : Call 3 mX11_wordWhy [.ref 138, .int x1, .int x2, .int x3] (S, m) (some (.int res.1)) (S, res.2) ∧ Inv res.2 := by
  refine call_of (P := InvS) (Nat.le_of_ble_eq_true rfl) (by simp [Value.category]) ?_
  show TT InvS (Call 2) mX11_wordWhy (0, [(0, .ref 138), (1, .int x1), (2, .int x2), (3, .int x3)], [], S, m) _ _
  unfold fX11_wordWhy at hf
  refine to_aload_n (q := 1) rfl (by decide) dX11_wordWhy_0 rfl ?_
  refine to_iload_n (q := 2) rfl dX11_wordWhy_1 rfl ?_
  obtain ⟨r3, m4, hc1, hf⟩ := cl2_some hf
  have qc2 := kX11_isWordThere hS hc1 hI
  refine to_virtI (q := 5) mX11_isWordThere [.int x1] dX11_wordWhy_2 rfl rfl (Nat.le_of_ble_eq_true rfl) mo_X11_isWordThere mv_X11_303 (Or.inl ⟨_, _, _, h_138 hS, rfl, rfl⟩) (Call_mono (by decide) qc2.1) ?_
  have hI := qc2.2
  by_cases h5 : r3 = (0 : Int32)
  · have hf := ite_pos h5 hf
    refine to_ifT (q := 16) (op := .eq) h5 dX11_wordWhy_5 rfl ?_
    exact to_ext [] ext_nil (kX11_wordWhy_16 hS hf hI)
  · have hf := ite_neg h5 hf
    refine to_ifF (q := 8) (op := .eq) 16 h5 dX11_wordWhy_5 rfl rfl ?_
    refine to_aload_n (q := 9) rfl (by decide) dX11_wordWhy_8 rfl ?_
    refine to_iload_n (q := 10) rfl dX11_wordWhy_9 rfl ?_
    obtain ⟨r8, m9, hc6, hf⟩ := cl2_some hf
    have qc7 := kX11_isSide hS hc6 hI
    refine to_virtI (q := 13) mX11_isSide [.int x2] dX11_wordWhy_10 rfl rfl (Nat.le_of_ble_eq_true rfl) mo_X11_isSide mv_X11_253 (Or.inl ⟨_, _, _, h_138 hS, rfl, rfl⟩) (Call_mono (by decide) qc7.1) ?_
    have hI := qc7.2
    by_cases h10 : r8 = (0 : Int32)
    · have hf := ite_pos h10 hf
      refine to_ifF (q := 16) (op := .ne) 20 (fun z => z h10) dX11_wordWhy_13 rfl rfl ?_
      exact to_ext [] ext_nil (kX11_wordWhy_16 hS hf hI)
    · have hf := ite_neg h10 hf
      refine to_ifT (q := 20) (op := .ne) h10 dX11_wordWhy_13 rfl ?_
      refine to_aload_n (q := 21) rfl (by decide) dX11_wordWhy_20 rfl ?_
      refine to_iload_n (q := 22) rfl dX11_wordWhy_21 rfl ?_
      obtain ⟨r13, m14, hc11, hf⟩ := cl2_some hf
      have qc12 := kX11_isOpening hS hc11 hI
      refine to_virtI (q := 25) mX11_isOpening [.int x3] dX11_wordWhy_22 rfl rfl (Nat.le_of_ble_eq_true rfl) mo_X11_isOpening mv_X11_273 (Or.inl ⟨_, _, _, h_138 hS, rfl, rfl⟩) (Call_mono (by decide) qc12.1) ?_
      have hI := qc12.2
      by_cases h15 : r13 = (0 : Int32)
      · have hf := ite_pos h15 hf
        refine to_ifT (q := 32) (op := .eq) h15 dX11_wordWhy_25 rfl ?_
        refine to_iconst (q := 33) ic_2 dX11_wordWhy_32 rfl ?_
        exact to_ext [] ext_nil (kX11_wordWhy_33 hS hf hI)
      · have hf := ite_neg h15 hf
        refine to_ifF (q := 28) (op := .eq) 32 h15 dX11_wordWhy_25 rfl rfl ?_
        refine to_iconst (q := 29) ic_0 dX11_wordWhy_28 rfl ?_
        refine to_goto (q := 33) dX11_wordWhy_29 rfl ?_
        exact to_ext [] ext_nil (kX11_wordWhy_33 hS hf hI)
def fX11_reads_34 (t0 : Int32) (m : Me) : Option (Int32 × Me) := some (t0, m)
set_option maxRecDepth 20000 in
theorem kX11_reads_34 {S : Sh} (hS : ShOK S) {res : Int32 × Me} {t0 : Int32} {m : Me} (hf : fX11_reads_34 t0 m = some res) (hI : Inv m) : TT InvS (Call 4) mX11_reads (34, [], [.int t0], S, m) (some (.int res.1)) (S, res.2) := by
  unfold fX11_reads_34 at hf
  cases hf
  exact to_iret dX11_reads_34 rfl rfl rfl rfl hI
def fX11_reads (x1 : Int32) (x2 : Int32) (x3 : Int32) (m : Me) : Option (Int32 × Me) := cl1 (fX11_good m) fun m3 => cl2 (fX11_wordWhy x1 x2 x3 m3) fun r6 m7 => if r6 = (0 : Int32) then cl2 (fX11_readsWord x1 x2 x3 m7) fun r11 m12 => fX11_reads_34 r11 m12 else cl2 (fX11_no r6 m7) fun r15 m16 => fX11_reads_34 r15 m16
set_option maxRecDepth 20000 in
theorem kX11_reads {S : Sh} (hS : ShOK S) {res : Int32 × Me} {x1 : Int32} {x2 : Int32} {x3 : Int32} {m : Me} (hf : fX11_reads x1 x2 x3 m = some res) (hI : Inv m) : Call 5 mX11_reads [.ref 138, .int x1, .int x2, .int x3] (S, m) (some (.int res.1)) (S, res.2) ∧ Inv res.2 := by
  refine call_of (P := InvS) (Nat.le_of_ble_eq_true rfl) (by simp [Value.category]) ?_
  show TT InvS (Call 4) mX11_reads (0, [(0, .ref 138), (1, .int x1), (2, .int x2), (3, .int x3)], [], S, m) _ _
  unfold fX11_reads at hf
  refine to_aload_n (q := 1) rfl (by decide) dX11_reads_0 rfl ?_
  obtain ⟨m3, hc1, hf⟩ := cl1_some hf
  have qc2 := kX11_good hS hc1 hI
  refine to_virtV (q := 4) mX11_good [] dX11_reads_1 rfl rfl (Nat.le_of_ble_eq_true rfl) mo_X11_good mv_X11_156 (Or.inl ⟨_, _, _, h_138 hS, rfl, rfl⟩) (Call_mono (by decide) qc2.1) ?_
  have hI := qc2.2
  refine to_aload_n (q := 5) rfl (by decide) dX11_reads_4 rfl ?_
  refine to_iload_n (q := 6) rfl dX11_reads_5 rfl ?_
  refine to_iload_n (q := 7) rfl dX11_reads_6 rfl ?_
  refine to_iload_n (q := 8) rfl dX11_reads_7 rfl ?_
  obtain ⟨r6, m7, hc4, hf⟩ := cl2_some hf
  have qc5 := kX11_wordWhy hS hc4 hI
  refine to_virtI (q := 11) mX11_wordWhy [.int x1, .int x2, .int x3] dX11_reads_8 rfl rfl (Nat.le_of_ble_eq_true rfl) mo_X11_wordWhy mv_X11_306 (Or.inl ⟨_, _, _, h_138 hS, rfl, rfl⟩) (Call_mono (by decide) qc5.1) ?_
  have hI := qc5.2
  refine to_istore (q := 13) [(4, .int r6), (0, .ref 138), (1, .int x1), (2, .int x2), (3, .int x3)] rfl (by decide) dX11_reads_11 rfl ?_
  refine to_iload (q := 15) rfl dX11_reads_13 rfl ?_
  by_cases h8 : r6 = (0 : Int32)
  · have hf := ite_pos h8 hf
    refine to_ifT (q := 27) (op := .eq) h8 dX11_reads_15 rfl ?_
    refine to_aload_n (q := 28) rfl (by decide) dX11_reads_27 rfl ?_
    refine to_iload_n (q := 29) rfl dX11_reads_28 rfl ?_
    refine to_iload_n (q := 30) rfl dX11_reads_29 rfl ?_
    refine to_iload_n (q := 31) rfl dX11_reads_30 rfl ?_
    obtain ⟨r11, m12, hc9, hf⟩ := cl2_some hf
    have qc10 := kX11_readsWord hS hc9 hI
    refine to_virtI (q := 34) mX11_readsWord [.int x1, .int x2, .int x3] dX11_reads_31 rfl rfl (Nat.le_of_ble_eq_true rfl) mo_X11_readsWord mv_X11_309 (Or.inl ⟨_, _, _, h_138 hS, rfl, rfl⟩) (Call_mono (by decide) qc10.1) ?_
    have hI := qc10.2
    exact to_ext [] ext_nil (kX11_reads_34 hS hf hI)
  · have hf := ite_neg h8 hf
    refine to_ifF (q := 18) (op := .eq) 27 h8 dX11_reads_15 rfl rfl ?_
    refine to_aload_n (q := 19) rfl (by decide) dX11_reads_18 rfl ?_
    refine to_iload (q := 21) rfl dX11_reads_19 rfl ?_
    obtain ⟨r15, m16, hc13, hf⟩ := cl2_some hf
    have qc14 := kX11_no hS hc13 hI
    refine to_virtI (q := 24) mX11_no [.int r6] dX11_reads_21 rfl rfl (Nat.le_of_ble_eq_true rfl) mo_X11_no mv_X11_159 (Or.inl ⟨_, _, _, h_138 hS, rfl, rfl⟩) (Call_mono (by decide) qc14.1) ?_
    have hI := qc14.2
    refine to_goto (q := 34) dX11_reads_24 rfl ?_
    exact to_ext [] ext_nil (kX11_reads_34 hS hf hI)
def fX11_readAt (x1 : Int32) (x2 : Int32) (x3 : Int32) (m : Me) : Option (Int32 × Me) := cl1 (fX11_good m) fun m3 => cl2 (fX11_wordWhy x1 x2 x3 m3) fun r6 m7 => if r6 = (0 : Int32) then cl2 (fX11_readsWord x1 x2 x3 m7) fun r11 m12 => some ((m12.1 138 25), m12) else cl2 (fX11_no r6 m7) fun r15 m16 => some (r15, m16)
set_option maxRecDepth 20000 in
theorem kX11_readAt {S : Sh} (hS : ShOK S) {res : Int32 × Me} {x1 : Int32} {x2 : Int32} {x3 : Int32} {m : Me} (hf : fX11_readAt x1 x2 x3 m = some res) (hI : Inv m) : Call 5 mX11_readAt [.ref 138, .int x1, .int x2, .int x3] (S, m) (some (.int res.1)) (S, res.2) ∧ Inv res.2 := by
  refine call_of (P := InvS) (Nat.le_of_ble_eq_true rfl) (by simp [Value.category]) ?_
  show TT InvS (Call 4) mX11_readAt (0, [(0, .ref 138), (1, .int x1), (2, .int x2), (3, .int x3)], [], S, m) _ _
  unfold fX11_readAt at hf
  refine to_aload_n (q := 1) rfl (by decide) dX11_readAt_0 rfl ?_
  obtain ⟨m3, hc1, hf⟩ := cl1_some hf
  have qc2 := kX11_good hS hc1 hI
  refine to_virtV (q := 4) mX11_good [] dX11_readAt_1 rfl rfl (Nat.le_of_ble_eq_true rfl) mo_X11_good mv_X11_156 (Or.inl ⟨_, _, _, h_138 hS, rfl, rfl⟩) (Call_mono (by decide) qc2.1) ?_
  have hI := qc2.2
  refine to_aload_n (q := 5) rfl (by decide) dX11_readAt_4 rfl ?_
  refine to_iload_n (q := 6) rfl dX11_readAt_5 rfl ?_
  refine to_iload_n (q := 7) rfl dX11_readAt_6 rfl ?_
  refine to_iload_n (q := 8) rfl dX11_readAt_7 rfl ?_
  obtain ⟨r6, m7, hc4, hf⟩ := cl2_some hf
  have qc5 := kX11_wordWhy hS hc4 hI
  refine to_virtI (q := 11) mX11_wordWhy [.int x1, .int x2, .int x3] dX11_readAt_8 rfl rfl (Nat.le_of_ble_eq_true rfl) mo_X11_wordWhy mv_X11_306 (Or.inl ⟨_, _, _, h_138 hS, rfl, rfl⟩) (Call_mono (by decide) qc5.1) ?_
  have hI := qc5.2
  refine to_istore (q := 13) [(4, .int r6), (0, .ref 138), (1, .int x1), (2, .int x2), (3, .int x3)] rfl (by decide) dX11_readAt_11 rfl ?_
  refine to_iload (q := 15) rfl dX11_readAt_13 rfl ?_
  by_cases h8 : r6 = (0 : Int32)
  · have hf := ite_pos h8 hf
    refine to_ifT (q := 25) (op := .eq) h8 dX11_readAt_15 rfl ?_
    refine to_aload_n (q := 26) rfl (by decide) dX11_readAt_25 rfl ?_
    refine to_iload_n (q := 27) rfl dX11_readAt_26 rfl ?_
    refine to_iload_n (q := 28) rfl dX11_readAt_27 rfl ?_
    refine to_iload_n (q := 29) rfl dX11_readAt_28 rfl ?_
    obtain ⟨r11, m12, hc9, hf⟩ := cl2_some hf
    have qc10 := kX11_readsWord hS hc9 hI
    refine to_virtI (q := 32) mX11_readsWord [.int x1, .int x2, .int x3] dX11_readAt_29 rfl rfl (Nat.le_of_ble_eq_true rfl) mo_X11_readsWord mv_X11_309 (Or.inl ⟨_, _, _, h_138 hS, rfl, rfl⟩) (Call_mono (by decide) qc10.1) ?_
    have hI := qc10.2
    refine to_pop (q := 33) rfl dX11_readAt_32 rfl ?_
    refine to_aload_n (q := 34) rfl (by decide) dX11_readAt_33 rfl ?_
    refine to_getI (q := 37) (k0 := 11) (C := RX11) (T := TX11) (N := 37) (j := 25) rfl fx_X11_292 (h_138 hS) rfl dX11_readAt_34 rfl ?_
    cases hf
    exact to_iret dX11_readAt_37 rfl rfl rfl rfl hI
  · have hf := ite_neg h8 hf
    refine to_ifF (q := 18) (op := .eq) 25 h8 dX11_readAt_15 rfl rfl ?_
    refine to_aload_n (q := 19) rfl (by decide) dX11_readAt_18 rfl ?_
    refine to_iload (q := 21) rfl dX11_readAt_19 rfl ?_
    obtain ⟨r15, m16, hc13, hf⟩ := cl2_some hf
    have qc14 := kX11_no hS hc13 hI
    refine to_virtI (q := 24) mX11_no [.int r6] dX11_readAt_21 rfl rfl (Nat.le_of_ble_eq_true rfl) mo_X11_no mv_X11_159 (Or.inl ⟨_, _, _, h_138 hS, rfl, rfl⟩) (Call_mono (by decide) qc14.1) ?_
    have hI := qc14.2
    cases hf
    exact to_iret dX11_readAt_24 rfl rfl rfl rfl hI
def fX11_spanOf_107 (k9 : Int32 → Int32 → Int32 → Int32 → Int32 → Int32 → Int32 → Me → Option (Int32 × Me)) (x1 : Int32) (x2 : Int32) (x3 : Int32) (x4 : Int32) (x5 : Int32) (x6 : Int32) (x7 : Int32) (m : Me) : Option (Int32 × Me) := k9 x1 x2 x3 x4 x5 x6 ((x7 + (1 : Int32))) m
set_option maxRecDepth 20000 in
theorem kX11_spanOf_107 {S : Sh} (hS : ShOK S) {res : Int32 × Me} {k9 : Int32 → Int32 → Int32 → Int32 → Int32 → Int32 → Int32 → Me → Option (Int32 × Me)} (hk9 : ∀ {x1 : Int32} {x2 : Int32} {x3 : Int32} {x4 : Int32} {x5 : Int32} {x6 : Int32} {x7 : Int32} {m : Me}, k9 x1 x2 x3 x4 x5 x6 x7 m = some res → Inv m → TT InvS (Call 4) mX11_spanOf (9, [(0, .ref 138), (1, .int x1), (2, .int x2), (3, .int x3), (4, .int x4), (5, .int x5), (6, .int x6), (7, .int x7)], [], S, m) (some (.int res.1)) (S, res.2)) {x1 : Int32} {x2 : Int32} {x3 : Int32} {x4 : Int32} {x5 : Int32} {x6 : Int32} {x7 : Int32} {m : Me} (hf : fX11_spanOf_107 k9 x1 x2 x3 x4 x5 x6 x7 m = some res) (hI : Inv m) : TT InvS (Call 4) mX11_spanOf (107, [(0, .ref 138), (1, .int x1), (2, .int x2), (3, .int x3), (4, .int x4), (5, .int x5), (6, .int x6), (7, .int x7)], [], S, m) (some (.int res.1)) (S, res.2) := by
  unfold fX11_spanOf_107 at hf
  refine to_iinc (q := 110) (v := (x7 + (1 : Int32))) rfl (congrArg (fun z => x7 + z) ic_1) [(7, .int (x7 + (1 : Int32))), (0, .ref 138), (1, .int x1), (2, .int x2), (3, .int x3), (4, .int x4), (5, .int x5), (6, .int x6)] rfl (by decide) dX11_spanOf_107 rfl ?_
  refine to_goto (q := 9) dX11_spanOf_110 rfl ?_
  exact to_ext [(0, .ref 138), (1, .int x1), (2, .int x2), (3, .int x3), (4, .int x4), (5, .int x5), (6, .int x6), (7, .int (x7 + (1 : Int32)))] (ext_cons rfl (ext_cons rfl (ext_cons rfl (ext_cons rfl (ext_cons rfl (ext_cons rfl (ext_cons rfl (ext_cons rfl ext_nil)))))))) (hk9 hf hI)
def fX11_spanOf_100 (t0 : Int32) (m : Me) : Option (Int32 × Me) := some (t0, m)
set_option maxRecDepth 20000 in
theorem kX11_spanOf_100 {S : Sh} (hS : ShOK S) {res : Int32 × Me} {t0 : Int32} {m : Me} (hf : fX11_spanOf_100 t0 m = some res) (hI : Inv m) : TT InvS (Call 4) mX11_spanOf (100, [], [.int t0], S, m) (some (.int res.1)) (S, res.2) := by
  unfold fX11_spanOf_100 at hf
  cases hf
  exact to_iret dX11_spanOf_100 rfl rfl rfl rfl hI
def fX11_spanOf_67 (k9 : Int32 → Int32 → Int32 → Int32 → Int32 → Int32 → Int32 → Me → Option (Int32 × Me)) (x1 : Int32) (x2 : Int32) (x3 : Int32) (x4 : Int32) (x5 : Int32) (x6 : Int32) (x7 : Int32) (x8 : Int32) (m : Me) : Option (Int32 × Me) := if x8 = (0 : Int32) then if (0 : Int32) ≤ x6 then if x5 = x3 then if x4 = (0 : Int32) then fX11_spanOf_100 x6 m else fX11_spanOf_100 ((x7 - (1 : Int32))) m else fX11_spanOf_107 k9 x1 x2 x3 x4 ((x5 + (1 : Int32))) ((-1 : Int32)) x7 m else fX11_spanOf_107 k9 x1 x2 x3 x4 x5 x6 x7 m else fX11_spanOf_107 k9 x1 x2 x3 x4 x5 x6 x7 m
set_option maxRecDepth 20000 in
theorem kX11_spanOf_67 {S : Sh} (hS : ShOK S) {res : Int32 × Me} {k9 : Int32 → Int32 → Int32 → Int32 → Int32 → Int32 → Int32 → Me → Option (Int32 × Me)} (hk9 : ∀ {x1 : Int32} {x2 : Int32} {x3 : Int32} {x4 : Int32} {x5 : Int32} {x6 : Int32} {x7 : Int32} {m : Me}, k9 x1 x2 x3 x4 x5 x6 x7 m = some res → Inv m → TT InvS (Call 4) mX11_spanOf (9, [(0, .ref 138), (1, .int x1), (2, .int x2), (3, .int x3), (4, .int x4), (5, .int x5), (6, .int x6), (7, .int x7)], [], S, m) (some (.int res.1)) (S, res.2)) {x1 : Int32} {x2 : Int32} {x3 : Int32} {x4 : Int32} {x5 : Int32} {x6 : Int32} {x7 : Int32} {x8 : Int32} {m : Me} (hf : fX11_spanOf_67 k9 x1 x2 x3 x4 x5 x6 x7 x8 m = some res) (hI : Inv m) : TT InvS (Call 4) mX11_spanOf (67, [(0, .ref 138), (1, .int x1), (2, .int x2), (3, .int x3), (4, .int x4), (5, .int x5), (6, .int x6), (7, .int x7), (8, .int x8)], [], S, m) (some (.int res.1)) (S, res.2) := by
  unfold fX11_spanOf_67 at hf
  refine to_iload (q := 69) rfl dX11_spanOf_67 rfl ?_
  by_cases h18 : x8 = (0 : Int32)
  · have hf := ite_pos h18 hf
    refine to_ifF (q := 72) (op := .ne) 107 (fun z => z h18) dX11_spanOf_69 rfl rfl ?_
    refine to_iload (q := 74) rfl dX11_spanOf_72 rfl ?_
    by_cases h19 : (0 : Int32) ≤ x6
    · have hf := ite_pos h19 hf
      refine to_ifT (q := 80) (op := .ge) h19 dX11_spanOf_74 rfl ?_
      refine to_iload (q := 82) rfl dX11_spanOf_80 rfl ?_
      refine to_iload_n (q := 83) rfl dX11_spanOf_82 rfl ?_
      by_cases h20 : x5 = x3
      · have hf := ite_pos h20 hf
        refine to_icF (q := 86) (op := .ne) 101 (fun z => z h20) dX11_spanOf_83 rfl rfl ?_
        refine to_iload (q := 88) rfl dX11_spanOf_86 rfl ?_
        by_cases h21 : x4 = (0 : Int32)
        · have hf := ite_pos h21 hf
          refine to_ifT (q := 98) (op := .eq) h21 dX11_spanOf_88 rfl ?_
          refine to_iload (q := 100) rfl dX11_spanOf_98 rfl ?_
          exact to_ext [] ext_nil (kX11_spanOf_100 hS hf hI)
        · have hf := ite_neg h21 hf
          refine to_ifF (q := 91) (op := .eq) 98 h21 dX11_spanOf_88 rfl rfl ?_
          refine to_iload (q := 93) rfl dX11_spanOf_91 rfl ?_
          refine to_iconst (q := 94) ic_1 dX11_spanOf_93 rfl ?_
          refine to_isub (q := 95) dX11_spanOf_94 rfl ?_
          refine to_goto (q := 100) dX11_spanOf_95 rfl ?_
          exact to_ext [] ext_nil (kX11_spanOf_100 hS hf hI)
      · have hf := ite_neg h20 hf
        refine to_icT (q := 101) (op := .ne) h20 dX11_spanOf_83 rfl ?_
        refine to_iinc (q := 104) (v := (x5 + (1 : Int32))) rfl (congrArg (fun z => x5 + z) ic_1) [(5, .int (x5 + (1 : Int32))), (0, .ref 138), (1, .int x1), (2, .int x2), (3, .int x3), (4, .int x4), (6, .int x6), (7, .int x7), (8, .int x8)] rfl (by decide) dX11_spanOf_101 rfl ?_
        refine to_iconst (q := 105) ic_m1 dX11_spanOf_104 rfl ?_
        refine to_istore (q := 107) [(6, .int (-1 : Int32)), (5, .int (x5 + (1 : Int32))), (0, .ref 138), (1, .int x1), (2, .int x2), (3, .int x3), (4, .int x4), (7, .int x7), (8, .int x8)] rfl (by decide) dX11_spanOf_105 rfl ?_
        exact to_ext [(0, .ref 138), (1, .int x1), (2, .int x2), (3, .int x3), (4, .int x4), (5, .int (x5 + (1 : Int32))), (6, .int (-1 : Int32)), (7, .int x7)] (ext_cons rfl (ext_cons rfl (ext_cons rfl (ext_cons rfl (ext_cons rfl (ext_cons rfl (ext_cons rfl (ext_cons rfl ext_nil)))))))) (kX11_spanOf_107 hS hk9 hf hI)
    · have hf := ite_neg h19 hf
      refine to_ifF (q := 77) (op := .ge) 80 h19 dX11_spanOf_74 rfl rfl ?_
      refine to_goto (q := 107) dX11_spanOf_77 rfl ?_
      exact to_ext [(0, .ref 138), (1, .int x1), (2, .int x2), (3, .int x3), (4, .int x4), (5, .int x5), (6, .int x6), (7, .int x7)] (ext_cons rfl (ext_cons rfl (ext_cons rfl (ext_cons rfl (ext_cons rfl (ext_cons rfl (ext_cons rfl (ext_cons rfl ext_nil)))))))) (kX11_spanOf_107 hS hk9 hf hI)
  · have hf := ite_neg h18 hf
    refine to_ifT (q := 107) (op := .ne) h18 dX11_spanOf_69 rfl ?_
    exact to_ext [(0, .ref 138), (1, .int x1), (2, .int x2), (3, .int x3), (4, .int x4), (5, .int x5), (6, .int x6), (7, .int x7)] (ext_cons rfl (ext_cons rfl (ext_cons rfl (ext_cons rfl (ext_cons rfl (ext_cons rfl (ext_cons rfl (ext_cons rfl ext_nil)))))))) (kX11_spanOf_107 hS hk9 hf hI)
def fX11_spanOf_51 (k9 : Int32 → Int32 → Int32 → Int32 → Int32 → Int32 → Int32 → Me → Option (Int32 × Me)) (x1 : Int32) (x2 : Int32) (x3 : Int32) (x4 : Int32) (x5 : Int32) (x6 : Int32) (x7 : Int32) (t0 : Int32) (m : Me) : Option (Int32 × Me) := if t0 = (0 : Int32) then fX11_spanOf_67 k9 x1 x2 x3 x4 x5 x6 x7 t0 m else if (0 : Int32) ≤ x6 then fX11_spanOf_67 k9 x1 x2 x3 x4 x5 x6 x7 t0 m else fX11_spanOf_67 k9 x1 x2 x3 x4 x5 x7 x7 t0 m
set_option maxRecDepth 20000 in
theorem kX11_spanOf_51 {S : Sh} (hS : ShOK S) {res : Int32 × Me} {k9 : Int32 → Int32 → Int32 → Int32 → Int32 → Int32 → Int32 → Me → Option (Int32 × Me)} (hk9 : ∀ {x1 : Int32} {x2 : Int32} {x3 : Int32} {x4 : Int32} {x5 : Int32} {x6 : Int32} {x7 : Int32} {m : Me}, k9 x1 x2 x3 x4 x5 x6 x7 m = some res → Inv m → TT InvS (Call 4) mX11_spanOf (9, [(0, .ref 138), (1, .int x1), (2, .int x2), (3, .int x3), (4, .int x4), (5, .int x5), (6, .int x6), (7, .int x7)], [], S, m) (some (.int res.1)) (S, res.2)) {x1 : Int32} {x2 : Int32} {x3 : Int32} {x4 : Int32} {x5 : Int32} {x6 : Int32} {x7 : Int32} {t0 : Int32} {m : Me} (hf : fX11_spanOf_51 k9 x1 x2 x3 x4 x5 x6 x7 t0 m = some res) (hI : Inv m) : TT InvS (Call 4) mX11_spanOf (51, [(0, .ref 138), (1, .int x1), (2, .int x2), (3, .int x3), (4, .int x4), (5, .int x5), (6, .int x6), (7, .int x7)], [.int t0], S, m) (some (.int res.1)) (S, res.2) := by
  unfold fX11_spanOf_51 at hf
  refine to_istore (q := 53) [(8, .int t0), (0, .ref 138), (1, .int x1), (2, .int x2), (3, .int x3), (4, .int x4), (5, .int x5), (6, .int x6), (7, .int x7)] rfl (by decide) dX11_spanOf_51 rfl ?_
  refine to_iload (q := 55) rfl dX11_spanOf_53 rfl ?_
  by_cases h16 : t0 = (0 : Int32)
  · have hf := ite_pos h16 hf
    refine to_ifT (q := 67) (op := .eq) h16 dX11_spanOf_55 rfl ?_
    exact to_ext [(0, .ref 138), (1, .int x1), (2, .int x2), (3, .int x3), (4, .int x4), (5, .int x5), (6, .int x6), (7, .int x7), (8, .int t0)] (ext_cons rfl (ext_cons rfl (ext_cons rfl (ext_cons rfl (ext_cons rfl (ext_cons rfl (ext_cons rfl (ext_cons rfl (ext_cons rfl ext_nil))))))))) (kX11_spanOf_67 hS hk9 hf hI)
  · have hf := ite_neg h16 hf
    refine to_ifF (q := 58) (op := .eq) 67 h16 dX11_spanOf_55 rfl rfl ?_
    refine to_iload (q := 60) rfl dX11_spanOf_58 rfl ?_
    by_cases h17 : (0 : Int32) ≤ x6
    · have hf := ite_pos h17 hf
      refine to_ifT (q := 67) (op := .ge) h17 dX11_spanOf_60 rfl ?_
      exact to_ext [(0, .ref 138), (1, .int x1), (2, .int x2), (3, .int x3), (4, .int x4), (5, .int x5), (6, .int x6), (7, .int x7), (8, .int t0)] (ext_cons rfl (ext_cons rfl (ext_cons rfl (ext_cons rfl (ext_cons rfl (ext_cons rfl (ext_cons rfl (ext_cons rfl (ext_cons rfl ext_nil))))))))) (kX11_spanOf_67 hS hk9 hf hI)
    · have hf := ite_neg h17 hf
      refine to_ifF (q := 63) (op := .ge) 67 h17 dX11_spanOf_60 rfl rfl ?_
      refine to_iload (q := 65) rfl dX11_spanOf_63 rfl ?_
      refine to_istore (q := 67) [(6, .int x7), (8, .int t0), (0, .ref 138), (1, .int x1), (2, .int x2), (3, .int x3), (4, .int x4), (5, .int x5), (7, .int x7)] rfl (by decide) dX11_spanOf_65 rfl ?_
      exact to_ext [(0, .ref 138), (1, .int x1), (2, .int x2), (3, .int x3), (4, .int x4), (5, .int x5), (6, .int x7), (7, .int x7), (8, .int t0)] (ext_cons rfl (ext_cons rfl (ext_cons rfl (ext_cons rfl (ext_cons rfl (ext_cons rfl (ext_cons rfl (ext_cons rfl (ext_cons rfl ext_nil))))))))) (kX11_spanOf_67 hS hk9 hf hI)
def fX11_spanOf_50 (k9 : Int32 → Int32 → Int32 → Int32 → Int32 → Int32 → Int32 → Me → Option (Int32 × Me)) (x1 : Int32) (x2 : Int32) (x3 : Int32) (x4 : Int32) (x5 : Int32) (x6 : Int32) (x7 : Int32) (m : Me) : Option (Int32 × Me) := fX11_spanOf_51 k9 x1 x2 x3 x4 x5 x6 x7 ((0 : Int32)) m
set_option maxRecDepth 20000 in
theorem kX11_spanOf_50 {S : Sh} (hS : ShOK S) {res : Int32 × Me} {k9 : Int32 → Int32 → Int32 → Int32 → Int32 → Int32 → Int32 → Me → Option (Int32 × Me)} (hk9 : ∀ {x1 : Int32} {x2 : Int32} {x3 : Int32} {x4 : Int32} {x5 : Int32} {x6 : Int32} {x7 : Int32} {m : Me}, k9 x1 x2 x3 x4 x5 x6 x7 m = some res → Inv m → TT InvS (Call 4) mX11_spanOf (9, [(0, .ref 138), (1, .int x1), (2, .int x2), (3, .int x3), (4, .int x4), (5, .int x5), (6, .int x6), (7, .int x7)], [], S, m) (some (.int res.1)) (S, res.2)) {x1 : Int32} {x2 : Int32} {x3 : Int32} {x4 : Int32} {x5 : Int32} {x6 : Int32} {x7 : Int32} {m : Me} (hf : fX11_spanOf_50 k9 x1 x2 x3 x4 x5 x6 x7 m = some res) (hI : Inv m) : TT InvS (Call 4) mX11_spanOf (50, [(0, .ref 138), (1, .int x1), (2, .int x2), (3, .int x3), (4, .int x4), (5, .int x5), (6, .int x6), (7, .int x7)], [], S, m) (some (.int res.1)) (S, res.2) := by
  unfold fX11_spanOf_50 at hf
  refine to_iconst (q := 51) ic_0 dX11_spanOf_50 rfl ?_
  exact to_ext [(0, .ref 138), (1, .int x1), (2, .int x2), (3, .int x3), (4, .int x4), (5, .int x5), (6, .int x6), (7, .int x7)] (ext_cons rfl (ext_cons rfl (ext_cons rfl (ext_cons rfl (ext_cons rfl (ext_cons rfl (ext_cons rfl (ext_cons rfl ext_nil)))))))) (kX11_spanOf_51 hS hk9 hf hI)
def fX11_spanOf_9 (n : Nat) (x1 : Int32) (x2 : Int32) (x3 : Int32) (x4 : Int32) (x5 : Int32) (x6 : Int32) (x7 : Int32) (m : Me) : Option (Int32 × Me) := match n with
  | 0 => none
  | n + 1 => cl2 (fX11_mostOpen 141 m) fun r3 m4 => if (r3 + (1 : Int32)) < x7 then some ((x5 - (1000 : Int32)), m4) else cl2 (fX11_mostOpen 141 m4) fun r8 m9 => if r8 < x7 then fX11_spanOf_50 (fX11_spanOf_9 n) x1 x2 x3 x4 x5 x6 x7 m9 else cl2 (fX11_readsWord x1 x2 x7 m9) fun r13 m14 => if r13 ≤ (0 : Int32) then fX11_spanOf_50 (fX11_spanOf_9 n) x1 x2 x3 x4 x5 x6 x7 m14 else fX11_spanOf_51 (fX11_spanOf_9 n) x1 x2 x3 x4 x5 x6 x7 ((1 : Int32)) m14
set_option maxRecDepth 20000 in
theorem kX11_spanOf_9 {S : Sh} (hS : ShOK S) {res : Int32 × Me} (n : Nat) : ∀ {x1 : Int32} {x2 : Int32} {x3 : Int32} {x4 : Int32} {x5 : Int32} {x6 : Int32} {x7 : Int32} {m : Me}, fX11_spanOf_9 n x1 x2 x3 x4 x5 x6 x7 m = some res → Inv m → TT InvS (Call 4) mX11_spanOf (9, [(0, .ref 138), (1, .int x1), (2, .int x2), (3, .int x3), (4, .int x4), (5, .int x5), (6, .int x6), (7, .int x7)], [], S, m) (some (.int res.1)) (S, res.2) := by
  induction n with
  | zero => intro x1 x2 x3 x4 x5 x6 x7 m hf; cases hf
  | succ n ih =>
    intro x1 x2 x3 x4 x5 x6 x7 m hf  hI
    unfold fX11_spanOf_9 at hf
    refine to_iload (q := 11) rfl dX11_spanOf_9 rfl ?_
    refine to_aload_n (q := 12) rfl (by decide) dX11_spanOf_11 rfl ?_
    refine to_getR (q := 15) (b := 141) (k0 := 11) (C := RX11) (T := TX11) (N := 37) (j := 15) rfl fx_X11_20 (h_138 hS) rfl (iv_138_15 hI) dX11_spanOf_12 rfl ?_
    obtain ⟨r3, m4, hc1, hf⟩ := cl2_some hf
    have qc2 := kX11_mostOpen hS hc1 rfl hI
    refine to_statI (q := 18) mX11_mostOpen [.ref 141] dX11_spanOf_15 rfl rfl (Nat.le_of_ble_eq_true rfl) mo_X11_mostOpen (Or.inl ml_X11_178) sa_X11_mostOpen (Call_mono (by decide) qc2.1) ?_
    have hI := qc2.2
    refine to_iconst (q := 19) ic_1 dX11_spanOf_18 rfl ?_
    refine to_iadd (q := 20) dX11_spanOf_19 rfl ?_
    by_cases h5 : (r3 + (1 : Int32)) < x7
    · have hf := ite_pos h5 hf
      refine to_icT (q := 113) (op := .gt) h5 dX11_spanOf_20 rfl ?_
      refine to_iload (q := 115) rfl dX11_spanOf_113 rfl ?_
      refine to_sipush (q := 118) sp_1000 dX11_spanOf_115 rfl ?_
      refine to_isub (q := 119) dX11_spanOf_118 rfl ?_
      cases hf
      exact to_iret dX11_spanOf_119 rfl rfl rfl rfl hI
    · have hf := ite_neg h5 hf
      refine to_icF (q := 23) (op := .gt) 113 h5 dX11_spanOf_20 rfl rfl ?_
      refine to_iload (q := 25) rfl dX11_spanOf_23 rfl ?_
      refine to_aload_n (q := 26) rfl (by decide) dX11_spanOf_25 rfl ?_
      refine to_getR (q := 29) (b := 141) (k0 := 11) (C := RX11) (T := TX11) (N := 37) (j := 15) rfl fx_X11_20 (h_138 hS) rfl (iv_138_15 hI) dX11_spanOf_26 rfl ?_
      obtain ⟨r8, m9, hc6, hf⟩ := cl2_some hf
      have qc7 := kX11_mostOpen hS hc6 rfl hI
      refine to_statI (q := 32) mX11_mostOpen [.ref 141] dX11_spanOf_29 rfl rfl (Nat.le_of_ble_eq_true rfl) mo_X11_mostOpen (Or.inl ml_X11_178) sa_X11_mostOpen (Call_mono (by decide) qc7.1) ?_
      have hI := qc7.2
      by_cases h10 : r8 < x7
      · have hf := ite_pos h10 hf
        refine to_icT (q := 50) (op := .gt) h10 dX11_spanOf_32 rfl ?_
        exact to_ext [(0, .ref 138), (1, .int x1), (2, .int x2), (3, .int x3), (4, .int x4), (5, .int x5), (6, .int x6), (7, .int x7)] (ext_cons rfl (ext_cons rfl (ext_cons rfl (ext_cons rfl (ext_cons rfl (ext_cons rfl (ext_cons rfl (ext_cons rfl ext_nil)))))))) (kX11_spanOf_50 hS ih hf hI)
      · have hf := ite_neg h10 hf
        refine to_icF (q := 35) (op := .gt) 50 h10 dX11_spanOf_32 rfl rfl ?_
        refine to_aload_n (q := 36) rfl (by decide) dX11_spanOf_35 rfl ?_
        refine to_iload_n (q := 37) rfl dX11_spanOf_36 rfl ?_
        refine to_iload_n (q := 38) rfl dX11_spanOf_37 rfl ?_
        refine to_iload (q := 40) rfl dX11_spanOf_38 rfl ?_
        obtain ⟨r13, m14, hc11, hf⟩ := cl2_some hf
        have qc12 := kX11_readsWord hS hc11 hI
        refine to_virtI (q := 43) mX11_readsWord [.int x1, .int x2, .int x7] dX11_spanOf_40 rfl rfl (Nat.le_of_ble_eq_true rfl) mo_X11_readsWord mv_X11_309 (Or.inl ⟨_, _, _, h_138 hS, rfl, rfl⟩) (Call_mono (by decide) qc12.1) ?_
        have hI := qc12.2
        by_cases h15 : r13 ≤ (0 : Int32)
        · have hf := ite_pos h15 hf
          refine to_ifT (q := 50) (op := .le) h15 dX11_spanOf_43 rfl ?_
          exact to_ext [(0, .ref 138), (1, .int x1), (2, .int x2), (3, .int x3), (4, .int x4), (5, .int x5), (6, .int x6), (7, .int x7)] (ext_cons rfl (ext_cons rfl (ext_cons rfl (ext_cons rfl (ext_cons rfl (ext_cons rfl (ext_cons rfl (ext_cons rfl ext_nil)))))))) (kX11_spanOf_50 hS ih hf hI)
        · have hf := ite_neg h15 hf
          refine to_ifF (q := 46) (op := .le) 50 h15 dX11_spanOf_43 rfl rfl ?_
          refine to_iconst (q := 47) ic_1 dX11_spanOf_46 rfl ?_
          refine to_goto (q := 51) dX11_spanOf_47 rfl ?_
          exact to_ext [(0, .ref 138), (1, .int x1), (2, .int x2), (3, .int x3), (4, .int x4), (5, .int x5), (6, .int x6), (7, .int x7)] (ext_cons rfl (ext_cons rfl (ext_cons rfl (ext_cons rfl (ext_cons rfl (ext_cons rfl (ext_cons rfl (ext_cons rfl ext_nil)))))))) (kX11_spanOf_51 hS ih hf hI)
def fX11_spanOf (x1 : Int32) (x2 : Int32) (x3 : Int32) (x4 : Int32) (m : Me) : Option (Int32 × Me) := fX11_spanOf_9 FU x1 x2 x3 x4 ((0 : Int32)) ((-1 : Int32)) ((0 : Int32)) m
set_option maxRecDepth 20000 in
theorem kX11_spanOf {S : Sh} (hS : ShOK S) {res : Int32 × Me} {x1 : Int32} {x2 : Int32} {x3 : Int32} {x4 : Int32} {m : Me} (hf : fX11_spanOf x1 x2 x3 x4 m = some res) (hI : Inv m) : Call 5 mX11_spanOf [.ref 138, .int x1, .int x2, .int x3, .int x4] (S, m) (some (.int res.1)) (S, res.2) ∧ Inv res.2 := by
  refine call_of (P := InvS) (Nat.le_of_ble_eq_true rfl) (by simp [Value.category]) ?_
  show TT InvS (Call 4) mX11_spanOf (0, [(0, .ref 138), (1, .int x1), (2, .int x2), (3, .int x3), (4, .int x4)], [], S, m) _ _
  unfold fX11_spanOf at hf
  refine to_iconst (q := 1) ic_0 dX11_spanOf_0 rfl ?_
  refine to_istore (q := 3) [(5, .int (0 : Int32)), (0, .ref 138), (1, .int x1), (2, .int x2), (3, .int x3), (4, .int x4)] rfl (by decide) dX11_spanOf_1 rfl ?_
  refine to_iconst (q := 4) ic_m1 dX11_spanOf_3 rfl ?_
  refine to_istore (q := 6) [(6, .int (-1 : Int32)), (5, .int (0 : Int32)), (0, .ref 138), (1, .int x1), (2, .int x2), (3, .int x3), (4, .int x4)] rfl (by decide) dX11_spanOf_4 rfl ?_
  refine to_iconst (q := 7) ic_0 dX11_spanOf_6 rfl ?_
  refine to_istore (q := 9) [(7, .int (0 : Int32)), (6, .int (-1 : Int32)), (5, .int (0 : Int32)), (0, .ref 138), (1, .int x1), (2, .int x2), (3, .int x3), (4, .int x4)] rfl (by decide) dX11_spanOf_7 rfl ?_
  exact to_ext [(0, .ref 138), (1, .int x1), (2, .int x2), (3, .int x3), (4, .int x4), (5, .int (0 : Int32)), (6, .int (-1 : Int32)), (7, .int (0 : Int32))] (ext_cons rfl (ext_cons rfl (ext_cons rfl (ext_cons rfl (ext_cons rfl (ext_cons rfl (ext_cons rfl (ext_cons rfl ext_nil)))))))) (kX11_spanOf_9 hS FU hf hI)
def fX11_spans_40 (t0 : Int32) (m : Me) : Option (Int32 × Me) := some (t0, m)
set_option maxRecDepth 20000 in
theorem kX11_spans_40 {S : Sh} (hS : ShOK S) {res : Int32 × Me} {t0 : Int32} {m : Me} (hf : fX11_spans_40 t0 m = some res) (hI : Inv m) : TT InvS (Call 5) mX11_spans (40, [], [.int t0], S, m) (some (.int res.1)) (S, res.2) := by
  unfold fX11_spans_40 at hf
  cases hf
  exact to_iret dX11_spans_40 rfl rfl rfl rfl hI
def fX11_spans_35 (m : Me) : Option (Int32 × Me) := cl2 (fX11_no (1 : Int32) m) fun r20 m21 => fX11_spans_40 r20 m21
set_option maxRecDepth 20000 in
theorem kX11_spans_35 {S : Sh} (hS : ShOK S) {res : Int32 × Me} {m : Me} (hf : fX11_spans_35 m = some res) (hI : Inv m) : TT InvS (Call 5) mX11_spans (35, [(0, .ref 138)], [], S, m) (some (.int res.1)) (S, res.2) := by
  unfold fX11_spans_35 at hf
  refine to_aload_n (q := 36) rfl (by decide) dX11_spans_35 rfl ?_
  refine to_iconst (q := 37) ic_1 dX11_spans_36 rfl ?_
  obtain ⟨r20, m21, hc18, hf⟩ := cl2_some hf
  have qc19 := kX11_no hS hc18 hI
  refine to_virtI (q := 40) mX11_no [.int (1 : Int32)] dX11_spans_37 rfl rfl (Nat.le_of_ble_eq_true rfl) mo_X11_no mv_X11_159 (Or.inl ⟨_, _, _, h_138 hS, rfl, rfl⟩) (Call_mono (by decide) qc19.1) ?_
  have hI := qc19.2
  exact to_ext [] ext_nil (kX11_spans_40 hS hf hI)
def fX11_spans (x1 : Int32) (x2 : Int32) (m : Me) : Option (Int32 × Me) := cl1 (fX11_good m) fun m3 => cl2 (fX11_isWordThere x1 m3) fun r6 m7 => if r6 = (0 : Int32) then fX11_spans_35 m7 else cl2 (fX11_isSide x2 m7) fun r11 m12 => if r11 = (0 : Int32) then fX11_spans_35 m12 else cl2 (fX11_spanOf x1 x2 (-1 : Int32) (0 : Int32) m12) fun r16 m17 => fX11_spans_40 ((r16 + (1000 : Int32))) m17
set_option maxRecDepth 20000 in
theorem kX11_spans {S : Sh} (hS : ShOK S) {res : Int32 × Me} {x1 : Int32} {x2 : Int32} {m : Me} (hf : fX11_spans x1 x2 m = some res) (hI : Inv m) : Call 6 mX11_spans [.ref 138, .int x1, .int x2] (S, m) (some (.int res.1)) (S, res.2) ∧ Inv res.2 := by
  refine call_of (P := InvS) (Nat.le_of_ble_eq_true rfl) (by simp [Value.category]) ?_
  show TT InvS (Call 5) mX11_spans (0, [(0, .ref 138), (1, .int x1), (2, .int x2)], [], S, m) _ _
  unfold fX11_spans at hf
  refine to_aload_n (q := 1) rfl (by decide) dX11_spans_0 rfl ?_
  obtain ⟨m3, hc1, hf⟩ := cl1_some hf
  have qc2 := kX11_good hS hc1 hI
  refine to_virtV (q := 4) mX11_good [] dX11_spans_1 rfl rfl (Nat.le_of_ble_eq_true rfl) mo_X11_good mv_X11_156 (Or.inl ⟨_, _, _, h_138 hS, rfl, rfl⟩) (Call_mono (by decide) qc2.1) ?_
  have hI := qc2.2
  refine to_aload_n (q := 5) rfl (by decide) dX11_spans_4 rfl ?_
  refine to_iload_n (q := 6) rfl dX11_spans_5 rfl ?_
  obtain ⟨r6, m7, hc4, hf⟩ := cl2_some hf
  have qc5 := kX11_isWordThere hS hc4 hI
  refine to_virtI (q := 9) mX11_isWordThere [.int x1] dX11_spans_6 rfl rfl (Nat.le_of_ble_eq_true rfl) mo_X11_isWordThere mv_X11_303 (Or.inl ⟨_, _, _, h_138 hS, rfl, rfl⟩) (Call_mono (by decide) qc5.1) ?_
  have hI := qc5.2
  by_cases h8 : r6 = (0 : Int32)
  · have hf := ite_pos h8 hf
    refine to_ifT (q := 35) (op := .eq) h8 dX11_spans_9 rfl ?_
    exact to_ext [(0, .ref 138)] (ext_cons rfl ext_nil) (kX11_spans_35 hS hf hI)
  · have hf := ite_neg h8 hf
    refine to_ifF (q := 12) (op := .eq) 35 h8 dX11_spans_9 rfl rfl ?_
    refine to_aload_n (q := 13) rfl (by decide) dX11_spans_12 rfl ?_
    refine to_iload_n (q := 14) rfl dX11_spans_13 rfl ?_
    obtain ⟨r11, m12, hc9, hf⟩ := cl2_some hf
    have qc10 := kX11_isSide hS hc9 hI
    refine to_virtI (q := 17) mX11_isSide [.int x2] dX11_spans_14 rfl rfl (Nat.le_of_ble_eq_true rfl) mo_X11_isSide mv_X11_253 (Or.inl ⟨_, _, _, h_138 hS, rfl, rfl⟩) (Call_mono (by decide) qc10.1) ?_
    have hI := qc10.2
    by_cases h13 : r11 = (0 : Int32)
    · have hf := ite_pos h13 hf
      refine to_ifT (q := 35) (op := .eq) h13 dX11_spans_17 rfl ?_
      exact to_ext [(0, .ref 138)] (ext_cons rfl ext_nil) (kX11_spans_35 hS hf hI)
    · have hf := ite_neg h13 hf
      refine to_ifF (q := 20) (op := .eq) 35 h13 dX11_spans_17 rfl rfl ?_
      refine to_aload_n (q := 21) rfl (by decide) dX11_spans_20 rfl ?_
      refine to_iload_n (q := 22) rfl dX11_spans_21 rfl ?_
      refine to_iload_n (q := 23) rfl dX11_spans_22 rfl ?_
      refine to_iconst (q := 24) ic_m1 dX11_spans_23 rfl ?_
      refine to_iconst (q := 25) ic_0 dX11_spans_24 rfl ?_
      obtain ⟨r16, m17, hc14, hf⟩ := cl2_some hf
      have qc15 := kX11_spanOf hS hc14 hI
      refine to_virtI (q := 28) mX11_spanOf [.int x1, .int x2, .int (-1 : Int32), .int (0 : Int32)] dX11_spans_25 rfl rfl (Nat.le_of_ble_eq_true rfl) mo_X11_spanOf mv_X11_312 (Or.inl ⟨_, _, _, h_138 hS, rfl, rfl⟩) (Call_mono (by decide) qc15.1) ?_
      have hI := qc15.2
      refine to_sipush (q := 31) sp_1000 dX11_spans_28 rfl ?_
      refine to_iadd (q := 32) dX11_spans_31 rfl ?_
      refine to_goto (q := 40) dX11_spans_32 rfl ?_
      exact to_ext [] ext_nil (kX11_spans_40 hS hf hI)
def fX11_span_56 (t0 : Int32) (m : Me) : Option (Int32 × Me) := some (t0, m)
set_option maxRecDepth 20000 in
theorem kX11_span_56 {S : Sh} (hS : ShOK S) {res : Int32 × Me} {t0 : Int32} {m : Me} (hf : fX11_span_56 t0 m = some res) (hI : Inv m) : TT InvS (Call 5) mX11_span (56, [], [.int t0], S, m) (some (.int res.1)) (S, res.2) := by
  unfold fX11_span_56 at hf
  cases hf
  exact to_iret dX11_span_56 rfl rfl rfl rfl hI
def fX11_span_24 (m : Me) : Option (Int32 × Me) := cl2 (fX11_no (1 : Int32) m) fun r26 m27 => some (r26, m27)
set_option maxRecDepth 20000 in
theorem kX11_span_24 {S : Sh} (hS : ShOK S) {res : Int32 × Me} {m : Me} (hf : fX11_span_24 m = some res) (hI : Inv m) : TT InvS (Call 5) mX11_span (24, [(0, .ref 138)], [], S, m) (some (.int res.1)) (S, res.2) := by
  unfold fX11_span_24 at hf
  refine to_aload_n (q := 25) rfl (by decide) dX11_span_24 rfl ?_
  refine to_iconst (q := 26) ic_1 dX11_span_25 rfl ?_
  obtain ⟨r26, m27, hc24, hf⟩ := cl2_some hf
  have qc25 := kX11_no hS hc24 hI
  refine to_virtI (q := 29) mX11_no [.int (1 : Int32)] dX11_span_26 rfl rfl (Nat.le_of_ble_eq_true rfl) mo_X11_no mv_X11_159 (Or.inl ⟨_, _, _, h_138 hS, rfl, rfl⟩) (Call_mono (by decide) qc25.1) ?_
  have hI := qc25.2
  cases hf
  exact to_iret dX11_span_29 rfl rfl rfl rfl hI
def fX11_span (x1 : Int32) (x2 : Int32) (x3 : Int32) (x4 : Int32) (m : Me) : Option (Int32 × Me) := cl1 (fX11_good m) fun m3 => cl2 (fX11_isWordThere x1 m3) fun r6 m7 => if r6 = (0 : Int32) then fX11_span_24 m7 else cl2 (fX11_isSide x2 m7) fun r11 m12 => if r11 = (0 : Int32) then fX11_span_24 m12 else if (0 : Int32) ≤ x3 then cl2 (fX11_spanOf x1 x2 x3 x4 m12) fun r17 m18 => if (0 : Int32) ≤ r17 then fX11_span_56 r17 m18 else cl2 (fX11_no (1 : Int32) m18) fun r22 m23 => fX11_span_56 r22 m23 else fX11_span_24 m12
set_option maxRecDepth 20000 in
theorem kX11_span {S : Sh} (hS : ShOK S) {res : Int32 × Me} {x1 : Int32} {x2 : Int32} {x3 : Int32} {x4 : Int32} {m : Me} (hf : fX11_span x1 x2 x3 x4 m = some res) (hI : Inv m) : Call 6 mX11_span [.ref 138, .int x1, .int x2, .int x3, .int x4] (S, m) (some (.int res.1)) (S, res.2) ∧ Inv res.2 := by
  refine call_of (P := InvS) (Nat.le_of_ble_eq_true rfl) (by simp [Value.category]) ?_
  show TT InvS (Call 5) mX11_span (0, [(0, .ref 138), (1, .int x1), (2, .int x2), (3, .int x3), (4, .int x4)], [], S, m) _ _
  unfold fX11_span at hf
  refine to_aload_n (q := 1) rfl (by decide) dX11_span_0 rfl ?_
  obtain ⟨m3, hc1, hf⟩ := cl1_some hf
  have qc2 := kX11_good hS hc1 hI
  refine to_virtV (q := 4) mX11_good [] dX11_span_1 rfl rfl (Nat.le_of_ble_eq_true rfl) mo_X11_good mv_X11_156 (Or.inl ⟨_, _, _, h_138 hS, rfl, rfl⟩) (Call_mono (by decide) qc2.1) ?_
  have hI := qc2.2
  refine to_aload_n (q := 5) rfl (by decide) dX11_span_4 rfl ?_
  refine to_iload_n (q := 6) rfl dX11_span_5 rfl ?_
  obtain ⟨r6, m7, hc4, hf⟩ := cl2_some hf
  have qc5 := kX11_isWordThere hS hc4 hI
  refine to_virtI (q := 9) mX11_isWordThere [.int x1] dX11_span_6 rfl rfl (Nat.le_of_ble_eq_true rfl) mo_X11_isWordThere mv_X11_303 (Or.inl ⟨_, _, _, h_138 hS, rfl, rfl⟩) (Call_mono (by decide) qc5.1) ?_
  have hI := qc5.2
  by_cases h8 : r6 = (0 : Int32)
  · have hf := ite_pos h8 hf
    refine to_ifT (q := 24) (op := .eq) h8 dX11_span_9 rfl ?_
    exact to_ext [(0, .ref 138)] (ext_cons rfl ext_nil) (kX11_span_24 hS hf hI)
  · have hf := ite_neg h8 hf
    refine to_ifF (q := 12) (op := .eq) 24 h8 dX11_span_9 rfl rfl ?_
    refine to_aload_n (q := 13) rfl (by decide) dX11_span_12 rfl ?_
    refine to_iload_n (q := 14) rfl dX11_span_13 rfl ?_
    obtain ⟨r11, m12, hc9, hf⟩ := cl2_some hf
    have qc10 := kX11_isSide hS hc9 hI
    refine to_virtI (q := 17) mX11_isSide [.int x2] dX11_span_14 rfl rfl (Nat.le_of_ble_eq_true rfl) mo_X11_isSide mv_X11_253 (Or.inl ⟨_, _, _, h_138 hS, rfl, rfl⟩) (Call_mono (by decide) qc10.1) ?_
    have hI := qc10.2
    by_cases h13 : r11 = (0 : Int32)
    · have hf := ite_pos h13 hf
      refine to_ifT (q := 24) (op := .eq) h13 dX11_span_17 rfl ?_
      exact to_ext [(0, .ref 138)] (ext_cons rfl ext_nil) (kX11_span_24 hS hf hI)
    · have hf := ite_neg h13 hf
      refine to_ifF (q := 20) (op := .eq) 24 h13 dX11_span_17 rfl rfl ?_
      refine to_iload_n (q := 21) rfl dX11_span_20 rfl ?_
      by_cases h14 : (0 : Int32) ≤ x3
      · have hf := ite_pos h14 hf
        refine to_ifT (q := 30) (op := .ge) h14 dX11_span_21 rfl ?_
        refine to_aload_n (q := 31) rfl (by decide) dX11_span_30 rfl ?_
        refine to_iload_n (q := 32) rfl dX11_span_31 rfl ?_
        refine to_iload_n (q := 33) rfl dX11_span_32 rfl ?_
        refine to_iload_n (q := 34) rfl dX11_span_33 rfl ?_
        refine to_iload (q := 36) rfl dX11_span_34 rfl ?_
        obtain ⟨r17, m18, hc15, hf⟩ := cl2_some hf
        have qc16 := kX11_spanOf hS hc15 hI
        refine to_virtI (q := 39) mX11_spanOf [.int x1, .int x2, .int x3, .int x4] dX11_span_36 rfl rfl (Nat.le_of_ble_eq_true rfl) mo_X11_spanOf mv_X11_312 (Or.inl ⟨_, _, _, h_138 hS, rfl, rfl⟩) (Call_mono (by decide) qc16.1) ?_
        have hI := qc16.2
        refine to_istore (q := 41) [(5, .int r17), (0, .ref 138), (1, .int x1), (2, .int x2), (3, .int x3), (4, .int x4)] rfl (by decide) dX11_span_39 rfl ?_
        refine to_iload (q := 43) rfl dX11_span_41 rfl ?_
        by_cases h19 : (0 : Int32) ≤ r17
        · have hf := ite_pos h19 hf
          refine to_ifT (q := 54) (op := .ge) h19 dX11_span_43 rfl ?_
          refine to_iload (q := 56) rfl dX11_span_54 rfl ?_
          exact to_ext [] ext_nil (kX11_span_56 hS hf hI)
        · have hf := ite_neg h19 hf
          refine to_ifF (q := 46) (op := .ge) 54 h19 dX11_span_43 rfl rfl ?_
          refine to_aload_n (q := 47) rfl (by decide) dX11_span_46 rfl ?_
          refine to_iconst (q := 48) ic_1 dX11_span_47 rfl ?_
          obtain ⟨r22, m23, hc20, hf⟩ := cl2_some hf
          have qc21 := kX11_no hS hc20 hI
          refine to_virtI (q := 51) mX11_no [.int (1 : Int32)] dX11_span_48 rfl rfl (Nat.le_of_ble_eq_true rfl) mo_X11_no mv_X11_159 (Or.inl ⟨_, _, _, h_138 hS, rfl, rfl⟩) (Call_mono (by decide) qc21.1) ?_
          have hI := qc21.2
          refine to_goto (q := 56) dX11_span_51 rfl ?_
          exact to_ext [] ext_nil (kX11_span_56 hS hf hI)
      · have hf := ite_neg h14 hf
        refine to_ifF (q := 24) (op := .ge) 30 h14 dX11_span_21 rfl rfl ?_
        exact to_ext [(0, .ref 138)] (ext_cons rfl ext_nil) (kX11_span_24 hS hf hI)
def fX11_says_59 (k27 : Int32 → Int32 → Int32 → Int32 → Me → Option (Int32 × Me)) (x1 : Int32) (x2 : Int32) (x5 : Int32) (t0 : Int32) (t1 : Int32) (m : Me) : Option (Int32 × Me) := k27 x1 x2 ((t1 ||| t0)) ((x5 + (1 : Int32))) m
set_option maxRecDepth 20000 in
theorem kX11_says_59 {S : Sh} (hS : ShOK S) {res : Int32 × Me} {k27 : Int32 → Int32 → Int32 → Int32 → Me → Option (Int32 × Me)} (hk27 : ∀ {x1 : Int32} {x2 : Int32} {x4 : Int32} {x5 : Int32} {m : Me}, k27 x1 x2 x4 x5 m = some res → Inv m → TT InvS (Call 4) mX11_says (27, [(0, .ref 138), (1, .int x1), (2, .int x2), (4, .int x4), (5, .int x5)], [], S, m) (some (.int res.1)) (S, res.2)) {x1 : Int32} {x2 : Int32} {x5 : Int32} {t0 : Int32} {t1 : Int32} {m : Me} (hf : fX11_says_59 k27 x1 x2 x5 t0 t1 m = some res) (hI : Inv m) : TT InvS (Call 4) mX11_says (59, [(0, .ref 138), (1, .int x1), (2, .int x2), (5, .int x5)], [.int t0, .int t1], S, m) (some (.int res.1)) (S, res.2) := by
  unfold fX11_says_59 at hf
  refine to_ior (q := 60) dX11_says_59 rfl ?_
  refine to_istore (q := 62) [(4, .int (t1 ||| t0)), (0, .ref 138), (1, .int x1), (2, .int x2), (5, .int x5)] rfl (by decide) dX11_says_60 rfl ?_
  refine to_iinc (q := 65) (v := (x5 + (1 : Int32))) rfl (congrArg (fun z => x5 + z) ic_1) [(5, .int (x5 + (1 : Int32))), (4, .int (t1 ||| t0)), (0, .ref 138), (1, .int x1), (2, .int x2)] rfl (by decide) dX11_says_62 rfl ?_
  refine to_goto (q := 27) dX11_says_65 rfl ?_
  exact to_ext [(0, .ref 138), (1, .int x1), (2, .int x2), (4, .int (t1 ||| t0)), (5, .int (x5 + (1 : Int32)))] (ext_cons rfl (ext_cons rfl (ext_cons rfl (ext_cons rfl (ext_cons rfl ext_nil))))) (hk27 hf hI)
def fX11_says_27 (n : Nat) (x1 : Int32) (x2 : Int32) (x4 : Int32) (x5 : Int32) (m : Me) : Option (Int32 × Me) := match n with
  | 0 => none
  | n + 1 => if (m.1 141 5) ≤ x5 then some (x4, m) else cl2 (fX11_readsWord x5 x1 x2 m) fun r16 m17 => if r16 ≤ (0 : Int32) then fX11_says_59 (fX11_says_27 n) x1 x2 x5 ((0 : Int32)) x4 m17 else fX11_says_59 (fX11_says_27 n) x1 x2 x5 (((1 : Int32) <<< (x5 &&& 31))) x4 m17
set_option maxRecDepth 20000 in
theorem kX11_says_27 {S : Sh} (hS : ShOK S) {res : Int32 × Me} (n : Nat) : ∀ {x1 : Int32} {x2 : Int32} {x4 : Int32} {x5 : Int32} {m : Me}, fX11_says_27 n x1 x2 x4 x5 m = some res → Inv m → TT InvS (Call 4) mX11_says (27, [(0, .ref 138), (1, .int x1), (2, .int x2), (4, .int x4), (5, .int x5)], [], S, m) (some (.int res.1)) (S, res.2) := by
  induction n with
  | zero => intro x1 x2 x4 x5 m hf; cases hf
  | succ n ih =>
    intro x1 x2 x4 x5 m hf  hI
    unfold fX11_says_27 at hf
    refine to_iload (q := 29) rfl dX11_says_27 rfl ?_
    refine to_aload_n (q := 30) rfl (by decide) dX11_says_29 rfl ?_
    refine to_getR (q := 33) (b := 141) (k0 := 11) (C := RX11) (T := TX11) (N := 37) (j := 15) rfl fx_X11_20 (h_138 hS) rfl (iv_138_15 hI) dX11_says_30 rfl ?_
    refine to_iconst (q := 34) ic_5 dX11_says_33 rfl ?_
    refine to_iaj (q := 35) (h_141 hS) (by decide) (tn_5) dX11_says_34 rfl ?_
    by_cases h13 : (m.1 141 5) ≤ x5
    · have hf := ite_pos h13 hf
      refine to_icT (q := 68) (op := .ge) h13 dX11_says_35 rfl ?_
      refine to_iload (q := 70) rfl dX11_says_68 rfl ?_
      cases hf
      exact to_iret dX11_says_70 rfl rfl rfl rfl hI
    · have hf := ite_neg h13 hf
      refine to_icF (q := 38) (op := .ge) 68 h13 dX11_says_35 rfl rfl ?_
      refine to_iload (q := 40) rfl dX11_says_38 rfl ?_
      refine to_aload_n (q := 41) rfl (by decide) dX11_says_40 rfl ?_
      refine to_iload (q := 43) rfl dX11_says_41 rfl ?_
      refine to_iload_n (q := 44) rfl dX11_says_43 rfl ?_
      refine to_iload_n (q := 45) rfl dX11_says_44 rfl ?_
      obtain ⟨r16, m17, hc14, hf⟩ := cl2_some hf
      have qc15 := kX11_readsWord hS hc14 hI
      refine to_virtI (q := 48) mX11_readsWord [.int x5, .int x1, .int x2] dX11_says_45 rfl rfl (Nat.le_of_ble_eq_true rfl) mo_X11_readsWord mv_X11_309 (Or.inl ⟨_, _, _, h_138 hS, rfl, rfl⟩) (Call_mono (by decide) qc15.1) ?_
      have hI := qc15.2
      by_cases h18 : r16 ≤ (0 : Int32)
      · have hf := ite_pos h18 hf
        refine to_ifT (q := 58) (op := .le) h18 dX11_says_48 rfl ?_
        refine to_iconst (q := 59) ic_0 dX11_says_58 rfl ?_
        exact to_ext [(0, .ref 138), (1, .int x1), (2, .int x2), (5, .int x5)] (ext_cons rfl (ext_cons rfl (ext_cons rfl (ext_cons rfl ext_nil)))) (kX11_says_59 hS ih hf hI)
      · have hf := ite_neg h18 hf
        refine to_ifF (q := 51) (op := .le) 58 h18 dX11_says_48 rfl rfl ?_
        refine to_iconst (q := 52) ic_1 dX11_says_51 rfl ?_
        refine to_iload (q := 54) rfl dX11_says_52 rfl ?_
        refine to_ishl (q := 55) dX11_says_54 rfl ?_
        refine to_goto (q := 59) dX11_says_55 rfl ?_
        exact to_ext [(0, .ref 138), (1, .int x1), (2, .int x2), (5, .int x5)] (ext_cons rfl (ext_cons rfl (ext_cons rfl (ext_cons rfl ext_nil)))) (kX11_says_59 hS ih hf hI)
def fX11_says (x1 : Int32) (x2 : Int32) (m : Me) : Option (Int32 × Me) := cl1 (fX11_good m) fun m3 => cl2 (fX11_openWhy x1 x2 m3) fun r6 m7 => if r6 = (0 : Int32) then fX11_says_27 FU x1 x2 ((0 : Int32)) ((0 : Int32)) m7 else cl2 (fX11_no r6 m7) fun r11 m12 => some (r11, m12)
set_option maxRecDepth 20000 in
theorem kX11_says {S : Sh} (hS : ShOK S) {res : Int32 × Me} {x1 : Int32} {x2 : Int32} {m : Me} (hf : fX11_says x1 x2 m = some res) (hI : Inv m) : Call 5 mX11_says [.ref 138, .int x1, .int x2] (S, m) (some (.int res.1)) (S, res.2) ∧ Inv res.2 := by
  refine call_of (P := InvS) (Nat.le_of_ble_eq_true rfl) (by simp [Value.category]) ?_
  show TT InvS (Call 4) mX11_says (0, [(0, .ref 138), (1, .int x1), (2, .int x2)], [], S, m) _ _
  unfold fX11_says at hf
  refine to_aload_n (q := 1) rfl (by decide) dX11_says_0 rfl ?_
  obtain ⟨m3, hc1, hf⟩ := cl1_some hf
  have qc2 := kX11_good hS hc1 hI
  refine to_virtV (q := 4) mX11_good [] dX11_says_1 rfl rfl (Nat.le_of_ble_eq_true rfl) mo_X11_good mv_X11_156 (Or.inl ⟨_, _, _, h_138 hS, rfl, rfl⟩) (Call_mono (by decide) qc2.1) ?_
  have hI := qc2.2
  refine to_aload_n (q := 5) rfl (by decide) dX11_says_4 rfl ?_
  refine to_iload_n (q := 6) rfl dX11_says_5 rfl ?_
  refine to_iload_n (q := 7) rfl dX11_says_6 rfl ?_
  obtain ⟨r6, m7, hc4, hf⟩ := cl2_some hf
  have qc5 := kX11_openWhy hS hc4 hI
  refine to_virtI (q := 10) mX11_openWhy [.int x1, .int x2] dX11_says_7 rfl rfl (Nat.le_of_ble_eq_true rfl) mo_X11_openWhy mv_X11_276 (Or.inl ⟨_, _, _, h_138 hS, rfl, rfl⟩) (Call_mono (by decide) qc5.1) ?_
  have hI := qc5.2
  refine to_istore_n (q := 11) [(3, .int r6), (0, .ref 138), (1, .int x1), (2, .int x2)] rfl (by decide) dX11_says_10 rfl ?_
  refine to_iload_n (q := 12) rfl dX11_says_11 rfl ?_
  by_cases h8 : r6 = (0 : Int32)
  · have hf := ite_pos h8 hf
    refine to_ifT (q := 21) (op := .eq) h8 dX11_says_12 rfl ?_
    refine to_iconst (q := 22) ic_0 dX11_says_21 rfl ?_
    refine to_istore (q := 24) [(4, .int (0 : Int32)), (3, .int r6), (0, .ref 138), (1, .int x1), (2, .int x2)] rfl (by decide) dX11_says_22 rfl ?_
    refine to_iconst (q := 25) ic_0 dX11_says_24 rfl ?_
    refine to_istore (q := 27) [(5, .int (0 : Int32)), (4, .int (0 : Int32)), (3, .int r6), (0, .ref 138), (1, .int x1), (2, .int x2)] rfl (by decide) dX11_says_25 rfl ?_
    exact to_ext [(0, .ref 138), (1, .int x1), (2, .int x2), (4, .int (0 : Int32)), (5, .int (0 : Int32))] (ext_cons rfl (ext_cons rfl (ext_cons rfl (ext_cons rfl (ext_cons rfl ext_nil))))) (kX11_says_27 hS FU hf hI)
  · have hf := ite_neg h8 hf
    refine to_ifF (q := 15) (op := .eq) 21 h8 dX11_says_12 rfl rfl ?_
    refine to_aload_n (q := 16) rfl (by decide) dX11_says_15 rfl ?_
    refine to_iload_n (q := 17) rfl dX11_says_16 rfl ?_
    obtain ⟨r11, m12, hc9, hf⟩ := cl2_some hf
    have qc10 := kX11_no hS hc9 hI
    refine to_virtI (q := 20) mX11_no [.int r6] dX11_says_17 rfl rfl (Nat.le_of_ble_eq_true rfl) mo_X11_no mv_X11_159 (Or.inl ⟨_, _, _, h_138 hS, rfl, rfl⟩) (Call_mono (by decide) qc10.1) ?_
    have hI := qc10.2
    cases hf
    exact to_iret dX11_says_20 rfl rfl rfl rfl hI
def fX11_isKeptWith_47 (t0 : Int32) (m : Me) : Option (Int32 × Me) := ck (t0 = 0 ∨ t0 = 1) (some (t0, m))
set_option maxRecDepth 20000 in
theorem kX11_isKeptWith_47 {S : Sh} (hS : ShOK S) {res : Int32 × Me} {t0 : Int32} {m : Me} (hf : fX11_isKeptWith_47 t0 m = some res) (hI : Inv m) : TT InvS (Call 3) mX11_isKeptWith (47, [], [.int t0], S, m) (some (.int res.1)) (S, res.2) := by
  unfold fX11_isKeptWith_47 at hf
  obtain ⟨hz9, hf⟩ := ck_some hf
  cases hf
  exact to_iret dX11_isKeptWith_47 rfl (nf_Z hz9).1 rfl rfl hI
def fX11_isKeptWith (x1 : Int32) (x2 : Int32) (m : Me) : Option (Int32 × Me) := ck (inb ((64 : Int32) + x1) 186) (ck (inb ((100 : Int32) + x1) 186) (ck (inb ((104 : Int32) + x1) 186) (cl2 (fX11_readsOf (((68 : Int32) + ((8 : Int32) * x1))) ((m.1 141 ((64 : Int32) + x1).toNatClampNeg)) ((m.1 141 ((100 : Int32) + x1).toNatClampNeg)) ((m.1 141 ((104 : Int32) + x1).toNatClampNeg)) x2 m) fun r6 m7 => if r6 ≤ (0 : Int32) then fX11_isKeptWith_47 ((0 : Int32)) m7 else fX11_isKeptWith_47 ((1 : Int32)) m7)))
set_option maxRecDepth 20000 in
theorem kX11_isKeptWith {S : Sh} (hS : ShOK S) {res : Int32 × Me} {x1 : Int32} {x2 : Int32} {m : Me} (hf : fX11_isKeptWith x1 x2 m = some res) (hI : Inv m) : Call 4 mX11_isKeptWith [.ref 138, .int x1, .int x2] (S, m) (some (.int res.1)) (S, res.2) ∧ Inv res.2 := by
  refine call_of (P := InvS) (Nat.le_of_ble_eq_true rfl) (by simp [Value.category]) ?_
  show TT InvS (Call 3) mX11_isKeptWith (0, [(0, .ref 138), (1, .int x1), (2, .int x2)], [], S, m) _ _
  unfold fX11_isKeptWith at hf
  refine to_aload_n (q := 1) rfl (by decide) dX11_isKeptWith_0 rfl ?_
  refine to_bipush (q := 3) bp_68 dX11_isKeptWith_1 rfl ?_
  refine to_bipush (q := 5) bp_8 dX11_isKeptWith_3 rfl ?_
  refine to_iload_n (q := 6) rfl dX11_isKeptWith_5 rfl ?_
  refine to_imul (q := 7) dX11_isKeptWith_6 rfl ?_
  refine to_iadd (q := 8) dX11_isKeptWith_7 rfl ?_
  refine to_aload_n (q := 9) rfl (by decide) dX11_isKeptWith_8 rfl ?_
  refine to_getR (q := 12) (b := 141) (k0 := 11) (C := RX11) (T := TX11) (N := 37) (j := 15) rfl fx_X11_20 (h_138 hS) rfl (iv_138_15 hI) dX11_isKeptWith_9 rfl ?_
  refine to_bipush (q := 14) bp_64 dX11_isKeptWith_12 rfl ?_
  refine to_iload_n (q := 15) rfl dX11_isKeptWith_14 rfl ?_
  refine to_iadd (q := 16) dX11_isKeptWith_15 rfl ?_
  obtain ⟨hb1, hf⟩ := ck_some hf
  refine to_iaj (q := 17) (h_141 hS) hb1 (rfl) dX11_isKeptWith_16 rfl ?_
  refine to_aload_n (q := 18) rfl (by decide) dX11_isKeptWith_17 rfl ?_
  refine to_getR (q := 21) (b := 141) (k0 := 11) (C := RX11) (T := TX11) (N := 37) (j := 15) rfl fx_X11_20 (h_138 hS) rfl (iv_138_15 hI) dX11_isKeptWith_18 rfl ?_
  refine to_bipush (q := 23) bp_100 dX11_isKeptWith_21 rfl ?_
  refine to_iload_n (q := 24) rfl dX11_isKeptWith_23 rfl ?_
  refine to_iadd (q := 25) dX11_isKeptWith_24 rfl ?_
  obtain ⟨hb2, hf⟩ := ck_some hf
  refine to_iaj (q := 26) (h_141 hS) hb2 (rfl) dX11_isKeptWith_25 rfl ?_
  refine to_aload_n (q := 27) rfl (by decide) dX11_isKeptWith_26 rfl ?_
  refine to_getR (q := 30) (b := 141) (k0 := 11) (C := RX11) (T := TX11) (N := 37) (j := 15) rfl fx_X11_20 (h_138 hS) rfl (iv_138_15 hI) dX11_isKeptWith_27 rfl ?_
  refine to_bipush (q := 32) bp_104 dX11_isKeptWith_30 rfl ?_
  refine to_iload_n (q := 33) rfl dX11_isKeptWith_32 rfl ?_
  refine to_iadd (q := 34) dX11_isKeptWith_33 rfl ?_
  obtain ⟨hb3, hf⟩ := ck_some hf
  refine to_iaj (q := 35) (h_141 hS) hb3 (rfl) dX11_isKeptWith_34 rfl ?_
  refine to_iload_n (q := 36) rfl dX11_isKeptWith_35 rfl ?_
  obtain ⟨r6, m7, hc4, hf⟩ := cl2_some hf
  have qc5 := kX11_readsOf hS hc4 hI
  refine to_virtI (q := 39) mX11_readsOf [.int ((68 : Int32) + ((8 : Int32) * x1)), .int (m.1 141 ((64 : Int32) + x1).toNatClampNeg), .int (m.1 141 ((100 : Int32) + x1).toNatClampNeg), .int (m.1 141 ((104 : Int32) + x1).toNatClampNeg), .int x2] dX11_isKeptWith_36 rfl rfl (Nat.le_of_ble_eq_true rfl) mo_X11_readsOf mv_X11_299 (Or.inl ⟨_, _, _, h_138 hS, rfl, rfl⟩) (Call_mono (by decide) qc5.1) ?_
  have hI := qc5.2
  by_cases h8 : r6 ≤ (0 : Int32)
  · have hf := ite_pos h8 hf
    refine to_ifT (q := 46) (op := .le) h8 dX11_isKeptWith_39 rfl ?_
    refine to_iconst (q := 47) ic_0 dX11_isKeptWith_46 rfl ?_
    exact to_ext [] ext_nil (kX11_isKeptWith_47 hS hf hI)
  · have hf := ite_neg h8 hf
    refine to_ifF (q := 42) (op := .le) 46 h8 dX11_isKeptWith_39 rfl rfl ?_
    refine to_iconst (q := 43) ic_1 dX11_isKeptWith_42 rfl ?_
    refine to_goto (q := 47) dX11_isKeptWith_43 rfl ?_
    exact to_ext [] ext_nil (kX11_isKeptWith_47 hS hf hI)
def fX11_keptWith_32 (k4 : Int32 → Int32 → Int32 → Me → Option (Int32 × Me)) (x1 : Int32) (x3 : Int32) (t0 : Int32) (t1 : Int32) (m : Me) : Option (Int32 × Me) := k4 x1 ((t1 ||| t0)) ((x3 + (1 : Int32))) m
set_option maxRecDepth 20000 in
theorem kX11_keptWith_32 {S : Sh} (hS : ShOK S) {res : Int32 × Me} {k4 : Int32 → Int32 → Int32 → Me → Option (Int32 × Me)} (hk4 : ∀ {x1 : Int32} {x2 : Int32} {x3 : Int32} {m : Me}, k4 x1 x2 x3 m = some res → Inv m → TT InvS (Call 4) mX11_keptWith (4, [(0, .ref 138), (1, .int x1), (2, .int x2), (3, .int x3)], [], S, m) (some (.int res.1)) (S, res.2)) {x1 : Int32} {x3 : Int32} {t0 : Int32} {t1 : Int32} {m : Me} (hf : fX11_keptWith_32 k4 x1 x3 t0 t1 m = some res) (hI : Inv m) : TT InvS (Call 4) mX11_keptWith (32, [(0, .ref 138), (1, .int x1), (3, .int x3)], [.int t0, .int t1], S, m) (some (.int res.1)) (S, res.2) := by
  unfold fX11_keptWith_32 at hf
  refine to_ior (q := 33) dX11_keptWith_32 rfl ?_
  refine to_istore_n (q := 34) [(2, .int (t1 ||| t0)), (0, .ref 138), (1, .int x1), (3, .int x3)] rfl (by decide) dX11_keptWith_33 rfl ?_
  refine to_iinc (q := 37) (v := (x3 + (1 : Int32))) rfl (congrArg (fun z => x3 + z) ic_1) [(3, .int (x3 + (1 : Int32))), (2, .int (t1 ||| t0)), (0, .ref 138), (1, .int x1)] rfl (by decide) dX11_keptWith_34 rfl ?_
  refine to_goto (q := 4) dX11_keptWith_37 rfl ?_
  exact to_ext [(0, .ref 138), (1, .int x1), (2, .int (t1 ||| t0)), (3, .int (x3 + (1 : Int32)))] (ext_cons rfl (ext_cons rfl (ext_cons rfl (ext_cons rfl ext_nil)))) (hk4 hf hI)
def fX11_keptWith_4 (n : Nat) (x1 : Int32) (x2 : Int32) (x3 : Int32) (m : Me) : Option (Int32 × Me) := match n with
  | 0 => none
  | n + 1 => if (m.1 141 6) ≤ x3 then some (x2, m) else cl2 (fX11_isKeptWith x3 x1 m) fun r4 m5 => if r4 = (0 : Int32) then fX11_keptWith_32 (fX11_keptWith_4 n) x1 x3 ((0 : Int32)) x2 m5 else fX11_keptWith_32 (fX11_keptWith_4 n) x1 x3 (((1 : Int32) <<< (x3 &&& 31))) x2 m5
set_option maxRecDepth 20000 in
theorem kX11_keptWith_4 {S : Sh} (hS : ShOK S) {res : Int32 × Me} (n : Nat) : ∀ {x1 : Int32} {x2 : Int32} {x3 : Int32} {m : Me}, fX11_keptWith_4 n x1 x2 x3 m = some res → Inv m → TT InvS (Call 4) mX11_keptWith (4, [(0, .ref 138), (1, .int x1), (2, .int x2), (3, .int x3)], [], S, m) (some (.int res.1)) (S, res.2) := by
  induction n with
  | zero => intro x1 x2 x3 m hf; cases hf
  | succ n ih =>
    intro x1 x2 x3 m hf  hI
    unfold fX11_keptWith_4 at hf
    refine to_iload_n (q := 5) rfl dX11_keptWith_4 rfl ?_
    refine to_aload_n (q := 6) rfl (by decide) dX11_keptWith_5 rfl ?_
    refine to_getR (q := 9) (b := 141) (k0 := 11) (C := RX11) (T := TX11) (N := 37) (j := 15) rfl fx_X11_20 (h_138 hS) rfl (iv_138_15 hI) dX11_keptWith_6 rfl ?_
    refine to_bipush (q := 11) bp_6 dX11_keptWith_9 rfl ?_
    refine to_iaj (q := 12) (h_141 hS) (by decide) (tn_6) dX11_keptWith_11 rfl ?_
    by_cases h1 : (m.1 141 6) ≤ x3
    · have hf := ite_pos h1 hf
      refine to_icT (q := 40) (op := .ge) h1 dX11_keptWith_12 rfl ?_
      refine to_iload_n (q := 41) rfl dX11_keptWith_40 rfl ?_
      cases hf
      exact to_iret dX11_keptWith_41 rfl rfl rfl rfl hI
    · have hf := ite_neg h1 hf
      refine to_icF (q := 15) (op := .ge) 40 h1 dX11_keptWith_12 rfl rfl ?_
      refine to_iload_n (q := 16) rfl dX11_keptWith_15 rfl ?_
      refine to_aload_n (q := 17) rfl (by decide) dX11_keptWith_16 rfl ?_
      refine to_iload_n (q := 18) rfl dX11_keptWith_17 rfl ?_
      refine to_iload_n (q := 19) rfl dX11_keptWith_18 rfl ?_
      obtain ⟨r4, m5, hc2, hf⟩ := cl2_some hf
      have qc3 := kX11_isKeptWith hS hc2 hI
      refine to_virtI (q := 22) mX11_isKeptWith [.int x3, .int x1] dX11_keptWith_19 rfl rfl (Nat.le_of_ble_eq_true rfl) mo_X11_isKeptWith mv_X11_316 (Or.inl ⟨_, _, _, h_138 hS, rfl, rfl⟩) (Call_mono (by decide) qc3.1) ?_
      have hI := qc3.2
      by_cases h6 : r4 = (0 : Int32)
      · have hf := ite_pos h6 hf
        refine to_ifT (q := 31) (op := .eq) h6 dX11_keptWith_22 rfl ?_
        refine to_iconst (q := 32) ic_0 dX11_keptWith_31 rfl ?_
        exact to_ext [(0, .ref 138), (1, .int x1), (3, .int x3)] (ext_cons rfl (ext_cons rfl (ext_cons rfl ext_nil))) (kX11_keptWith_32 hS ih hf hI)
      · have hf := ite_neg h6 hf
        refine to_ifF (q := 25) (op := .eq) 31 h6 dX11_keptWith_22 rfl rfl ?_
        refine to_iconst (q := 26) ic_1 dX11_keptWith_25 rfl ?_
        refine to_iload_n (q := 27) rfl dX11_keptWith_26 rfl ?_
        refine to_ishl (q := 28) dX11_keptWith_27 rfl ?_
        refine to_goto (q := 32) dX11_keptWith_28 rfl ?_
        exact to_ext [(0, .ref 138), (1, .int x1), (3, .int x3)] (ext_cons rfl (ext_cons rfl (ext_cons rfl ext_nil))) (kX11_keptWith_32 hS ih hf hI)
def fX11_keptWith (x1 : Int32) (m : Me) : Option (Int32 × Me) := fX11_keptWith_4 FU x1 ((0 : Int32)) ((0 : Int32)) m
set_option maxRecDepth 20000 in
theorem kX11_keptWith {S : Sh} (hS : ShOK S) {res : Int32 × Me} {x1 : Int32} {m : Me} (hf : fX11_keptWith x1 m = some res) (hI : Inv m) : Call 5 mX11_keptWith [.ref 138, .int x1] (S, m) (some (.int res.1)) (S, res.2) ∧ Inv res.2 := by
  refine call_of (P := InvS) (Nat.le_of_ble_eq_true rfl) (by simp [Value.category]) ?_
  show TT InvS (Call 4) mX11_keptWith (0, [(0, .ref 138), (1, .int x1)], [], S, m) _ _
  unfold fX11_keptWith at hf
  refine to_iconst (q := 1) ic_0 dX11_keptWith_0 rfl ?_
  refine to_istore_n (q := 2) [(2, .int (0 : Int32)), (0, .ref 138), (1, .int x1)] rfl (by decide) dX11_keptWith_1 rfl ?_
  refine to_iconst (q := 3) ic_0 dX11_keptWith_2 rfl ?_
  refine to_istore_n (q := 4) [(3, .int (0 : Int32)), (2, .int (0 : Int32)), (0, .ref 138), (1, .int x1)] rfl (by decide) dX11_keptWith_3 rfl ?_
  exact to_ext [(0, .ref 138), (1, .int x1), (2, .int (0 : Int32)), (3, .int (0 : Int32))] (ext_cons rfl (ext_cons rfl (ext_cons rfl (ext_cons rfl ext_nil)))) (kX11_keptWith_4 hS FU hf hI)
def fX11_kept_40 (t0 : Int32) (m : Me) : Option (Int32 × Me) := some (t0, m)
set_option maxRecDepth 20000 in
theorem kX11_kept_40 {S : Sh} (hS : ShOK S) {res : Int32 × Me} {t0 : Int32} {m : Me} (hf : fX11_kept_40 t0 m = some res) (hI : Inv m) : TT InvS (Call 4) mX11_kept (40, [], [.int t0], S, m) (some (.int res.1)) (S, res.2) := by
  unfold fX11_kept_40 at hf
  cases hf
  exact to_iret dX11_kept_40 rfl rfl rfl rfl hI
def fX11_kept (x1 : Int32) (m : Me) : Option (Int32 × Me) := cl1 (fX11_good m) fun m3 => cl2 (fX11_isWish x1 m3) fun r6 m7 => if r6 = (0 : Int32) then cl2 (fX11_no (1 : Int32) m7) fun r11 m12 => fX11_kept_40 r11 m12 else cl2 (fX11_isKeptWith x1 (m7.1 143 60) m7) fun r15 m16 => if r15 = (0 : Int32) then fX11_kept_40 ((0 : Int32)) m16 else fX11_kept_40 ((1 : Int32)) m16
set_option maxRecDepth 20000 in
theorem kX11_kept {S : Sh} (hS : ShOK S) {res : Int32 × Me} {x1 : Int32} {m : Me} (hf : fX11_kept x1 m = some res) (hI : Inv m) : Call 5 mX11_kept [.ref 138, .int x1] (S, m) (some (.int res.1)) (S, res.2) ∧ Inv res.2 := by
  refine call_of (P := InvS) (Nat.le_of_ble_eq_true rfl) (by simp [Value.category]) ?_
  show TT InvS (Call 4) mX11_kept (0, [(0, .ref 138), (1, .int x1)], [], S, m) _ _
  unfold fX11_kept at hf
  refine to_aload_n (q := 1) rfl (by decide) dX11_kept_0 rfl ?_
  obtain ⟨m3, hc1, hf⟩ := cl1_some hf
  have qc2 := kX11_good hS hc1 hI
  refine to_virtV (q := 4) mX11_good [] dX11_kept_1 rfl rfl (Nat.le_of_ble_eq_true rfl) mo_X11_good mv_X11_156 (Or.inl ⟨_, _, _, h_138 hS, rfl, rfl⟩) (Call_mono (by decide) qc2.1) ?_
  have hI := qc2.2
  refine to_aload_n (q := 5) rfl (by decide) dX11_kept_4 rfl ?_
  refine to_iload_n (q := 6) rfl dX11_kept_5 rfl ?_
  obtain ⟨r6, m7, hc4, hf⟩ := cl2_some hf
  have qc5 := kX11_isWish hS hc4 hI
  refine to_virtI (q := 9) mX11_isWish [.int x1] dX11_kept_6 rfl rfl (Nat.le_of_ble_eq_true rfl) mo_X11_isWish mv_X11_319 (Or.inl ⟨_, _, _, h_138 hS, rfl, rfl⟩) (Call_mono (by decide) qc5.1) ?_
  have hI := qc5.2
  by_cases h8 : r6 = (0 : Int32)
  · have hf := ite_pos h8 hf
    refine to_ifT (q := 35) (op := .eq) h8 dX11_kept_9 rfl ?_
    refine to_aload_n (q := 36) rfl (by decide) dX11_kept_35 rfl ?_
    refine to_iconst (q := 37) ic_1 dX11_kept_36 rfl ?_
    obtain ⟨r11, m12, hc9, hf⟩ := cl2_some hf
    have qc10 := kX11_no hS hc9 hI
    refine to_virtI (q := 40) mX11_no [.int (1 : Int32)] dX11_kept_37 rfl rfl (Nat.le_of_ble_eq_true rfl) mo_X11_no mv_X11_159 (Or.inl ⟨_, _, _, h_138 hS, rfl, rfl⟩) (Call_mono (by decide) qc10.1) ?_
    have hI := qc10.2
    exact to_ext [] ext_nil (kX11_kept_40 hS hf hI)
  · have hf := ite_neg h8 hf
    refine to_ifF (q := 12) (op := .eq) 35 h8 dX11_kept_9 rfl rfl ?_
    refine to_aload_n (q := 13) rfl (by decide) dX11_kept_12 rfl ?_
    refine to_iload_n (q := 14) rfl dX11_kept_13 rfl ?_
    refine to_aload_n (q := 15) rfl (by decide) dX11_kept_14 rfl ?_
    refine to_getR (q := 18) (b := 143) (k0 := 11) (C := RX11) (T := TX11) (N := 37) (j := 17) rfl fx_X11_26 (h_138 hS) rfl (iv_138_17 hI) dX11_kept_15 rfl ?_
    refine to_bipush (q := 20) bp_60 dX11_kept_18 rfl ?_
    refine to_iaj (q := 21) (h_143 hS) (by decide) (tn_60) dX11_kept_20 rfl ?_
    obtain ⟨r15, m16, hc13, hf⟩ := cl2_some hf
    have qc14 := kX11_isKeptWith hS hc13 hI
    refine to_virtI (q := 24) mX11_isKeptWith [.int x1, .int (m7.1 143 60)] dX11_kept_21 rfl rfl (Nat.le_of_ble_eq_true rfl) mo_X11_isKeptWith mv_X11_316 (Or.inl ⟨_, _, _, h_138 hS, rfl, rfl⟩) (Call_mono (by decide) qc14.1) ?_
    have hI := qc14.2
    by_cases h17 : r15 = (0 : Int32)
    · have hf := ite_pos h17 hf
      refine to_ifT (q := 31) (op := .eq) h17 dX11_kept_24 rfl ?_
      refine to_iconst (q := 32) ic_0 dX11_kept_31 rfl ?_
      refine to_goto (q := 40) dX11_kept_32 rfl ?_
      exact to_ext [] ext_nil (kX11_kept_40 hS hf hI)
    · have hf := ite_neg h17 hf
      refine to_ifF (q := 27) (op := .eq) 31 h17 dX11_kept_24 rfl rfl ?_
      refine to_iconst (q := 28) ic_1 dX11_kept_27 rfl ?_
      refine to_goto (q := 40) dX11_kept_28 rfl ?_
      exact to_ext [] ext_nil (kX11_kept_40 hS hf hI)
def fX11_allKept_30 (t0 : Int32) (m : Me) : Option (Int32 × Me) := some (t0, m)
set_option maxRecDepth 20000 in
theorem kX11_allKept_30 {S : Sh} (hS : ShOK S) {res : Int32 × Me} {t0 : Int32} {m : Me} (hf : fX11_allKept_30 t0 m = some res) (hI : Inv m) : TT InvS (Call 5) mX11_allKept (30, [], [.int t0], S, m) (some (.int res.1)) (S, res.2) := by
  unfold fX11_allKept_30 at hf
  cases hf
  exact to_iret dX11_allKept_30 rfl rfl rfl rfl hI
def fX11_allKept (m : Me) : Option (Int32 × Me) := cl1 (fX11_good m) fun m3 => if (m3.1 138 14) = (0 : Int32) then cl2 (fX11_no (1 : Int32) m3) fun r7 m8 => fX11_allKept_30 r7 m8 else cl2 (fX11_keptWith (m3.1 143 60) m3) fun r11 m12 => fX11_allKept_30 r11 m12
set_option maxRecDepth 20000 in
theorem kX11_allKept {S : Sh} (hS : ShOK S) {res : Int32 × Me} {m : Me} (hf : fX11_allKept m = some res) (hI : Inv m) : Call 6 mX11_allKept [.ref 138] (S, m) (some (.int res.1)) (S, res.2) ∧ Inv res.2 := by
  refine call_of (P := InvS) (Nat.le_of_ble_eq_true rfl) (by simp [Value.category]) ?_
  show TT InvS (Call 5) mX11_allKept (0, [(0, .ref 138)], [], S, m) _ _
  unfold fX11_allKept at hf
  refine to_aload_n (q := 1) rfl (by decide) dX11_allKept_0 rfl ?_
  obtain ⟨m3, hc1, hf⟩ := cl1_some hf
  have qc2 := kX11_good hS hc1 hI
  refine to_virtV (q := 4) mX11_good [] dX11_allKept_1 rfl rfl (Nat.le_of_ble_eq_true rfl) mo_X11_good mv_X11_156 (Or.inl ⟨_, _, _, h_138 hS, rfl, rfl⟩) (Call_mono (by decide) qc2.1) ?_
  have hI := qc2.2
  refine to_aload_n (q := 5) rfl (by decide) dX11_allKept_4 rfl ?_
  refine to_getI (q := 8) (k0 := 11) (C := RX11) (T := TX11) (N := 37) (j := 14) rfl fx_X11_169 (h_138 hS) rfl dX11_allKept_5 rfl ?_
  by_cases h4 : (m3.1 138 14) = (0 : Int32)
  · have hf := ite_pos h4 hf
    refine to_ifT (q := 25) (op := .eq) h4 dX11_allKept_8 rfl ?_
    refine to_aload_n (q := 26) rfl (by decide) dX11_allKept_25 rfl ?_
    refine to_iconst (q := 27) ic_1 dX11_allKept_26 rfl ?_
    obtain ⟨r7, m8, hc5, hf⟩ := cl2_some hf
    have qc6 := kX11_no hS hc5 hI
    refine to_virtI (q := 30) mX11_no [.int (1 : Int32)] dX11_allKept_27 rfl rfl (Nat.le_of_ble_eq_true rfl) mo_X11_no mv_X11_159 (Or.inl ⟨_, _, _, h_138 hS, rfl, rfl⟩) (Call_mono (by decide) qc6.1) ?_
    have hI := qc6.2
    exact to_ext [] ext_nil (kX11_allKept_30 hS hf hI)
  · have hf := ite_neg h4 hf
    refine to_ifF (q := 11) (op := .eq) 25 h4 dX11_allKept_8 rfl rfl ?_
    refine to_aload_n (q := 12) rfl (by decide) dX11_allKept_11 rfl ?_
    refine to_aload_n (q := 13) rfl (by decide) dX11_allKept_12 rfl ?_
    refine to_getR (q := 16) (b := 143) (k0 := 11) (C := RX11) (T := TX11) (N := 37) (j := 17) rfl fx_X11_26 (h_138 hS) rfl (iv_138_17 hI) dX11_allKept_13 rfl ?_
    refine to_bipush (q := 18) bp_60 dX11_allKept_16 rfl ?_
    refine to_iaj (q := 19) (h_143 hS) (by decide) (tn_60) dX11_allKept_18 rfl ?_
    obtain ⟨r11, m12, hc9, hf⟩ := cl2_some hf
    have qc10 := kX11_keptWith hS hc9 hI
    refine to_virtI (q := 22) mX11_keptWith [.int (m3.1 143 60)] dX11_allKept_19 rfl rfl (Nat.le_of_ble_eq_true rfl) mo_X11_keptWith mv_X11_322 (Or.inl ⟨_, _, _, h_138 hS, rfl, rfl⟩) (Call_mono (by decide) qc10.1) ?_
    have hI := qc10.2
    refine to_goto (q := 30) dX11_allKept_22 rfl ?_
    exact to_ext [] ext_nil (kX11_allKept_30 hS hf hI)
def fX11_isWished_141 (k3 : Int32 → Int32 → Int32 → Int32 → Me → Option (Int32 × Me)) (x1 : Int32) (x2 : Int32) (x3 : Int32) (x4 : Int32) (x5 : Int32) (m : Me) : Option (Int32 × Me) := if x5 = (0 : Int32) then k3 x1 x2 x3 ((x4 + (1 : Int32))) m else some ((1 : Int32), m)
set_option maxRecDepth 20000 in
theorem kX11_isWished_141 {S : Sh} (hS : ShOK S) {res : Int32 × Me} {k3 : Int32 → Int32 → Int32 → Int32 → Me → Option (Int32 × Me)} (hk3 : ∀ {x1 : Int32} {x2 : Int32} {x3 : Int32} {x4 : Int32} {m : Me}, k3 x1 x2 x3 x4 m = some res → Inv m → TT InvS (Call 0) mX11_isWished (3, [(0, .ref 138), (1, .int x1), (2, .int x2), (3, .int x3), (4, .int x4)], [], S, m) (some (.int res.1)) (S, res.2)) {x1 : Int32} {x2 : Int32} {x3 : Int32} {x4 : Int32} {x5 : Int32} {m : Me} (hf : fX11_isWished_141 k3 x1 x2 x3 x4 x5 m = some res) (hI : Inv m) : TT InvS (Call 0) mX11_isWished (141, [(0, .ref 138), (1, .int x1), (2, .int x2), (3, .int x3), (4, .int x4), (5, .int x5)], [], S, m) (some (.int res.1)) (S, res.2) := by
  unfold fX11_isWished_141 at hf
  refine to_iload (q := 143) rfl dX11_isWished_141 rfl ?_
  by_cases h15 : x5 = (0 : Int32)
  · have hf := ite_pos h15 hf
    refine to_ifT (q := 148) (op := .eq) h15 dX11_isWished_143 rfl ?_
    refine to_iinc (q := 151) (v := (x4 + (1 : Int32))) rfl (congrArg (fun z => x4 + z) ic_1) [(4, .int (x4 + (1 : Int32))), (0, .ref 138), (1, .int x1), (2, .int x2), (3, .int x3), (5, .int x5)] rfl (by decide) dX11_isWished_148 rfl ?_
    refine to_goto (q := 3) dX11_isWished_151 rfl ?_
    exact to_ext [(0, .ref 138), (1, .int x1), (2, .int x2), (3, .int x3), (4, .int (x4 + (1 : Int32)))] (ext_cons rfl (ext_cons rfl (ext_cons rfl (ext_cons rfl (ext_cons rfl ext_nil))))) (hk3 hf hI)
  · have hf := ite_neg h15 hf
    refine to_ifF (q := 146) (op := .eq) 148 h15 dX11_isWished_143 rfl rfl ?_
    refine to_iconst (q := 147) ic_1 dX11_isWished_146 rfl ?_
    cases hf
    exact to_iret dX11_isWished_147 rfl (by decide) rfl rfl hI
def fX11_isWished_133 (k3 : Int32 → Int32 → Int32 → Int32 → Me → Option (Int32 × Me)) (k75 : Int32 → Int32 → Int32 → Int32 → Int32 → Int32 → Me → Option (Int32 × Me)) (x1 : Int32) (x2 : Int32) (x3 : Int32) (x4 : Int32) (x6 : Int32) (t0 : Int32) (m : Me) : Option (Int32 × Me) := k75 x1 x2 x3 x4 t0 ((x6 + (1 : Int32))) m
set_option maxRecDepth 20000 in
theorem kX11_isWished_133 {S : Sh} (hS : ShOK S) {res : Int32 × Me} {k3 : Int32 → Int32 → Int32 → Int32 → Me → Option (Int32 × Me)} (hk3 : ∀ {x1 : Int32} {x2 : Int32} {x3 : Int32} {x4 : Int32} {m : Me}, k3 x1 x2 x3 x4 m = some res → Inv m → TT InvS (Call 0) mX11_isWished (3, [(0, .ref 138), (1, .int x1), (2, .int x2), (3, .int x3), (4, .int x4)], [], S, m) (some (.int res.1)) (S, res.2)) {k75 : Int32 → Int32 → Int32 → Int32 → Int32 → Int32 → Me → Option (Int32 × Me)} (hk75 : ∀ {x1 : Int32} {x2 : Int32} {x3 : Int32} {x4 : Int32} {x5 : Int32} {x6 : Int32} {m : Me}, k75 x1 x2 x3 x4 x5 x6 m = some res → Inv m → TT InvS (Call 0) mX11_isWished (75, [(0, .ref 138), (1, .int x1), (2, .int x2), (3, .int x3), (4, .int x4), (5, .int x5), (6, .int x6)], [], S, m) (some (.int res.1)) (S, res.2)) {x1 : Int32} {x2 : Int32} {x3 : Int32} {x4 : Int32} {x6 : Int32} {t0 : Int32} {m : Me} (hf : fX11_isWished_133 k3 k75 x1 x2 x3 x4 x6 t0 m = some res) (hI : Inv m) : TT InvS (Call 0) mX11_isWished (133, [(0, .ref 138), (1, .int x1), (2, .int x2), (3, .int x3), (4, .int x4), (6, .int x6)], [.int t0], S, m) (some (.int res.1)) (S, res.2) := by
  unfold fX11_isWished_133 at hf
  refine to_istore (q := 135) [(5, .int t0), (0, .ref 138), (1, .int x1), (2, .int x2), (3, .int x3), (4, .int x4), (6, .int x6)] rfl (by decide) dX11_isWished_133 rfl ?_
  refine to_iinc (q := 138) (v := (x6 + (1 : Int32))) rfl (congrArg (fun z => x6 + z) ic_1) [(6, .int (x6 + (1 : Int32))), (5, .int t0), (0, .ref 138), (1, .int x1), (2, .int x2), (3, .int x3), (4, .int x4)] rfl (by decide) dX11_isWished_135 rfl ?_
  refine to_goto (q := 75) dX11_isWished_138 rfl ?_
  exact to_ext [(0, .ref 138), (1, .int x1), (2, .int x2), (3, .int x3), (4, .int x4), (5, .int t0), (6, .int (x6 + (1 : Int32)))] (ext_cons rfl (ext_cons rfl (ext_cons rfl (ext_cons rfl (ext_cons rfl (ext_cons rfl (ext_cons rfl ext_nil))))))) (hk75 hf hI)
def fX11_isWished_75 (n : Nat) (k3 : Int32 → Int32 → Int32 → Int32 → Me → Option (Int32 × Me)) (x1 : Int32) (x2 : Int32) (x3 : Int32) (x4 : Int32) (x5 : Int32) (x6 : Int32) (m : Me) : Option (Int32 × Me) := match n with
  | 0 => none
  | n + 1 => ck (inb ((10 : Int32) + x1) 186) (if (m.1 141 ((10 : Int32) + x1).toNatClampNeg) ≤ x6 then fX11_isWished_141 k3 x1 x2 x3 x4 x5 m else if x5 = (0 : Int32) then fX11_isWished_141 k3 x1 x2 x3 x4 x5 m else ck (inb (((68 : Int32) + ((8 : Int32) * x4)) + x6) 186) (ck (inb (((16 : Int32) + ((8 : Int32) * x1)) + x6) 186) (if (m.1 141 (((68 : Int32) + ((8 : Int32) * x4)) + x6).toNatClampNeg) = (m.1 141 (((16 : Int32) + ((8 : Int32) * x1)) + x6).toNatClampNeg) then fX11_isWished_133 k3 (fX11_isWished_75 n k3) x1 x2 x3 x4 x6 ((1 : Int32)) m else fX11_isWished_133 k3 (fX11_isWished_75 n k3) x1 x2 x3 x4 x6 ((0 : Int32)) m)))
set_option maxRecDepth 20000 in
theorem kX11_isWished_75 {S : Sh} (hS : ShOK S) {res : Int32 × Me} {k3 : Int32 → Int32 → Int32 → Int32 → Me → Option (Int32 × Me)} (hk3 : ∀ {x1 : Int32} {x2 : Int32} {x3 : Int32} {x4 : Int32} {m : Me}, k3 x1 x2 x3 x4 m = some res → Inv m → TT InvS (Call 0) mX11_isWished (3, [(0, .ref 138), (1, .int x1), (2, .int x2), (3, .int x3), (4, .int x4)], [], S, m) (some (.int res.1)) (S, res.2)) (n : Nat) : ∀ {x1 : Int32} {x2 : Int32} {x3 : Int32} {x4 : Int32} {x5 : Int32} {x6 : Int32} {m : Me}, fX11_isWished_75 n k3 x1 x2 x3 x4 x5 x6 m = some res → Inv m → TT InvS (Call 0) mX11_isWished (75, [(0, .ref 138), (1, .int x1), (2, .int x2), (3, .int x3), (4, .int x4), (5, .int x5), (6, .int x6)], [], S, m) (some (.int res.1)) (S, res.2) := by
  induction n with
  | zero => intro x1 x2 x3 x4 x5 x6 m hf; cases hf
  | succ n ih =>
    intro x1 x2 x3 x4 x5 x6 m hf  hI
    unfold fX11_isWished_75 at hf
    refine to_iload (q := 77) rfl dX11_isWished_75 rfl ?_
    refine to_aload_n (q := 78) rfl (by decide) dX11_isWished_77 rfl ?_
    refine to_getR (q := 81) (b := 141) (k0 := 11) (C := RX11) (T := TX11) (N := 37) (j := 15) rfl fx_X11_20 (h_138 hS) rfl (iv_138_15 hI) dX11_isWished_78 rfl ?_
    refine to_bipush (q := 83) bp_10 dX11_isWished_81 rfl ?_
    refine to_iload_n (q := 84) rfl dX11_isWished_83 rfl ?_
    refine to_iadd (q := 85) dX11_isWished_84 rfl ?_
    obtain ⟨hb9, hf⟩ := ck_some hf
    refine to_iaj (q := 86) (h_141 hS) hb9 (rfl) dX11_isWished_85 rfl ?_
    by_cases h10 : (m.1 141 ((10 : Int32) + x1).toNatClampNeg) ≤ x6
    · have hf := ite_pos h10 hf
      refine to_icT (q := 141) (op := .ge) h10 dX11_isWished_86 rfl ?_
      exact to_ext [(0, .ref 138), (1, .int x1), (2, .int x2), (3, .int x3), (4, .int x4), (5, .int x5)] (ext_cons rfl (ext_cons rfl (ext_cons rfl (ext_cons rfl (ext_cons rfl (ext_cons rfl ext_nil)))))) (kX11_isWished_141 hS hk3 hf hI)
    · have hf := ite_neg h10 hf
      refine to_icF (q := 89) (op := .ge) 141 h10 dX11_isWished_86 rfl rfl ?_
      refine to_iload (q := 91) rfl dX11_isWished_89 rfl ?_
      by_cases h11 : x5 = (0 : Int32)
      · have hf := ite_pos h11 hf
        refine to_ifT (q := 141) (op := .eq) h11 dX11_isWished_91 rfl ?_
        exact to_ext [(0, .ref 138), (1, .int x1), (2, .int x2), (3, .int x3), (4, .int x4), (5, .int x5)] (ext_cons rfl (ext_cons rfl (ext_cons rfl (ext_cons rfl (ext_cons rfl (ext_cons rfl ext_nil)))))) (kX11_isWished_141 hS hk3 hf hI)
      · have hf := ite_neg h11 hf
        refine to_ifF (q := 94) (op := .eq) 141 h11 dX11_isWished_91 rfl rfl ?_
        refine to_aload_n (q := 95) rfl (by decide) dX11_isWished_94 rfl ?_
        refine to_getR (q := 98) (b := 141) (k0 := 11) (C := RX11) (T := TX11) (N := 37) (j := 15) rfl fx_X11_20 (h_138 hS) rfl (iv_138_15 hI) dX11_isWished_95 rfl ?_
        refine to_bipush (q := 100) bp_68 dX11_isWished_98 rfl ?_
        refine to_bipush (q := 102) bp_8 dX11_isWished_100 rfl ?_
        refine to_iload (q := 104) rfl dX11_isWished_102 rfl ?_
        refine to_imul (q := 105) dX11_isWished_104 rfl ?_
        refine to_iadd (q := 106) dX11_isWished_105 rfl ?_
        refine to_iload (q := 108) rfl dX11_isWished_106 rfl ?_
        refine to_iadd (q := 109) dX11_isWished_108 rfl ?_
        obtain ⟨hb12, hf⟩ := ck_some hf
        refine to_iaj (q := 110) (h_141 hS) hb12 (rfl) dX11_isWished_109 rfl ?_
        refine to_aload_n (q := 111) rfl (by decide) dX11_isWished_110 rfl ?_
        refine to_getR (q := 114) (b := 141) (k0 := 11) (C := RX11) (T := TX11) (N := 37) (j := 15) rfl fx_X11_20 (h_138 hS) rfl (iv_138_15 hI) dX11_isWished_111 rfl ?_
        refine to_bipush (q := 116) bp_16 dX11_isWished_114 rfl ?_
        refine to_bipush (q := 118) bp_8 dX11_isWished_116 rfl ?_
        refine to_iload_n (q := 119) rfl dX11_isWished_118 rfl ?_
        refine to_imul (q := 120) dX11_isWished_119 rfl ?_
        refine to_iadd (q := 121) dX11_isWished_120 rfl ?_
        refine to_iload (q := 123) rfl dX11_isWished_121 rfl ?_
        refine to_iadd (q := 124) dX11_isWished_123 rfl ?_
        obtain ⟨hb13, hf⟩ := ck_some hf
        refine to_iaj (q := 125) (h_141 hS) hb13 (rfl) dX11_isWished_124 rfl ?_
        by_cases h14 : (m.1 141 (((68 : Int32) + ((8 : Int32) * x4)) + x6).toNatClampNeg) = (m.1 141 (((16 : Int32) + ((8 : Int32) * x1)) + x6).toNatClampNeg)
        · have hf := ite_pos h14 hf
          refine to_icF (q := 128) (op := .ne) 132 (fun z => z h14) dX11_isWished_125 rfl rfl ?_
          refine to_iconst (q := 129) ic_1 dX11_isWished_128 rfl ?_
          refine to_goto (q := 133) dX11_isWished_129 rfl ?_
          exact to_ext [(0, .ref 138), (1, .int x1), (2, .int x2), (3, .int x3), (4, .int x4), (6, .int x6)] (ext_cons rfl (ext_cons rfl (ext_cons rfl (ext_cons rfl (ext_cons rfl (ext_cons rfl ext_nil)))))) (kX11_isWished_133 hS hk3 ih hf hI)
        · have hf := ite_neg h14 hf
          refine to_icT (q := 132) (op := .ne) h14 dX11_isWished_125 rfl ?_
          refine to_iconst (q := 133) ic_0 dX11_isWished_132 rfl ?_
          exact to_ext [(0, .ref 138), (1, .int x1), (2, .int x2), (3, .int x3), (4, .int x4), (6, .int x6)] (ext_cons rfl (ext_cons rfl (ext_cons rfl (ext_cons rfl (ext_cons rfl (ext_cons rfl ext_nil)))))) (kX11_isWished_133 hS hk3 ih hf hI)
def fX11_isWished_70 (k3 : Int32 → Int32 → Int32 → Int32 → Me → Option (Int32 × Me)) (x1 : Int32) (x2 : Int32) (x3 : Int32) (x4 : Int32) (t0 : Int32) (m : Me) : Option (Int32 × Me) := fX11_isWished_75 FU k3 x1 x2 x3 x4 t0 ((0 : Int32)) m
set_option maxRecDepth 20000 in
theorem kX11_isWished_70 {S : Sh} (hS : ShOK S) {res : Int32 × Me} {k3 : Int32 → Int32 → Int32 → Int32 → Me → Option (Int32 × Me)} (hk3 : ∀ {x1 : Int32} {x2 : Int32} {x3 : Int32} {x4 : Int32} {m : Me}, k3 x1 x2 x3 x4 m = some res → Inv m → TT InvS (Call 0) mX11_isWished (3, [(0, .ref 138), (1, .int x1), (2, .int x2), (3, .int x3), (4, .int x4)], [], S, m) (some (.int res.1)) (S, res.2)) {x1 : Int32} {x2 : Int32} {x3 : Int32} {x4 : Int32} {t0 : Int32} {m : Me} (hf : fX11_isWished_70 k3 x1 x2 x3 x4 t0 m = some res) (hI : Inv m) : TT InvS (Call 0) mX11_isWished (70, [(0, .ref 138), (1, .int x1), (2, .int x2), (3, .int x3), (4, .int x4)], [.int t0], S, m) (some (.int res.1)) (S, res.2) := by
  unfold fX11_isWished_70 at hf
  refine to_istore (q := 72) [(5, .int t0), (0, .ref 138), (1, .int x1), (2, .int x2), (3, .int x3), (4, .int x4)] rfl (by decide) dX11_isWished_70 rfl ?_
  refine to_iconst (q := 73) ic_0 dX11_isWished_72 rfl ?_
  refine to_istore (q := 75) [(6, .int (0 : Int32)), (5, .int t0), (0, .ref 138), (1, .int x1), (2, .int x2), (3, .int x3), (4, .int x4)] rfl (by decide) dX11_isWished_73 rfl ?_
  exact to_ext [(0, .ref 138), (1, .int x1), (2, .int x2), (3, .int x3), (4, .int x4), (5, .int t0), (6, .int (0 : Int32))] (ext_cons rfl (ext_cons rfl (ext_cons rfl (ext_cons rfl (ext_cons rfl (ext_cons rfl (ext_cons rfl ext_nil))))))) (kX11_isWished_75 hS hk3 FU hf hI)
def fX11_isWished_69 (k3 : Int32 → Int32 → Int32 → Int32 → Me → Option (Int32 × Me)) (x1 : Int32) (x2 : Int32) (x3 : Int32) (x4 : Int32) (m : Me) : Option (Int32 × Me) := fX11_isWished_70 k3 x1 x2 x3 x4 ((0 : Int32)) m
set_option maxRecDepth 20000 in
theorem kX11_isWished_69 {S : Sh} (hS : ShOK S) {res : Int32 × Me} {k3 : Int32 → Int32 → Int32 → Int32 → Me → Option (Int32 × Me)} (hk3 : ∀ {x1 : Int32} {x2 : Int32} {x3 : Int32} {x4 : Int32} {m : Me}, k3 x1 x2 x3 x4 m = some res → Inv m → TT InvS (Call 0) mX11_isWished (3, [(0, .ref 138), (1, .int x1), (2, .int x2), (3, .int x3), (4, .int x4)], [], S, m) (some (.int res.1)) (S, res.2)) {x1 : Int32} {x2 : Int32} {x3 : Int32} {x4 : Int32} {m : Me} (hf : fX11_isWished_69 k3 x1 x2 x3 x4 m = some res) (hI : Inv m) : TT InvS (Call 0) mX11_isWished (69, [(0, .ref 138), (1, .int x1), (2, .int x2), (3, .int x3), (4, .int x4)], [], S, m) (some (.int res.1)) (S, res.2) := by
  unfold fX11_isWished_69 at hf
  refine to_iconst (q := 70) ic_0 dX11_isWished_69 rfl ?_
  exact to_ext [(0, .ref 138), (1, .int x1), (2, .int x2), (3, .int x3), (4, .int x4)] (ext_cons rfl (ext_cons rfl (ext_cons rfl (ext_cons rfl (ext_cons rfl ext_nil))))) (kX11_isWished_70 hS hk3 hf hI)
def fX11_isWished_3 (n : Nat) (x1 : Int32) (x2 : Int32) (x3 : Int32) (x4 : Int32) (m : Me) : Option (Int32 × Me) := match n with
  | 0 => none
  | n + 1 => if (m.1 141 6) ≤ x4 then some ((0 : Int32), m) else ck (inb ((64 : Int32) + x4) 186) (ck (inb ((10 : Int32) + x1) 186) (if (m.1 141 ((64 : Int32) + x4).toNatClampNeg) = (m.1 141 ((10 : Int32) + x1).toNatClampNeg) then ck (inb ((100 : Int32) + x4) 186) (if (m.1 141 ((100 : Int32) + x4).toNatClampNeg) = x2 then ck (inb ((104 : Int32) + x4) 186) (if (m.1 141 ((104 : Int32) + x4).toNatClampNeg) = x3 then fX11_isWished_70 (fX11_isWished_3 n) x1 x2 x3 x4 ((1 : Int32)) m else fX11_isWished_69 (fX11_isWished_3 n) x1 x2 x3 x4 m) else fX11_isWished_69 (fX11_isWished_3 n) x1 x2 x3 x4 m) else fX11_isWished_69 (fX11_isWished_3 n) x1 x2 x3 x4 m))
set_option maxRecDepth 20000 in
theorem kX11_isWished_3 {S : Sh} (hS : ShOK S) {res : Int32 × Me} (n : Nat) : ∀ {x1 : Int32} {x2 : Int32} {x3 : Int32} {x4 : Int32} {m : Me}, fX11_isWished_3 n x1 x2 x3 x4 m = some res → Inv m → TT InvS (Call 0) mX11_isWished (3, [(0, .ref 138), (1, .int x1), (2, .int x2), (3, .int x3), (4, .int x4)], [], S, m) (some (.int res.1)) (S, res.2) := by
  induction n with
  | zero => intro x1 x2 x3 x4 m hf; cases hf
  | succ n ih =>
    intro x1 x2 x3 x4 m hf  hI
    unfold fX11_isWished_3 at hf
    refine to_iload (q := 5) rfl dX11_isWished_3 rfl ?_
    refine to_aload_n (q := 6) rfl (by decide) dX11_isWished_5 rfl ?_
    refine to_getR (q := 9) (b := 141) (k0 := 11) (C := RX11) (T := TX11) (N := 37) (j := 15) rfl fx_X11_20 (h_138 hS) rfl (iv_138_15 hI) dX11_isWished_6 rfl ?_
    refine to_bipush (q := 11) bp_6 dX11_isWished_9 rfl ?_
    refine to_iaj (q := 12) (h_141 hS) (by decide) (tn_6) dX11_isWished_11 rfl ?_
    by_cases h1 : (m.1 141 6) ≤ x4
    · have hf := ite_pos h1 hf
      refine to_icT (q := 154) (op := .ge) h1 dX11_isWished_12 rfl ?_
      refine to_iconst (q := 155) ic_0 dX11_isWished_154 rfl ?_
      cases hf
      exact to_iret dX11_isWished_155 rfl (by decide) rfl rfl hI
    · have hf := ite_neg h1 hf
      refine to_icF (q := 15) (op := .ge) 154 h1 dX11_isWished_12 rfl rfl ?_
      refine to_aload_n (q := 16) rfl (by decide) dX11_isWished_15 rfl ?_
      refine to_getR (q := 19) (b := 141) (k0 := 11) (C := RX11) (T := TX11) (N := 37) (j := 15) rfl fx_X11_20 (h_138 hS) rfl (iv_138_15 hI) dX11_isWished_16 rfl ?_
      refine to_bipush (q := 21) bp_64 dX11_isWished_19 rfl ?_
      refine to_iload (q := 23) rfl dX11_isWished_21 rfl ?_
      refine to_iadd (q := 24) dX11_isWished_23 rfl ?_
      obtain ⟨hb2, hf⟩ := ck_some hf
      refine to_iaj (q := 25) (h_141 hS) hb2 (rfl) dX11_isWished_24 rfl ?_
      refine to_aload_n (q := 26) rfl (by decide) dX11_isWished_25 rfl ?_
      refine to_getR (q := 29) (b := 141) (k0 := 11) (C := RX11) (T := TX11) (N := 37) (j := 15) rfl fx_X11_20 (h_138 hS) rfl (iv_138_15 hI) dX11_isWished_26 rfl ?_
      refine to_bipush (q := 31) bp_10 dX11_isWished_29 rfl ?_
      refine to_iload_n (q := 32) rfl dX11_isWished_31 rfl ?_
      refine to_iadd (q := 33) dX11_isWished_32 rfl ?_
      obtain ⟨hb3, hf⟩ := ck_some hf
      refine to_iaj (q := 34) (h_141 hS) hb3 (rfl) dX11_isWished_33 rfl ?_
      by_cases h4 : (m.1 141 ((64 : Int32) + x4).toNatClampNeg) = (m.1 141 ((10 : Int32) + x1).toNatClampNeg)
      · have hf := ite_pos h4 hf
        refine to_icF (q := 37) (op := .ne) 69 (fun z => z h4) dX11_isWished_34 rfl rfl ?_
        refine to_aload_n (q := 38) rfl (by decide) dX11_isWished_37 rfl ?_
        refine to_getR (q := 41) (b := 141) (k0 := 11) (C := RX11) (T := TX11) (N := 37) (j := 15) rfl fx_X11_20 (h_138 hS) rfl (iv_138_15 hI) dX11_isWished_38 rfl ?_
        refine to_bipush (q := 43) bp_100 dX11_isWished_41 rfl ?_
        refine to_iload (q := 45) rfl dX11_isWished_43 rfl ?_
        refine to_iadd (q := 46) dX11_isWished_45 rfl ?_
        obtain ⟨hb5, hf⟩ := ck_some hf
        refine to_iaj (q := 47) (h_141 hS) hb5 (rfl) dX11_isWished_46 rfl ?_
        refine to_iload_n (q := 48) rfl dX11_isWished_47 rfl ?_
        by_cases h6 : (m.1 141 ((100 : Int32) + x4).toNatClampNeg) = x2
        · have hf := ite_pos h6 hf
          refine to_icF (q := 51) (op := .ne) 69 (fun z => z h6) dX11_isWished_48 rfl rfl ?_
          refine to_aload_n (q := 52) rfl (by decide) dX11_isWished_51 rfl ?_
          refine to_getR (q := 55) (b := 141) (k0 := 11) (C := RX11) (T := TX11) (N := 37) (j := 15) rfl fx_X11_20 (h_138 hS) rfl (iv_138_15 hI) dX11_isWished_52 rfl ?_
          refine to_bipush (q := 57) bp_104 dX11_isWished_55 rfl ?_
          refine to_iload (q := 59) rfl dX11_isWished_57 rfl ?_
          refine to_iadd (q := 60) dX11_isWished_59 rfl ?_
          obtain ⟨hb7, hf⟩ := ck_some hf
          refine to_iaj (q := 61) (h_141 hS) hb7 (rfl) dX11_isWished_60 rfl ?_
          refine to_iload_n (q := 62) rfl dX11_isWished_61 rfl ?_
          by_cases h8 : (m.1 141 ((104 : Int32) + x4).toNatClampNeg) = x3
          · have hf := ite_pos h8 hf
            refine to_icF (q := 65) (op := .ne) 69 (fun z => z h8) dX11_isWished_62 rfl rfl ?_
            refine to_iconst (q := 66) ic_1 dX11_isWished_65 rfl ?_
            refine to_goto (q := 70) dX11_isWished_66 rfl ?_
            exact to_ext [(0, .ref 138), (1, .int x1), (2, .int x2), (3, .int x3), (4, .int x4)] (ext_cons rfl (ext_cons rfl (ext_cons rfl (ext_cons rfl (ext_cons rfl ext_nil))))) (kX11_isWished_70 hS ih hf hI)
          · have hf := ite_neg h8 hf
            refine to_icT (q := 69) (op := .ne) h8 dX11_isWished_62 rfl ?_
            exact to_ext [(0, .ref 138), (1, .int x1), (2, .int x2), (3, .int x3), (4, .int x4)] (ext_cons rfl (ext_cons rfl (ext_cons rfl (ext_cons rfl (ext_cons rfl ext_nil))))) (kX11_isWished_69 hS ih hf hI)
        · have hf := ite_neg h6 hf
          refine to_icT (q := 69) (op := .ne) h6 dX11_isWished_48 rfl ?_
          exact to_ext [(0, .ref 138), (1, .int x1), (2, .int x2), (3, .int x3), (4, .int x4)] (ext_cons rfl (ext_cons rfl (ext_cons rfl (ext_cons rfl (ext_cons rfl ext_nil))))) (kX11_isWished_69 hS ih hf hI)
      · have hf := ite_neg h4 hf
        refine to_icT (q := 69) (op := .ne) h4 dX11_isWished_34 rfl ?_
        exact to_ext [(0, .ref 138), (1, .int x1), (2, .int x2), (3, .int x3), (4, .int x4)] (ext_cons rfl (ext_cons rfl (ext_cons rfl (ext_cons rfl (ext_cons rfl ext_nil))))) (kX11_isWished_69 hS ih hf hI)
def fX11_isWished (x1 : Int32) (x2 : Int32) (x3 : Int32) (m : Me) : Option (Int32 × Me) := fX11_isWished_3 FU x1 x2 x3 ((0 : Int32)) m
set_option maxRecDepth 20000 in
theorem kX11_isWished {S : Sh} (hS : ShOK S) {res : Int32 × Me} {x1 : Int32} {x2 : Int32} {x3 : Int32} {m : Me} (hf : fX11_isWished x1 x2 x3 m = some res) (hI : Inv m) : Call 1 mX11_isWished [.ref 138, .int x1, .int x2, .int x3] (S, m) (some (.int res.1)) (S, res.2) ∧ Inv res.2 := by
  refine call_of (P := InvS) (Nat.le_of_ble_eq_true rfl) (by simp [Value.category]) ?_
  show TT InvS (Call 0) mX11_isWished (0, [(0, .ref 138), (1, .int x1), (2, .int x2), (3, .int x3)], [], S, m) _ _
  unfold fX11_isWished at hf
  refine to_iconst (q := 1) ic_0 dX11_isWished_0 rfl ?_
  refine to_istore (q := 3) [(4, .int (0 : Int32)), (0, .ref 138), (1, .int x1), (2, .int x2), (3, .int x3)] rfl (by decide) dX11_isWished_1 rfl ?_
  exact to_ext [(0, .ref 138), (1, .int x1), (2, .int x2), (3, .int x3), (4, .int (0 : Int32))] (ext_cons rfl (ext_cons rfl (ext_cons rfl (ext_cons rfl (ext_cons rfl ext_nil))))) (kX11_isWished_3 hS FU hf hI)
def fX11_mistakeAt_87 (k4 : Int32 → Int32 → Int32 → Me → Option (Int32 × Me)) (k18 : Int32 → Int32 → Int32 → Int32 → Me → Option (Int32 × Me)) (k27 : Int32 → Int32 → Int32 → Int32 → Int32 → Me → Option (Int32 × Me)) (x1 : Int32) (x2 : Int32) (x3 : Int32) (x4 : Int32) (x5 : Int32) (m : Me) : Option (Int32 × Me) := k27 x1 x2 x3 x4 ((x5 + (1 : Int32))) m
set_option maxRecDepth 20000 in
theorem kX11_mistakeAt_87 {S : Sh} (hS : ShOK S) {res : Int32 × Me} {k4 : Int32 → Int32 → Int32 → Me → Option (Int32 × Me)} (hk4 : ∀ {x1 : Int32} {x2 : Int32} {x3 : Int32} {m : Me}, k4 x1 x2 x3 m = some res → Inv m → TT InvS (Call 4) mX11_mistakeAt (4, [(0, .ref 138), (1, .int x1), (2, .int x2), (3, .int x3)], [], S, m) (some (.int res.1)) (S, res.2)) {k18 : Int32 → Int32 → Int32 → Int32 → Me → Option (Int32 × Me)} (hk18 : ∀ {x1 : Int32} {x2 : Int32} {x3 : Int32} {x4 : Int32} {m : Me}, k18 x1 x2 x3 x4 m = some res → Inv m → TT InvS (Call 4) mX11_mistakeAt (18, [(0, .ref 138), (1, .int x1), (2, .int x2), (3, .int x3), (4, .int x4)], [], S, m) (some (.int res.1)) (S, res.2)) {k27 : Int32 → Int32 → Int32 → Int32 → Int32 → Me → Option (Int32 × Me)} (hk27 : ∀ {x1 : Int32} {x2 : Int32} {x3 : Int32} {x4 : Int32} {x5 : Int32} {m : Me}, k27 x1 x2 x3 x4 x5 m = some res → Inv m → TT InvS (Call 4) mX11_mistakeAt (27, [(0, .ref 138), (1, .int x1), (2, .int x2), (3, .int x3), (4, .int x4), (5, .int x5)], [], S, m) (some (.int res.1)) (S, res.2)) {x1 : Int32} {x2 : Int32} {x3 : Int32} {x4 : Int32} {x5 : Int32} {m : Me} (hf : fX11_mistakeAt_87 k4 k18 k27 x1 x2 x3 x4 x5 m = some res) (hI : Inv m) : TT InvS (Call 4) mX11_mistakeAt (87, [(0, .ref 138), (1, .int x1), (2, .int x2), (3, .int x3), (4, .int x4), (5, .int x5)], [], S, m) (some (.int res.1)) (S, res.2) := by
  unfold fX11_mistakeAt_87 at hf
  refine to_iinc (q := 90) (v := (x5 + (1 : Int32))) rfl (congrArg (fun z => x5 + z) ic_1) [(5, .int (x5 + (1 : Int32))), (0, .ref 138), (1, .int x1), (2, .int x2), (3, .int x3), (4, .int x4)] rfl (by decide) dX11_mistakeAt_87 rfl ?_
  refine to_goto (q := 27) dX11_mistakeAt_90 rfl ?_
  exact to_ext [(0, .ref 138), (1, .int x1), (2, .int x2), (3, .int x3), (4, .int x4), (5, .int (x5 + (1 : Int32)))] (ext_cons rfl (ext_cons rfl (ext_cons rfl (ext_cons rfl (ext_cons rfl (ext_cons rfl ext_nil)))))) (hk27 hf hI)
