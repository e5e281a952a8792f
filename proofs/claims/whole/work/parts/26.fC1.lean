def fX6_exchange (a1 : Nat) (m : Me) : Option (Nat × Me) := some (rr m 1 2, (setR m 1 2 (some a1)))
set_option maxRecDepth 20000 in
theorem kX6_exchange {S : Sh} (hS : ShOK S) {res : Nat × Me} {a1 : Nat} {m : Me} (hf : fX6_exchange a1 m = some res) (ha1 : kd a1 = 2) (hI : Inv m) : Call 1 mX6_exchange [.ref 1, .ref a1] (S, m) (some (.ref res.1)) (S, res.2) ∧ Inv res.2 := by
  refine call_of (P := InvS) (Nat.le_of_ble_eq_true rfl) (by simp [Value.category]) ?_
  show TT InvS (Call 0) mX6_exchange (0, [(0, .ref 1), (1, .ref a1)], [], S, m) _ _
  unfold fX6_exchange at hf
  refine to_aload_n (q := 1) rfl (by decide) dX6_exchange_0 rfl ?_
  have hk1 : kd (rr m 1 2) = 2 := (ivF hI).2
  refine to_getR (q := 4) (b := rr m 1 2) (k0 := 6) (C := RX6) (T := TX6) (N := 10) (j := 2) rfl fx_X6_18 (h_1 hS) rfl ((ivF hI).1) dX6_exchange_1 rfl ?_
  refine to_astore_n (q := 5) [(2, .ref (rr m 1 2)), (0, .ref 1), (1, .ref a1)] rfl (kd_4 (hk1) (by decide)) (by decide) dX6_exchange_4 rfl ?_
  refine to_aload_n (q := 6) rfl (by decide) dX6_exchange_5 rfl ?_
  refine to_aload_n (q := 7) rfl (kd_4 (ha1) (by decide)) dX6_exchange_6 rfl ?_
  refine to_putR (q := 10) (ty := .object "FanParts$Fan") (k0 := 6) (C := RX6) (T := TX6) (N := 10) (j := 2) rfl fx_X6_18 (h_1 hS) (kd_S hS (ha1) (by decide)) rfl pD_Fan (Or.inl rfl) (fun _ => ⟨rfl, rfl⟩) dX6_exchange_7 rfl ?_
  have hI : Inv (setR m 1 2 (some a1)) := inv_rfan hI (ha1)
  refine to_aload_n (q := 11) rfl (kd_4 (hk1) (by decide)) dX6_exchange_10 rfl ?_
  cases hf
  exact to_aret dX6_exchange_11 (kd_4 (hk1) (by decide)) rfl rfl rfl hI
def fX6_step_301 (t0 : Int32) (m : Me) : Option (Me) := some (setI m 1 4 t0)
set_option maxRecDepth 20000 in
theorem kX6_step_301 {S : Sh} (hS : ShOK S) {res : Me} {t0 : Int32} {m : Me} (hf : fX6_step_301 t0 m = some res) (hI : Inv m) : TT InvS (Call 0) mX6_step (301, [], [.int t0, .ref 1], S, m) none (S, res) := by
  unfold fX6_step_301 at hf
  refine to_putI (q := 304) (ty := .int) (k0 := 6) (C := RX6) (T := TX6) (N := 10) (j := 4) rfl fx_X6_58 (h_1 hS) rfl pD_I (Or.inl rfl) (nf_I _) dX6_step_301 rfl ?_
  cases hf
  exact to_vret dX6_step_304 rfl rfl rfl hI
def fX6_step_237 (t0 : Int32) (m : Me) : Option (Me) := some (setI m 1 4 t0)
set_option maxRecDepth 20000 in
theorem kX6_step_237 {S : Sh} (hS : ShOK S) {res : Me} {t0 : Int32} {m : Me} (hf : fX6_step_237 t0 m = some res) (hI : Inv m) : TT InvS (Call 0) mX6_step (237, [], [.int t0, .ref 1], S, m) none (S, res) := by
  unfold fX6_step_237 at hf
  refine to_putI (q := 240) (ty := .int) (k0 := 6) (C := RX6) (T := TX6) (N := 10) (j := 4) rfl fx_X6_58 (h_1 hS) rfl pD_I (Or.inl rfl) (nf_I _) dX6_step_237 rfl ?_
  cases hf
  exact to_vret dX6_step_240 rfl rfl rfl hI
def fX6_step_216 (m : Me) : Option (Me) := if (m.1 1 6) ≤ (0 : Int32) then if (m.1 1 5) < (m.1 1 1) then ck (inb ((setI m 1 6 (1 : Int32)).1 1 5) 900) (if ((setI m 1 6 (1 : Int32)).1 2 ((setI m 1 6 (1 : Int32)).1 1 5).toNatClampNeg) = (59 : Int32) then fX6_step_301 ((3 : Int32)) (setI m 1 6 (1 : Int32)) else ck (inb ((setI m 1 6 (1 : Int32)).1 1 5) 900) (if ((setI m 1 6 (1 : Int32)).1 2 ((setI m 1 6 (1 : Int32)).1 1 5).toNatClampNeg) = (44 : Int32) then fX6_step_301 ((4 : Int32)) (setI m 1 6 (1 : Int32)) else fX6_step_301 ((5 : Int32)) (setI m 1 6 (1 : Int32)))) else some (setI m 1 4 (0 : Int32)) else if (3 : Int32) < (m.1 1 6) then fX6_step_237 ((5 : Int32)) m else fX6_step_237 ((2 : Int32)) m
set_option maxRecDepth 20000 in
theorem kX6_step_216 {S : Sh} (hS : ShOK S) {res : Me} {m : Me} (hf : fX6_step_216 m = some res) (hI : Inv m) : TT InvS (Call 0) mX6_step (216, [(0, .ref 1)], [], S, m) none (S, res) := by
  unfold fX6_step_216 at hf
  refine to_aload_n (q := 217) rfl (by decide) dX6_step_216 rfl ?_
  refine to_getI (q := 220) (k0 := 6) (C := RX6) (T := TX6) (N := 10) (j := 6) rfl fx_X6_48 (h_1 hS) rfl dX6_step_217 rfl ?_
  by_cases h16 : (m.1 1 6) ≤ (0 : Int32)
  · have hf := ite_pos h16 hf
    refine to_ifT (q := 241) (op := .le) h16 dX6_step_220 rfl ?_
    refine to_aload_n (q := 242) rfl (by decide) dX6_step_241 rfl ?_
    refine to_getI (q := 245) (k0 := 6) (C := RX6) (T := TX6) (N := 10) (j := 5) rfl fx_X6_45 (h_1 hS) rfl dX6_step_242 rfl ?_
    refine to_aload_n (q := 246) rfl (by decide) dX6_step_245 rfl ?_
    refine to_getI (q := 249) (k0 := 6) (C := RX6) (T := TX6) (N := 10) (j := 1) rfl fx_X6_32 (h_1 hS) rfl dX6_step_246 rfl ?_
    by_cases h17 : (m.1 1 5) < (m.1 1 1)
    · have hf := ite_pos h17 hf
      refine to_icT (q := 258) (op := .lt) h17 dX6_step_249 rfl ?_
      refine to_aload_n (q := 259) rfl (by decide) dX6_step_258 rfl ?_
      refine to_iconst (q := 260) ic_1 dX6_step_259 rfl ?_
      refine to_putI (q := 263) (ty := .int) (k0 := 6) (C := RX6) (T := TX6) (N := 10) (j := 6) rfl fx_X6_48 (h_1 hS) rfl pD_I (Or.inl rfl) (nf_I _) dX6_step_260 rfl ?_
      refine to_aload_n (q := 264) rfl (by decide) dX6_step_263 rfl ?_
      refine to_aload_n (q := 265) rfl (by decide) dX6_step_264 rfl ?_
      refine to_getR (q := 268) (b := 2) (k0 := 6) (C := RX6) (T := TX6) (N := 10) (j := 0) rfl fx_X6_9 (h_1 hS) rfl (iv_1_0 hI) dX6_step_265 rfl ?_
      refine to_aload_n (q := 269) rfl (by decide) dX6_step_268 rfl ?_
      refine to_getI (q := 272) (k0 := 6) (C := RX6) (T := TX6) (N := 10) (j := 5) rfl fx_X6_45 (h_1 hS) rfl dX6_step_269 rfl ?_
      obtain ⟨hb18, hf⟩ := ck_some hf
      refine to_baj (q := 273) (h_2 hS) hb18 (rfl) dX6_step_272 rfl ?_
      refine to_bipush (q := 275) bp_59 dX6_step_273 rfl ?_
      by_cases h19 : ((setI m 1 6 (1 : Int32)).1 2 ((setI m 1 6 (1 : Int32)).1 1 5).toNatClampNeg) = (59 : Int32)
      · have hf := ite_pos h19 hf
        refine to_icF (q := 278) (op := .ne) 282 (fun z => z h19) dX6_step_275 rfl rfl ?_
        refine to_iconst (q := 279) ic_3 dX6_step_278 rfl ?_
        refine to_goto (q := 301) dX6_step_279 rfl ?_
        exact to_ext [] ext_nil (kX6_step_301 hS hf hI)
      · have hf := ite_neg h19 hf
        refine to_icT (q := 282) (op := .ne) h19 dX6_step_275 rfl ?_
        refine to_aload_n (q := 283) rfl (by decide) dX6_step_282 rfl ?_
        refine to_getR (q := 286) (b := 2) (k0 := 6) (C := RX6) (T := TX6) (N := 10) (j := 0) rfl fx_X6_9 (h_1 hS) rfl (iv_1_0 hI) dX6_step_283 rfl ?_
        refine to_aload_n (q := 287) rfl (by decide) dX6_step_286 rfl ?_
        refine to_getI (q := 290) (k0 := 6) (C := RX6) (T := TX6) (N := 10) (j := 5) rfl fx_X6_45 (h_1 hS) rfl dX6_step_287 rfl ?_
        obtain ⟨hb20, hf⟩ := ck_some hf
        refine to_baj (q := 291) (h_2 hS) hb20 (rfl) dX6_step_290 rfl ?_
        refine to_bipush (q := 293) bp_44 dX6_step_291 rfl ?_
        by_cases h21 : ((setI m 1 6 (1 : Int32)).1 2 ((setI m 1 6 (1 : Int32)).1 1 5).toNatClampNeg) = (44 : Int32)
        · have hf := ite_pos h21 hf
          refine to_icF (q := 296) (op := .ne) 300 (fun z => z h21) dX6_step_293 rfl rfl ?_
          refine to_iconst (q := 297) ic_4 dX6_step_296 rfl ?_
          refine to_goto (q := 301) dX6_step_297 rfl ?_
          exact to_ext [] ext_nil (kX6_step_301 hS hf hI)
        · have hf := ite_neg h21 hf
          refine to_icT (q := 300) (op := .ne) h21 dX6_step_293 rfl ?_
          refine to_iconst (q := 301) ic_5 dX6_step_300 rfl ?_
          exact to_ext [] ext_nil (kX6_step_301 hS hf hI)
    · have hf := ite_neg h17 hf
      refine to_icF (q := 252) (op := .lt) 258 h17 dX6_step_249 rfl rfl ?_
      refine to_aload_n (q := 253) rfl (by decide) dX6_step_252 rfl ?_
      refine to_iconst (q := 254) ic_0 dX6_step_253 rfl ?_
      refine to_putI (q := 257) (ty := .int) (k0 := 6) (C := RX6) (T := TX6) (N := 10) (j := 4) rfl fx_X6_58 (h_1 hS) rfl pD_I (Or.inl rfl) (nf_I _) dX6_step_254 rfl ?_
      cases hf
      exact to_vret dX6_step_257 rfl rfl rfl hI
  · have hf := ite_neg h16 hf
    refine to_ifF (q := 223) (op := .le) 241 h16 dX6_step_220 rfl rfl ?_
    refine to_aload_n (q := 224) rfl (by decide) dX6_step_223 rfl ?_
    refine to_aload_n (q := 225) rfl (by decide) dX6_step_224 rfl ?_
    refine to_getI (q := 228) (k0 := 6) (C := RX6) (T := TX6) (N := 10) (j := 6) rfl fx_X6_48 (h_1 hS) rfl dX6_step_225 rfl ?_
    refine to_iconst (q := 229) ic_3 dX6_step_228 rfl ?_
    by_cases h22 : (3 : Int32) < (m.1 1 6)
    · have hf := ite_pos h22 hf
      refine to_icT (q := 236) (op := .gt) h22 dX6_step_229 rfl ?_
      refine to_iconst (q := 237) ic_5 dX6_step_236 rfl ?_
      exact to_ext [] ext_nil (kX6_step_237 hS hf hI)
    · have hf := ite_neg h22 hf
      refine to_icF (q := 232) (op := .gt) 236 h22 dX6_step_229 rfl rfl ?_
      refine to_iconst (q := 233) ic_2 dX6_step_232 rfl ?_
      refine to_goto (q := 237) dX6_step_233 rfl ?_
      exact to_ext [] ext_nil (kX6_step_237 hS hf hI)
def fX6_step_149 (n : Nat) (m : Me) : Option (Me) := match n with
  | 0 => none
  | n + 1 => if (m.1 1 1) ≤ ((m.1 1 5) + (m.1 1 6)) then fX6_step_216 m else ck (inb ((m.1 1 5) + (m.1 1 6)) 900) (if (m.1 2 ((m.1 1 5) + (m.1 1 6)).toNatClampNeg) < (48 : Int32) then fX6_step_216 m else ck (inb ((m.1 1 5) + (m.1 1 6)) 900) (if (57 : Int32) < (m.1 2 ((m.1 1 5) + (m.1 1 6)).toNatClampNeg) then fX6_step_216 m else fX6_step_149 n (setI m 1 6 ((m.1 1 6) + (1 : Int32)))))
set_option maxRecDepth 20000 in
theorem kX6_step_149 {S : Sh} (hS : ShOK S) {res : Me} (n : Nat) : ∀ {m : Me}, fX6_step_149 n m = some res → Inv m → TT InvS (Call 0) mX6_step (149, [(0, .ref 1)], [], S, m) none (S, res) := by
  induction n with
  | zero => intro  m hf; cases hf
  | succ n ih =>
    intro  m hf  hI
    unfold fX6_step_149 at hf
    refine to_aload_n (q := 150) rfl (by decide) dX6_step_149 rfl ?_
    refine to_getI (q := 153) (k0 := 6) (C := RX6) (T := TX6) (N := 10) (j := 5) rfl fx_X6_45 (h_1 hS) rfl dX6_step_150 rfl ?_
    refine to_aload_n (q := 154) rfl (by decide) dX6_step_153 rfl ?_
    refine to_getI (q := 157) (k0 := 6) (C := RX6) (T := TX6) (N := 10) (j := 6) rfl fx_X6_48 (h_1 hS) rfl dX6_step_154 rfl ?_
    refine to_iadd (q := 158) dX6_step_157 rfl ?_
    refine to_aload_n (q := 159) rfl (by decide) dX6_step_158 rfl ?_
    refine to_getI (q := 162) (k0 := 6) (C := RX6) (T := TX6) (N := 10) (j := 1) rfl fx_X6_32 (h_1 hS) rfl dX6_step_159 rfl ?_
    by_cases h11 : (m.1 1 1) ≤ ((m.1 1 5) + (m.1 1 6))
    · have hf := ite_pos h11 hf
      refine to_icT (q := 216) (op := .ge) h11 dX6_step_162 rfl ?_
      exact to_ext [(0, .ref 1)] (ext_cons rfl ext_nil) (kX6_step_216 hS hf hI)
    · have hf := ite_neg h11 hf
      refine to_icF (q := 165) (op := .ge) 216 h11 dX6_step_162 rfl rfl ?_
      refine to_aload_n (q := 166) rfl (by decide) dX6_step_165 rfl ?_
      refine to_getR (q := 169) (b := 2) (k0 := 6) (C := RX6) (T := TX6) (N := 10) (j := 0) rfl fx_X6_9 (h_1 hS) rfl (iv_1_0 hI) dX6_step_166 rfl ?_
      refine to_aload_n (q := 170) rfl (by decide) dX6_step_169 rfl ?_
      refine to_getI (q := 173) (k0 := 6) (C := RX6) (T := TX6) (N := 10) (j := 5) rfl fx_X6_45 (h_1 hS) rfl dX6_step_170 rfl ?_
      refine to_aload_n (q := 174) rfl (by decide) dX6_step_173 rfl ?_
      refine to_getI (q := 177) (k0 := 6) (C := RX6) (T := TX6) (N := 10) (j := 6) rfl fx_X6_48 (h_1 hS) rfl dX6_step_174 rfl ?_
      refine to_iadd (q := 178) dX6_step_177 rfl ?_
      obtain ⟨hb12, hf⟩ := ck_some hf
      refine to_baj (q := 179) (h_2 hS) hb12 (rfl) dX6_step_178 rfl ?_
      refine to_bipush (q := 181) bp_48 dX6_step_179 rfl ?_
      by_cases h13 : (m.1 2 ((m.1 1 5) + (m.1 1 6)).toNatClampNeg) < (48 : Int32)
      · have hf := ite_pos h13 hf
        refine to_icT (q := 216) (op := .lt) h13 dX6_step_181 rfl ?_
        exact to_ext [(0, .ref 1)] (ext_cons rfl ext_nil) (kX6_step_216 hS hf hI)
      · have hf := ite_neg h13 hf
        refine to_icF (q := 184) (op := .lt) 216 h13 dX6_step_181 rfl rfl ?_
        refine to_aload_n (q := 185) rfl (by decide) dX6_step_184 rfl ?_
        refine to_getR (q := 188) (b := 2) (k0 := 6) (C := RX6) (T := TX6) (N := 10) (j := 0) rfl fx_X6_9 (h_1 hS) rfl (iv_1_0 hI) dX6_step_185 rfl ?_
        refine to_aload_n (q := 189) rfl (by decide) dX6_step_188 rfl ?_
        refine to_getI (q := 192) (k0 := 6) (C := RX6) (T := TX6) (N := 10) (j := 5) rfl fx_X6_45 (h_1 hS) rfl dX6_step_189 rfl ?_
        refine to_aload_n (q := 193) rfl (by decide) dX6_step_192 rfl ?_
        refine to_getI (q := 196) (k0 := 6) (C := RX6) (T := TX6) (N := 10) (j := 6) rfl fx_X6_48 (h_1 hS) rfl dX6_step_193 rfl ?_
        refine to_iadd (q := 197) dX6_step_196 rfl ?_
        obtain ⟨hb14, hf⟩ := ck_some hf
        refine to_baj (q := 198) (h_2 hS) hb14 (rfl) dX6_step_197 rfl ?_
        refine to_bipush (q := 200) bp_57 dX6_step_198 rfl ?_
        by_cases h15 : (57 : Int32) < (m.1 2 ((m.1 1 5) + (m.1 1 6)).toNatClampNeg)
        · have hf := ite_pos h15 hf
          refine to_icT (q := 216) (op := .gt) h15 dX6_step_200 rfl ?_
          exact to_ext [(0, .ref 1)] (ext_cons rfl ext_nil) (kX6_step_216 hS hf hI)
        · have hf := ite_neg h15 hf
          refine to_icF (q := 203) (op := .gt) 216 h15 dX6_step_200 rfl rfl ?_
          refine to_aload_n (q := 204) rfl (by decide) dX6_step_203 rfl ?_
          refine to_dup (q := 205) rfl dX6_step_204 rfl ?_
          refine to_getI (q := 208) (k0 := 6) (C := RX6) (T := TX6) (N := 10) (j := 6) rfl fx_X6_48 (h_1 hS) rfl dX6_step_205 rfl ?_
          refine to_iconst (q := 209) ic_1 dX6_step_208 rfl ?_
          refine to_iadd (q := 210) dX6_step_209 rfl ?_
          refine to_putI (q := 213) (ty := .int) (k0 := 6) (C := RX6) (T := TX6) (N := 10) (j := 6) rfl fx_X6_48 (h_1 hS) rfl pD_I (Or.inl rfl) (nf_I _) dX6_step_210 rfl ?_
          refine to_goto (q := 149) dX6_step_213 rfl ?_
          exact to_ext [(0, .ref 1)] (ext_cons rfl ext_nil) (ih hf hI)
def fX6_step_145 (t0 : Int32) (m : Me) : Option (Me) := some (setI m 1 4 t0)
set_option maxRecDepth 20000 in
theorem kX6_step_145 {S : Sh} (hS : ShOK S) {res : Me} {t0 : Int32} {m : Me} (hf : fX6_step_145 t0 m = some res) (hI : Inv m) : TT InvS (Call 0) mX6_step (145, [], [.int t0, .ref 1], S, m) none (S, res) := by
  unfold fX6_step_145 at hf
  refine to_putI (q := 148) (ty := .int) (k0 := 6) (C := RX6) (T := TX6) (N := 10) (j := 4) rfl fx_X6_58 (h_1 hS) rfl pD_I (Or.inl rfl) (nf_I _) dX6_step_145 rfl ?_
  cases hf
  exact to_vret dX6_step_148 rfl rfl rfl hI
def fX6_step_123 (m : Me) : Option (Me) := if (m.1 1 6) ≤ (0 : Int32) then fX6_step_149 FU m else if (8 : Int32) < (m.1 1 6) then fX6_step_145 ((5 : Int32)) m else fX6_step_145 ((1 : Int32)) m
set_option maxRecDepth 20000 in
theorem kX6_step_123 {S : Sh} (hS : ShOK S) {res : Me} {m : Me} (hf : fX6_step_123 m = some res) (hI : Inv m) : TT InvS (Call 0) mX6_step (123, [(0, .ref 1)], [], S, m) none (S, res) := by
  unfold fX6_step_123 at hf
  refine to_aload_n (q := 124) rfl (by decide) dX6_step_123 rfl ?_
  refine to_getI (q := 127) (k0 := 6) (C := RX6) (T := TX6) (N := 10) (j := 6) rfl fx_X6_48 (h_1 hS) rfl dX6_step_124 rfl ?_
  by_cases h9 : (m.1 1 6) ≤ (0 : Int32)
  · have hf := ite_pos h9 hf
    refine to_ifT (q := 149) (op := .le) h9 dX6_step_127 rfl ?_
    exact to_ext [(0, .ref 1)] (ext_cons rfl ext_nil) (kX6_step_149 hS FU hf hI)
  · have hf := ite_neg h9 hf
    refine to_ifF (q := 130) (op := .le) 149 h9 dX6_step_127 rfl rfl ?_
    refine to_aload_n (q := 131) rfl (by decide) dX6_step_130 rfl ?_
    refine to_aload_n (q := 132) rfl (by decide) dX6_step_131 rfl ?_
    refine to_getI (q := 135) (k0 := 6) (C := RX6) (T := TX6) (N := 10) (j := 6) rfl fx_X6_48 (h_1 hS) rfl dX6_step_132 rfl ?_
    refine to_bipush (q := 137) bp_8 dX6_step_135 rfl ?_
    by_cases h10 : (8 : Int32) < (m.1 1 6)
    · have hf := ite_pos h10 hf
      refine to_icT (q := 144) (op := .gt) h10 dX6_step_137 rfl ?_
      refine to_iconst (q := 145) ic_5 dX6_step_144 rfl ?_
      exact to_ext [] ext_nil (kX6_step_145 hS hf hI)
    · have hf := ite_neg h10 hf
      refine to_icF (q := 140) (op := .gt) 144 h10 dX6_step_137 rfl rfl ?_
      refine to_iconst (q := 141) ic_1 dX6_step_140 rfl ?_
      refine to_goto (q := 145) dX6_step_141 rfl ?_
      exact to_ext [] ext_nil (kX6_step_145 hS hf hI)
def fX6_step_56 (n : Nat) (m : Me) : Option (Me) := match n with
  | 0 => none
  | n + 1 => if (m.1 1 1) ≤ ((m.1 1 5) + (m.1 1 6)) then fX6_step_123 m else ck (inb ((m.1 1 5) + (m.1 1 6)) 900) (if (m.1 2 ((m.1 1 5) + (m.1 1 6)).toNatClampNeg) < (97 : Int32) then fX6_step_123 m else ck (inb ((m.1 1 5) + (m.1 1 6)) 900) (if (122 : Int32) < (m.1 2 ((m.1 1 5) + (m.1 1 6)).toNatClampNeg) then fX6_step_123 m else fX6_step_56 n (setI m 1 6 ((m.1 1 6) + (1 : Int32)))))
set_option maxRecDepth 20000 in
theorem kX6_step_56 {S : Sh} (hS : ShOK S) {res : Me} (n : Nat) : ∀ {m : Me}, fX6_step_56 n m = some res → Inv m → TT InvS (Call 0) mX6_step (56, [(0, .ref 1)], [], S, m) none (S, res) := by
  induction n with
  | zero => intro  m hf; cases hf
  | succ n ih =>
    intro  m hf  hI
    unfold fX6_step_56 at hf
    refine to_aload_n (q := 57) rfl (by decide) dX6_step_56 rfl ?_
    refine to_getI (q := 60) (k0 := 6) (C := RX6) (T := TX6) (N := 10) (j := 5) rfl fx_X6_45 (h_1 hS) rfl dX6_step_57 rfl ?_
    refine to_aload_n (q := 61) rfl (by decide) dX6_step_60 rfl ?_
    refine to_getI (q := 64) (k0 := 6) (C := RX6) (T := TX6) (N := 10) (j := 6) rfl fx_X6_48 (h_1 hS) rfl dX6_step_61 rfl ?_
    refine to_iadd (q := 65) dX6_step_64 rfl ?_
    refine to_aload_n (q := 66) rfl (by decide) dX6_step_65 rfl ?_
    refine to_getI (q := 69) (k0 := 6) (C := RX6) (T := TX6) (N := 10) (j := 1) rfl fx_X6_32 (h_1 hS) rfl dX6_step_66 rfl ?_
    by_cases h4 : (m.1 1 1) ≤ ((m.1 1 5) + (m.1 1 6))
    · have hf := ite_pos h4 hf
      refine to_icT (q := 123) (op := .ge) h4 dX6_step_69 rfl ?_
      exact to_ext [(0, .ref 1)] (ext_cons rfl ext_nil) (kX6_step_123 hS hf hI)
    · have hf := ite_neg h4 hf
      refine to_icF (q := 72) (op := .ge) 123 h4 dX6_step_69 rfl rfl ?_
      refine to_aload_n (q := 73) rfl (by decide) dX6_step_72 rfl ?_
      refine to_getR (q := 76) (b := 2) (k0 := 6) (C := RX6) (T := TX6) (N := 10) (j := 0) rfl fx_X6_9 (h_1 hS) rfl (iv_1_0 hI) dX6_step_73 rfl ?_
      refine to_aload_n (q := 77) rfl (by decide) dX6_step_76 rfl ?_
      refine to_getI (q := 80) (k0 := 6) (C := RX6) (T := TX6) (N := 10) (j := 5) rfl fx_X6_45 (h_1 hS) rfl dX6_step_77 rfl ?_
      refine to_aload_n (q := 81) rfl (by decide) dX6_step_80 rfl ?_
      refine to_getI (q := 84) (k0 := 6) (C := RX6) (T := TX6) (N := 10) (j := 6) rfl fx_X6_48 (h_1 hS) rfl dX6_step_81 rfl ?_
      refine to_iadd (q := 85) dX6_step_84 rfl ?_
      obtain ⟨hb5, hf⟩ := ck_some hf
      refine to_baj (q := 86) (h_2 hS) hb5 (rfl) dX6_step_85 rfl ?_
      refine to_bipush (q := 88) bp_97 dX6_step_86 rfl ?_
      by_cases h6 : (m.1 2 ((m.1 1 5) + (m.1 1 6)).toNatClampNeg) < (97 : Int32)
      · have hf := ite_pos h6 hf
        refine to_icT (q := 123) (op := .lt) h6 dX6_step_88 rfl ?_
        exact to_ext [(0, .ref 1)] (ext_cons rfl ext_nil) (kX6_step_123 hS hf hI)
      · have hf := ite_neg h6 hf
        refine to_icF (q := 91) (op := .lt) 123 h6 dX6_step_88 rfl rfl ?_
        refine to_aload_n (q := 92) rfl (by decide) dX6_step_91 rfl ?_
        refine to_getR (q := 95) (b := 2) (k0 := 6) (C := RX6) (T := TX6) (N := 10) (j := 0) rfl fx_X6_9 (h_1 hS) rfl (iv_1_0 hI) dX6_step_92 rfl ?_
        refine to_aload_n (q := 96) rfl (by decide) dX6_step_95 rfl ?_
        refine to_getI (q := 99) (k0 := 6) (C := RX6) (T := TX6) (N := 10) (j := 5) rfl fx_X6_45 (h_1 hS) rfl dX6_step_96 rfl ?_
        refine to_aload_n (q := 100) rfl (by decide) dX6_step_99 rfl ?_
        refine to_getI (q := 103) (k0 := 6) (C := RX6) (T := TX6) (N := 10) (j := 6) rfl fx_X6_48 (h_1 hS) rfl dX6_step_100 rfl ?_
        refine to_iadd (q := 104) dX6_step_103 rfl ?_
        obtain ⟨hb7, hf⟩ := ck_some hf
        refine to_baj (q := 105) (h_2 hS) hb7 (rfl) dX6_step_104 rfl ?_
        refine to_bipush (q := 107) bp_122 dX6_step_105 rfl ?_
        by_cases h8 : (122 : Int32) < (m.1 2 ((m.1 1 5) + (m.1 1 6)).toNatClampNeg)
        · have hf := ite_pos h8 hf
          refine to_icT (q := 123) (op := .gt) h8 dX6_step_107 rfl ?_
          exact to_ext [(0, .ref 1)] (ext_cons rfl ext_nil) (kX6_step_123 hS hf hI)
        · have hf := ite_neg h8 hf
          refine to_icF (q := 110) (op := .gt) 123 h8 dX6_step_107 rfl rfl ?_
          refine to_aload_n (q := 111) rfl (by decide) dX6_step_110 rfl ?_
          refine to_dup (q := 112) rfl dX6_step_111 rfl ?_
          refine to_getI (q := 115) (k0 := 6) (C := RX6) (T := TX6) (N := 10) (j := 6) rfl fx_X6_48 (h_1 hS) rfl dX6_step_112 rfl ?_
          refine to_iconst (q := 116) ic_1 dX6_step_115 rfl ?_
          refine to_iadd (q := 117) dX6_step_116 rfl ?_
          refine to_putI (q := 120) (ty := .int) (k0 := 6) (C := RX6) (T := TX6) (N := 10) (j := 6) rfl fx_X6_48 (h_1 hS) rfl pD_I (Or.inl rfl) (nf_I _) dX6_step_117 rfl ?_
          refine to_goto (q := 56) dX6_step_120 rfl ?_
          exact to_ext [(0, .ref 1)] (ext_cons rfl ext_nil) (ih hf hI)
def fX6_step_18 (n : Nat) (m : Me) : Option (Me) := match n with
  | 0 => none
  | n + 1 => if (m.1 1 1) ≤ (m.1 1 5) then fX6_step_56 FU m else ck (inb (m.1 1 5) 900) (if (m.1 2 (m.1 1 5).toNatClampNeg) = (32 : Int32) then fX6_step_18 n (setI m 1 5 ((m.1 1 5) + (1 : Int32))) else fX6_step_56 FU m)
set_option maxRecDepth 20000 in
theorem kX6_step_18 {S : Sh} (hS : ShOK S) {res : Me} (n : Nat) : ∀ {m : Me}, fX6_step_18 n m = some res → Inv m → TT InvS (Call 0) mX6_step (18, [(0, .ref 1)], [], S, m) none (S, res) := by
  induction n with
  | zero => intro  m hf; cases hf
  | succ n ih =>
    intro  m hf  hI
    unfold fX6_step_18 at hf
    refine to_aload_n (q := 19) rfl (by decide) dX6_step_18 rfl ?_
    refine to_getI (q := 22) (k0 := 6) (C := RX6) (T := TX6) (N := 10) (j := 5) rfl fx_X6_45 (h_1 hS) rfl dX6_step_19 rfl ?_
    refine to_aload_n (q := 23) rfl (by decide) dX6_step_22 rfl ?_
    refine to_getI (q := 26) (k0 := 6) (C := RX6) (T := TX6) (N := 10) (j := 1) rfl fx_X6_32 (h_1 hS) rfl dX6_step_23 rfl ?_
    by_cases h1 : (m.1 1 1) ≤ (m.1 1 5)
    · have hf := ite_pos h1 hf
      refine to_icT (q := 56) (op := .ge) h1 dX6_step_26 rfl ?_
      exact to_ext [(0, .ref 1)] (ext_cons rfl ext_nil) (kX6_step_56 hS FU hf hI)
    · have hf := ite_neg h1 hf
      refine to_icF (q := 29) (op := .ge) 56 h1 dX6_step_26 rfl rfl ?_
      refine to_aload_n (q := 30) rfl (by decide) dX6_step_29 rfl ?_
      refine to_getR (q := 33) (b := 2) (k0 := 6) (C := RX6) (T := TX6) (N := 10) (j := 0) rfl fx_X6_9 (h_1 hS) rfl (iv_1_0 hI) dX6_step_30 rfl ?_
      refine to_aload_n (q := 34) rfl (by decide) dX6_step_33 rfl ?_
      refine to_getI (q := 37) (k0 := 6) (C := RX6) (T := TX6) (N := 10) (j := 5) rfl fx_X6_45 (h_1 hS) rfl dX6_step_34 rfl ?_
      obtain ⟨hb2, hf⟩ := ck_some hf
      refine to_baj (q := 38) (h_2 hS) hb2 (rfl) dX6_step_37 rfl ?_
      refine to_bipush (q := 40) bp_32 dX6_step_38 rfl ?_
      by_cases h3 : (m.1 2 (m.1 1 5).toNatClampNeg) = (32 : Int32)
      · have hf := ite_pos h3 hf
        refine to_icF (q := 43) (op := .ne) 56 (fun z => z h3) dX6_step_40 rfl rfl ?_
        refine to_aload_n (q := 44) rfl (by decide) dX6_step_43 rfl ?_
        refine to_dup (q := 45) rfl dX6_step_44 rfl ?_
        refine to_getI (q := 48) (k0 := 6) (C := RX6) (T := TX6) (N := 10) (j := 5) rfl fx_X6_45 (h_1 hS) rfl dX6_step_45 rfl ?_
        refine to_iconst (q := 49) ic_1 dX6_step_48 rfl ?_
        refine to_iadd (q := 50) dX6_step_49 rfl ?_
        refine to_putI (q := 53) (ty := .int) (k0 := 6) (C := RX6) (T := TX6) (N := 10) (j := 5) rfl fx_X6_45 (h_1 hS) rfl pD_I (Or.inl rfl) (nf_I _) dX6_step_50 rfl ?_
        refine to_goto (q := 18) dX6_step_53 rfl ?_
        exact to_ext [(0, .ref 1)] (ext_cons rfl ext_nil) (ih hf hI)
      · have hf := ite_neg h3 hf
        refine to_icT (q := 56) (op := .ne) h3 dX6_step_40 rfl ?_
        exact to_ext [(0, .ref 1)] (ext_cons rfl ext_nil) (kX6_step_56 hS FU hf hI)
def fX6_step (m : Me) : Option (Me) := fX6_step_18 FU (setI (setI m 1 5 ((m.1 1 5) + (m.1 1 6))) 1 6 (0 : Int32))
set_option maxRecDepth 20000 in
theorem kX6_step {S : Sh} (hS : ShOK S) {res : Me} {m : Me} (hf : fX6_step m = some res) (hI : Inv m) : Call 1 mX6_step [.ref 1] (S, m) none (S, res) ∧ Inv res := by
  refine call_of (P := InvS) (Nat.le_of_ble_eq_true rfl) (by simp [Value.category]) ?_
  show TT InvS (Call 0) mX6_step (0, [(0, .ref 1)], [], S, m) _ _
  unfold fX6_step at hf
  refine to_aload_n (q := 1) rfl (by decide) dX6_step_0 rfl ?_
  refine to_dup (q := 2) rfl dX6_step_1 rfl ?_
  refine to_getI (q := 5) (k0 := 6) (C := RX6) (T := TX6) (N := 10) (j := 5) rfl fx_X6_45 (h_1 hS) rfl dX6_step_2 rfl ?_
  refine to_aload_n (q := 6) rfl (by decide) dX6_step_5 rfl ?_
  refine to_getI (q := 9) (k0 := 6) (C := RX6) (T := TX6) (N := 10) (j := 6) rfl fx_X6_48 (h_1 hS) rfl dX6_step_6 rfl ?_
  refine to_iadd (q := 10) dX6_step_9 rfl ?_
  refine to_putI (q := 13) (ty := .int) (k0 := 6) (C := RX6) (T := TX6) (N := 10) (j := 5) rfl fx_X6_45 (h_1 hS) rfl pD_I (Or.inl rfl) (nf_I _) dX6_step_10 rfl ?_
  refine to_aload_n (q := 14) rfl (by decide) dX6_step_13 rfl ?_
  refine to_iconst (q := 15) ic_0 dX6_step_14 rfl ?_
  refine to_putI (q := 18) (ty := .int) (k0 := 6) (C := RX6) (T := TX6) (N := 10) (j := 6) rfl fx_X6_48 (h_1 hS) rfl pD_I (Or.inl rfl) (nf_I _) dX6_step_15 rfl ?_
  exact to_ext [(0, .ref 1)] (ext_cons rfl ext_nil) (kX6_step_18 hS FU hf hI)
def fX6_isName_23 (n : Nat) (s1 : Nat) (x2 : Int32) (m : Me) : Option (Int32 × Me) := match n with
  | 0 => none
  | n + 1 => if (m.1 1 6) ≤ x2 then some ((1 : Int32), m) else ck (inb ((m.1 1 5) + x2) 900) (cl2 (fJ0_charAt_5068e s1 x2 m) fun r11 m12 => if (m.1 2 ((m.1 1 5) + x2).toNatClampNeg) = r11 then fX6_isName_23 n s1 ((x2 + (1 : Int32))) m12 else some ((0 : Int32), m12))
set_option maxRecDepth 20000 in
theorem kX6_isName_23 {S : Sh} (hS : ShOK S) {res : Int32 × Me} (n : Nat) : ∀ {s1 : Nat} {x2 : Int32} {m : Me}, fX6_isName_23 n s1 x2 m = some res → s1 < 32 → Inv m → TT InvS (Call 6) mX6_isName (23, [(0, .ref 1), (1, .ref (1000000 + s1)), (2, .int x2)], [], S, m) (some (.int res.1)) (S, res.2) := by
  induction n with
  | zero => intro s1 x2 m hf; cases hf
  | succ n ih =>
    intro s1 x2 m hf hs1 hI
    unfold fX6_isName_23 at hf
    refine to_iload_n (q := 24) rfl dX6_isName_23 rfl ?_
    refine to_aload_n (q := 25) rfl (by decide) dX6_isName_24 rfl ?_
    refine to_getI (q := 28) (k0 := 6) (C := RX6) (T := TX6) (N := 10) (j := 6) rfl fx_X6_48 (h_1 hS) rfl dX6_isName_25 rfl ?_
    by_cases h7 : (m.1 1 6) ≤ x2
    · have hf := ite_pos h7 hf
      refine to_icT (q := 58) (op := .ge) h7 dX6_isName_28 rfl ?_
      refine to_iconst (q := 59) ic_1 dX6_isName_58 rfl ?_
      cases hf
      exact to_iret dX6_isName_59 rfl (by decide) rfl rfl hI
    · have hf := ite_neg h7 hf
      refine to_icF (q := 31) (op := .ge) 58 h7 dX6_isName_28 rfl rfl ?_
      refine to_aload_n (q := 32) rfl (by decide) dX6_isName_31 rfl ?_
      refine to_getR (q := 35) (b := 2) (k0 := 6) (C := RX6) (T := TX6) (N := 10) (j := 0) rfl fx_X6_9 (h_1 hS) rfl (iv_1_0 hI) dX6_isName_32 rfl ?_
      refine to_aload_n (q := 36) rfl (by decide) dX6_isName_35 rfl ?_
      refine to_getI (q := 39) (k0 := 6) (C := RX6) (T := TX6) (N := 10) (j := 5) rfl fx_X6_45 (h_1 hS) rfl dX6_isName_36 rfl ?_
      refine to_iload_n (q := 40) rfl dX6_isName_39 rfl ?_
      refine to_iadd (q := 41) dX6_isName_40 rfl ?_
      obtain ⟨hb8, hf⟩ := ck_some hf
      refine to_baj (q := 42) (h_2 hS) hb8 (rfl) dX6_isName_41 rfl ?_
      refine to_aload_n (q := 43) rfl (str_4 hs1) dX6_isName_42 rfl ?_
      refine to_iload_n (q := 44) rfl dX6_isName_43 rfl ?_
      obtain ⟨r11, m12, hc9, hf⟩ := cl2_some hf
      have qc10 := kJ0_charAt_5068e hS hc9 (hs1) hI
      refine to_virtI (q := 47) mJ0_charAt_5068e [.int x2] dX6_isName_44 rfl rfl (Nat.le_of_ble_eq_true rfl) mo_J0_charAt_5068e mv_X6_70 (Or.inr ⟨_, rfl, hs1, rfl⟩) (Call_mono (by decide) qc10.1) ?_
      have hI := qc10.2
      by_cases h13 : (m.1 2 ((m.1 1 5) + x2).toNatClampNeg) = r11
      · have hf := ite_pos h13 hf
        refine to_icT (q := 52) (op := .eq) h13 dX6_isName_47 rfl ?_
        refine to_iinc (q := 55) (v := (x2 + (1 : Int32))) rfl (congrArg (fun z => x2 + z) ic_1) [(2, .int (x2 + (1 : Int32))), (0, .ref 1), (1, .ref (1000000 + s1))] rfl (by decide) dX6_isName_52 rfl ?_
        refine to_goto (q := 23) dX6_isName_55 rfl ?_
        exact to_ext [(0, .ref 1), (1, .ref (1000000 + s1)), (2, .int (x2 + (1 : Int32)))] (ext_cons rfl (ext_cons rfl (ext_cons rfl ext_nil))) (ih hf (hs1) hI)
      · have hf := ite_neg h13 hf
        refine to_icF (q := 50) (op := .eq) 52 h13 dX6_isName_47 rfl rfl ?_
        refine to_iconst (q := 51) ic_0 dX6_isName_50 rfl ?_
        cases hf
        exact to_iret dX6_isName_51 rfl (by decide) rfl rfl hI
def fX6_isName_19 (m : Me) : Option (Int32 × Me) := some ((0 : Int32), m)
set_option maxRecDepth 20000 in
theorem kX6_isName_19 {S : Sh} (hS : ShOK S) {res : Int32 × Me} {m : Me} (hf : fX6_isName_19 m = some res) (hI : Inv m) : TT InvS (Call 6) mX6_isName (19, [], [], S, m) (some (.int res.1)) (S, res.2) := by
  unfold fX6_isName_19 at hf
  refine to_iconst (q := 20) ic_0 dX6_isName_19 rfl ?_
  cases hf
  exact to_iret dX6_isName_20 rfl (by decide) rfl rfl hI
def fX6_isName (s1 : Nat) (m : Me) : Option (Int32 × Me) := if (m.1 1 4) = (1 : Int32) then cl2 (fJ0_length_8abf5 s1 m) fun r4 m5 => if (m.1 1 6) = r4 then fX6_isName_23 FU s1 ((0 : Int32)) m5 else fX6_isName_19 m5 else fX6_isName_19 m
set_option maxRecDepth 20000 in
theorem kX6_isName {S : Sh} (hS : ShOK S) {res : Int32 × Me} {s1 : Nat} {m : Me} (hf : fX6_isName s1 m = some res) (hs1 : s1 < 32) (hI : Inv m) : Call 7 mX6_isName [.ref 1, .ref (1000000 + s1)] (S, m) (some (.int res.1)) (S, res.2) ∧ Inv res.2 := by
  refine call_of (P := InvS) (Nat.le_of_ble_eq_true rfl) (by simp [Value.category]) ?_
  show TT InvS (Call 6) mX6_isName (0, [(0, .ref 1), (1, .ref (1000000 + s1))], [], S, m) _ _
  unfold fX6_isName at hf
  refine to_aload_n (q := 1) rfl (by decide) dX6_isName_0 rfl ?_
  refine to_getI (q := 4) (k0 := 6) (C := RX6) (T := TX6) (N := 10) (j := 4) rfl fx_X6_58 (h_1 hS) rfl dX6_isName_1 rfl ?_
  refine to_iconst (q := 5) ic_1 dX6_isName_4 rfl ?_
  by_cases h1 : (m.1 1 4) = (1 : Int32)
  · have hf := ite_pos h1 hf
    refine to_icF (q := 8) (op := .ne) 19 (fun z => z h1) dX6_isName_5 rfl rfl ?_
    refine to_aload_n (q := 9) rfl (by decide) dX6_isName_8 rfl ?_
    refine to_getI (q := 12) (k0 := 6) (C := RX6) (T := TX6) (N := 10) (j := 6) rfl fx_X6_48 (h_1 hS) rfl dX6_isName_9 rfl ?_
    refine to_aload_n (q := 13) rfl (str_4 hs1) dX6_isName_12 rfl ?_
    obtain ⟨r4, m5, hc2, hf⟩ := cl2_some hf
    have qc3 := kJ0_length_8abf5 hS hc2 (hs1) hI
    refine to_virtI (q := 16) mJ0_length_8abf5 [] dX6_isName_13 rfl rfl (Nat.le_of_ble_eq_true rfl) mo_J0_length_8abf5 mv_X6_65 (Or.inr ⟨_, rfl, hs1, rfl⟩) (Call_mono (by decide) qc3.1) ?_
    have hI := qc3.2
    by_cases h6 : (m.1 1 6) = r4
    · have hf := ite_pos h6 hf
      refine to_icT (q := 21) (op := .eq) h6 dX6_isName_16 rfl ?_
      refine to_iconst (q := 22) ic_0 dX6_isName_21 rfl ?_
      refine to_istore_n (q := 23) [(2, .int (0 : Int32)), (0, .ref 1), (1, .ref (1000000 + s1))] rfl (by decide) dX6_isName_22 rfl ?_
      exact to_ext [(0, .ref 1), (1, .ref (1000000 + s1)), (2, .int (0 : Int32))] (ext_cons rfl (ext_cons rfl (ext_cons rfl ext_nil))) (kX6_isName_23 hS FU hf (hs1) hI)
    · have hf := ite_neg h6 hf
      refine to_icF (q := 19) (op := .eq) 21 h6 dX6_isName_16 rfl rfl ?_
      exact to_ext [] ext_nil (kX6_isName_19 hS hf hI)
  · have hf := ite_neg h1 hf
    refine to_icT (q := 19) (op := .ne) h1 dX6_isName_5 rfl ?_
    exact to_ext [] ext_nil (kX6_isName_19 hS hf hI)
def fX6_fail (x1 : Int32) (m : Me) : Option (Int32 × Me) := some ((0 : Int32), (setI (setI m 1 8 x1) 1 9 ((setI m 1 8 x1).1 1 5)))
set_option maxRecDepth 20000 in
theorem kX6_fail {S : Sh} (hS : ShOK S) {res : Int32 × Me} {x1 : Int32} {m : Me} (hf : fX6_fail x1 m = some res) (hI : Inv m) : Call 1 mX6_fail [.ref 1, .int x1] (S, m) (some (.int res.1)) (S, res.2) ∧ Inv res.2 := by
  refine call_of (P := InvS) (Nat.le_of_ble_eq_true rfl) (by simp [Value.category]) ?_
  show TT InvS (Call 0) mX6_fail (0, [(0, .ref 1), (1, .int x1)], [], S, m) _ _
  unfold fX6_fail at hf
  refine to_aload_n (q := 1) rfl (by decide) dX6_fail_0 rfl ?_
  refine to_iload_n (q := 2) rfl dX6_fail_1 rfl ?_
  refine to_putI (q := 5) (ty := .int) (k0 := 6) (C := RX6) (T := TX6) (N := 10) (j := 8) rfl fx_X6_42 (h_1 hS) rfl pD_I (Or.inl rfl) (nf_I _) dX6_fail_2 rfl ?_
  refine to_aload_n (q := 6) rfl (by decide) dX6_fail_5 rfl ?_
  refine to_aload_n (q := 7) rfl (by decide) dX6_fail_6 rfl ?_
  refine to_getI (q := 10) (k0 := 6) (C := RX6) (T := TX6) (N := 10) (j := 5) rfl fx_X6_45 (h_1 hS) rfl dX6_fail_7 rfl ?_
  refine to_putI (q := 13) (ty := .int) (k0 := 6) (C := RX6) (T := TX6) (N := 10) (j := 9) rfl fx_X6_22 (h_1 hS) rfl pD_I (Or.inl rfl) (nf_I _) dX6_fail_10 rfl ?_
  refine to_iconst (q := 14) ic_0 dX6_fail_13 rfl ?_
  cases hf
  exact to_iret dX6_fail_14 rfl (by decide) rfl rfl hI
def fX6_takeName (s1 : Nat) (m : Me) : Option (Int32 × Me) := cl2 (fX6_isName s1 m) fun r3 m4 => if r3 = (0 : Int32) then cl2 (fX6_fail (1 : Int32) m4) fun r11 m12 => ck (r11 = 0 ∨ r11 = 1) (some (r11, m12)) else cl1 (fX6_step m4) fun m8 => some ((1 : Int32), m8)
set_option maxRecDepth 20000 in
theorem kX6_takeName {S : Sh} (hS : ShOK S) {res : Int32 × Me} {s1 : Nat} {m : Me} (hf : fX6_takeName s1 m = some res) (hs1 : s1 < 32) (hI : Inv m) : Call 8 mX6_takeName [.ref 1, .ref (1000000 + s1)] (S, m) (some (.int res.1)) (S, res.2) ∧ Inv res.2 := by
  refine call_of (P := InvS) (Nat.le_of_ble_eq_true rfl) (by simp [Value.category]) ?_
  show TT InvS (Call 7) mX6_takeName (0, [(0, .ref 1), (1, .ref (1000000 + s1))], [], S, m) _ _
  unfold fX6_takeName at hf
  refine to_aload_n (q := 1) rfl (by decide) dX6_takeName_0 rfl ?_
  refine to_aload_n (q := 2) rfl (str_4 hs1) dX6_takeName_1 rfl ?_
  obtain ⟨r3, m4, hc1, hf⟩ := cl2_some hf
  have qc2 := kX6_isName hS hc1 (hs1) hI
  refine to_virtI (q := 5) mX6_isName [.ref (1000000 + s1)] dX6_takeName_2 rfl rfl (Nat.le_of_ble_eq_true rfl) mo_X6_isName mv_X6_74 (Or.inl ⟨_, _, _, h_1 hS, rfl, rfl⟩) (Call_mono (by decide) qc2.1) ?_
  have hI := qc2.2
  by_cases h5 : r3 = (0 : Int32)
  · have hf := ite_pos h5 hf
    refine to_ifF (q := 8) (op := .ne) 14 (fun z => z h5) dX6_takeName_5 rfl rfl ?_
    refine to_aload_n (q := 9) rfl (by decide) dX6_takeName_8 rfl ?_
    refine to_iconst (q := 10) ic_1 dX6_takeName_9 rfl ?_
    obtain ⟨r11, m12, hc9, hf⟩ := cl2_some hf
    have qc10 := kX6_fail hS hc9 hI
    refine to_virtI (q := 13) mX6_fail [.int (1 : Int32)] dX6_takeName_10 rfl rfl (Nat.le_of_ble_eq_true rfl) mo_X6_fail mv_X6_61 (Or.inl ⟨_, _, _, h_1 hS, rfl, rfl⟩) (Call_mono (by decide) qc10.1) ?_
    have hI := qc10.2
    obtain ⟨hz13, hf⟩ := ck_some hf
    cases hf
    exact to_iret dX6_takeName_13 rfl (nf_Z hz13).1 rfl rfl hI
  · have hf := ite_neg h5 hf
    refine to_ifT (q := 14) (op := .ne) h5 dX6_takeName_5 rfl ?_
    refine to_aload_n (q := 15) rfl (by decide) dX6_takeName_14 rfl ?_
    obtain ⟨m8, hc6, hf⟩ := cl1_some hf
    have qc7 := kX6_step hS hc6 hI
    refine to_virtV (q := 18) mX6_step [] dX6_takeName_15 rfl rfl (Nat.le_of_ble_eq_true rfl) mo_X6_step mv_X6_51 (Or.inl ⟨_, _, _, h_1 hS, rfl, rfl⟩) (Call_mono (by decide) qc7.1) ?_
    have hI := qc7.2
    refine to_iconst (q := 19) ic_1 dX6_takeName_18 rfl ?_
    cases hf
    exact to_iret dX6_takeName_19 rfl (by decide) rfl rfl hI
def fX6_isWholeWithin_90 (t0 : Int32) (m : Me) : Option (Int32 × Me) := ck (t0 = 0 ∨ t0 = 1) (some (t0, m))
set_option maxRecDepth 20000 in
theorem kX6_isWholeWithin_90 {S : Sh} (hS : ShOK S) {res : Int32 × Me} {t0 : Int32} {m : Me} (hf : fX6_isWholeWithin_90 t0 m = some res) (hI : Inv m) : TT InvS (Call 1) mX6_isWholeWithin (90, [], [.int t0], S, m) (some (.int res.1)) (S, res.2) := by
  unfold fX6_isWholeWithin_90 at hf
  obtain ⟨hz16, hf⟩ := ck_some hf
  cases hf
  exact to_iret dX6_isWholeWithin_90 rfl (nf_Z hz16).1 rfl rfl hI
def fX6_isWholeWithin_85 (m : Me) : Option (Int32 × Me) := fX6_isWholeWithin_90 ((1 : Int32)) m
set_option maxRecDepth 20000 in
theorem kX6_isWholeWithin_85 {S : Sh} (hS : ShOK S) {res : Int32 × Me} {m : Me} (hf : fX6_isWholeWithin_85 m = some res) (hI : Inv m) : TT InvS (Call 1) mX6_isWholeWithin (85, [], [], S, m) (some (.int res.1)) (S, res.2) := by
  unfold fX6_isWholeWithin_85 at hf
  refine to_iconst (q := 86) ic_1 dX6_isWholeWithin_85 rfl ?_
  refine to_goto (q := 90) dX6_isWholeWithin_86 rfl ?_
  exact to_ext [] ext_nil (kX6_isWholeWithin_90 hS hf hI)
def fX6_isWholeWithin_77 (m : Me) : Option (Int32 × Me) := cl2 (fX6_fail (4 : Int32) m) fun r13 m14 => if r13 = (0 : Int32) then fX6_isWholeWithin_90 ((0 : Int32)) m14 else fX6_isWholeWithin_85 m14
set_option maxRecDepth 20000 in
theorem kX6_isWholeWithin_77 {S : Sh} (hS : ShOK S) {res : Int32 × Me} {m : Me} (hf : fX6_isWholeWithin_77 m = some res) (hI : Inv m) : TT InvS (Call 1) mX6_isWholeWithin (77, [(0, .ref 1)], [], S, m) (some (.int res.1)) (S, res.2) := by
  unfold fX6_isWholeWithin_77 at hf
  refine to_aload_n (q := 78) rfl (by decide) dX6_isWholeWithin_77 rfl ?_
  refine to_iconst (q := 79) ic_4 dX6_isWholeWithin_78 rfl ?_
  obtain ⟨r13, m14, hc11, hf⟩ := cl2_some hf
  have qc12 := kX6_fail hS hc11 hI
  refine to_virtI (q := 82) mX6_fail [.int (4 : Int32)] dX6_isWholeWithin_79 rfl rfl (Nat.le_of_ble_eq_true rfl) mo_X6_fail mv_X6_61 (Or.inl ⟨_, _, _, h_1 hS, rfl, rfl⟩) (Call_mono (by decide) qc12.1) ?_
  have hI := qc12.2
  by_cases h15 : r13 = (0 : Int32)
  · have hf := ite_pos h15 hf
    refine to_ifT (q := 89) (op := .eq) h15 dX6_isWholeWithin_82 rfl ?_
    refine to_iconst (q := 90) ic_0 dX6_isWholeWithin_89 rfl ?_
    exact to_ext [] ext_nil (kX6_isWholeWithin_90 hS hf hI)
  · have hf := ite_neg h15 hf
    refine to_ifF (q := 85) (op := .eq) 89 h15 dX6_isWholeWithin_82 rfl rfl ?_
    exact to_ext [] ext_nil (kX6_isWholeWithin_85 hS hf hI)
def fX6_isWholeWithin_21 (n : Nat) (x1 : Int32) (x2 : Int32) (x3 : Int32) (m : Me) : Option (Int32 × Me) := match n with
  | 0 => none
  | n + 1 => if (m.1 1 6) ≤ x3 then if (m.1 1 7) < x1 then fX6_isWholeWithin_77 m else if (m.1 1 7) ≤ x2 then fX6_isWholeWithin_85 m else fX6_isWholeWithin_77 m else ck (inb ((m.1 1 5) + x3) 900) (fX6_isWholeWithin_21 n x1 x2 ((x3 + (1 : Int32))) (setI m 1 7 ((((10 : Int32) * (m.1 1 7)) + (m.1 2 ((m.1 1 5) + x3).toNatClampNeg)) - (48 : Int32))))
set_option maxRecDepth 20000 in
theorem kX6_isWholeWithin_21 {S : Sh} (hS : ShOK S) {res : Int32 × Me} (n : Nat) : ∀ {x1 : Int32} {x2 : Int32} {x3 : Int32} {m : Me}, fX6_isWholeWithin_21 n x1 x2 x3 m = some res → Inv m → TT InvS (Call 1) mX6_isWholeWithin (21, [(0, .ref 1), (1, .int x1), (2, .int x2), (3, .int x3)], [], S, m) (some (.int res.1)) (S, res.2) := by
  induction n with
  | zero => intro x1 x2 x3 m hf; cases hf
  | succ n ih =>
    intro x1 x2 x3 m hf  hI
    unfold fX6_isWholeWithin_21 at hf
    refine to_iload_n (q := 22) rfl dX6_isWholeWithin_21 rfl ?_
    refine to_aload_n (q := 23) rfl (by decide) dX6_isWholeWithin_22 rfl ?_
    refine to_getI (q := 26) (k0 := 6) (C := RX6) (T := TX6) (N := 10) (j := 6) rfl fx_X6_48 (h_1 hS) rfl dX6_isWholeWithin_23 rfl ?_
    by_cases h7 : (m.1 1 6) ≤ x3
    · have hf := ite_pos h7 hf
      refine to_icT (q := 61) (op := .ge) h7 dX6_isWholeWithin_26 rfl ?_
      refine to_aload_n (q := 62) rfl (by decide) dX6_isWholeWithin_61 rfl ?_
      refine to_getI (q := 65) (k0 := 6) (C := RX6) (T := TX6) (N := 10) (j := 7) rfl fx_X6_78 (h_1 hS) rfl dX6_isWholeWithin_62 rfl ?_
      refine to_iload_n (q := 66) rfl dX6_isWholeWithin_65 rfl ?_
      by_cases h8 : (m.1 1 7) < x1
      · have hf := ite_pos h8 hf
        refine to_icT (q := 77) (op := .lt) h8 dX6_isWholeWithin_66 rfl ?_
        exact to_ext [(0, .ref 1)] (ext_cons rfl ext_nil) (kX6_isWholeWithin_77 hS hf hI)
      · have hf := ite_neg h8 hf
        refine to_icF (q := 69) (op := .lt) 77 h8 dX6_isWholeWithin_66 rfl rfl ?_
        refine to_aload_n (q := 70) rfl (by decide) dX6_isWholeWithin_69 rfl ?_
        refine to_getI (q := 73) (k0 := 6) (C := RX6) (T := TX6) (N := 10) (j := 7) rfl fx_X6_78 (h_1 hS) rfl dX6_isWholeWithin_70 rfl ?_
        refine to_iload_n (q := 74) rfl dX6_isWholeWithin_73 rfl ?_
        by_cases h9 : (m.1 1 7) ≤ x2
        · have hf := ite_pos h9 hf
          refine to_icT (q := 85) (op := .le) h9 dX6_isWholeWithin_74 rfl ?_
          exact to_ext [] ext_nil (kX6_isWholeWithin_85 hS hf hI)
        · have hf := ite_neg h9 hf
          refine to_icF (q := 77) (op := .le) 85 h9 dX6_isWholeWithin_74 rfl rfl ?_
          exact to_ext [(0, .ref 1)] (ext_cons rfl ext_nil) (kX6_isWholeWithin_77 hS hf hI)
    · have hf := ite_neg h7 hf
      refine to_icF (q := 29) (op := .ge) 61 h7 dX6_isWholeWithin_26 rfl rfl ?_
      refine to_aload_n (q := 30) rfl (by decide) dX6_isWholeWithin_29 rfl ?_
      refine to_bipush (q := 32) bp_10 dX6_isWholeWithin_30 rfl ?_
      refine to_aload_n (q := 33) rfl (by decide) dX6_isWholeWithin_32 rfl ?_
      refine to_getI (q := 36) (k0 := 6) (C := RX6) (T := TX6) (N := 10) (j := 7) rfl fx_X6_78 (h_1 hS) rfl dX6_isWholeWithin_33 rfl ?_
      refine to_imul (q := 37) dX6_isWholeWithin_36 rfl ?_
      refine to_aload_n (q := 38) rfl (by decide) dX6_isWholeWithin_37 rfl ?_
      refine to_getR (q := 41) (b := 2) (k0 := 6) (C := RX6) (T := TX6) (N := 10) (j := 0) rfl fx_X6_9 (h_1 hS) rfl (iv_1_0 hI) dX6_isWholeWithin_38 rfl ?_
      refine to_aload_n (q := 42) rfl (by decide) dX6_isWholeWithin_41 rfl ?_
      refine to_getI (q := 45) (k0 := 6) (C := RX6) (T := TX6) (N := 10) (j := 5) rfl fx_X6_45 (h_1 hS) rfl dX6_isWholeWithin_42 rfl ?_
      refine to_iload_n (q := 46) rfl dX6_isWholeWithin_45 rfl ?_
      refine to_iadd (q := 47) dX6_isWholeWithin_46 rfl ?_
      obtain ⟨hb10, hf⟩ := ck_some hf
      refine to_baj (q := 48) (h_2 hS) hb10 (rfl) dX6_isWholeWithin_47 rfl ?_
      refine to_iadd (q := 49) dX6_isWholeWithin_48 rfl ?_
      refine to_bipush (q := 51) bp_48 dX6_isWholeWithin_49 rfl ?_
      refine to_isub (q := 52) dX6_isWholeWithin_51 rfl ?_
      refine to_putI (q := 55) (ty := .int) (k0 := 6) (C := RX6) (T := TX6) (N := 10) (j := 7) rfl fx_X6_78 (h_1 hS) rfl pD_I (Or.inl rfl) (nf_I _) dX6_isWholeWithin_52 rfl ?_
      refine to_iinc (q := 58) (v := (x3 + (1 : Int32))) rfl (congrArg (fun z => x3 + z) ic_1) [(3, .int (x3 + (1 : Int32))), (0, .ref 1), (1, .int x1), (2, .int x2)] rfl (by decide) dX6_isWholeWithin_55 rfl ?_
      refine to_goto (q := 21) dX6_isWholeWithin_58 rfl ?_
      exact to_ext [(0, .ref 1), (1, .int x1), (2, .int x2), (3, .int (x3 + (1 : Int32)))] (ext_cons rfl (ext_cons rfl (ext_cons rfl (ext_cons rfl ext_nil)))) (ih hf hI)
def fX6_isWholeWithin (x1 : Int32) (x2 : Int32) (m : Me) : Option (Int32 × Me) := if (m.1 1 4) = (2 : Int32) then fX6_isWholeWithin_21 FU x1 x2 ((0 : Int32)) (setI m 1 7 (0 : Int32)) else cl2 (fX6_fail (1 : Int32) m) fun r4 m5 => ck (r4 = 0 ∨ r4 = 1) (some (r4, m5))
set_option maxRecDepth 20000 in
theorem kX6_isWholeWithin {S : Sh} (hS : ShOK S) {res : Int32 × Me} {x1 : Int32} {x2 : Int32} {m : Me} (hf : fX6_isWholeWithin x1 x2 m = some res) (hI : Inv m) : Call 2 mX6_isWholeWithin [.ref 1, .int x1, .int x2] (S, m) (some (.int res.1)) (S, res.2) ∧ Inv res.2 := by
  refine call_of (P := InvS) (Nat.le_of_ble_eq_true rfl) (by simp [Value.category]) ?_
  show TT InvS (Call 1) mX6_isWholeWithin (0, [(0, .ref 1), (1, .int x1), (2, .int x2)], [], S, m) _ _
  unfold fX6_isWholeWithin at hf
  refine to_aload_n (q := 1) rfl (by decide) dX6_isWholeWithin_0 rfl ?_
  refine to_getI (q := 4) (k0 := 6) (C := RX6) (T := TX6) (N := 10) (j := 4) rfl fx_X6_58 (h_1 hS) rfl dX6_isWholeWithin_1 rfl ?_
  refine to_iconst (q := 5) ic_2 dX6_isWholeWithin_4 rfl ?_
  by_cases h1 : (m.1 1 4) = (2 : Int32)
  · have hf := ite_pos h1 hf
    refine to_icT (q := 14) (op := .eq) h1 dX6_isWholeWithin_5 rfl ?_
    refine to_aload_n (q := 15) rfl (by decide) dX6_isWholeWithin_14 rfl ?_
    refine to_iconst (q := 16) ic_0 dX6_isWholeWithin_15 rfl ?_
    refine to_putI (q := 19) (ty := .int) (k0 := 6) (C := RX6) (T := TX6) (N := 10) (j := 7) rfl fx_X6_78 (h_1 hS) rfl pD_I (Or.inl rfl) (nf_I _) dX6_isWholeWithin_16 rfl ?_
    refine to_iconst (q := 20) ic_0 dX6_isWholeWithin_19 rfl ?_
    refine to_istore_n (q := 21) [(3, .int (0 : Int32)), (0, .ref 1), (1, .int x1), (2, .int x2)] rfl (by decide) dX6_isWholeWithin_20 rfl ?_
    exact to_ext [(0, .ref 1), (1, .int x1), (2, .int x2), (3, .int (0 : Int32))] (ext_cons rfl (ext_cons rfl (ext_cons rfl (ext_cons rfl ext_nil)))) (kX6_isWholeWithin_21 hS FU hf hI)
  · have hf := ite_neg h1 hf
    refine to_icF (q := 8) (op := .eq) 14 h1 dX6_isWholeWithin_5 rfl rfl ?_
    refine to_aload_n (q := 9) rfl (by decide) dX6_isWholeWithin_8 rfl ?_
    refine to_iconst (q := 10) ic_1 dX6_isWholeWithin_9 rfl ?_
    obtain ⟨r4, m5, hc2, hf⟩ := cl2_some hf
    have qc3 := kX6_fail hS hc2 hI
    refine to_virtI (q := 13) mX6_fail [.int (1 : Int32)] dX6_isWholeWithin_10 rfl rfl (Nat.le_of_ble_eq_true rfl) mo_X6_fail mv_X6_61 (Or.inl ⟨_, _, _, h_1 hS, rfl, rfl⟩) (Call_mono (by decide) qc3.1) ?_
    have hI := qc3.2
    obtain ⟨hz6, hf⟩ := ck_some hf
    cases hf
    exact to_iret dX6_isWholeWithin_13 rfl (nf_Z hz6).1 rfl rfl hI
def fX6_takeWhole (x1 : Int32) (x2 : Int32) (m : Me) : Option (Int32 × Me) := cl2 (fX6_isWholeWithin x1 x2 m) fun r3 m4 => if r3 = (0 : Int32) then some ((0 : Int32), m4) else cl1 (fX6_step m4) fun m8 => some ((1 : Int32), m8)
set_option maxRecDepth 20000 in
theorem kX6_takeWhole {S : Sh} (hS : ShOK S) {res : Int32 × Me} {x1 : Int32} {x2 : Int32} {m : Me} (hf : fX6_takeWhole x1 x2 m = some res) (hI : Inv m) : Call 3 mX6_takeWhole [.ref 1, .int x1, .int x2] (S, m) (some (.int res.1)) (S, res.2) ∧ Inv res.2 := by
  refine call_of (P := InvS) (Nat.le_of_ble_eq_true rfl) (by simp [Value.category]) ?_
  show TT InvS (Call 2) mX6_takeWhole (0, [(0, .ref 1), (1, .int x1), (2, .int x2)], [], S, m) _ _
  unfold fX6_takeWhole at hf
  refine to_aload_n (q := 1) rfl (by decide) dX6_takeWhole_0 rfl ?_
  refine to_iload_n (q := 2) rfl dX6_takeWhole_1 rfl ?_
  refine to_iload_n (q := 3) rfl dX6_takeWhole_2 rfl ?_
  obtain ⟨r3, m4, hc1, hf⟩ := cl2_some hf
  have qc2 := kX6_isWholeWithin hS hc1 hI
  refine to_virtI (q := 6) mX6_isWholeWithin [.int x1, .int x2] dX6_takeWhole_3 rfl rfl (Nat.le_of_ble_eq_true rfl) mo_X6_isWholeWithin mv_X6_81 (Or.inl ⟨_, _, _, h_1 hS, rfl, rfl⟩) (Call_mono (by decide) qc2.1) ?_
  have hI := qc2.2
  by_cases h5 : r3 = (0 : Int32)
  · have hf := ite_pos h5 hf
    refine to_ifF (q := 9) (op := .ne) 11 (fun z => z h5) dX6_takeWhole_6 rfl rfl ?_
    refine to_iconst (q := 10) ic_0 dX6_takeWhole_9 rfl ?_
    cases hf
    exact to_iret dX6_takeWhole_10 rfl (by decide) rfl rfl hI
  · have hf := ite_neg h5 hf
    refine to_ifT (q := 11) (op := .ne) h5 dX6_takeWhole_6 rfl ?_
    refine to_aload_n (q := 12) rfl (by decide) dX6_takeWhole_11 rfl ?_
    obtain ⟨m8, hc6, hf⟩ := cl1_some hf
    have qc7 := kX6_step hS hc6 hI
    refine to_virtV (q := 15) mX6_step [] dX6_takeWhole_12 rfl rfl (Nat.le_of_ble_eq_true rfl) mo_X6_step mv_X6_51 (Or.inl ⟨_, _, _, h_1 hS, rfl, rfl⟩) (Call_mono (by decide) qc7.1) ?_
    have hI := qc7.2
    refine to_iconst (q := 16) ic_1 dX6_takeWhole_15 rfl ?_
    cases hf
    exact to_iret dX6_takeWhole_16 rfl (by decide) rfl rfl hI
def fX6_takeOneOf_36 (t0 : Int32) (m : Me) : Option (Int32 × Me) := cl1 (fX6_step (setI m 1 7 t0)) fun m23 => some ((1 : Int32), m23)
set_option maxRecDepth 20000 in
theorem kX6_takeOneOf_36 {S : Sh} (hS : ShOK S) {res : Int32 × Me} {t0 : Int32} {m : Me} (hf : fX6_takeOneOf_36 t0 m = some res) (hI : Inv m) : TT InvS (Call 7) mX6_takeOneOf (36, [(0, .ref 1)], [.int t0, .ref 1], S, m) (some (.int res.1)) (S, res.2) := by
  unfold fX6_takeOneOf_36 at hf
  refine to_putI (q := 39) (ty := .int) (k0 := 6) (C := RX6) (T := TX6) (N := 10) (j := 7) rfl fx_X6_78 (h_1 hS) rfl pD_I (Or.inl rfl) (nf_I _) dX6_takeOneOf_36 rfl ?_
  refine to_aload_n (q := 40) rfl (by decide) dX6_takeOneOf_39 rfl ?_
  obtain ⟨m23, hc21, hf⟩ := cl1_some hf
  have qc22 := kX6_step hS hc21 hI
  refine to_virtV (q := 43) mX6_step [] dX6_takeOneOf_40 rfl rfl (Nat.le_of_ble_eq_true rfl) mo_X6_step mv_X6_51 (Or.inl ⟨_, _, _, h_1 hS, rfl, rfl⟩) (Call_mono (by decide) qc22.1) ?_
  have hI := qc22.2
  refine to_iconst (q := 44) ic_1 dX6_takeOneOf_43 rfl ?_
  cases hf
  exact to_iret dX6_takeOneOf_44 rfl (by decide) rfl rfl hI
def fX6_takeOneOf_22 (s1 : Nat) (m : Me) : Option (Int32 × Me) := cl2 (fX6_isName s1 m) fun r18 m19 => if r18 = (0 : Int32) then fX6_takeOneOf_36 ((1 : Int32)) m19 else fX6_takeOneOf_36 ((0 : Int32)) m19
set_option maxRecDepth 20000 in
theorem kX6_takeOneOf_22 {S : Sh} (hS : ShOK S) {res : Int32 × Me} {s1 : Nat} {m : Me} (hf : fX6_takeOneOf_22 s1 m = some res) (hs1 : s1 < 32) (hI : Inv m) : TT InvS (Call 7) mX6_takeOneOf (22, [(0, .ref 1), (1, .ref (1000000 + s1))], [], S, m) (some (.int res.1)) (S, res.2) := by
  unfold fX6_takeOneOf_22 at hf
  refine to_aload_n (q := 23) rfl (by decide) dX6_takeOneOf_22 rfl ?_
  refine to_aload_n (q := 24) rfl (by decide) dX6_takeOneOf_23 rfl ?_
  refine to_aload_n (q := 25) rfl (str_4 hs1) dX6_takeOneOf_24 rfl ?_
  obtain ⟨r18, m19, hc16, hf⟩ := cl2_some hf
  have qc17 := kX6_isName hS hc16 (hs1) hI
  refine to_virtI (q := 28) mX6_isName [.ref (1000000 + s1)] dX6_takeOneOf_25 rfl rfl (Nat.le_of_ble_eq_true rfl) mo_X6_isName mv_X6_74 (Or.inl ⟨_, _, _, h_1 hS, rfl, rfl⟩) (Call_mono (by decide) qc17.1) ?_
  have hI := qc17.2
  by_cases h20 : r18 = (0 : Int32)
  · have hf := ite_pos h20 hf
    refine to_ifT (q := 35) (op := .eq) h20 dX6_takeOneOf_28 rfl ?_
    refine to_iconst (q := 36) ic_1 dX6_takeOneOf_35 rfl ?_
    exact to_ext [(0, .ref 1)] (ext_cons rfl ext_nil) (kX6_takeOneOf_36 hS hf hI)
  · have hf := ite_neg h20 hf
    refine to_ifF (q := 31) (op := .eq) 35 h20 dX6_takeOneOf_28 rfl rfl ?_
    refine to_iconst (q := 32) ic_0 dX6_takeOneOf_31 rfl ?_
    refine to_goto (q := 36) dX6_takeOneOf_32 rfl ?_
    exact to_ext [(0, .ref 1)] (ext_cons rfl ext_nil) (kX6_takeOneOf_36 hS hf hI)
def fX6_takeOneOf (s1 : Nat) (s2 : Nat) (m : Me) : Option (Int32 × Me) := cl2 (fX6_isName s1 m) fun r3 m4 => if r3 = (0 : Int32) then cl2 (fX6_isName s2 m4) fun r8 m9 => if r8 = (0 : Int32) then cl2 (fX6_fail (1 : Int32) m9) fun r13 m14 => ck (r13 = 0 ∨ r13 = 1) (some (r13, m14)) else fX6_takeOneOf_22 s1 m9 else fX6_takeOneOf_22 s1 m4
set_option maxRecDepth 20000 in
theorem kX6_takeOneOf {S : Sh} (hS : ShOK S) {res : Int32 × Me} {s1 : Nat} {s2 : Nat} {m : Me} (hf : fX6_takeOneOf s1 s2 m = some res) (hs1 : s1 < 32) (hs2 : s2 < 32) (hI : Inv m) : Call 8 mX6_takeOneOf [.ref 1, .ref (1000000 + s1), .ref (1000000 + s2)] (S, m) (some (.int res.1)) (S, res.2) ∧ Inv res.2 := by
  refine call_of (P := InvS) (Nat.le_of_ble_eq_true rfl) (by simp [Value.category]) ?_
  show TT InvS (Call 7) mX6_takeOneOf (0, [(0, .ref 1), (1, .ref (1000000 + s1)), (2, .ref (1000000 + s2))], [], S, m) _ _
  unfold fX6_takeOneOf at hf
  refine to_aload_n (q := 1) rfl (by decide) dX6_takeOneOf_0 rfl ?_
  refine to_aload_n (q := 2) rfl (str_4 hs1) dX6_takeOneOf_1 rfl ?_
  obtain ⟨r3, m4, hc1, hf⟩ := cl2_some hf
  have qc2 := kX6_isName hS hc1 (hs1) hI
  refine to_virtI (q := 5) mX6_isName [.ref (1000000 + s1)] dX6_takeOneOf_2 rfl rfl (Nat.le_of_ble_eq_true rfl) mo_X6_isName mv_X6_74 (Or.inl ⟨_, _, _, h_1 hS, rfl, rfl⟩) (Call_mono (by decide) qc2.1) ?_
  have hI := qc2.2
  by_cases h5 : r3 = (0 : Int32)
  · have hf := ite_pos h5 hf
    refine to_ifF (q := 8) (op := .ne) 22 (fun z => z h5) dX6_takeOneOf_5 rfl rfl ?_
    refine to_aload_n (q := 9) rfl (by decide) dX6_takeOneOf_8 rfl ?_
    refine to_aload_n (q := 10) rfl (str_4 hs2) dX6_takeOneOf_9 rfl ?_
    obtain ⟨r8, m9, hc6, hf⟩ := cl2_some hf
    have qc7 := kX6_isName hS hc6 (hs2) hI
    refine to_virtI (q := 13) mX6_isName [.ref (1000000 + s2)] dX6_takeOneOf_10 rfl rfl (Nat.le_of_ble_eq_true rfl) mo_X6_isName mv_X6_74 (Or.inl ⟨_, _, _, h_1 hS, rfl, rfl⟩) (Call_mono (by decide) qc7.1) ?_
    have hI := qc7.2
    by_cases h10 : r8 = (0 : Int32)
    · have hf := ite_pos h10 hf
      refine to_ifF (q := 16) (op := .ne) 22 (fun z => z h10) dX6_takeOneOf_13 rfl rfl ?_
      refine to_aload_n (q := 17) rfl (by decide) dX6_takeOneOf_16 rfl ?_
      refine to_iconst (q := 18) ic_1 dX6_takeOneOf_17 rfl ?_
      obtain ⟨r13, m14, hc11, hf⟩ := cl2_some hf
      have qc12 := kX6_fail hS hc11 hI
      refine to_virtI (q := 21) mX6_fail [.int (1 : Int32)] dX6_takeOneOf_18 rfl rfl (Nat.le_of_ble_eq_true rfl) mo_X6_fail mv_X6_61 (Or.inl ⟨_, _, _, h_1 hS, rfl, rfl⟩) (Call_mono (by decide) qc12.1) ?_
      have hI := qc12.2
      obtain ⟨hz15, hf⟩ := ck_some hf
      cases hf
      exact to_iret dX6_takeOneOf_21 rfl (nf_Z hz15).1 rfl rfl hI
    · have hf := ite_neg h10 hf
      refine to_ifT (q := 22) (op := .ne) h10 dX6_takeOneOf_13 rfl ?_
      exact to_ext [(0, .ref 1), (1, .ref (1000000 + s1))] (ext_cons rfl (ext_cons rfl ext_nil)) (kX6_takeOneOf_22 hS hf (hs1) hI)
  · have hf := ite_neg h5 hf
    refine to_ifT (q := 22) (op := .ne) h5 dX6_takeOneOf_5 rfl ?_
    exact to_ext [(0, .ref 1), (1, .ref (1000000 + s1))] (ext_cons rfl (ext_cons rfl ext_nil)) (kX6_takeOneOf_22 hS hf (hs1) hI)
def fX6_readFanLine_156 (t0 : Int32) (b1 : Nat) (m : Me) : Option (Int32 × Me) := ck (t0 = 0 ∨ t0 = 1) (some ((1 : Int32), (setI m b1 3 t0)))
set_option maxRecDepth 20000 in
theorem kX6_readFanLine_156 {S : Sh} (hS : ShOK S) {res : Int32 × Me} {t0 : Int32} {b1 : Nat} {m : Me} (hf : fX6_readFanLine_156 t0 b1 m = some res) (hb1 : kd b1 = 2) (hI : Inv m) : TT InvS (Call 8) mX6_readFanLine (156, [], [.int t0, .ref b1], S, m) (some (.int res.1)) (S, res.2) := by
  unfold fX6_readFanLine_156 at hf
  obtain ⟨hz55, hf⟩ := ck_some hf
  refine to_putI (q := 159) (ty := .boolean) (k0 := 2) (C := RX2) (T := TX2) (N := 14) (j := 3) rfl fx_X6_154 (sh_kd hS hb1 (by decide)) rfl pD_Z (Or.inl rfl) (nf_Z hz55) dX6_readFanLine_156 rfl ?_
  refine to_iconst (q := 160) ic_1 dX6_readFanLine_159 rfl ?_
  cases hf
  exact to_iret dX6_readFanLine_160 rfl (by decide) rfl rfl hI
def fX6_readFanLine_137 (m : Me) : Option (Int32 × Me) := some ((0 : Int32), m)
set_option maxRecDepth 20000 in
theorem kX6_readFanLine_137 {S : Sh} (hS : ShOK S) {res : Int32 × Me} {m : Me} (hf : fX6_readFanLine_137 m = some res) (hI : Inv m) : TT InvS (Call 8) mX6_readFanLine (137, [], [], S, m) (some (.int res.1)) (S, res.2) := by
  unfold fX6_readFanLine_137 at hf
  refine to_iconst (q := 138) ic_0 dX6_readFanLine_137 rfl ?_
  cases hf
  exact to_iret dX6_readFanLine_138 rfl (by decide) rfl rfl hI
def fX6_readFanLine_104 (m : Me) : Option (Int32 × Me) := some ((0 : Int32), m)
set_option maxRecDepth 20000 in
theorem kX6_readFanLine_104 {S : Sh} (hS : ShOK S) {res : Int32 × Me} {m : Me} (hf : fX6_readFanLine_104 m = some res) (hI : Inv m) : TT InvS (Call 8) mX6_readFanLine (104, [], [], S, m) (some (.int res.1)) (S, res.2) := by
  unfold fX6_readFanLine_104 at hf
  refine to_iconst (q := 105) ic_0 dX6_readFanLine_104 rfl ?_
  cases hf
  exact to_iret dX6_readFanLine_105 rfl (by decide) rfl rfl hI
def fX6_readFanLine_72 (m : Me) : Option (Int32 × Me) := some ((0 : Int32), m)
set_option maxRecDepth 20000 in
theorem kX6_readFanLine_72 {S : Sh} (hS : ShOK S) {res : Int32 × Me} {m : Me} (hf : fX6_readFanLine_72 m = some res) (hI : Inv m) : TT InvS (Call 8) mX6_readFanLine (72, [], [], S, m) (some (.int res.1)) (S, res.2) := by
  unfold fX6_readFanLine_72 at hf
  refine to_iconst (q := 73) ic_0 dX6_readFanLine_72 rfl ?_
  cases hf
  exact to_iret dX6_readFanLine_73 rfl (by decide) rfl rfl hI
def fX6_readFanLine_41 (m : Me) : Option (Int32 × Me) := some ((0 : Int32), m)
set_option maxRecDepth 20000 in
theorem kX6_readFanLine_41 {S : Sh} (hS : ShOK S) {res : Int32 × Me} {m : Me} (hf : fX6_readFanLine_41 m = some res) (hI : Inv m) : TT InvS (Call 8) mX6_readFanLine (41, [], [], S, m) (some (.int res.1)) (S, res.2) := by
  unfold fX6_readFanLine_41 at hf
  refine to_iconst (q := 42) ic_0 dX6_readFanLine_41 rfl ?_
  cases hf
  exact to_iret dX6_readFanLine_42 rfl (by decide) rfl rfl hI
def fX6_readFanLine (m : Me) : Option (Int32 × Me) := if (m.1 1 3) = (0 : Int32) then cl1 (fX6_step (setI m 1 3 (1 : Int32))) fun m4 => cl2 (fX6_takeName 1 m4) fun r7 m8 => if r7 = (0 : Int32) then fX6_readFanLine_41 m8 else cl2 (fX6_takeWhole (2 : Int32) (10 : Int32) m8) fun r12 m13 => if r12 = (0 : Int32) then fX6_readFanLine_41 m13 else cl2 (fX6_takeName 2 (setI m13 (rr m13 1 2) 0 (m13.1 1 7))) fun r18 m19 => if r18 = (0 : Int32) then fX6_readFanLine_72 m19 else cl2 (fX6_takeWhole (1 : Int32) (3 : Int32) m19) fun r23 m24 => if r23 = (0 : Int32) then fX6_readFanLine_72 m24 else cl2 (fX6_takeName 3 (setI m24 (rr m24 1 2) 1 (m24.1 1 7))) fun r29 m30 => if r29 = (0 : Int32) then fX6_readFanLine_104 m30 else cl2 (fX6_takeWhole (0 : Int32) (99 : Int32) m30) fun r34 m35 => if r34 = (0 : Int32) then fX6_readFanLine_104 m35 else cl2 (fX6_takeName 4 (setI m35 (rr m35 1 2) 2 (m35.1 1 7))) fun r40 m41 => if r40 = (0 : Int32) then fX6_readFanLine_137 m41 else cl2 (fX6_takeOneOf 5 6 m41) fun r45 m46 => if r45 = (0 : Int32) then fX6_readFanLine_137 m46 else if (m46.1 1 7) = (1 : Int32) then fX6_readFanLine_156 ((1 : Int32)) (rr m46 1 2) m46 else fX6_readFanLine_156 ((0 : Int32)) (rr m46 1 2) m46 else cl2 (fX6_fail (3 : Int32) m) fun r52 m53 => ck (r52 = 0 ∨ r52 = 1) (some (r52, m53))
set_option maxRecDepth 20000 in
theorem kX6_readFanLine {S : Sh} (hS : ShOK S) {res : Int32 × Me} {m : Me} (hf : fX6_readFanLine m = some res) (hI : Inv m) : Call 9 mX6_readFanLine [.ref 1] (S, m) (some (.int res.1)) (S, res.2) ∧ Inv res.2 := by
  refine call_of (P := InvS) (Nat.le_of_ble_eq_true rfl) (by simp [Value.category]) ?_
  show TT InvS (Call 8) mX6_readFanLine (0, [(0, .ref 1)], [], S, m) _ _
  unfold fX6_readFanLine at hf
  refine to_aload_n (q := 1) rfl (by decide) dX6_readFanLine_0 rfl ?_
  refine to_getI (q := 4) (k0 := 6) (C := RX6) (T := TX6) (N := 10) (j := 3) rfl fx_X6_38 (h_1 hS) rfl dX6_readFanLine_1 rfl ?_
  by_cases h1 : (m.1 1 3) = (0 : Int32)
  · have hf := ite_pos h1 hf
    refine to_ifT (q := 13) (op := .eq) h1 dX6_readFanLine_4 rfl ?_
    refine to_aload_n (q := 14) rfl (by decide) dX6_readFanLine_13 rfl ?_
    refine to_iconst (q := 15) ic_1 dX6_readFanLine_14 rfl ?_
    refine to_putI (q := 18) (ty := .boolean) (k0 := 6) (C := RX6) (T := TX6) (N := 10) (j := 3) rfl fx_X6_38 (h_1 hS) rfl pD_Z (Or.inl rfl) (nf_Z (by decide)) dX6_readFanLine_15 rfl ?_
    refine to_aload_n (q := 19) rfl (by decide) dX6_readFanLine_18 rfl ?_
    obtain ⟨m4, hc2, hf⟩ := cl1_some hf
    have qc3 := kX6_step hS hc2 hI
    refine to_virtV (q := 22) mX6_step [] dX6_readFanLine_19 rfl rfl (Nat.le_of_ble_eq_true rfl) mo_X6_step mv_X6_51 (Or.inl ⟨_, _, _, h_1 hS, rfl, rfl⟩) (Call_mono (by decide) qc3.1) ?_
    have hI := qc3.2
    refine to_aload_n (q := 23) rfl (by decide) dX6_readFanLine_22 rfl ?_
    refine to_ldcS (q := 25) (i := 1) rfl dX6_readFanLine_23 rfl ?_
    obtain ⟨r7, m8, hc5, hf⟩ := cl2_some hf
    have qc6 := kX6_takeName hS hc5 (by decide) hI
    refine to_virtI (q := 28) mX6_takeName [.ref (1000000 + 1)] dX6_readFanLine_25 rfl rfl (Nat.le_of_ble_eq_true rfl) mo_X6_takeName mv_X6_127 (Or.inl ⟨_, _, _, h_1 hS, rfl, rfl⟩) (Call_mono (by decide) qc6.1) ?_
    have hI := qc6.2
    by_cases h9 : r7 = (0 : Int32)
    · have hf := ite_pos h9 hf
      refine to_ifT (q := 41) (op := .eq) h9 dX6_readFanLine_28 rfl ?_
      exact to_ext [] ext_nil (kX6_readFanLine_41 hS hf hI)
    · have hf := ite_neg h9 hf
      refine to_ifF (q := 31) (op := .eq) 41 h9 dX6_readFanLine_28 rfl rfl ?_
      refine to_aload_n (q := 32) rfl (by decide) dX6_readFanLine_31 rfl ?_
      refine to_iconst (q := 33) ic_2 dX6_readFanLine_32 rfl ?_
      refine to_bipush (q := 35) bp_10 dX6_readFanLine_33 rfl ?_
      obtain ⟨r12, m13, hc10, hf⟩ := cl2_some hf
      have qc11 := kX6_takeWhole hS hc10 hI
      refine to_virtI (q := 38) mX6_takeWhole [.int (2 : Int32), .int (10 : Int32)] dX6_readFanLine_35 rfl rfl (Nat.le_of_ble_eq_true rfl) mo_X6_takeWhole mv_X6_130 (Or.inl ⟨_, _, _, h_1 hS, rfl, rfl⟩) (Call_mono (by decide) qc11.1) ?_
      have hI := qc11.2
      by_cases h14 : r12 = (0 : Int32)
      · have hf := ite_pos h14 hf
        refine to_ifF (q := 41) (op := .ne) 43 (fun z => z h14) dX6_readFanLine_38 rfl rfl ?_
        exact to_ext [] ext_nil (kX6_readFanLine_41 hS hf hI)
      · have hf := ite_neg h14 hf
        refine to_ifT (q := 43) (op := .ne) h14 dX6_readFanLine_38 rfl ?_
        refine to_aload_n (q := 44) rfl (by decide) dX6_readFanLine_43 rfl ?_
        have hk15 : kd (rr m13 1 2) = 2 := (ivF hI).2
        refine to_getR (q := 47) (b := rr m13 1 2) (k0 := 6) (C := RX6) (T := TX6) (N := 10) (j := 2) rfl fx_X6_18 (h_1 hS) rfl ((ivF hI).1) dX6_readFanLine_44 rfl ?_
        refine to_aload_n (q := 48) rfl (by decide) dX6_readFanLine_47 rfl ?_
        refine to_getI (q := 51) (k0 := 6) (C := RX6) (T := TX6) (N := 10) (j := 7) rfl fx_X6_78 (h_1 hS) rfl dX6_readFanLine_48 rfl ?_
        refine to_putI (q := 54) (ty := .int) (k0 := 2) (C := RX2) (T := TX2) (N := 14) (j := 0) rfl fx_X6_133 (sh_kd hS hk15 (by decide)) rfl pD_I (Or.inl rfl) (nf_I _) dX6_readFanLine_51 rfl ?_
        refine to_aload_n (q := 55) rfl (by decide) dX6_readFanLine_54 rfl ?_
        refine to_ldcS (q := 57) (i := 2) rfl dX6_readFanLine_55 rfl ?_
        obtain ⟨r18, m19, hc16, hf⟩ := cl2_some hf
        have qc17 := kX6_takeName hS hc16 (by decide) hI
        refine to_virtI (q := 60) mX6_takeName [.ref (1000000 + 2)] dX6_readFanLine_57 rfl rfl (Nat.le_of_ble_eq_true rfl) mo_X6_takeName mv_X6_127 (Or.inl ⟨_, _, _, h_1 hS, rfl, rfl⟩) (Call_mono (by decide) qc17.1) ?_
        have hI := qc17.2
        by_cases h20 : r18 = (0 : Int32)
        · have hf := ite_pos h20 hf
          refine to_ifT (q := 72) (op := .eq) h20 dX6_readFanLine_60 rfl ?_
          exact to_ext [] ext_nil (kX6_readFanLine_72 hS hf hI)
        · have hf := ite_neg h20 hf
          refine to_ifF (q := 63) (op := .eq) 72 h20 dX6_readFanLine_60 rfl rfl ?_
          refine to_aload_n (q := 64) rfl (by decide) dX6_readFanLine_63 rfl ?_
          refine to_iconst (q := 65) ic_1 dX6_readFanLine_64 rfl ?_
          refine to_iconst (q := 66) ic_3 dX6_readFanLine_65 rfl ?_
          obtain ⟨r23, m24, hc21, hf⟩ := cl2_some hf
          have qc22 := kX6_takeWhole hS hc21 hI
          refine to_virtI (q := 69) mX6_takeWhole [.int (1 : Int32), .int (3 : Int32)] dX6_readFanLine_66 rfl rfl (Nat.le_of_ble_eq_true rfl) mo_X6_takeWhole mv_X6_130 (Or.inl ⟨_, _, _, h_1 hS, rfl, rfl⟩) (Call_mono (by decide) qc22.1) ?_
          have hI := qc22.2
          by_cases h25 : r23 = (0 : Int32)
          · have hf := ite_pos h25 hf
            refine to_ifF (q := 72) (op := .ne) 74 (fun z => z h25) dX6_readFanLine_69 rfl rfl ?_
            exact to_ext [] ext_nil (kX6_readFanLine_72 hS hf hI)
          · have hf := ite_neg h25 hf
            refine to_ifT (q := 74) (op := .ne) h25 dX6_readFanLine_69 rfl ?_
            refine to_aload_n (q := 75) rfl (by decide) dX6_readFanLine_74 rfl ?_
            have hk26 : kd (rr m24 1 2) = 2 := (ivF hI).2
            refine to_getR (q := 78) (b := rr m24 1 2) (k0 := 6) (C := RX6) (T := TX6) (N := 10) (j := 2) rfl fx_X6_18 (h_1 hS) rfl ((ivF hI).1) dX6_readFanLine_75 rfl ?_
            refine to_aload_n (q := 79) rfl (by decide) dX6_readFanLine_78 rfl ?_
            refine to_getI (q := 82) (k0 := 6) (C := RX6) (T := TX6) (N := 10) (j := 7) rfl fx_X6_78 (h_1 hS) rfl dX6_readFanLine_79 rfl ?_
            refine to_putI (q := 85) (ty := .int) (k0 := 2) (C := RX2) (T := TX2) (N := 14) (j := 1) rfl fx_X6_138 (sh_kd hS hk26 (by decide)) rfl pD_I (Or.inl rfl) (nf_I _) dX6_readFanLine_82 rfl ?_
            refine to_aload_n (q := 86) rfl (by decide) dX6_readFanLine_85 rfl ?_
            refine to_ldcS (q := 88) (i := 3) rfl dX6_readFanLine_86 rfl ?_
            obtain ⟨r29, m30, hc27, hf⟩ := cl2_some hf
            have qc28 := kX6_takeName hS hc27 (by decide) hI
            refine to_virtI (q := 91) mX6_takeName [.ref (1000000 + 3)] dX6_readFanLine_88 rfl rfl (Nat.le_of_ble_eq_true rfl) mo_X6_takeName mv_X6_127 (Or.inl ⟨_, _, _, h_1 hS, rfl, rfl⟩) (Call_mono (by decide) qc28.1) ?_
            have hI := qc28.2
            by_cases h31 : r29 = (0 : Int32)
            · have hf := ite_pos h31 hf
              refine to_ifT (q := 104) (op := .eq) h31 dX6_readFanLine_91 rfl ?_
              exact to_ext [] ext_nil (kX6_readFanLine_104 hS hf hI)
            · have hf := ite_neg h31 hf
              refine to_ifF (q := 94) (op := .eq) 104 h31 dX6_readFanLine_91 rfl rfl ?_
              refine to_aload_n (q := 95) rfl (by decide) dX6_readFanLine_94 rfl ?_
              refine to_iconst (q := 96) ic_0 dX6_readFanLine_95 rfl ?_
              refine to_bipush (q := 98) bp_99 dX6_readFanLine_96 rfl ?_
              obtain ⟨r34, m35, hc32, hf⟩ := cl2_some hf
              have qc33 := kX6_takeWhole hS hc32 hI
              refine to_virtI (q := 101) mX6_takeWhole [.int (0 : Int32), .int (99 : Int32)] dX6_readFanLine_98 rfl rfl (Nat.le_of_ble_eq_true rfl) mo_X6_takeWhole mv_X6_130 (Or.inl ⟨_, _, _, h_1 hS, rfl, rfl⟩) (Call_mono (by decide) qc33.1) ?_
              have hI := qc33.2
              by_cases h36 : r34 = (0 : Int32)
              · have hf := ite_pos h36 hf
                refine to_ifF (q := 104) (op := .ne) 106 (fun z => z h36) dX6_readFanLine_101 rfl rfl ?_
                exact to_ext [] ext_nil (kX6_readFanLine_104 hS hf hI)
              · have hf := ite_neg h36 hf
                refine to_ifT (q := 106) (op := .ne) h36 dX6_readFanLine_101 rfl ?_
                refine to_aload_n (q := 107) rfl (by decide) dX6_readFanLine_106 rfl ?_
                have hk37 : kd (rr m35 1 2) = 2 := (ivF hI).2
                refine to_getR (q := 110) (b := rr m35 1 2) (k0 := 6) (C := RX6) (T := TX6) (N := 10) (j := 2) rfl fx_X6_18 (h_1 hS) rfl ((ivF hI).1) dX6_readFanLine_107 rfl ?_
                refine to_aload_n (q := 111) rfl (by decide) dX6_readFanLine_110 rfl ?_
                refine to_getI (q := 114) (k0 := 6) (C := RX6) (T := TX6) (N := 10) (j := 7) rfl fx_X6_78 (h_1 hS) rfl dX6_readFanLine_111 rfl ?_
                refine to_putI (q := 117) (ty := .int) (k0 := 2) (C := RX2) (T := TX2) (N := 14) (j := 2) rfl fx_X6_142 (sh_kd hS hk37 (by decide)) rfl pD_I (Or.inl rfl) (nf_I _) dX6_readFanLine_114 rfl ?_
                refine to_aload_n (q := 118) rfl (by decide) dX6_readFanLine_117 rfl ?_
                refine to_ldcS (q := 120) (i := 4) rfl dX6_readFanLine_118 rfl ?_
                obtain ⟨r40, m41, hc38, hf⟩ := cl2_some hf
                have qc39 := kX6_takeName hS hc38 (by decide) hI
                refine to_virtI (q := 123) mX6_takeName [.ref (1000000 + 4)] dX6_readFanLine_120 rfl rfl (Nat.le_of_ble_eq_true rfl) mo_X6_takeName mv_X6_127 (Or.inl ⟨_, _, _, h_1 hS, rfl, rfl⟩) (Call_mono (by decide) qc39.1) ?_
                have hI := qc39.2
                by_cases h42 : r40 = (0 : Int32)
                · have hf := ite_pos h42 hf
                  refine to_ifT (q := 137) (op := .eq) h42 dX6_readFanLine_123 rfl ?_
                  exact to_ext [] ext_nil (kX6_readFanLine_137 hS hf hI)
                · have hf := ite_neg h42 hf
                  refine to_ifF (q := 126) (op := .eq) 137 h42 dX6_readFanLine_123 rfl rfl ?_
                  refine to_aload_n (q := 127) rfl (by decide) dX6_readFanLine_126 rfl ?_
                  refine to_ldcS (q := 129) (i := 5) rfl dX6_readFanLine_127 rfl ?_
                  refine to_ldcS (q := 131) (i := 6) rfl dX6_readFanLine_129 rfl ?_
                  obtain ⟨r45, m46, hc43, hf⟩ := cl2_some hf
                  have qc44 := kX6_takeOneOf hS hc43 (by decide) (by decide) hI
                  refine to_virtI (q := 134) mX6_takeOneOf [.ref (1000000 + 5), .ref (1000000 + 6)] dX6_readFanLine_131 rfl rfl (Nat.le_of_ble_eq_true rfl) mo_X6_takeOneOf mv_X6_150 (Or.inl ⟨_, _, _, h_1 hS, rfl, rfl⟩) (Call_mono (by decide) qc44.1) ?_
                  have hI := qc44.2
                  by_cases h47 : r45 = (0 : Int32)
                  · have hf := ite_pos h47 hf
                    refine to_ifF (q := 137) (op := .ne) 139 (fun z => z h47) dX6_readFanLine_134 rfl rfl ?_
                    exact to_ext [] ext_nil (kX6_readFanLine_137 hS hf hI)
                  · have hf := ite_neg h47 hf
                    refine to_ifT (q := 139) (op := .ne) h47 dX6_readFanLine_134 rfl ?_
                    refine to_aload_n (q := 140) rfl (by decide) dX6_readFanLine_139 rfl ?_
                    have hk48 : kd (rr m46 1 2) = 2 := (ivF hI).2
                    refine to_getR (q := 143) (b := rr m46 1 2) (k0 := 6) (C := RX6) (T := TX6) (N := 10) (j := 2) rfl fx_X6_18 (h_1 hS) rfl ((ivF hI).1) dX6_readFanLine_140 rfl ?_
                    refine to_aload_n (q := 144) rfl (by decide) dX6_readFanLine_143 rfl ?_
                    refine to_getI (q := 147) (k0 := 6) (C := RX6) (T := TX6) (N := 10) (j := 7) rfl fx_X6_78 (h_1 hS) rfl dX6_readFanLine_144 rfl ?_
                    refine to_iconst (q := 148) ic_1 dX6_readFanLine_147 rfl ?_
                    by_cases h49 : (m46.1 1 7) = (1 : Int32)
                    · have hf := ite_pos h49 hf
                      refine to_icF (q := 151) (op := .ne) 155 (fun z => z h49) dX6_readFanLine_148 rfl rfl ?_
                      refine to_iconst (q := 152) ic_1 dX6_readFanLine_151 rfl ?_
                      refine to_goto (q := 156) dX6_readFanLine_152 rfl ?_
                      exact to_ext [] ext_nil (kX6_readFanLine_156 hS hf (hk48) hI)
                    · have hf := ite_neg h49 hf
                      refine to_icT (q := 155) (op := .ne) h49 dX6_readFanLine_148 rfl ?_
                      refine to_iconst (q := 156) ic_0 dX6_readFanLine_155 rfl ?_
                      exact to_ext [] ext_nil (kX6_readFanLine_156 hS hf (hk48) hI)
  · have hf := ite_neg h1 hf
    refine to_ifF (q := 7) (op := .eq) 13 h1 dX6_readFanLine_4 rfl rfl ?_
    refine to_aload_n (q := 8) rfl (by decide) dX6_readFanLine_7 rfl ?_
    refine to_iconst (q := 9) ic_3 dX6_readFanLine_8 rfl ?_
    obtain ⟨r52, m53, hc50, hf⟩ := cl2_some hf
    have qc51 := kX6_fail hS hc50 hI
    refine to_virtI (q := 12) mX6_fail [.int (3 : Int32)] dX6_readFanLine_9 rfl rfl (Nat.le_of_ble_eq_true rfl) mo_X6_fail mv_X6_61 (Or.inl ⟨_, _, _, h_1 hS, rfl, rfl⟩) (Call_mono (by decide) qc51.1) ?_
    have hI := qc51.2
    obtain ⟨hz54, hf⟩ := ck_some hf
    cases hf
    exact to_iret dX6_readFanLine_12 rfl (nf_Z hz54).1 rfl rfl hI
def fX6_letterAt (x1 : Int32) (m : Me) : Option (Int32 × Me) := ck (inb ((m.1 1 5) + x1) 900) (some (((m.1 2 ((m.1 1 5) + x1).toNatClampNeg) - (97 : Int32)), m))
set_option maxRecDepth 20000 in
theorem kX6_letterAt {S : Sh} (hS : ShOK S) {res : Int32 × Me} {x1 : Int32} {m : Me} (hf : fX6_letterAt x1 m = some res) (hI : Inv m) : Call 1 mX6_letterAt [.ref 1, .int x1] (S, m) (some (.int res.1)) (S, res.2) ∧ Inv res.2 := by
  refine call_of (P := InvS) (Nat.le_of_ble_eq_true rfl) (by simp [Value.category]) ?_
  show TT InvS (Call 0) mX6_letterAt (0, [(0, .ref 1), (1, .int x1)], [], S, m) _ _
  unfold fX6_letterAt at hf
  refine to_aload_n (q := 1) rfl (by decide) dX6_letterAt_0 rfl ?_
  refine to_getR (q := 4) (b := 2) (k0 := 6) (C := RX6) (T := TX6) (N := 10) (j := 0) rfl fx_X6_9 (h_1 hS) rfl (iv_1_0 hI) dX6_letterAt_1 rfl ?_
  refine to_aload_n (q := 5) rfl (by decide) dX6_letterAt_4 rfl ?_
  refine to_getI (q := 8) (k0 := 6) (C := RX6) (T := TX6) (N := 10) (j := 5) rfl fx_X6_45 (h_1 hS) rfl dX6_letterAt_5 rfl ?_
  refine to_iload_n (q := 9) rfl dX6_letterAt_8 rfl ?_
  refine to_iadd (q := 10) dX6_letterAt_9 rfl ?_
  obtain ⟨hb1, hf⟩ := ck_some hf
  refine to_baj (q := 11) (h_2 hS) hb1 (rfl) dX6_letterAt_10 rfl ?_
  refine to_bipush (q := 13) bp_97 dX6_letterAt_11 rfl ?_
  refine to_isub (q := 14) dX6_letterAt_13 rfl ?_
  cases hf
  exact to_iret dX6_letterAt_14 rfl rfl rfl rfl hI
def fX6_takeCells_102 (k36 : Int32 → Int32 → Me → Option (Int32 × Me)) (x1 : Int32) (x2 : Int32) (m : Me) : Option (Int32 × Me) := k36 x1 ((x2 + (1 : Int32))) m
set_option maxRecDepth 20000 in
theorem kX6_takeCells_102 {S : Sh} (hS : ShOK S) {res : Int32 × Me} {k36 : Int32 → Int32 → Me → Option (Int32 × Me)} (hk36 : ∀ {x1 : Int32} {x2 : Int32} {m : Me}, k36 x1 x2 m = some res → Inv m → TT InvS (Call 1) mX6_takeCells (36, [(0, .ref 1), (1, .int x1), (2, .int x2)], [], S, m) (some (.int res.1)) (S, res.2)) {x1 : Int32} {x2 : Int32} {m : Me} (hf : fX6_takeCells_102 k36 x1 x2 m = some res) (hI : Inv m) : TT InvS (Call 1) mX6_takeCells (102, [(0, .ref 1), (1, .int x1), (2, .int x2)], [], S, m) (some (.int res.1)) (S, res.2) := by
  unfold fX6_takeCells_102 at hf
  refine to_iinc (q := 105) (v := (x2 + (1 : Int32))) rfl (congrArg (fun z => x2 + z) ic_1) [(2, .int (x2 + (1 : Int32))), (0, .ref 1), (1, .int x1)] rfl (by decide) dX6_takeCells_102 rfl ?_
  refine to_goto (q := 36) dX6_takeCells_105 rfl ?_
  exact to_ext [(0, .ref 1), (1, .int x1), (2, .int (x2 + (1 : Int32)))] (ext_cons rfl (ext_cons rfl (ext_cons rfl ext_nil))) (hk36 hf hI)
def fX6_takeCells_36 (n : Nat) (x1 : Int32) (x2 : Int32) (m : Me) : Option (Int32 × Me) := match n with
  | 0 => none
  | n + 1 => if (m.1 1 6) ≤ x2 then cl1 (fX6_step m) fun m17 => some ((1 : Int32), m17) else cl2 (fX10_cellIndex x1 ((((m.1 (rr m 1 2) 1) * (m.1 (rr m 1 2) 4)) + x2)) m) fun r22 m23 => if r22 < (0 : Int32) then fX6_takeCells_102 (fX6_takeCells_36 n) x1 x2 m23 else if (60 : Int32) ≤ r22 then fX6_takeCells_102 (fX6_takeCells_36 n) x1 x2 m23 else cl2 (fX6_letterAt x2 m23) fun r30 m31 => ck (inb r22 60) (fX6_takeCells_102 (fX6_takeCells_36 n) x1 x2 (setI m31 (((rr m23 1 2) + 1) + 1) r22.toNatClampNeg r30))
set_option maxRecDepth 20000 in
theorem kX6_takeCells_36 {S : Sh} (hS : ShOK S) {res : Int32 × Me} (n : Nat) : ∀ {x1 : Int32} {x2 : Int32} {m : Me}, fX6_takeCells_36 n x1 x2 m = some res → Inv m → TT InvS (Call 1) mX6_takeCells (36, [(0, .ref 1), (1, .int x1), (2, .int x2)], [], S, m) (some (.int res.1)) (S, res.2) := by
  induction n with
  | zero => intro x1 x2 m hf; cases hf
  | succ n ih =>
    intro x1 x2 m hf  hI
    unfold fX6_takeCells_36 at hf
    refine to_iload_n (q := 37) rfl dX6_takeCells_36 rfl ?_
    refine to_aload_n (q := 38) rfl (by decide) dX6_takeCells_37 rfl ?_
    refine to_getI (q := 41) (k0 := 6) (C := RX6) (T := TX6) (N := 10) (j := 6) rfl fx_X6_48 (h_1 hS) rfl dX6_takeCells_38 rfl ?_
    by_cases h14 : (m.1 1 6) ≤ x2
    · have hf := ite_pos h14 hf
      refine to_icT (q := 108) (op := .ge) h14 dX6_takeCells_41 rfl ?_
      refine to_aload_n (q := 109) rfl (by decide) dX6_takeCells_108 rfl ?_
      obtain ⟨m17, hc15, hf⟩ := cl1_some hf
      have qc16 := kX6_step hS hc15 hI
      refine to_virtV (q := 112) mX6_step [] dX6_takeCells_109 rfl rfl (Nat.le_of_ble_eq_true rfl) mo_X6_step mv_X6_51 (Or.inl ⟨_, _, _, h_1 hS, rfl, rfl⟩) (Call_mono (by decide) qc16.1) ?_
      have hI := qc16.2
      refine to_iconst (q := 113) ic_1 dX6_takeCells_112 rfl ?_
      cases hf
      exact to_iret dX6_takeCells_113 rfl (by decide) rfl rfl hI
    · have hf := ite_neg h14 hf
      refine to_icF (q := 44) (op := .ge) 108 h14 dX6_takeCells_41 rfl rfl ?_
      refine to_iload_n (q := 45) rfl dX6_takeCells_44 rfl ?_
      refine to_aload_n (q := 46) rfl (by decide) dX6_takeCells_45 rfl ?_
      have hk18 : kd (rr m 1 2) = 2 := (ivF hI).2
      refine to_getR (q := 49) (b := rr m 1 2) (k0 := 6) (C := RX6) (T := TX6) (N := 10) (j := 2) rfl fx_X6_18 (h_1 hS) rfl ((ivF hI).1) dX6_takeCells_46 rfl ?_
      refine to_getI (q := 52) (k0 := 2) (C := RX2) (T := TX2) (N := 14) (j := 1) rfl fx_X6_138 (sh_kd hS hk18 (by decide)) rfl dX6_takeCells_49 rfl ?_
      refine to_aload_n (q := 53) rfl (by decide) dX6_takeCells_52 rfl ?_
      have hk19 : kd (rr m 1 2) = 2 := (ivF hI).2
      refine to_getR (q := 56) (b := rr m 1 2) (k0 := 6) (C := RX6) (T := TX6) (N := 10) (j := 2) rfl fx_X6_18 (h_1 hS) rfl ((ivF hI).1) dX6_takeCells_53 rfl ?_
      refine to_getI (q := 59) (k0 := 2) (C := RX2) (T := TX2) (N := 14) (j := 4) rfl fx_X6_156 (sh_kd hS hk19 (by decide)) rfl dX6_takeCells_56 rfl ?_
      refine to_imul (q := 60) dX6_takeCells_59 rfl ?_
      refine to_iload_n (q := 61) rfl dX6_takeCells_60 rfl ?_
      refine to_iadd (q := 62) dX6_takeCells_61 rfl ?_
      obtain ⟨r22, m23, hc20, hf⟩ := cl2_some hf
      have qc21 := kX10_cellIndex hS hc20 hI
      refine to_statI (q := 65) mX10_cellIndex [.int x1, .int (((m.1 (rr m 1 2) 1) * (m.1 (rr m 1 2) 4)) + x2)] dX6_takeCells_62 rfl rfl (Nat.le_of_ble_eq_true rfl) mo_X10_cellIndex (Or.inr (by decide)) sa_X10_cellIndex (Call_mono (by decide) qc21.1) ?_
      have hI := qc21.2
      refine to_istore_n (q := 66) [(3, .int r22), (0, .ref 1), (1, .int x1), (2, .int x2)] rfl (by decide) dX6_takeCells_65 rfl ?_
      refine to_iload_n (q := 67) rfl dX6_takeCells_66 rfl ?_
      by_cases h24 : r22 < (0 : Int32)
      · have hf := ite_pos h24 hf
        refine to_ifT (q := 102) (op := .lt) h24 dX6_takeCells_67 rfl ?_
        exact to_ext [(0, .ref 1), (1, .int x1), (2, .int x2)] (ext_cons rfl (ext_cons rfl (ext_cons rfl ext_nil))) (kX6_takeCells_102 hS ih hf hI)
      · have hf := ite_neg h24 hf
        refine to_ifF (q := 70) (op := .lt) 102 h24 dX6_takeCells_67 rfl rfl ?_
        refine to_iload_n (q := 71) rfl dX6_takeCells_70 rfl ?_
        refine to_aload_n (q := 72) rfl (by decide) dX6_takeCells_71 rfl ?_
        have hk25 : kd (rr m23 1 2) = 2 := (ivF hI).2
        refine to_getR (q := 75) (b := rr m23 1 2) (k0 := 6) (C := RX6) (T := TX6) (N := 10) (j := 2) rfl fx_X6_18 (h_1 hS) rfl ((ivF hI).1) dX6_takeCells_72 rfl ?_
        refine to_getR (q := 78) (b := (rr m23 1 2) + 1) (k0 := 2) (C := RX2) (T := TX2) (N := 14) (j := 5) rfl fx_X6_164 (sh_kd hS hk25 (by decide)) rfl (iv2s hI (hk25)) dX6_takeCells_75 rfl ?_
        refine to_getR (q := 81) (b := ((rr m23 1 2) + 1) + 1) (k0 := 5) (C := RX5) (T := TX5) (N := 3) (j := 0) rfl fx_X6_175 (sh_kd hS (kd2s (hk25)) (by decide)) rfl (iv5 hI ((kd2s (hk25)))) dX6_takeCells_78 rfl ?_
        refine to_alen (q := 82) (sh_ln hS (kd5 ((kd2s (hk25)))) (by decide)) (by decide) on_60 dX6_takeCells_81 rfl ?_
        by_cases h26 : (60 : Int32) ≤ r22
        · have hf := ite_pos h26 hf
          refine to_icT (q := 102) (op := .ge) h26 dX6_takeCells_82 rfl ?_
          exact to_ext [(0, .ref 1), (1, .int x1), (2, .int x2)] (ext_cons rfl (ext_cons rfl (ext_cons rfl ext_nil))) (kX6_takeCells_102 hS ih hf hI)
        · have hf := ite_neg h26 hf
          refine to_icF (q := 85) (op := .ge) 102 h26 dX6_takeCells_82 rfl rfl ?_
          refine to_aload_n (q := 86) rfl (by decide) dX6_takeCells_85 rfl ?_
          have hk27 : kd (rr m23 1 2) = 2 := (ivF hI).2
          refine to_getR (q := 89) (b := rr m23 1 2) (k0 := 6) (C := RX6) (T := TX6) (N := 10) (j := 2) rfl fx_X6_18 (h_1 hS) rfl ((ivF hI).1) dX6_takeCells_86 rfl ?_
          refine to_getR (q := 92) (b := (rr m23 1 2) + 1) (k0 := 2) (C := RX2) (T := TX2) (N := 14) (j := 5) rfl fx_X6_164 (sh_kd hS hk27 (by decide)) rfl (iv2s hI (hk27)) dX6_takeCells_89 rfl ?_
          refine to_getR (q := 95) (b := ((rr m23 1 2) + 1) + 1) (k0 := 5) (C := RX5) (T := TX5) (N := 3) (j := 0) rfl fx_X6_175 (sh_kd hS (kd2s (hk27)) (by decide)) rfl (iv5 hI ((kd2s (hk27)))) dX6_takeCells_92 rfl ?_
          refine to_iload_n (q := 96) rfl dX6_takeCells_95 rfl ?_
          refine to_aload_n (q := 97) rfl (by decide) dX6_takeCells_96 rfl ?_
          refine to_iload_n (q := 98) rfl dX6_takeCells_97 rfl ?_
          obtain ⟨r30, m31, hc28, hf⟩ := cl2_some hf
          have qc29 := kX6_letterAt hS hc28 hI
          refine to_virtI (q := 101) mX6_letterAt [.int x2] dX6_takeCells_98 rfl rfl (Nat.le_of_ble_eq_true rfl) mo_X6_letterAt mv_X6_92 (Or.inl ⟨_, _, _, h_1 hS, rfl, rfl⟩) (Call_mono (by decide) qc29.1) ?_
          have hI := qc29.2
          obtain ⟨hb32, hf⟩ := ck_some hf
          refine to_iasj (q := 102) (sh_ln hS (kd5 ((kd2s (hk27)))) (by decide)) hb32 (rfl) dX6_takeCells_101 rfl ?_
          exact to_ext [(0, .ref 1), (1, .int x1), (2, .int x2)] (ext_cons rfl (ext_cons rfl (ext_cons rfl ext_nil))) (kX6_takeCells_102 hS ih hf hI)
def fX6_takeCells (x1 : Int32) (m : Me) : Option (Int32 × Me) := if (m.1 1 4) = (1 : Int32) then if (m.1 1 6) = (m.1 (rr m 1 2) 1) then fX6_takeCells_36 FU x1 ((0 : Int32)) m else cl2 (fX6_fail (4 : Int32) m) fun r6 m7 => ck (r6 = 0 ∨ r6 = 1) (some (r6, m7)) else cl2 (fX6_fail (1 : Int32) m) fun r11 m12 => ck (r11 = 0 ∨ r11 = 1) (some (r11, m12))
set_option maxRecDepth 20000 in
theorem kX6_takeCells {S : Sh} (hS : ShOK S) {res : Int32 × Me} {x1 : Int32} {m : Me} (hf : fX6_takeCells x1 m = some res) (hI : Inv m) : Call 2 mX6_takeCells [.ref 1, .int x1] (S, m) (some (.int res.1)) (S, res.2) ∧ Inv res.2 := by
  refine call_of (P := InvS) (Nat.le_of_ble_eq_true rfl) (by simp [Value.category]) ?_
  show TT InvS (Call 1) mX6_takeCells (0, [(0, .ref 1), (1, .int x1)], [], S, m) _ _
  unfold fX6_takeCells at hf
  refine to_aload_n (q := 1) rfl (by decide) dX6_takeCells_0 rfl ?_
  refine to_getI (q := 4) (k0 := 6) (C := RX6) (T := TX6) (N := 10) (j := 4) rfl fx_X6_58 (h_1 hS) rfl dX6_takeCells_1 rfl ?_
  refine to_iconst (q := 5) ic_1 dX6_takeCells_4 rfl ?_
  by_cases h1 : (m.1 1 4) = (1 : Int32)
  · have hf := ite_pos h1 hf
    refine to_icT (q := 14) (op := .eq) h1 dX6_takeCells_5 rfl ?_
    refine to_aload_n (q := 15) rfl (by decide) dX6_takeCells_14 rfl ?_
    refine to_getI (q := 18) (k0 := 6) (C := RX6) (T := TX6) (N := 10) (j := 6) rfl fx_X6_48 (h_1 hS) rfl dX6_takeCells_15 rfl ?_
    refine to_aload_n (q := 19) rfl (by decide) dX6_takeCells_18 rfl ?_
    have hk2 : kd (rr m 1 2) = 2 := (ivF hI).2
    refine to_getR (q := 22) (b := rr m 1 2) (k0 := 6) (C := RX6) (T := TX6) (N := 10) (j := 2) rfl fx_X6_18 (h_1 hS) rfl ((ivF hI).1) dX6_takeCells_19 rfl ?_
    refine to_getI (q := 25) (k0 := 2) (C := RX2) (T := TX2) (N := 14) (j := 1) rfl fx_X6_138 (sh_kd hS hk2 (by decide)) rfl dX6_takeCells_22 rfl ?_
    by_cases h3 : (m.1 1 6) = (m.1 (rr m 1 2) 1)
    · have hf := ite_pos h3 hf
      refine to_icT (q := 34) (op := .eq) h3 dX6_takeCells_25 rfl ?_
      refine to_iconst (q := 35) ic_0 dX6_takeCells_34 rfl ?_
      refine to_istore_n (q := 36) [(2, .int (0 : Int32)), (0, .ref 1), (1, .int x1)] rfl (by decide) dX6_takeCells_35 rfl ?_
      exact to_ext [(0, .ref 1), (1, .int x1), (2, .int (0 : Int32))] (ext_cons rfl (ext_cons rfl (ext_cons rfl ext_nil))) (kX6_takeCells_36 hS FU hf hI)
    · have hf := ite_neg h3 hf
      refine to_icF (q := 28) (op := .eq) 34 h3 dX6_takeCells_25 rfl rfl ?_
      refine to_aload_n (q := 29) rfl (by decide) dX6_takeCells_28 rfl ?_
      refine to_iconst (q := 30) ic_4 dX6_takeCells_29 rfl ?_
      obtain ⟨r6, m7, hc4, hf⟩ := cl2_some hf
      have qc5 := kX6_fail hS hc4 hI
      refine to_virtI (q := 33) mX6_fail [.int (4 : Int32)] dX6_takeCells_30 rfl rfl (Nat.le_of_ble_eq_true rfl) mo_X6_fail mv_X6_61 (Or.inl ⟨_, _, _, h_1 hS, rfl, rfl⟩) (Call_mono (by decide) qc5.1) ?_
      have hI := qc5.2
      obtain ⟨hz8, hf⟩ := ck_some hf
      cases hf
      exact to_iret dX6_takeCells_33 rfl (nf_Z hz8).1 rfl rfl hI
  · have hf := ite_neg h1 hf
    refine to_icF (q := 8) (op := .eq) 14 h1 dX6_takeCells_5 rfl rfl ?_
    refine to_aload_n (q := 9) rfl (by decide) dX6_takeCells_8 rfl ?_
    refine to_iconst (q := 10) ic_1 dX6_takeCells_9 rfl ?_
    obtain ⟨r11, m12, hc9, hf⟩ := cl2_some hf
    have qc10 := kX6_fail hS hc9 hI
    refine to_virtI (q := 13) mX6_fail [.int (1 : Int32)] dX6_takeCells_10 rfl rfl (Nat.le_of_ble_eq_true rfl) mo_X6_fail mv_X6_61 (Or.inl ⟨_, _, _, h_1 hS, rfl, rfl⟩) (Call_mono (by decide) qc10.1) ?_
    have hI := qc10.2
    obtain ⟨hz13, hf⟩ := ck_some hf
    cases hf
    exact to_iret dX6_takeCells_13 rfl (nf_Z hz13).1 rfl rfl hI
def fX6_readRib_82 (m : Me) : Option (Int32 × Me) := some ((1 : Int32), (setI m (rr m 1 2) 4 ((m.1 (rr m 1 2) 4) + (1 : Int32))))
set_option maxRecDepth 20000 in
theorem kX6_readRib_82 {S : Sh} (hS : ShOK S) {res : Int32 × Me} {m : Me} (hf : fX6_readRib_82 m = some res) (hI : Inv m) : TT InvS (Call 7) mX6_readRib (82, [(0, .ref 1)], [], S, m) (some (.int res.1)) (S, res.2) := by
  unfold fX6_readRib_82 at hf
  refine to_aload_n (q := 83) rfl (by decide) dX6_readRib_82 rfl ?_
  have hk32 : kd (rr m 1 2) = 2 := (ivF hI).2
  refine to_getR (q := 86) (b := rr m 1 2) (k0 := 6) (C := RX6) (T := TX6) (N := 10) (j := 2) rfl fx_X6_18 (h_1 hS) rfl ((ivF hI).1) dX6_readRib_83 rfl ?_
  refine to_dup (q := 87) rfl dX6_readRib_86 rfl ?_
  refine to_getI (q := 90) (k0 := 2) (C := RX2) (T := TX2) (N := 14) (j := 4) rfl fx_X6_156 (sh_kd hS hk32 (by decide)) rfl dX6_readRib_87 rfl ?_
  refine to_iconst (q := 91) ic_1 dX6_readRib_90 rfl ?_
  refine to_iadd (q := 92) dX6_readRib_91 rfl ?_
  refine to_putI (q := 95) (ty := .int) (k0 := 2) (C := RX2) (T := TX2) (N := 14) (j := 4) rfl fx_X6_156 (sh_kd hS hk32 (by decide)) rfl pD_I (Or.inl rfl) (nf_I _) dX6_readRib_92 rfl ?_
  refine to_iconst (q := 96) ic_1 dX6_readRib_95 rfl ?_
  cases hf
  exact to_iret dX6_readRib_96 rfl (by decide) rfl rfl hI
def fX6_readRib_43 (m : Me) : Option (Int32 × Me) := some ((0 : Int32), m)
set_option maxRecDepth 20000 in
theorem kX6_readRib_43 {S : Sh} (hS : ShOK S) {res : Int32 × Me} {m : Me} (hf : fX6_readRib_43 m = some res) (hI : Inv m) : TT InvS (Call 7) mX6_readRib (43, [], [], S, m) (some (.int res.1)) (S, res.2) := by
  unfold fX6_readRib_43 at hf
  refine to_iconst (q := 44) ic_0 dX6_readRib_43 rfl ?_
  cases hf
  exact to_iret dX6_readRib_44 rfl (by decide) rfl rfl hI
def fX6_readRib (m : Me) : Option (Int32 × Me) := if (m.1 (rr m 1 2) 4) < (m.1 (rr m 1 2) 0) then cl1 (fX6_step m) fun m6 => cl2 (fX6_takeCells (0 : Int32) m6) fun r9 m10 => if r9 = (0 : Int32) then fX6_readRib_43 m10 else cl2 (fX6_takeCells (1 : Int32) m10) fun r14 m15 => if r14 = (0 : Int32) then fX6_readRib_43 m15 else cl2 (fX6_isName 12 m15) fun r19 m20 => if r19 = (0 : Int32) then fX6_readRib_82 m20 else cl1 (fX6_step (setI m20 ((rr m20 1 2) + 1) 1 ((m20.1 ((rr m20 1 2) + 1) 1) ||| ((1 : Int32) <<< ((m20.1 (rr m20 1 2) 4) &&& 31))))) fun m26 => fX6_readRib_82 m26 else cl2 (fX6_fail (5 : Int32) m) fun r29 m30 => ck (r29 = 0 ∨ r29 = 1) (some (r29, m30))
set_option maxRecDepth 20000 in
theorem kX6_readRib {S : Sh} (hS : ShOK S) {res : Int32 × Me} {m : Me} (hf : fX6_readRib m = some res) (hI : Inv m) : Call 8 mX6_readRib [.ref 1] (S, m) (some (.int res.1)) (S, res.2) ∧ Inv res.2 := by
  refine call_of (P := InvS) (Nat.le_of_ble_eq_true rfl) (by simp [Value.category]) ?_
  show TT InvS (Call 7) mX6_readRib (0, [(0, .ref 1)], [], S, m) _ _
  unfold fX6_readRib at hf
  refine to_aload_n (q := 1) rfl (by decide) dX6_readRib_0 rfl ?_
  have hk1 : kd (rr m 1 2) = 2 := (ivF hI).2
  refine to_getR (q := 4) (b := rr m 1 2) (k0 := 6) (C := RX6) (T := TX6) (N := 10) (j := 2) rfl fx_X6_18 (h_1 hS) rfl ((ivF hI).1) dX6_readRib_1 rfl ?_
  refine to_getI (q := 7) (k0 := 2) (C := RX2) (T := TX2) (N := 14) (j := 4) rfl fx_X6_156 (sh_kd hS hk1 (by decide)) rfl dX6_readRib_4 rfl ?_
  refine to_aload_n (q := 8) rfl (by decide) dX6_readRib_7 rfl ?_
  have hk2 : kd (rr m 1 2) = 2 := (ivF hI).2
  refine to_getR (q := 11) (b := rr m 1 2) (k0 := 6) (C := RX6) (T := TX6) (N := 10) (j := 2) rfl fx_X6_18 (h_1 hS) rfl ((ivF hI).1) dX6_readRib_8 rfl ?_
  refine to_getI (q := 14) (k0 := 2) (C := RX2) (T := TX2) (N := 14) (j := 0) rfl fx_X6_133 (sh_kd hS hk2 (by decide)) rfl dX6_readRib_11 rfl ?_
  by_cases h3 : (m.1 (rr m 1 2) 4) < (m.1 (rr m 1 2) 0)
  · have hf := ite_pos h3 hf
    refine to_icT (q := 23) (op := .lt) h3 dX6_readRib_14 rfl ?_
    refine to_aload_n (q := 24) rfl (by decide) dX6_readRib_23 rfl ?_
    obtain ⟨m6, hc4, hf⟩ := cl1_some hf
    have qc5 := kX6_step hS hc4 hI
    refine to_virtV (q := 27) mX6_step [] dX6_readRib_24 rfl rfl (Nat.le_of_ble_eq_true rfl) mo_X6_step mv_X6_51 (Or.inl ⟨_, _, _, h_1 hS, rfl, rfl⟩) (Call_mono (by decide) qc5.1) ?_
    have hI := qc5.2
    refine to_aload_n (q := 28) rfl (by decide) dX6_readRib_27 rfl ?_
    refine to_iconst (q := 29) ic_0 dX6_readRib_28 rfl ?_
    obtain ⟨r9, m10, hc7, hf⟩ := cl2_some hf
    have qc8 := kX6_takeCells hS hc7 hI
    refine to_virtI (q := 32) mX6_takeCells [.int (0 : Int32)] dX6_readRib_29 rfl rfl (Nat.le_of_ble_eq_true rfl) mo_X6_takeCells mv_X6_159 (Or.inl ⟨_, _, _, h_1 hS, rfl, rfl⟩) (Call_mono (by decide) qc8.1) ?_
    have hI := qc8.2
    by_cases h11 : r9 = (0 : Int32)
    · have hf := ite_pos h11 hf
      refine to_ifT (q := 43) (op := .eq) h11 dX6_readRib_32 rfl ?_
      exact to_ext [] ext_nil (kX6_readRib_43 hS hf hI)
    · have hf := ite_neg h11 hf
      refine to_ifF (q := 35) (op := .eq) 43 h11 dX6_readRib_32 rfl rfl ?_
      refine to_aload_n (q := 36) rfl (by decide) dX6_readRib_35 rfl ?_
      refine to_iconst (q := 37) ic_1 dX6_readRib_36 rfl ?_
      obtain ⟨r14, m15, hc12, hf⟩ := cl2_some hf
      have qc13 := kX6_takeCells hS hc12 hI
      refine to_virtI (q := 40) mX6_takeCells [.int (1 : Int32)] dX6_readRib_37 rfl rfl (Nat.le_of_ble_eq_true rfl) mo_X6_takeCells mv_X6_159 (Or.inl ⟨_, _, _, h_1 hS, rfl, rfl⟩) (Call_mono (by decide) qc13.1) ?_
      have hI := qc13.2
      by_cases h16 : r14 = (0 : Int32)
      · have hf := ite_pos h16 hf
        refine to_ifF (q := 43) (op := .ne) 45 (fun z => z h16) dX6_readRib_40 rfl rfl ?_
        exact to_ext [] ext_nil (kX6_readRib_43 hS hf hI)
      · have hf := ite_neg h16 hf
        refine to_ifT (q := 45) (op := .ne) h16 dX6_readRib_40 rfl ?_
        refine to_aload_n (q := 46) rfl (by decide) dX6_readRib_45 rfl ?_
        refine to_ldcS (q := 48) (i := 12) rfl dX6_readRib_46 rfl ?_
        obtain ⟨r19, m20, hc17, hf⟩ := cl2_some hf
        have qc18 := kX6_isName hS hc17 (by decide) hI
        refine to_virtI (q := 51) mX6_isName [.ref (1000000 + 12)] dX6_readRib_48 rfl rfl (Nat.le_of_ble_eq_true rfl) mo_X6_isName mv_X6_74 (Or.inl ⟨_, _, _, h_1 hS, rfl, rfl⟩) (Call_mono (by decide) qc18.1) ?_
        have hI := qc18.2
        by_cases h21 : r19 = (0 : Int32)
        · have hf := ite_pos h21 hf
          refine to_ifT (q := 82) (op := .eq) h21 dX6_readRib_51 rfl ?_
          exact to_ext [(0, .ref 1)] (ext_cons rfl ext_nil) (kX6_readRib_82 hS hf hI)
        · have hf := ite_neg h21 hf
          refine to_ifF (q := 54) (op := .eq) 82 h21 dX6_readRib_51 rfl rfl ?_
          refine to_aload_n (q := 55) rfl (by decide) dX6_readRib_54 rfl ?_
          have hk22 : kd (rr m20 1 2) = 2 := (ivF hI).2
          refine to_getR (q := 58) (b := rr m20 1 2) (k0 := 6) (C := RX6) (T := TX6) (N := 10) (j := 2) rfl fx_X6_18 (h_1 hS) rfl ((ivF hI).1) dX6_readRib_55 rfl ?_
          refine to_getR (q := 61) (b := (rr m20 1 2) + 1) (k0 := 2) (C := RX2) (T := TX2) (N := 14) (j := 5) rfl fx_X6_164 (sh_kd hS hk22 (by decide)) rfl (iv2s hI (hk22)) dX6_readRib_58 rfl ?_
          refine to_dup (q := 62) rfl dX6_readRib_61 rfl ?_
          refine to_getI (q := 65) (k0 := 5) (C := RX5) (T := TX5) (N := 3) (j := 1) rfl fx_X6_167 (sh_kd hS (kd2s (hk22)) (by decide)) rfl dX6_readRib_62 rfl ?_
          refine to_iconst (q := 66) ic_1 dX6_readRib_65 rfl ?_
          refine to_aload_n (q := 67) rfl (by decide) dX6_readRib_66 rfl ?_
          have hk23 : kd (rr m20 1 2) = 2 := (ivF hI).2
          refine to_getR (q := 70) (b := rr m20 1 2) (k0 := 6) (C := RX6) (T := TX6) (N := 10) (j := 2) rfl fx_X6_18 (h_1 hS) rfl ((ivF hI).1) dX6_readRib_67 rfl ?_
          refine to_getI (q := 73) (k0 := 2) (C := RX2) (T := TX2) (N := 14) (j := 4) rfl fx_X6_156 (sh_kd hS hk23 (by decide)) rfl dX6_readRib_70 rfl ?_
          refine to_ishl (q := 74) dX6_readRib_73 rfl ?_
          refine to_ior (q := 75) dX6_readRib_74 rfl ?_
          refine to_putI (q := 78) (ty := .int) (k0 := 5) (C := RX5) (T := TX5) (N := 3) (j := 1) rfl fx_X6_167 (sh_kd hS (kd2s (hk22)) (by decide)) rfl pD_I (Or.inl rfl) (nf_I _) dX6_readRib_75 rfl ?_
          refine to_aload_n (q := 79) rfl (by decide) dX6_readRib_78 rfl ?_
          obtain ⟨m26, hc24, hf⟩ := cl1_some hf
          have qc25 := kX6_step hS hc24 hI
          refine to_virtV (q := 82) mX6_step [] dX6_readRib_79 rfl rfl (Nat.le_of_ble_eq_true rfl) mo_X6_step mv_X6_51 (Or.inl ⟨_, _, _, h_1 hS, rfl, rfl⟩) (Call_mono (by decide) qc25.1) ?_
          have hI := qc25.2
          exact to_ext [(0, .ref 1)] (ext_cons rfl ext_nil) (kX6_readRib_82 hS hf hI)
  · have hf := ite_neg h3 hf
    refine to_icF (q := 17) (op := .lt) 23 h3 dX6_readRib_14 rfl rfl ?_
    refine to_aload_n (q := 18) rfl (by decide) dX6_readRib_17 rfl ?_
    refine to_iconst (q := 19) ic_5 dX6_readRib_18 rfl ?_
    obtain ⟨r29, m30, hc27, hf⟩ := cl2_some hf
    have qc28 := kX6_fail hS hc27 hI
    refine to_virtI (q := 22) mX6_fail [.int (5 : Int32)] dX6_readRib_19 rfl rfl (Nat.le_of_ble_eq_true rfl) mo_X6_fail mv_X6_61 (Or.inl ⟨_, _, _, h_1 hS, rfl, rfl⟩) (Call_mono (by decide) qc28.1) ?_
    have hI := qc28.2
    obtain ⟨hz31, hf⟩ := ck_some hf
    cases hf
    exact to_iret dX6_readRib_22 rfl (nf_Z hz31).1 rfl rfl hI
def fX6_copyWord_32 (n : Nat) (a1 : Nat) (x2 : Int32) (m : Me) : Option (Int32 × Me) := match n with
  | 0 => none
  | n + 1 => if (m.1 a1 1) ≤ x2 then some ((1 : Int32), m) else cl2 (fX6_letterAt x2 m) fun r10 m11 => ck (inb x2 8) (fX6_copyWord_32 n a1 ((x2 + (1 : Int32))) (setI m11 (a1 + 1) x2.toNatClampNeg r10))
set_option maxRecDepth 20000 in
theorem kX6_copyWord_32 {S : Sh} (hS : ShOK S) {res : Int32 × Me} (n : Nat) : ∀ {a1 : Nat} {x2 : Int32} {m : Me}, fX6_copyWord_32 n a1 x2 m = some res → kd a1 = 8 → Inv m → TT InvS (Call 1) mX6_copyWord (32, [(0, .ref 1), (1, .ref a1), (2, .int x2)], [], S, m) (some (.int res.1)) (S, res.2) := by
  induction n with
  | zero => intro a1 x2 m hf; cases hf
  | succ n ih =>
    intro a1 x2 m hf ha1 hI
    unfold fX6_copyWord_32 at hf
    refine to_iload_n (q := 33) rfl dX6_copyWord_32 rfl ?_
    refine to_aload_n (q := 34) rfl (kd_4 (ha1) (by decide)) dX6_copyWord_33 rfl ?_
    refine to_getI (q := 37) (k0 := 8) (C := RX8) (T := TX8) (N := 5) (j := 1) rfl fx_X6_91 (sh_kd hS ha1 (by decide)) rfl dX6_copyWord_34 rfl ?_
    by_cases h7 : (m.1 a1 1) ≤ x2
    · have hf := ite_pos h7 hf
      refine to_icT (q := 57) (op := .ge) h7 dX6_copyWord_37 rfl ?_
      refine to_iconst (q := 58) ic_1 dX6_copyWord_57 rfl ?_
      cases hf
      exact to_iret dX6_copyWord_58 rfl (by decide) rfl rfl hI
    · have hf := ite_neg h7 hf
      refine to_icF (q := 40) (op := .ge) 57 h7 dX6_copyWord_37 rfl rfl ?_
      refine to_aload_n (q := 41) rfl (kd_4 (ha1) (by decide)) dX6_copyWord_40 rfl ?_
      refine to_getR (q := 44) (b := a1 + 1) (k0 := 8) (C := RX8) (T := TX8) (N := 5) (j := 0) rfl fx_X6_85 (sh_kd hS ha1 (by decide)) rfl (iv8 hI (ha1)) dX6_copyWord_41 rfl ?_
      refine to_iload_n (q := 45) rfl dX6_copyWord_44 rfl ?_
      refine to_aload_n (q := 46) rfl (by decide) dX6_copyWord_45 rfl ?_
      refine to_iload_n (q := 47) rfl dX6_copyWord_46 rfl ?_
      obtain ⟨r10, m11, hc8, hf⟩ := cl2_some hf
      have qc9 := kX6_letterAt hS hc8 hI
      refine to_virtI (q := 50) mX6_letterAt [.int x2] dX6_copyWord_47 rfl rfl (Nat.le_of_ble_eq_true rfl) mo_X6_letterAt mv_X6_92 (Or.inl ⟨_, _, _, h_1 hS, rfl, rfl⟩) (Call_mono (by decide) qc9.1) ?_
      have hI := qc9.2
      obtain ⟨hb12, hf⟩ := ck_some hf
      refine to_iasj (q := 51) (sh_ln hS (kd8 (ha1)) (by decide)) hb12 (rfl) dX6_copyWord_50 rfl ?_
      refine to_iinc (q := 54) (v := (x2 + (1 : Int32))) rfl (congrArg (fun z => x2 + z) ic_1) [(2, .int (x2 + (1 : Int32))), (0, .ref 1), (1, .ref a1)] rfl (by decide) dX6_copyWord_51 rfl ?_
      refine to_goto (q := 32) dX6_copyWord_54 rfl ?_
      exact to_ext [(0, .ref 1), (1, .ref a1), (2, .int (x2 + (1 : Int32)))] (ext_cons rfl (ext_cons rfl (ext_cons rfl ext_nil))) (ih hf (ha1) hI)
def fX6_copyWord (a1 : Nat) (m : Me) : Option (Int32 × Me) := if (m.1 1 4) = (1 : Int32) then fX6_copyWord_32 FU a1 ((0 : Int32)) (setI m a1 1 (if (8 : Int32) < (m.1 1 6) then (8 : Int32) else (m.1 1 6))) else cl2 (fX6_fail (1 : Int32) m) fun r4 m5 => ck (r4 = 0 ∨ r4 = 1) (some (r4, m5))
set_option maxRecDepth 20000 in
theorem kX6_copyWord {S : Sh} (hS : ShOK S) {res : Int32 × Me} {a1 : Nat} {m : Me} (hf : fX6_copyWord a1 m = some res) (ha1 : kd a1 = 8) (hI : Inv m) : Call 2 mX6_copyWord [.ref 1, .ref a1] (S, m) (some (.int res.1)) (S, res.2) ∧ Inv res.2 := by
  refine call_of (P := InvS) (Nat.le_of_ble_eq_true rfl) (by simp [Value.category]) ?_
  show TT InvS (Call 1) mX6_copyWord (0, [(0, .ref 1), (1, .ref a1)], [], S, m) _ _
  unfold fX6_copyWord at hf
  refine to_aload_n (q := 1) rfl (by decide) dX6_copyWord_0 rfl ?_
  refine to_getI (q := 4) (k0 := 6) (C := RX6) (T := TX6) (N := 10) (j := 4) rfl fx_X6_58 (h_1 hS) rfl dX6_copyWord_1 rfl ?_
  refine to_iconst (q := 5) ic_1 dX6_copyWord_4 rfl ?_
  by_cases h1 : (m.1 1 4) = (1 : Int32)
  · have hf := ite_pos h1 hf
    refine to_icT (q := 14) (op := .eq) h1 dX6_copyWord_5 rfl ?_
    refine to_aload_n (q := 15) rfl (kd_4 (ha1) (by decide)) dX6_copyWord_14 rfl ?_
    refine to_aload_n (q := 16) rfl (by decide) dX6_copyWord_15 rfl ?_
    refine to_getI (q := 19) (k0 := 6) (C := RX6) (T := TX6) (N := 10) (j := 6) rfl fx_X6_48 (h_1 hS) rfl dX6_copyWord_16 rfl ?_
    refine to_aload_n (q := 20) rfl (kd_4 (ha1) (by decide)) dX6_copyWord_19 rfl ?_
    refine to_getR (q := 23) (b := a1 + 1) (k0 := 8) (C := RX8) (T := TX8) (N := 5) (j := 0) rfl fx_X6_85 (sh_kd hS ha1 (by decide)) rfl (iv8 hI (ha1)) dX6_copyWord_20 rfl ?_
    refine to_alen (q := 24) (sh_ln hS (kd8 (ha1)) (by decide)) (by decide) on_8 dX6_copyWord_23 rfl ?_
    refine to_min (q := 27) dX6_copyWord_24 rfl (Nat.le_of_ble_eq_true rfl) (lc_min lm_X6_26) ?_
    refine to_putI (q := 30) (ty := .int) (k0 := 8) (C := RX8) (T := TX8) (N := 5) (j := 1) rfl fx_X6_91 (sh_kd hS ha1 (by decide)) rfl pD_I (Or.inl rfl) (nf_I _) dX6_copyWord_27 rfl ?_
    refine to_iconst (q := 31) ic_0 dX6_copyWord_30 rfl ?_
    refine to_istore_n (q := 32) [(2, .int (0 : Int32)), (0, .ref 1), (1, .ref a1)] rfl (by decide) dX6_copyWord_31 rfl ?_
    exact to_ext [(0, .ref 1), (1, .ref a1), (2, .int (0 : Int32))] (ext_cons rfl (ext_cons rfl (ext_cons rfl ext_nil))) (kX6_copyWord_32 hS FU hf (ha1) hI)
  · have hf := ite_neg h1 hf
    refine to_icF (q := 8) (op := .eq) 14 h1 dX6_copyWord_5 rfl rfl ?_
    refine to_aload_n (q := 9) rfl (by decide) dX6_copyWord_8 rfl ?_
    refine to_iconst (q := 10) ic_1 dX6_copyWord_9 rfl ?_
    obtain ⟨r4, m5, hc2, hf⟩ := cl2_some hf
    have qc3 := kX6_fail hS hc2 hI
    refine to_virtI (q := 13) mX6_fail [.int (1 : Int32)] dX6_copyWord_10 rfl rfl (Nat.le_of_ble_eq_true rfl) mo_X6_fail mv_X6_61 (Or.inl ⟨_, _, _, h_1 hS, rfl, rfl⟩) (Call_mono (by decide) qc3.1) ?_
    have hI := qc3.2
    obtain ⟨hz6, hf⟩ := ck_some hf
    cases hf
    exact to_iret dX6_copyWord_13 rfl (nf_Z hz6).1 rfl rfl hI
def fX6_readWord_56 (n : Nat) (a1 : Nat) (x2 : Int32) (m : Me) : Option (Int32 × Me) := match n with
  | 0 => none
  | n + 1 => if (m.1 (rr m 1 2) 7) ≤ x2 then cl1 (fX6_step m) fun m24 => some ((1 : Int32), (setI m24 (rr m24 1 2) 7 ((m24.1 (rr m24 1 2) 7) + (1 : Int32)))) else ck (inb x2 6) (cl2 (fX8_sameLetters a1 (rr m 1 2 + 7 + 2 * x2.toNatClampNeg) m) fun r30 m31 => if r30 = (0 : Int32) then fX6_readWord_56 n a1 ((x2 + (1 : Int32))) m31 else cl2 (fX6_fail (3 : Int32) m31) fun r35 m36 => ck (r35 = 0 ∨ r35 = 1) (some (r35, m36)))
set_option maxRecDepth 20000 in
theorem kX6_readWord_56 {S : Sh} (hS : ShOK S) {res : Int32 × Me} (n : Nat) : ∀ {a1 : Nat} {x2 : Int32} {m : Me}, fX6_readWord_56 n a1 x2 m = some res → kd a1 = 8 → Inv m → TT InvS (Call 2) mX6_readWord (56, [(0, .ref 1), (1, .ref a1), (2, .int x2)], [], S, m) (some (.int res.1)) (S, res.2) := by
  induction n with
  | zero => intro a1 x2 m hf; cases hf
  | succ n ih =>
    intro a1 x2 m hf ha1 hI
    unfold fX6_readWord_56 at hf
    refine to_iload_n (q := 57) rfl dX6_readWord_56 rfl ?_
    refine to_aload_n (q := 58) rfl (by decide) dX6_readWord_57 rfl ?_
    have hk20 : kd (rr m 1 2) = 2 := (ivF hI).2
    refine to_getR (q := 61) (b := rr m 1 2) (k0 := 6) (C := RX6) (T := TX6) (N := 10) (j := 2) rfl fx_X6_18 (h_1 hS) rfl ((ivF hI).1) dX6_readWord_58 rfl ?_
    refine to_getI (q := 64) (k0 := 2) (C := RX2) (T := TX2) (N := 14) (j := 7) rfl fx_X6_176 (sh_kd hS hk20 (by decide)) rfl dX6_readWord_61 rfl ?_
    by_cases h21 : (m.1 (rr m 1 2) 7) ≤ x2
    · have hf := ite_pos h21 hf
      refine to_icT (q := 95) (op := .ge) h21 dX6_readWord_64 rfl ?_
      refine to_aload_n (q := 96) rfl (by decide) dX6_readWord_95 rfl ?_
      obtain ⟨m24, hc22, hf⟩ := cl1_some hf
      have qc23 := kX6_step hS hc22 hI
      refine to_virtV (q := 99) mX6_step [] dX6_readWord_96 rfl rfl (Nat.le_of_ble_eq_true rfl) mo_X6_step mv_X6_51 (Or.inl ⟨_, _, _, h_1 hS, rfl, rfl⟩) (Call_mono (by decide) qc23.1) ?_
      have hI := qc23.2
      refine to_aload_n (q := 100) rfl (by decide) dX6_readWord_99 rfl ?_
      have hk25 : kd (rr m24 1 2) = 2 := (ivF hI).2
      refine to_getR (q := 103) (b := rr m24 1 2) (k0 := 6) (C := RX6) (T := TX6) (N := 10) (j := 2) rfl fx_X6_18 (h_1 hS) rfl ((ivF hI).1) dX6_readWord_100 rfl ?_
      refine to_dup (q := 104) rfl dX6_readWord_103 rfl ?_
      refine to_getI (q := 107) (k0 := 2) (C := RX2) (T := TX2) (N := 14) (j := 7) rfl fx_X6_176 (sh_kd hS hk25 (by decide)) rfl dX6_readWord_104 rfl ?_
      refine to_iconst (q := 108) ic_1 dX6_readWord_107 rfl ?_
      refine to_iadd (q := 109) dX6_readWord_108 rfl ?_
      refine to_putI (q := 112) (ty := .int) (k0 := 2) (C := RX2) (T := TX2) (N := 14) (j := 7) rfl fx_X6_176 (sh_kd hS hk25 (by decide)) rfl pD_I (Or.inl rfl) (nf_I _) dX6_readWord_109 rfl ?_
      refine to_iconst (q := 113) ic_1 dX6_readWord_112 rfl ?_
      cases hf
      exact to_iret dX6_readWord_113 rfl (by decide) rfl rfl hI
    · have hf := ite_neg h21 hf
      refine to_icF (q := 67) (op := .ge) 95 h21 dX6_readWord_64 rfl rfl ?_
      refine to_aload_n (q := 68) rfl (kd_4 (ha1) (by decide)) dX6_readWord_67 rfl ?_
      refine to_aload_n (q := 69) rfl (by decide) dX6_readWord_68 rfl ?_
      have hk26 : kd (rr m 1 2) = 2 := (ivF hI).2
      refine to_getR (q := 72) (b := rr m 1 2) (k0 := 6) (C := RX6) (T := TX6) (N := 10) (j := 2) rfl fx_X6_18 (h_1 hS) rfl ((ivF hI).1) dX6_readWord_69 rfl ?_
      refine to_getR (q := 75) (b := (rr m 1 2) + 3) (k0 := 2) (C := RX2) (T := TX2) (N := 14) (j := 6) rfl fx_X6_179 (sh_kd hS hk26 (by decide)) rfl (iv2w hI (hk26)) dX6_readWord_72 rfl ?_
      refine to_iload_n (q := 76) rfl dX6_readWord_75 rfl ?_
      obtain ⟨hb27, hf⟩ := ck_some hf
      refine to_aald (q := 77) (b := rr m 1 2 + 7 + 2 * x2.toNatClampNeg) (sh_ln hS (kd2w (hk26)) (by decide)) (by decide) hb27 (ivW hI (hk26) hb27) dX6_readWord_76 rfl ?_
      obtain ⟨r30, m31, hc28, hf⟩ := cl2_some hf
      have qc29 := kX8_sameLetters hS hc28 (ha1) (kdW (hk26) hb27) hI
      refine to_virtI (q := 80) mX8_sameLetters [.ref (rr m 1 2 + 7 + 2 * x2.toNatClampNeg)] dX6_readWord_77 rfl rfl (Nat.le_of_ble_eq_true rfl) mo_X8_sameLetters mv_X6_187 (Or.inl ⟨_, _, _, sh_kd hS ha1 (by decide), rfl, rfl⟩) (Call_mono (by decide) qc29.1) ?_
      have hI := qc29.2
      by_cases h32 : r30 = (0 : Int32)
      · have hf := ite_pos h32 hf
        refine to_ifT (q := 89) (op := .eq) h32 dX6_readWord_80 rfl ?_
        refine to_iinc (q := 92) (v := (x2 + (1 : Int32))) rfl (congrArg (fun z => x2 + z) ic_1) [(2, .int (x2 + (1 : Int32))), (0, .ref 1), (1, .ref a1)] rfl (by decide) dX6_readWord_89 rfl ?_
        refine to_goto (q := 56) dX6_readWord_92 rfl ?_
        exact to_ext [(0, .ref 1), (1, .ref a1), (2, .int (x2 + (1 : Int32)))] (ext_cons rfl (ext_cons rfl (ext_cons rfl ext_nil))) (ih hf (ha1) hI)
      · have hf := ite_neg h32 hf
        refine to_ifF (q := 83) (op := .eq) 89 h32 dX6_readWord_80 rfl rfl ?_
        refine to_aload_n (q := 84) rfl (by decide) dX6_readWord_83 rfl ?_
        refine to_iconst (q := 85) ic_3 dX6_readWord_84 rfl ?_
        obtain ⟨r35, m36, hc33, hf⟩ := cl2_some hf
        have qc34 := kX6_fail hS hc33 hI
        refine to_virtI (q := 88) mX6_fail [.int (3 : Int32)] dX6_readWord_85 rfl rfl (Nat.le_of_ble_eq_true rfl) mo_X6_fail mv_X6_61 (Or.inl ⟨_, _, _, h_1 hS, rfl, rfl⟩) (Call_mono (by decide) qc34.1) ?_
        have hI := qc34.2
        obtain ⟨hz37, hf⟩ := ck_some hf
        cases hf
        exact to_iret dX6_readWord_88 rfl (nf_Z hz37).1 rfl rfl hI
def fX6_readWord (m : Me) : Option (Int32 × Me) := if (m.1 (rr m 1 2) 7) < (6 : Int32) then cl1 (fX6_step m) fun m6 => ck (inb (m6.1 (rr m6 1 2) 7) 6) (cl2 (fX6_copyWord (rr m6 1 2 + 7 + 2 * (m6.1 (rr m6 1 2) 7).toNatClampNeg) m6) fun r12 m13 => if r12 = (0 : Int32) then some ((0 : Int32), m13) else fX6_readWord_56 FU (rr m6 1 2 + 7 + 2 * (m6.1 (rr m6 1 2) 7).toNatClampNeg) ((0 : Int32)) m13) else cl2 (fX6_fail (5 : Int32) m) fun r17 m18 => ck (r17 = 0 ∨ r17 = 1) (some (r17, m18))
set_option maxRecDepth 20000 in
theorem kX6_readWord {S : Sh} (hS : ShOK S) {res : Int32 × Me} {m : Me} (hf : fX6_readWord m = some res) (hI : Inv m) : Call 3 mX6_readWord [.ref 1] (S, m) (some (.int res.1)) (S, res.2) ∧ Inv res.2 := by
  refine call_of (P := InvS) (Nat.le_of_ble_eq_true rfl) (by simp [Value.category]) ?_
  show TT InvS (Call 2) mX6_readWord (0, [(0, .ref 1)], [], S, m) _ _
  unfold fX6_readWord at hf
  refine to_aload_n (q := 1) rfl (by decide) dX6_readWord_0 rfl ?_
  have hk1 : kd (rr m 1 2) = 2 := (ivF hI).2
  refine to_getR (q := 4) (b := rr m 1 2) (k0 := 6) (C := RX6) (T := TX6) (N := 10) (j := 2) rfl fx_X6_18 (h_1 hS) rfl ((ivF hI).1) dX6_readWord_1 rfl ?_
  refine to_getI (q := 7) (k0 := 2) (C := RX2) (T := TX2) (N := 14) (j := 7) rfl fx_X6_176 (sh_kd hS hk1 (by decide)) rfl dX6_readWord_4 rfl ?_
  refine to_aload_n (q := 8) rfl (by decide) dX6_readWord_7 rfl ?_
  have hk2 : kd (rr m 1 2) = 2 := (ivF hI).2
  refine to_getR (q := 11) (b := rr m 1 2) (k0 := 6) (C := RX6) (T := TX6) (N := 10) (j := 2) rfl fx_X6_18 (h_1 hS) rfl ((ivF hI).1) dX6_readWord_8 rfl ?_
  refine to_getR (q := 14) (b := (rr m 1 2) + 3) (k0 := 2) (C := RX2) (T := TX2) (N := 14) (j := 6) rfl fx_X6_179 (sh_kd hS hk2 (by decide)) rfl (iv2w hI (hk2)) dX6_readWord_11 rfl ?_
  refine to_alen (q := 15) (sh_ln hS (kd2w (hk2)) (by decide)) (by decide) on_6 dX6_readWord_14 rfl ?_
  by_cases h3 : (m.1 (rr m 1 2) 7) < (6 : Int32)
  · have hf := ite_pos h3 hf
    refine to_icT (q := 24) (op := .lt) h3 dX6_readWord_15 rfl ?_
    refine to_aload_n (q := 25) rfl (by decide) dX6_readWord_24 rfl ?_
    obtain ⟨m6, hc4, hf⟩ := cl1_some hf
    have qc5 := kX6_step hS hc4 hI
    refine to_virtV (q := 28) mX6_step [] dX6_readWord_25 rfl rfl (Nat.le_of_ble_eq_true rfl) mo_X6_step mv_X6_51 (Or.inl ⟨_, _, _, h_1 hS, rfl, rfl⟩) (Call_mono (by decide) qc5.1) ?_
    have hI := qc5.2
    refine to_aload_n (q := 29) rfl (by decide) dX6_readWord_28 rfl ?_
    have hk7 : kd (rr m6 1 2) = 2 := (ivF hI).2
    refine to_getR (q := 32) (b := rr m6 1 2) (k0 := 6) (C := RX6) (T := TX6) (N := 10) (j := 2) rfl fx_X6_18 (h_1 hS) rfl ((ivF hI).1) dX6_readWord_29 rfl ?_
    refine to_getR (q := 35) (b := (rr m6 1 2) + 3) (k0 := 2) (C := RX2) (T := TX2) (N := 14) (j := 6) rfl fx_X6_179 (sh_kd hS hk7 (by decide)) rfl (iv2w hI (hk7)) dX6_readWord_32 rfl ?_
    refine to_aload_n (q := 36) rfl (by decide) dX6_readWord_35 rfl ?_
    have hk8 : kd (rr m6 1 2) = 2 := (ivF hI).2
    refine to_getR (q := 39) (b := rr m6 1 2) (k0 := 6) (C := RX6) (T := TX6) (N := 10) (j := 2) rfl fx_X6_18 (h_1 hS) rfl ((ivF hI).1) dX6_readWord_36 rfl ?_
    refine to_getI (q := 42) (k0 := 2) (C := RX2) (T := TX2) (N := 14) (j := 7) rfl fx_X6_176 (sh_kd hS hk8 (by decide)) rfl dX6_readWord_39 rfl ?_
    obtain ⟨hb9, hf⟩ := ck_some hf
    refine to_aald (q := 43) (b := rr m6 1 2 + 7 + 2 * (m6.1 (rr m6 1 2) 7).toNatClampNeg) (sh_ln hS (kd2w (hk7)) (by decide)) (by decide) hb9 (ivW hI (hk7) hb9) dX6_readWord_42 rfl ?_
    refine to_astore_n (q := 44) [(1, .ref (rr m6 1 2 + 7 + 2 * (m6.1 (rr m6 1 2) 7).toNatClampNeg)), (0, .ref 1)] rfl (kd_4 (kdW (hk7) hb9) (by decide)) (by decide) dX6_readWord_43 rfl ?_
    refine to_aload_n (q := 45) rfl (by decide) dX6_readWord_44 rfl ?_
    refine to_aload_n (q := 46) rfl (kd_4 (kdW (hk7) hb9) (by decide)) dX6_readWord_45 rfl ?_
    obtain ⟨r12, m13, hc10, hf⟩ := cl2_some hf
    have qc11 := kX6_copyWord hS hc10 (kdW (hk7) hb9) hI
    refine to_virtI (q := 49) mX6_copyWord [.ref (rr m6 1 2 + 7 + 2 * (m6.1 (rr m6 1 2) 7).toNatClampNeg)] dX6_readWord_46 rfl rfl (Nat.le_of_ble_eq_true rfl) mo_X6_copyWord mv_X6_183 (Or.inl ⟨_, _, _, h_1 hS, rfl, rfl⟩) (Call_mono (by decide) qc11.1) ?_
    have hI := qc11.2
    by_cases h14 : r12 = (0 : Int32)
    · have hf := ite_pos h14 hf
      refine to_ifF (q := 52) (op := .ne) 54 (fun z => z h14) dX6_readWord_49 rfl rfl ?_
      refine to_iconst (q := 53) ic_0 dX6_readWord_52 rfl ?_
      cases hf
      exact to_iret dX6_readWord_53 rfl (by decide) rfl rfl hI
    · have hf := ite_neg h14 hf
      refine to_ifT (q := 54) (op := .ne) h14 dX6_readWord_49 rfl ?_
      refine to_iconst (q := 55) ic_0 dX6_readWord_54 rfl ?_
      refine to_istore_n (q := 56) [(2, .int (0 : Int32)), (1, .ref (rr m6 1 2 + 7 + 2 * (m6.1 (rr m6 1 2) 7).toNatClampNeg)), (0, .ref 1)] rfl (by decide) dX6_readWord_55 rfl ?_
      exact to_ext [(0, .ref 1), (1, .ref (rr m6 1 2 + 7 + 2 * (m6.1 (rr m6 1 2) 7).toNatClampNeg)), (2, .int (0 : Int32))] (ext_cons rfl (ext_cons rfl (ext_cons rfl ext_nil))) (kX6_readWord_56 hS FU hf (kdW (hk7) hb9) hI)
  · have hf := ite_neg h3 hf
    refine to_icF (q := 18) (op := .lt) 24 h3 dX6_readWord_15 rfl rfl ?_
    refine to_aload_n (q := 19) rfl (by decide) dX6_readWord_18 rfl ?_
    refine to_iconst (q := 20) ic_5 dX6_readWord_19 rfl ?_
    obtain ⟨r17, m18, hc15, hf⟩ := cl2_some hf
    have qc16 := kX6_fail hS hc15 hI
    refine to_virtI (q := 23) mX6_fail [.int (5 : Int32)] dX6_readWord_20 rfl rfl (Nat.le_of_ble_eq_true rfl) mo_X6_fail mv_X6_61 (Or.inl ⟨_, _, _, h_1 hS, rfl, rfl⟩) (Call_mono (by decide) qc16.1) ?_
    have hI := qc16.2
    obtain ⟨hz19, hf⟩ := ck_some hf
    cases hf
    exact to_iret dX6_readWord_23 rfl (nf_Z hz19).1 rfl rfl hI
def fX6_takeView (a1 : Nat) (m : Me) : Option (Int32 × Me) := cl2 (fX6_takeOneOf 13 14 m) fun r3 m4 => if r3 = (0 : Int32) then some ((0 : Int32), m4) else cl2 (fX2_openings (rr m4 1 2) (setI m4 a1 2 (m4.1 1 7))) fun r9 m10 => cl2 (fX6_takeWhole (0 : Int32) ((r9 - (1 : Int32))) m10) fun r13 m14 => if r13 = (0 : Int32) then some ((0 : Int32), m14) else some ((1 : Int32), (setI m14 a1 3 (m14.1 1 7)))
set_option maxRecDepth 20000 in
theorem kX6_takeView {S : Sh} (hS : ShOK S) {res : Int32 × Me} {a1 : Nat} {m : Me} (hf : fX6_takeView a1 m = some res) (ha1 : kd a1 = 8) (hI : Inv m) : Call 9 mX6_takeView [.ref 1, .ref a1] (S, m) (some (.int res.1)) (S, res.2) ∧ Inv res.2 := by
  refine call_of (P := InvS) (Nat.le_of_ble_eq_true rfl) (by simp [Value.category]) ?_
  show TT InvS (Call 8) mX6_takeView (0, [(0, .ref 1), (1, .ref a1)], [], S, m) _ _
  unfold fX6_takeView at hf
  refine to_aload_n (q := 1) rfl (by decide) dX6_takeView_0 rfl ?_
  refine to_ldcS (q := 3) (i := 13) rfl dX6_takeView_1 rfl ?_
  refine to_ldcS (q := 5) (i := 14) rfl dX6_takeView_3 rfl ?_
  obtain ⟨r3, m4, hc1, hf⟩ := cl2_some hf
  have qc2 := kX6_takeOneOf hS hc1 (by decide) (by decide) hI
  refine to_virtI (q := 8) mX6_takeOneOf [.ref (1000000 + 13), .ref (1000000 + 14)] dX6_takeView_5 rfl rfl (Nat.le_of_ble_eq_true rfl) mo_X6_takeOneOf mv_X6_150 (Or.inl ⟨_, _, _, h_1 hS, rfl, rfl⟩) (Call_mono (by decide) qc2.1) ?_
  have hI := qc2.2
  by_cases h5 : r3 = (0 : Int32)
  · have hf := ite_pos h5 hf
    refine to_ifF (q := 11) (op := .ne) 13 (fun z => z h5) dX6_takeView_8 rfl rfl ?_
    refine to_iconst (q := 12) ic_0 dX6_takeView_11 rfl ?_
    cases hf
    exact to_iret dX6_takeView_12 rfl (by decide) rfl rfl hI
  · have hf := ite_neg h5 hf
    refine to_ifT (q := 13) (op := .ne) h5 dX6_takeView_8 rfl ?_
    refine to_aload_n (q := 14) rfl (kd_4 (ha1) (by decide)) dX6_takeView_13 rfl ?_
    refine to_aload_n (q := 15) rfl (by decide) dX6_takeView_14 rfl ?_
    refine to_getI (q := 18) (k0 := 6) (C := RX6) (T := TX6) (N := 10) (j := 7) rfl fx_X6_78 (h_1 hS) rfl dX6_takeView_15 rfl ?_
    refine to_putI (q := 21) (ty := .int) (k0 := 8) (C := RX8) (T := TX8) (N := 5) (j := 2) rfl fx_X6_203 (sh_kd hS ha1 (by decide)) rfl pD_I (Or.inl rfl) (nf_I _) dX6_takeView_18 rfl ?_
    refine to_aload_n (q := 22) rfl (by decide) dX6_takeView_21 rfl ?_
    refine to_iconst (q := 23) ic_0 dX6_takeView_22 rfl ?_
    refine to_aload_n (q := 24) rfl (by decide) dX6_takeView_23 rfl ?_
    have hk6 : kd (rr m4 1 2) = 2 := (ivF hI).2
    refine to_getR (q := 27) (b := rr m4 1 2) (k0 := 6) (C := RX6) (T := TX6) (N := 10) (j := 2) rfl fx_X6_18 (h_1 hS) rfl ((ivF hI).1) dX6_takeView_24 rfl ?_
    obtain ⟨r9, m10, hc7, hf⟩ := cl2_some hf
    have qc8 := kX2_openings hS hc7 (hk6) hI
    refine to_virtI (q := 30) mX2_openings [] dX6_takeView_27 rfl rfl (Nat.le_of_ble_eq_true rfl) mo_X2_openings mv_X6_206 (Or.inl ⟨_, _, _, sh_kd hS hk6 (by decide), rfl, rfl⟩) (Call_mono (by decide) qc8.1) ?_
    have hI := qc8.2
    refine to_iconst (q := 31) ic_1 dX6_takeView_30 rfl ?_
    refine to_isub (q := 32) dX6_takeView_31 rfl ?_
    obtain ⟨r13, m14, hc11, hf⟩ := cl2_some hf
    have qc12 := kX6_takeWhole hS hc11 hI
    refine to_virtI (q := 35) mX6_takeWhole [.int (0 : Int32), .int (r9 - (1 : Int32))] dX6_takeView_32 rfl rfl (Nat.le_of_ble_eq_true rfl) mo_X6_takeWhole mv_X6_130 (Or.inl ⟨_, _, _, h_1 hS, rfl, rfl⟩) (Call_mono (by decide) qc12.1) ?_
    have hI := qc12.2
    by_cases h15 : r13 = (0 : Int32)
    · have hf := ite_pos h15 hf
      refine to_ifF (q := 38) (op := .ne) 40 (fun z => z h15) dX6_takeView_35 rfl rfl ?_
      refine to_iconst (q := 39) ic_0 dX6_takeView_38 rfl ?_
      cases hf
      exact to_iret dX6_takeView_39 rfl (by decide) rfl rfl hI
    · have hf := ite_neg h15 hf
      refine to_ifT (q := 40) (op := .ne) h15 dX6_takeView_35 rfl ?_
      refine to_aload_n (q := 41) rfl (kd_4 (ha1) (by decide)) dX6_takeView_40 rfl ?_
      refine to_aload_n (q := 42) rfl (by decide) dX6_takeView_41 rfl ?_
      refine to_getI (q := 45) (k0 := 6) (C := RX6) (T := TX6) (N := 10) (j := 7) rfl fx_X6_78 (h_1 hS) rfl dX6_takeView_42 rfl ?_
      refine to_putI (q := 48) (ty := .int) (k0 := 8) (C := RX8) (T := TX8) (N := 5) (j := 3) rfl fx_X6_209 (sh_kd hS ha1 (by decide)) rfl pD_I (Or.inl rfl) (nf_I _) dX6_takeView_45 rfl ?_
      refine to_iconst (q := 49) ic_1 dX6_takeView_48 rfl ?_
      cases hf
      exact to_iret dX6_takeView_49 rfl (by decide) rfl rfl hI
def fX6_readWish (m : Me) : Option (Int32 × Me) := if (m.1 (rr m 1 2) 9) < (4 : Int32) then cl1 (fX6_step m) fun m6 => ck (inb (m6.1 (rr m6 1 2) 9) 4) (cl2 (fX6_copyWord (rr m6 1 2 + 19 + 2 * (m6.1 (rr m6 1 2) 9).toNatClampNeg) m6) fun r12 m13 => if r12 = (0 : Int32) then some ((0 : Int32), m13) else cl1 (fX6_step m13) fun m17 => cl2 (fX6_takeView (rr m6 1 2 + 19 + 2 * (m6.1 (rr m6 1 2) 9).toNatClampNeg) m17) fun r20 m21 => if r20 = (0 : Int32) then some ((0 : Int32), m21) else some ((1 : Int32), (setI m21 (rr m21 1 2) 9 ((m21.1 (rr m21 1 2) 9) + (1 : Int32))))) else cl2 (fX6_fail (5 : Int32) m) fun r26 m27 => ck (r26 = 0 ∨ r26 = 1) (some (r26, m27))
set_option maxRecDepth 20000 in
theorem kX6_readWish {S : Sh} (hS : ShOK S) {res : Int32 × Me} {m : Me} (hf : fX6_readWish m = some res) (hI : Inv m) : Call 10 mX6_readWish [.ref 1] (S, m) (some (.int res.1)) (S, res.2) ∧ Inv res.2 := by
  refine call_of (P := InvS) (Nat.le_of_ble_eq_true rfl) (by simp [Value.category]) ?_
  show TT InvS (Call 9) mX6_readWish (0, [(0, .ref 1)], [], S, m) _ _
  unfold fX6_readWish at hf
  refine to_aload_n (q := 1) rfl (by decide) dX6_readWish_0 rfl ?_
  have hk1 : kd (rr m 1 2) = 2 := (ivF hI).2
  refine to_getR (q := 4) (b := rr m 1 2) (k0 := 6) (C := RX6) (T := TX6) (N := 10) (j := 2) rfl fx_X6_18 (h_1 hS) rfl ((ivF hI).1) dX6_readWish_1 rfl ?_
  refine to_getI (q := 7) (k0 := 2) (C := RX2) (T := TX2) (N := 14) (j := 9) rfl fx_X6_190 (sh_kd hS hk1 (by decide)) rfl dX6_readWish_4 rfl ?_
  refine to_aload_n (q := 8) rfl (by decide) dX6_readWish_7 rfl ?_
  have hk2 : kd (rr m 1 2) = 2 := (ivF hI).2
  refine to_getR (q := 11) (b := rr m 1 2) (k0 := 6) (C := RX6) (T := TX6) (N := 10) (j := 2) rfl fx_X6_18 (h_1 hS) rfl ((ivF hI).1) dX6_readWish_8 rfl ?_
  refine to_getR (q := 14) (b := (rr m 1 2) + 4) (k0 := 2) (C := RX2) (T := TX2) (N := 14) (j := 8) rfl fx_X6_193 (sh_kd hS hk2 (by decide)) rfl (iv2i hI (hk2)) dX6_readWish_11 rfl ?_
  refine to_alen (q := 15) (sh_ln hS (kd2i (hk2)) (by decide)) (by decide) on_4 dX6_readWish_14 rfl ?_
  by_cases h3 : (m.1 (rr m 1 2) 9) < (4 : Int32)
  · have hf := ite_pos h3 hf
    refine to_icT (q := 24) (op := .lt) h3 dX6_readWish_15 rfl ?_
    refine to_aload_n (q := 25) rfl (by decide) dX6_readWish_24 rfl ?_
    obtain ⟨m6, hc4, hf⟩ := cl1_some hf
    have qc5 := kX6_step hS hc4 hI
    refine to_virtV (q := 28) mX6_step [] dX6_readWish_25 rfl rfl (Nat.le_of_ble_eq_true rfl) mo_X6_step mv_X6_51 (Or.inl ⟨_, _, _, h_1 hS, rfl, rfl⟩) (Call_mono (by decide) qc5.1) ?_
    have hI := qc5.2
    refine to_aload_n (q := 29) rfl (by decide) dX6_readWish_28 rfl ?_
    have hk7 : kd (rr m6 1 2) = 2 := (ivF hI).2
    refine to_getR (q := 32) (b := rr m6 1 2) (k0 := 6) (C := RX6) (T := TX6) (N := 10) (j := 2) rfl fx_X6_18 (h_1 hS) rfl ((ivF hI).1) dX6_readWish_29 rfl ?_
    refine to_getR (q := 35) (b := (rr m6 1 2) + 4) (k0 := 2) (C := RX2) (T := TX2) (N := 14) (j := 8) rfl fx_X6_193 (sh_kd hS hk7 (by decide)) rfl (iv2i hI (hk7)) dX6_readWish_32 rfl ?_
    refine to_aload_n (q := 36) rfl (by decide) dX6_readWish_35 rfl ?_
    have hk8 : kd (rr m6 1 2) = 2 := (ivF hI).2
    refine to_getR (q := 39) (b := rr m6 1 2) (k0 := 6) (C := RX6) (T := TX6) (N := 10) (j := 2) rfl fx_X6_18 (h_1 hS) rfl ((ivF hI).1) dX6_readWish_36 rfl ?_
    refine to_getI (q := 42) (k0 := 2) (C := RX2) (T := TX2) (N := 14) (j := 9) rfl fx_X6_190 (sh_kd hS hk8 (by decide)) rfl dX6_readWish_39 rfl ?_
    obtain ⟨hb9, hf⟩ := ck_some hf
    refine to_aald (q := 43) (b := rr m6 1 2 + 19 + 2 * (m6.1 (rr m6 1 2) 9).toNatClampNeg) (sh_ln hS (kd2i (hk7)) (by decide)) (by decide) hb9 (ivI hI (hk7) hb9) dX6_readWish_42 rfl ?_
    refine to_astore_n (q := 44) [(1, .ref (rr m6 1 2 + 19 + 2 * (m6.1 (rr m6 1 2) 9).toNatClampNeg)), (0, .ref 1)] rfl (kd_4 (kdI (hk7) hb9) (by decide)) (by decide) dX6_readWish_43 rfl ?_
    refine to_aload_n (q := 45) rfl (by decide) dX6_readWish_44 rfl ?_
    refine to_aload_n (q := 46) rfl (kd_4 (kdI (hk7) hb9) (by decide)) dX6_readWish_45 rfl ?_
    obtain ⟨r12, m13, hc10, hf⟩ := cl2_some hf
    have qc11 := kX6_copyWord hS hc10 (kdI (hk7) hb9) hI
    refine to_virtI (q := 49) mX6_copyWord [.ref (rr m6 1 2 + 19 + 2 * (m6.1 (rr m6 1 2) 9).toNatClampNeg)] dX6_readWish_46 rfl rfl (Nat.le_of_ble_eq_true rfl) mo_X6_copyWord mv_X6_183 (Or.inl ⟨_, _, _, h_1 hS, rfl, rfl⟩) (Call_mono (by decide) qc11.1) ?_
    have hI := qc11.2
    by_cases h14 : r12 = (0 : Int32)
    · have hf := ite_pos h14 hf
      refine to_ifF (q := 52) (op := .ne) 54 (fun z => z h14) dX6_readWish_49 rfl rfl ?_
      refine to_iconst (q := 53) ic_0 dX6_readWish_52 rfl ?_
      cases hf
      exact to_iret dX6_readWish_53 rfl (by decide) rfl rfl hI
    · have hf := ite_neg h14 hf
      refine to_ifT (q := 54) (op := .ne) h14 dX6_readWish_49 rfl ?_
      refine to_aload_n (q := 55) rfl (by decide) dX6_readWish_54 rfl ?_
      obtain ⟨m17, hc15, hf⟩ := cl1_some hf
      have qc16 := kX6_step hS hc15 hI
      refine to_virtV (q := 58) mX6_step [] dX6_readWish_55 rfl rfl (Nat.le_of_ble_eq_true rfl) mo_X6_step mv_X6_51 (Or.inl ⟨_, _, _, h_1 hS, rfl, rfl⟩) (Call_mono (by decide) qc16.1) ?_
      have hI := qc16.2
      refine to_aload_n (q := 59) rfl (by decide) dX6_readWish_58 rfl ?_
      refine to_aload_n (q := 60) rfl (kd_4 (kdI (hk7) hb9) (by decide)) dX6_readWish_59 rfl ?_
      obtain ⟨r20, m21, hc18, hf⟩ := cl2_some hf
      have qc19 := kX6_takeView hS hc18 (kdI (hk7) hb9) hI
      refine to_virtI (q := 63) mX6_takeView [.ref (rr m6 1 2 + 19 + 2 * (m6.1 (rr m6 1 2) 9).toNatClampNeg)] dX6_readWish_60 rfl rfl (Nat.le_of_ble_eq_true rfl) mo_X6_takeView mv_X6_196 (Or.inl ⟨_, _, _, h_1 hS, rfl, rfl⟩) (Call_mono (by decide) qc19.1) ?_
      have hI := qc19.2
      by_cases h22 : r20 = (0 : Int32)
      · have hf := ite_pos h22 hf
        refine to_ifF (q := 66) (op := .ne) 68 (fun z => z h22) dX6_readWish_63 rfl rfl ?_
        refine to_iconst (q := 67) ic_0 dX6_readWish_66 rfl ?_
        cases hf
        exact to_iret dX6_readWish_67 rfl (by decide) rfl rfl hI
      · have hf := ite_neg h22 hf
        refine to_ifT (q := 68) (op := .ne) h22 dX6_readWish_63 rfl ?_
        refine to_aload_n (q := 69) rfl (by decide) dX6_readWish_68 rfl ?_
        have hk23 : kd (rr m21 1 2) = 2 := (ivF hI).2
        refine to_getR (q := 72) (b := rr m21 1 2) (k0 := 6) (C := RX6) (T := TX6) (N := 10) (j := 2) rfl fx_X6_18 (h_1 hS) rfl ((ivF hI).1) dX6_readWish_69 rfl ?_
        refine to_dup (q := 73) rfl dX6_readWish_72 rfl ?_
        refine to_getI (q := 76) (k0 := 2) (C := RX2) (T := TX2) (N := 14) (j := 9) rfl fx_X6_190 (sh_kd hS hk23 (by decide)) rfl dX6_readWish_73 rfl ?_
        refine to_iconst (q := 77) ic_1 dX6_readWish_76 rfl ?_
        refine to_iadd (q := 78) dX6_readWish_77 rfl ?_
        refine to_putI (q := 81) (ty := .int) (k0 := 2) (C := RX2) (T := TX2) (N := 14) (j := 9) rfl fx_X6_190 (sh_kd hS hk23 (by decide)) rfl pD_I (Or.inl rfl) (nf_I _) dX6_readWish_78 rfl ?_
        refine to_iconst (q := 82) ic_1 dX6_readWish_81 rfl ?_
        cases hf
        exact to_iret dX6_readWish_82 rfl (by decide) rfl rfl hI
  · have hf := ite_neg h3 hf
    refine to_icF (q := 18) (op := .lt) 24 h3 dX6_readWish_15 rfl rfl ?_
    refine to_aload_n (q := 19) rfl (by decide) dX6_readWish_18 rfl ?_
    refine to_iconst (q := 20) ic_5 dX6_readWish_19 rfl ?_
    obtain ⟨r26, m27, hc24, hf⟩ := cl2_some hf
    have qc25 := kX6_fail hS hc24 hI
    refine to_virtI (q := 23) mX6_fail [.int (5 : Int32)] dX6_readWish_20 rfl rfl (Nat.le_of_ble_eq_true rfl) mo_X6_fail mv_X6_61 (Or.inl ⟨_, _, _, h_1 hS, rfl, rfl⟩) (Call_mono (by decide) qc25.1) ?_
    have hI := qc25.2
    obtain ⟨hz28, hf⟩ := ck_some hf
    cases hf
    exact to_iret dX6_readWish_23 rfl (nf_Z hz28).1 rfl rfl hI
def fX6_readSeen_90 (m : Me) : Option (Int32 × Me) := some ((0 : Int32), m)
set_option maxRecDepth 20000 in
theorem kX6_readSeen_90 {S : Sh} (hS : ShOK S) {res : Int32 × Me} {m : Me} (hf : fX6_readSeen_90 m = some res) (hI : Inv m) : TT InvS (Call 9) mX6_readSeen (90, [], [], S, m) (some (.int res.1)) (S, res.2) := by
  unfold fX6_readSeen_90 at hf
  refine to_iconst (q := 91) ic_0 dX6_readSeen_90 rfl ?_
  cases hf
  exact to_iret dX6_readSeen_91 rfl (by decide) rfl rfl hI
def fX6_readSeen (m : Me) : Option (Int32 × Me) := if (m.1 (rr m 1 2) 11) < (6 : Int32) then cl1 (fX6_step m) fun m6 => ck (inb (m6.1 (rr m6 1 2) 11) 6) (cl2 (fX6_takeView (rr m6 1 2 + 27 + 2 * (m6.1 (rr m6 1 2) 11).toNatClampNeg) m6) fun r12 m13 => if r12 = (0 : Int32) then some ((0 : Int32), m13) else cl2 (fX2_wholeLength (rr m13 1 2) ((m13.1 (rr m6 1 2 + 27 + 2 * (m6.1 (rr m6 1 2) 11).toNatClampNeg) 2)) ((m13.1 (rr m6 1 2 + 27 + 2 * (m6.1 (rr m6 1 2) 11).toNatClampNeg) 3)) m13) fun r18 m19 => cl2 (fX6_takeName 15 m19) fun r22 m23 => if r22 = (0 : Int32) then fX6_readSeen_90 m23 else cl2 (fX6_takeWhole (0 : Int32) ((r18 - (1 : Int32))) m23) fun r27 m28 => if r27 = (0 : Int32) then fX6_readSeen_90 m28 else cl2 (fX6_copyWord (rr m6 1 2 + 27 + 2 * (m6.1 (rr m6 1 2) 11).toNatClampNeg) (setI m28 (rr m6 1 2 + 27 + 2 * (m6.1 (rr m6 1 2) 11).toNatClampNeg) 4 (m28.1 1 7))) fun r32 m33 => if r32 = (0 : Int32) then some ((0 : Int32), m33) else if ((m33.1 (rr m6 1 2 + 27 + 2 * (m6.1 (rr m6 1 2) 11).toNatClampNeg) 4) + (m33.1 (rr m6 1 2 + 27 + 2 * (m6.1 (rr m6 1 2) 11).toNatClampNeg) 1)) ≤ r18 then cl1 (fX6_step m33) fun m38 => some ((1 : Int32), (setI m38 (rr m38 1 2) 11 ((m38.1 (rr m38 1 2) 11) + (1 : Int32)))) else cl2 (fX6_fail (7 : Int32) m33) fun r42 m43 => ck (r42 = 0 ∨ r42 = 1) (some (r42, m43))) else cl2 (fX6_fail (5 : Int32) m) fun r47 m48 => ck (r47 = 0 ∨ r47 = 1) (some (r47, m48))
set_option maxRecDepth 20000 in
theorem kX6_readSeen {S : Sh} (hS : ShOK S) {res : Int32 × Me} {m : Me} (hf : fX6_readSeen m = some res) (hI : Inv m) : Call 10 mX6_readSeen [.ref 1] (S, m) (some (.int res.1)) (S, res.2) ∧ Inv res.2 := by
  refine call_of (P := InvS) (Nat.le_of_ble_eq_true rfl) (by simp [Value.category]) ?_
  show TT InvS (Call 9) mX6_readSeen (0, [(0, .ref 1)], [], S, m) _ _
  unfold fX6_readSeen at hf
  refine to_aload_n (q := 1) rfl (by decide) dX6_readSeen_0 rfl ?_
  have hk1 : kd (rr m 1 2) = 2 := (ivF hI).2
  refine to_getR (q := 4) (b := rr m 1 2) (k0 := 6) (C := RX6) (T := TX6) (N := 10) (j := 2) rfl fx_X6_18 (h_1 hS) rfl ((ivF hI).1) dX6_readSeen_1 rfl ?_
  refine to_getI (q := 7) (k0 := 2) (C := RX2) (T := TX2) (N := 14) (j := 11) rfl fx_X6_212 (sh_kd hS hk1 (by decide)) rfl dX6_readSeen_4 rfl ?_
  refine to_aload_n (q := 8) rfl (by decide) dX6_readSeen_7 rfl ?_
  have hk2 : kd (rr m 1 2) = 2 := (ivF hI).2
  refine to_getR (q := 11) (b := rr m 1 2) (k0 := 6) (C := RX6) (T := TX6) (N := 10) (j := 2) rfl fx_X6_18 (h_1 hS) rfl ((ivF hI).1) dX6_readSeen_8 rfl ?_
  refine to_getR (q := 14) (b := (rr m 1 2) + 5) (k0 := 2) (C := RX2) (T := TX2) (N := 14) (j := 10) rfl fx_X6_215 (sh_kd hS hk2 (by decide)) rfl (iv2n hI (hk2)) dX6_readSeen_11 rfl ?_
  refine to_alen (q := 15) (sh_ln hS (kd2n (hk2)) (by decide)) (by decide) on_6 dX6_readSeen_14 rfl ?_
  by_cases h3 : (m.1 (rr m 1 2) 11) < (6 : Int32)
  · have hf := ite_pos h3 hf
    refine to_icT (q := 24) (op := .lt) h3 dX6_readSeen_15 rfl ?_
    refine to_aload_n (q := 25) rfl (by decide) dX6_readSeen_24 rfl ?_
    obtain ⟨m6, hc4, hf⟩ := cl1_some hf
    have qc5 := kX6_step hS hc4 hI
    refine to_virtV (q := 28) mX6_step [] dX6_readSeen_25 rfl rfl (Nat.le_of_ble_eq_true rfl) mo_X6_step mv_X6_51 (Or.inl ⟨_, _, _, h_1 hS, rfl, rfl⟩) (Call_mono (by decide) qc5.1) ?_
    have hI := qc5.2
    refine to_aload_n (q := 29) rfl (by decide) dX6_readSeen_28 rfl ?_
    have hk7 : kd (rr m6 1 2) = 2 := (ivF hI).2
    refine to_getR (q := 32) (b := rr m6 1 2) (k0 := 6) (C := RX6) (T := TX6) (N := 10) (j := 2) rfl fx_X6_18 (h_1 hS) rfl ((ivF hI).1) dX6_readSeen_29 rfl ?_
    refine to_getR (q := 35) (b := (rr m6 1 2) + 5) (k0 := 2) (C := RX2) (T := TX2) (N := 14) (j := 10) rfl fx_X6_215 (sh_kd hS hk7 (by decide)) rfl (iv2n hI (hk7)) dX6_readSeen_32 rfl ?_
    refine to_aload_n (q := 36) rfl (by decide) dX6_readSeen_35 rfl ?_
    have hk8 : kd (rr m6 1 2) = 2 := (ivF hI).2
    refine to_getR (q := 39) (b := rr m6 1 2) (k0 := 6) (C := RX6) (T := TX6) (N := 10) (j := 2) rfl fx_X6_18 (h_1 hS) rfl ((ivF hI).1) dX6_readSeen_36 rfl ?_
    refine to_getI (q := 42) (k0 := 2) (C := RX2) (T := TX2) (N := 14) (j := 11) rfl fx_X6_212 (sh_kd hS hk8 (by decide)) rfl dX6_readSeen_39 rfl ?_
    obtain ⟨hb9, hf⟩ := ck_some hf
    refine to_aald (q := 43) (b := rr m6 1 2 + 27 + 2 * (m6.1 (rr m6 1 2) 11).toNatClampNeg) (sh_ln hS (kd2n (hk7)) (by decide)) (by decide) hb9 (ivN hI (hk7) hb9) dX6_readSeen_42 rfl ?_
    refine to_astore_n (q := 44) [(1, .ref (rr m6 1 2 + 27 + 2 * (m6.1 (rr m6 1 2) 11).toNatClampNeg)), (0, .ref 1)] rfl (kd_4 (kdN (hk7) hb9) (by decide)) (by decide) dX6_readSeen_43 rfl ?_
    refine to_aload_n (q := 45) rfl (by decide) dX6_readSeen_44 rfl ?_
    refine to_aload_n (q := 46) rfl (kd_4 (kdN (hk7) hb9) (by decide)) dX6_readSeen_45 rfl ?_
    obtain ⟨r12, m13, hc10, hf⟩ := cl2_some hf
    have qc11 := kX6_takeView hS hc10 (kdN (hk7) hb9) hI
    refine to_virtI (q := 49) mX6_takeView [.ref (rr m6 1 2 + 27 + 2 * (m6.1 (rr m6 1 2) 11).toNatClampNeg)] dX6_readSeen_46 rfl rfl (Nat.le_of_ble_eq_true rfl) mo_X6_takeView mv_X6_196 (Or.inl ⟨_, _, _, h_1 hS, rfl, rfl⟩) (Call_mono (by decide) qc11.1) ?_
    have hI := qc11.2
    by_cases h14 : r12 = (0 : Int32)
    · have hf := ite_pos h14 hf
      refine to_ifF (q := 52) (op := .ne) 54 (fun z => z h14) dX6_readSeen_49 rfl rfl ?_
      refine to_iconst (q := 53) ic_0 dX6_readSeen_52 rfl ?_
      cases hf
      exact to_iret dX6_readSeen_53 rfl (by decide) rfl rfl hI
    · have hf := ite_neg h14 hf
      refine to_ifT (q := 54) (op := .ne) h14 dX6_readSeen_49 rfl ?_
      refine to_aload_n (q := 55) rfl (by decide) dX6_readSeen_54 rfl ?_
      have hk15 : kd (rr m13 1 2) = 2 := (ivF hI).2
      refine to_getR (q := 58) (b := rr m13 1 2) (k0 := 6) (C := RX6) (T := TX6) (N := 10) (j := 2) rfl fx_X6_18 (h_1 hS) rfl ((ivF hI).1) dX6_readSeen_55 rfl ?_
      refine to_aload_n (q := 59) rfl (kd_4 (kdN (hk7) hb9) (by decide)) dX6_readSeen_58 rfl ?_
      refine to_getI (q := 62) (k0 := 8) (C := RX8) (T := TX8) (N := 5) (j := 2) rfl fx_X6_203 (sh_kd hS (kdN (hk7) hb9) (by decide)) rfl dX6_readSeen_59 rfl ?_
      refine to_aload_n (q := 63) rfl (kd_4 (kdN (hk7) hb9) (by decide)) dX6_readSeen_62 rfl ?_
      refine to_getI (q := 66) (k0 := 8) (C := RX8) (T := TX8) (N := 5) (j := 3) rfl fx_X6_209 (sh_kd hS (kdN (hk7) hb9) (by decide)) rfl dX6_readSeen_63 rfl ?_
      obtain ⟨r18, m19, hc16, hf⟩ := cl2_some hf
      have qc17 := kX2_wholeLength hS hc16 (hk15) hI
      refine to_virtI (q := 69) mX2_wholeLength [.int (m13.1 (rr m6 1 2 + 27 + 2 * (m6.1 (rr m6 1 2) 11).toNatClampNeg) 2), .int (m13.1 (rr m6 1 2 + 27 + 2 * (m6.1 (rr m6 1 2) 11).toNatClampNeg) 3)] dX6_readSeen_66 rfl rfl (Nat.le_of_ble_eq_true rfl) mo_X2_wholeLength mv_X6_217 (Or.inl ⟨_, _, _, sh_kd hS hk15 (by decide), rfl, rfl⟩) (Call_mono (by decide) qc17.1) ?_
      have hI := qc17.2
      refine to_istore_n (q := 70) [(2, .int r18), (1, .ref (rr m6 1 2 + 27 + 2 * (m6.1 (rr m6 1 2) 11).toNatClampNeg)), (0, .ref 1)] rfl (by decide) dX6_readSeen_69 rfl ?_
      refine to_aload_n (q := 71) rfl (by decide) dX6_readSeen_70 rfl ?_
      refine to_ldcS (q := 73) (i := 15) rfl dX6_readSeen_71 rfl ?_
      obtain ⟨r22, m23, hc20, hf⟩ := cl2_some hf
      have qc21 := kX6_takeName hS hc20 (by decide) hI
      refine to_virtI (q := 76) mX6_takeName [.ref (1000000 + 15)] dX6_readSeen_73 rfl rfl (Nat.le_of_ble_eq_true rfl) mo_X6_takeName mv_X6_127 (Or.inl ⟨_, _, _, h_1 hS, rfl, rfl⟩) (Call_mono (by decide) qc21.1) ?_
      have hI := qc21.2
      by_cases h24 : r22 = (0 : Int32)
      · have hf := ite_pos h24 hf
        refine to_ifT (q := 90) (op := .eq) h24 dX6_readSeen_76 rfl ?_
        exact to_ext [] ext_nil (kX6_readSeen_90 hS hf hI)
      · have hf := ite_neg h24 hf
        refine to_ifF (q := 79) (op := .eq) 90 h24 dX6_readSeen_76 rfl rfl ?_
        refine to_aload_n (q := 80) rfl (by decide) dX6_readSeen_79 rfl ?_
        refine to_iconst (q := 81) ic_0 dX6_readSeen_80 rfl ?_
        refine to_iload_n (q := 82) rfl dX6_readSeen_81 rfl ?_
        refine to_iconst (q := 83) ic_1 dX6_readSeen_82 rfl ?_
        refine to_isub (q := 84) dX6_readSeen_83 rfl ?_
        obtain ⟨r27, m28, hc25, hf⟩ := cl2_some hf
        have qc26 := kX6_takeWhole hS hc25 hI
        refine to_virtI (q := 87) mX6_takeWhole [.int (0 : Int32), .int (r18 - (1 : Int32))] dX6_readSeen_84 rfl rfl (Nat.le_of_ble_eq_true rfl) mo_X6_takeWhole mv_X6_130 (Or.inl ⟨_, _, _, h_1 hS, rfl, rfl⟩) (Call_mono (by decide) qc26.1) ?_
        have hI := qc26.2
        by_cases h29 : r27 = (0 : Int32)
        · have hf := ite_pos h29 hf
          refine to_ifF (q := 90) (op := .ne) 92 (fun z => z h29) dX6_readSeen_87 rfl rfl ?_
          exact to_ext [] ext_nil (kX6_readSeen_90 hS hf hI)
        · have hf := ite_neg h29 hf
          refine to_ifT (q := 92) (op := .ne) h29 dX6_readSeen_87 rfl ?_
          refine to_aload_n (q := 93) rfl (kd_4 (kdN (hk7) hb9) (by decide)) dX6_readSeen_92 rfl ?_
          refine to_aload_n (q := 94) rfl (by decide) dX6_readSeen_93 rfl ?_
          refine to_getI (q := 97) (k0 := 6) (C := RX6) (T := TX6) (N := 10) (j := 7) rfl fx_X6_78 (h_1 hS) rfl dX6_readSeen_94 rfl ?_
          refine to_putI (q := 100) (ty := .int) (k0 := 8) (C := RX8) (T := TX8) (N := 5) (j := 4) rfl fx_X6_222 (sh_kd hS (kdN (hk7) hb9) (by decide)) rfl pD_I (Or.inl rfl) (nf_I _) dX6_readSeen_97 rfl ?_
          refine to_aload_n (q := 101) rfl (by decide) dX6_readSeen_100 rfl ?_
          refine to_aload_n (q := 102) rfl (kd_4 (kdN (hk7) hb9) (by decide)) dX6_readSeen_101 rfl ?_
          obtain ⟨r32, m33, hc30, hf⟩ := cl2_some hf
          have qc31 := kX6_copyWord hS hc30 (kdN (hk7) hb9) hI
          refine to_virtI (q := 105) mX6_copyWord [.ref (rr m6 1 2 + 27 + 2 * (m6.1 (rr m6 1 2) 11).toNatClampNeg)] dX6_readSeen_102 rfl rfl (Nat.le_of_ble_eq_true rfl) mo_X6_copyWord mv_X6_183 (Or.inl ⟨_, _, _, h_1 hS, rfl, rfl⟩) (Call_mono (by decide) qc31.1) ?_
          have hI := qc31.2
          by_cases h34 : r32 = (0 : Int32)
          · have hf := ite_pos h34 hf
            refine to_ifF (q := 108) (op := .ne) 110 (fun z => z h34) dX6_readSeen_105 rfl rfl ?_
            refine to_iconst (q := 109) ic_0 dX6_readSeen_108 rfl ?_
            cases hf
            exact to_iret dX6_readSeen_109 rfl (by decide) rfl rfl hI
          · have hf := ite_neg h34 hf
            refine to_ifT (q := 110) (op := .ne) h34 dX6_readSeen_105 rfl ?_
            refine to_aload_n (q := 111) rfl (kd_4 (kdN (hk7) hb9) (by decide)) dX6_readSeen_110 rfl ?_
            refine to_getI (q := 114) (k0 := 8) (C := RX8) (T := TX8) (N := 5) (j := 4) rfl fx_X6_222 (sh_kd hS (kdN (hk7) hb9) (by decide)) rfl dX6_readSeen_111 rfl ?_
            refine to_aload_n (q := 115) rfl (kd_4 (kdN (hk7) hb9) (by decide)) dX6_readSeen_114 rfl ?_
            refine to_getI (q := 118) (k0 := 8) (C := RX8) (T := TX8) (N := 5) (j := 1) rfl fx_X6_91 (sh_kd hS (kdN (hk7) hb9) (by decide)) rfl dX6_readSeen_115 rfl ?_
            refine to_iadd (q := 119) dX6_readSeen_118 rfl ?_
            refine to_iload_n (q := 120) rfl dX6_readSeen_119 rfl ?_
            by_cases h35 : ((m33.1 (rr m6 1 2 + 27 + 2 * (m6.1 (rr m6 1 2) 11).toNatClampNeg) 4) + (m33.1 (rr m6 1 2 + 27 + 2 * (m6.1 (rr m6 1 2) 11).toNatClampNeg) 1)) ≤ r18
            · have hf := ite_pos h35 hf
              refine to_icT (q := 130) (op := .le) h35 dX6_readSeen_120 rfl ?_
              refine to_aload_n (q := 131) rfl (by decide) dX6_readSeen_130 rfl ?_
              obtain ⟨m38, hc36, hf⟩ := cl1_some hf
              have qc37 := kX6_step hS hc36 hI
              refine to_virtV (q := 134) mX6_step [] dX6_readSeen_131 rfl rfl (Nat.le_of_ble_eq_true rfl) mo_X6_step mv_X6_51 (Or.inl ⟨_, _, _, h_1 hS, rfl, rfl⟩) (Call_mono (by decide) qc37.1) ?_
              have hI := qc37.2
              refine to_aload_n (q := 135) rfl (by decide) dX6_readSeen_134 rfl ?_
              have hk39 : kd (rr m38 1 2) = 2 := (ivF hI).2
              refine to_getR (q := 138) (b := rr m38 1 2) (k0 := 6) (C := RX6) (T := TX6) (N := 10) (j := 2) rfl fx_X6_18 (h_1 hS) rfl ((ivF hI).1) dX6_readSeen_135 rfl ?_
              refine to_dup (q := 139) rfl dX6_readSeen_138 rfl ?_
              refine to_getI (q := 142) (k0 := 2) (C := RX2) (T := TX2) (N := 14) (j := 11) rfl fx_X6_212 (sh_kd hS hk39 (by decide)) rfl dX6_readSeen_139 rfl ?_
              refine to_iconst (q := 143) ic_1 dX6_readSeen_142 rfl ?_
              refine to_iadd (q := 144) dX6_readSeen_143 rfl ?_
              refine to_putI (q := 147) (ty := .int) (k0 := 2) (C := RX2) (T := TX2) (N := 14) (j := 11) rfl fx_X6_212 (sh_kd hS hk39 (by decide)) rfl pD_I (Or.inl rfl) (nf_I _) dX6_readSeen_144 rfl ?_
              refine to_iconst (q := 148) ic_1 dX6_readSeen_147 rfl ?_
              cases hf
              exact to_iret dX6_readSeen_148 rfl (by decide) rfl rfl hI
            · have hf := ite_neg h35 hf
              refine to_icF (q := 123) (op := .le) 130 h35 dX6_readSeen_120 rfl rfl ?_
              refine to_aload_n (q := 124) rfl (by decide) dX6_readSeen_123 rfl ?_
              refine to_bipush (q := 126) bp_7 dX6_readSeen_124 rfl ?_
              obtain ⟨r42, m43, hc40, hf⟩ := cl2_some hf
              have qc41 := kX6_fail hS hc40 hI
              refine to_virtI (q := 129) mX6_fail [.int (7 : Int32)] dX6_readSeen_126 rfl rfl (Nat.le_of_ble_eq_true rfl) mo_X6_fail mv_X6_61 (Or.inl ⟨_, _, _, h_1 hS, rfl, rfl⟩) (Call_mono (by decide) qc41.1) ?_
              have hI := qc41.2
              obtain ⟨hz44, hf⟩ := ck_some hf
              cases hf
              exact to_iret dX6_readSeen_129 rfl (nf_Z hz44).1 rfl rfl hI
  · have hf := ite_neg h3 hf
    refine to_icF (q := 18) (op := .lt) 24 h3 dX6_readSeen_15 rfl rfl ?_
    refine to_aload_n (q := 19) rfl (by decide) dX6_readSeen_18 rfl ?_
    refine to_iconst (q := 20) ic_5 dX6_readSeen_19 rfl ?_
    obtain ⟨r47, m48, hc45, hf⟩ := cl2_some hf
    have qc46 := kX6_fail hS hc45 hI
    refine to_virtI (q := 23) mX6_fail [.int (5 : Int32)] dX6_readSeen_20 rfl rfl (Nat.le_of_ble_eq_true rfl) mo_X6_fail mv_X6_61 (Or.inl ⟨_, _, _, h_1 hS, rfl, rfl⟩) (Call_mono (by decide) qc46.1) ?_
    have hI := qc46.2
    obtain ⟨hz49, hf⟩ := ck_some hf
    cases hf
    exact to_iret dX6_readSeen_23 rfl (nf_Z hz49).1 rfl rfl hI
def fX6_readBeats_18 (n : Nat) (x1 : Int32) (m : Me) : Option (Int32 × Me) := match n with
  | 0 => none
  | n + 1 => if (6 : Int32) < x1 then cl2 (fX6_fail (1 : Int32) m) fun r12 m13 => ck (r12 = 0 ∨ r12 = 1) (some (r12, m13)) else cl1 (fX6_step m) fun m17 => cl2 (fX2_openings (rr m17 1 2) m17) fun r21 m22 => cl2 (fX6_isWholeWithin (0 : Int32) ((r21 - (1 : Int32))) m22) fun r25 m26 => if r25 = (0 : Int32) then some ((0 : Int32), m26) else if x1 < (6 : Int32) then ck (inb x1 6) (cl1 (fX6_step (setI (setI m26 ((rr m26 1 2) + 6) x1.toNatClampNeg (m26.1 1 7)) (rr m26 1 2) 13 (x1 + (1 : Int32)))) fun m35 => if (m35.1 1 4) = (4 : Int32) then fX6_readBeats_18 n ((x1 + (1 : Int32))) m35 else some ((1 : Int32), m35)) else cl2 (fX6_fail (5 : Int32) m26) fun r39 m40 => ck (r39 = 0 ∨ r39 = 1) (some (r39, m40))
set_option maxRecDepth 20000 in
theorem kX6_readBeats_18 {S : Sh} (hS : ShOK S) {res : Int32 × Me} (n : Nat) : ∀ {x1 : Int32} {m : Me}, fX6_readBeats_18 n x1 m = some res → Inv m → TT InvS (Call 2) mX6_readBeats (18, [(0, .ref 1), (1, .int x1)], [], S, m) (some (.int res.1)) (S, res.2) := by
  induction n with
  | zero => intro x1 m hf; cases hf
  | succ n ih =>
    intro x1 m hf  hI
    unfold fX6_readBeats_18 at hf
    refine to_iload_n (q := 19) rfl dX6_readBeats_18 rfl ?_
    refine to_aload_n (q := 20) rfl (by decide) dX6_readBeats_19 rfl ?_
    have hk8 : kd (rr m 1 2) = 2 := (ivF hI).2
    refine to_getR (q := 23) (b := rr m 1 2) (k0 := 6) (C := RX6) (T := TX6) (N := 10) (j := 2) rfl fx_X6_18 (h_1 hS) rfl ((ivF hI).1) dX6_readBeats_20 rfl ?_
    refine to_getR (q := 26) (b := (rr m 1 2) + 6) (k0 := 2) (C := RX2) (T := TX2) (N := 14) (j := 12) rfl fx_X6_228 (sh_kd hS hk8 (by decide)) rfl (iv2b hI (hk8)) dX6_readBeats_23 rfl ?_
    refine to_alen (q := 27) (sh_ln hS (kd2b (hk8)) (by decide)) (by decide) on_6 dX6_readBeats_26 rfl ?_
    by_cases h9 : (6 : Int32) < x1
    · have hf := ite_pos h9 hf
      refine to_icT (q := 114) (op := .gt) h9 dX6_readBeats_27 rfl ?_
      refine to_aload_n (q := 115) rfl (by decide) dX6_readBeats_114 rfl ?_
      refine to_iconst (q := 116) ic_1 dX6_readBeats_115 rfl ?_
      obtain ⟨r12, m13, hc10, hf⟩ := cl2_some hf
      have qc11 := kX6_fail hS hc10 hI
      refine to_virtI (q := 119) mX6_fail [.int (1 : Int32)] dX6_readBeats_116 rfl rfl (Nat.le_of_ble_eq_true rfl) mo_X6_fail mv_X6_61 (Or.inl ⟨_, _, _, h_1 hS, rfl, rfl⟩) (Call_mono (by decide) qc11.1) ?_
      have hI := qc11.2
      obtain ⟨hz14, hf⟩ := ck_some hf
      cases hf
      exact to_iret dX6_readBeats_119 rfl (nf_Z hz14).1 rfl rfl hI
    · have hf := ite_neg h9 hf
      refine to_icF (q := 30) (op := .gt) 114 h9 dX6_readBeats_27 rfl rfl ?_
      refine to_aload_n (q := 31) rfl (by decide) dX6_readBeats_30 rfl ?_
      obtain ⟨m17, hc15, hf⟩ := cl1_some hf
      have qc16 := kX6_step hS hc15 hI
      refine to_virtV (q := 34) mX6_step [] dX6_readBeats_31 rfl rfl (Nat.le_of_ble_eq_true rfl) mo_X6_step mv_X6_51 (Or.inl ⟨_, _, _, h_1 hS, rfl, rfl⟩) (Call_mono (by decide) qc16.1) ?_
      have hI := qc16.2
      refine to_aload_n (q := 35) rfl (by decide) dX6_readBeats_34 rfl ?_
      refine to_iconst (q := 36) ic_0 dX6_readBeats_35 rfl ?_
      refine to_aload_n (q := 37) rfl (by decide) dX6_readBeats_36 rfl ?_
      have hk18 : kd (rr m17 1 2) = 2 := (ivF hI).2
      refine to_getR (q := 40) (b := rr m17 1 2) (k0 := 6) (C := RX6) (T := TX6) (N := 10) (j := 2) rfl fx_X6_18 (h_1 hS) rfl ((ivF hI).1) dX6_readBeats_37 rfl ?_
      obtain ⟨r21, m22, hc19, hf⟩ := cl2_some hf
      have qc20 := kX2_openings hS hc19 (hk18) hI
      refine to_virtI (q := 43) mX2_openings [] dX6_readBeats_40 rfl rfl (Nat.le_of_ble_eq_true rfl) mo_X2_openings mv_X6_206 (Or.inl ⟨_, _, _, sh_kd hS hk18 (by decide), rfl, rfl⟩) (Call_mono (by decide) qc20.1) ?_
      have hI := qc20.2
      refine to_iconst (q := 44) ic_1 dX6_readBeats_43 rfl ?_
      refine to_isub (q := 45) dX6_readBeats_44 rfl ?_
      obtain ⟨r25, m26, hc23, hf⟩ := cl2_some hf
      have qc24 := kX6_isWholeWithin hS hc23 hI
      refine to_virtI (q := 48) mX6_isWholeWithin [.int (0 : Int32), .int (r21 - (1 : Int32))] dX6_readBeats_45 rfl rfl (Nat.le_of_ble_eq_true rfl) mo_X6_isWholeWithin mv_X6_81 (Or.inl ⟨_, _, _, h_1 hS, rfl, rfl⟩) (Call_mono (by decide) qc24.1) ?_
      have hI := qc24.2
      by_cases h27 : r25 = (0 : Int32)
      · have hf := ite_pos h27 hf
        refine to_ifF (q := 51) (op := .ne) 53 (fun z => z h27) dX6_readBeats_48 rfl rfl ?_
        refine to_iconst (q := 52) ic_0 dX6_readBeats_51 rfl ?_
        cases hf
        exact to_iret dX6_readBeats_52 rfl (by decide) rfl rfl hI
      · have hf := ite_neg h27 hf
        refine to_ifT (q := 53) (op := .ne) h27 dX6_readBeats_48 rfl ?_
        refine to_iload_n (q := 54) rfl dX6_readBeats_53 rfl ?_
        refine to_aload_n (q := 55) rfl (by decide) dX6_readBeats_54 rfl ?_
        have hk28 : kd (rr m26 1 2) = 2 := (ivF hI).2
        refine to_getR (q := 58) (b := rr m26 1 2) (k0 := 6) (C := RX6) (T := TX6) (N := 10) (j := 2) rfl fx_X6_18 (h_1 hS) rfl ((ivF hI).1) dX6_readBeats_55 rfl ?_
        refine to_getR (q := 61) (b := (rr m26 1 2) + 6) (k0 := 2) (C := RX2) (T := TX2) (N := 14) (j := 12) rfl fx_X6_228 (sh_kd hS hk28 (by decide)) rfl (iv2b hI (hk28)) dX6_readBeats_58 rfl ?_
        refine to_alen (q := 62) (sh_ln hS (kd2b (hk28)) (by decide)) (by decide) on_6 dX6_readBeats_61 rfl ?_
        by_cases h29 : x1 < (6 : Int32)
        · have hf := ite_pos h29 hf
          refine to_icT (q := 71) (op := .lt) h29 dX6_readBeats_62 rfl ?_
          refine to_aload_n (q := 72) rfl (by decide) dX6_readBeats_71 rfl ?_
          have hk30 : kd (rr m26 1 2) = 2 := (ivF hI).2
          refine to_getR (q := 75) (b := rr m26 1 2) (k0 := 6) (C := RX6) (T := TX6) (N := 10) (j := 2) rfl fx_X6_18 (h_1 hS) rfl ((ivF hI).1) dX6_readBeats_72 rfl ?_
          refine to_getR (q := 78) (b := (rr m26 1 2) + 6) (k0 := 2) (C := RX2) (T := TX2) (N := 14) (j := 12) rfl fx_X6_228 (sh_kd hS hk30 (by decide)) rfl (iv2b hI (hk30)) dX6_readBeats_75 rfl ?_
          refine to_iload_n (q := 79) rfl dX6_readBeats_78 rfl ?_
          refine to_aload_n (q := 80) rfl (by decide) dX6_readBeats_79 rfl ?_
          refine to_getI (q := 83) (k0 := 6) (C := RX6) (T := TX6) (N := 10) (j := 7) rfl fx_X6_78 (h_1 hS) rfl dX6_readBeats_80 rfl ?_
          obtain ⟨hb31, hf⟩ := ck_some hf
          refine to_iasj (q := 84) (sh_ln hS (kd2b (hk30)) (by decide)) hb31 (rfl) dX6_readBeats_83 rfl ?_
          refine to_aload_n (q := 85) rfl (by decide) dX6_readBeats_84 rfl ?_
          have hk32 : kd (rr m26 1 2) = 2 := (ivF hI).2
          refine to_getR (q := 88) (b := rr m26 1 2) (k0 := 6) (C := RX6) (T := TX6) (N := 10) (j := 2) rfl fx_X6_18 (h_1 hS) rfl ((ivF hI).1) dX6_readBeats_85 rfl ?_
          refine to_iload_n (q := 89) rfl dX6_readBeats_88 rfl ?_
          refine to_iconst (q := 90) ic_1 dX6_readBeats_89 rfl ?_
          refine to_iadd (q := 91) dX6_readBeats_90 rfl ?_
          refine to_putI (q := 94) (ty := .int) (k0 := 2) (C := RX2) (T := TX2) (N := 14) (j := 13) rfl fx_X6_225 (sh_kd hS hk32 (by decide)) rfl pD_I (Or.inl rfl) (nf_I _) dX6_readBeats_91 rfl ?_
          refine to_aload_n (q := 95) rfl (by decide) dX6_readBeats_94 rfl ?_
          obtain ⟨m35, hc33, hf⟩ := cl1_some hf
          have qc34 := kX6_step hS hc33 hI
          refine to_virtV (q := 98) mX6_step [] dX6_readBeats_95 rfl rfl (Nat.le_of_ble_eq_true rfl) mo_X6_step mv_X6_51 (Or.inl ⟨_, _, _, h_1 hS, rfl, rfl⟩) (Call_mono (by decide) qc34.1) ?_
          have hI := qc34.2
          refine to_aload_n (q := 99) rfl (by decide) dX6_readBeats_98 rfl ?_
          refine to_getI (q := 102) (k0 := 6) (C := RX6) (T := TX6) (N := 10) (j := 4) rfl fx_X6_58 (h_1 hS) rfl dX6_readBeats_99 rfl ?_
          refine to_iconst (q := 103) ic_4 dX6_readBeats_102 rfl ?_
          by_cases h36 : (m35.1 1 4) = (4 : Int32)
          · have hf := ite_pos h36 hf
            refine to_icT (q := 108) (op := .eq) h36 dX6_readBeats_103 rfl ?_
            refine to_iinc (q := 111) (v := (x1 + (1 : Int32))) rfl (congrArg (fun z => x1 + z) ic_1) [(1, .int (x1 + (1 : Int32))), (0, .ref 1)] rfl (by decide) dX6_readBeats_108 rfl ?_
            refine to_goto (q := 18) dX6_readBeats_111 rfl ?_
            exact to_ext [(0, .ref 1), (1, .int (x1 + (1 : Int32)))] (ext_cons rfl (ext_cons rfl ext_nil)) (ih hf hI)
          · have hf := ite_neg h36 hf
            refine to_icF (q := 106) (op := .eq) 108 h36 dX6_readBeats_103 rfl rfl ?_
            refine to_iconst (q := 107) ic_1 dX6_readBeats_106 rfl ?_
            cases hf
            exact to_iret dX6_readBeats_107 rfl (by decide) rfl rfl hI
        · have hf := ite_neg h29 hf
          refine to_icF (q := 65) (op := .lt) 71 h29 dX6_readBeats_62 rfl rfl ?_
          refine to_aload_n (q := 66) rfl (by decide) dX6_readBeats_65 rfl ?_
          refine to_iconst (q := 67) ic_5 dX6_readBeats_66 rfl ?_
          obtain ⟨r39, m40, hc37, hf⟩ := cl2_some hf
          have qc38 := kX6_fail hS hc37 hI
          refine to_virtI (q := 70) mX6_fail [.int (5 : Int32)] dX6_readBeats_67 rfl rfl (Nat.le_of_ble_eq_true rfl) mo_X6_fail mv_X6_61 (Or.inl ⟨_, _, _, h_1 hS, rfl, rfl⟩) (Call_mono (by decide) qc38.1) ?_
          have hI := qc38.2
          obtain ⟨hz41, hf⟩ := ck_some hf
          cases hf
          exact to_iret dX6_readBeats_70 rfl (nf_Z hz41).1 rfl rfl hI
def fX6_readBeats (m : Me) : Option (Int32 × Me) := if (m.1 (rr m 1 2) 13) ≤ (0 : Int32) then fX6_readBeats_18 FU ((0 : Int32)) m else cl2 (fX6_fail (3 : Int32) m) fun r5 m6 => ck (r5 = 0 ∨ r5 = 1) (some (r5, m6))
set_option maxRecDepth 20000 in
theorem kX6_readBeats {S : Sh} (hS : ShOK S) {res : Int32 × Me} {m : Me} (hf : fX6_readBeats m = some res) (hI : Inv m) : Call 3 mX6_readBeats [.ref 1] (S, m) (some (.int res.1)) (S, res.2) ∧ Inv res.2 := by
  refine call_of (P := InvS) (Nat.le_of_ble_eq_true rfl) (by simp [Value.category]) ?_
  show TT InvS (Call 2) mX6_readBeats (0, [(0, .ref 1)], [], S, m) _ _
  unfold fX6_readBeats at hf
  refine to_aload_n (q := 1) rfl (by decide) dX6_readBeats_0 rfl ?_
  have hk1 : kd (rr m 1 2) = 2 := (ivF hI).2
  refine to_getR (q := 4) (b := rr m 1 2) (k0 := 6) (C := RX6) (T := TX6) (N := 10) (j := 2) rfl fx_X6_18 (h_1 hS) rfl ((ivF hI).1) dX6_readBeats_1 rfl ?_
  refine to_getI (q := 7) (k0 := 2) (C := RX2) (T := TX2) (N := 14) (j := 13) rfl fx_X6_225 (sh_kd hS hk1 (by decide)) rfl dX6_readBeats_4 rfl ?_
  by_cases h2 : (m.1 (rr m 1 2) 13) ≤ (0 : Int32)
  · have hf := ite_pos h2 hf
    refine to_ifT (q := 16) (op := .le) h2 dX6_readBeats_7 rfl ?_
    refine to_iconst (q := 17) ic_0 dX6_readBeats_16 rfl ?_
    refine to_istore_n (q := 18) [(1, .int (0 : Int32)), (0, .ref 1)] rfl (by decide) dX6_readBeats_17 rfl ?_
    exact to_ext [(0, .ref 1), (1, .int (0 : Int32))] (ext_cons rfl (ext_cons rfl ext_nil)) (kX6_readBeats_18 hS FU hf hI)
  · have hf := ite_neg h2 hf
    refine to_ifF (q := 10) (op := .le) 16 h2 dX6_readBeats_7 rfl rfl ?_
    refine to_aload_n (q := 11) rfl (by decide) dX6_readBeats_10 rfl ?_
    refine to_iconst (q := 12) ic_3 dX6_readBeats_11 rfl ?_
    obtain ⟨r5, m6, hc3, hf⟩ := cl2_some hf
    have qc4 := kX6_fail hS hc3 hI
    refine to_virtI (q := 15) mX6_fail [.int (3 : Int32)] dX6_readBeats_12 rfl rfl (Nat.le_of_ble_eq_true rfl) mo_X6_fail mv_X6_61 (Or.inl ⟨_, _, _, h_1 hS, rfl, rfl⟩) (Call_mono (by decide) qc4.1) ?_
    have hI := qc4.2
    obtain ⟨hz7, hf⟩ := ck_some hf
    cases hf
    exact to_iret dX6_readBeats_15 rfl (nf_Z hz7).1 rfl rfl hI
def fX6_readLine_151 (t0 : Int32) (m : Me) : Option (Int32 × Me) := ck (t0 = 0 ∨ t0 = 1) (some (t0, m))
set_option maxRecDepth 20000 in
theorem kX6_readLine_151 {S : Sh} (hS : ShOK S) {res : Int32 × Me} {t0 : Int32} {m : Me} (hf : fX6_readLine_151 t0 m = some res) (hI : Inv m) : TT InvS (Call 10) mX6_readLine (151, [], [.int t0], S, m) (some (.int res.1)) (S, res.2) := by
  unfold fX6_readLine_151 at hf
  obtain ⟨hz91, hf⟩ := ck_some hf
  cases hf
  exact to_iret dX6_readLine_151 rfl (nf_Z hz91).1 rfl rfl hI
def fX6_readLine_64 (t0 : Int32) (m : Me) : Option (Int32 × Me) := if t0 = (0 : Int32) then cl2 (fX6_fail (1 : Int32) m) fun r88 m89 => ck (r88 = 0 ∨ r88 = 1) (some (r88, m89)) else if (m.1 1 3) = (0 : Int32) then cl2 (fX6_fail (6 : Int32) m) fun r83 m84 => ck (r83 = 0 ∨ r83 = 1) (some (r83, m84)) else cl2 (fX6_isName 7 m) fun r40 m41 => if r40 = (0 : Int32) then cl2 (fX6_isName 8 m41) fun r45 m46 => if r45 = (0 : Int32) then cl2 (fX6_isName 9 m46) fun r50 m51 => if r50 = (0 : Int32) then cl2 (fX6_isName 10 m51) fun r55 m56 => if r55 = (0 : Int32) then cl2 (fX6_readBeats m56) fun r60 m61 => fX6_readLine_151 r60 m61 else cl2 (fX6_readSeen m56) fun r64 m65 => fX6_readLine_151 r64 m65 else cl2 (fX6_readWish m51) fun r68 m69 => ck (r68 = 0 ∨ r68 = 1) (some (r68, m69)) else cl2 (fX6_readWord m46) fun r73 m74 => ck (r73 = 0 ∨ r73 = 1) (some (r73, m74)) else cl2 (fX6_readRib m41) fun r78 m79 => ck (r78 = 0 ∨ r78 = 1) (some (r78, m79))
set_option maxRecDepth 20000 in
theorem kX6_readLine_64 {S : Sh} (hS : ShOK S) {res : Int32 × Me} {t0 : Int32} {m : Me} (hf : fX6_readLine_64 t0 m = some res) (hI : Inv m) : TT InvS (Call 10) mX6_readLine (64, [(0, .ref 1)], [.int t0], S, m) (some (.int res.1)) (S, res.2) := by
  unfold fX6_readLine_64 at hf
  refine to_istore_n (q := 65) [(1, .int t0), (0, .ref 1)] rfl (by decide) dX6_readLine_64 rfl ?_
  refine to_iload_n (q := 66) rfl dX6_readLine_65 rfl ?_
  by_cases h36 : t0 = (0 : Int32)
  · have hf := ite_pos h36 hf
    refine to_ifF (q := 69) (op := .ne) 75 (fun z => z h36) dX6_readLine_66 rfl rfl ?_
    refine to_aload_n (q := 70) rfl (by decide) dX6_readLine_69 rfl ?_
    refine to_iconst (q := 71) ic_1 dX6_readLine_70 rfl ?_
    obtain ⟨r88, m89, hc86, hf⟩ := cl2_some hf
    have qc87 := kX6_fail hS hc86 hI
    refine to_virtI (q := 74) mX6_fail [.int (1 : Int32)] dX6_readLine_71 rfl rfl (Nat.le_of_ble_eq_true rfl) mo_X6_fail mv_X6_61 (Or.inl ⟨_, _, _, h_1 hS, rfl, rfl⟩) (Call_mono (by decide) qc87.1) ?_
    have hI := qc87.2
    obtain ⟨hz90, hf⟩ := ck_some hf
    cases hf
    exact to_iret dX6_readLine_74 rfl (nf_Z hz90).1 rfl rfl hI
  · have hf := ite_neg h36 hf
    refine to_ifT (q := 75) (op := .ne) h36 dX6_readLine_66 rfl ?_
    refine to_aload_n (q := 76) rfl (by decide) dX6_readLine_75 rfl ?_
    refine to_getI (q := 79) (k0 := 6) (C := RX6) (T := TX6) (N := 10) (j := 3) rfl fx_X6_38 (h_1 hS) rfl dX6_readLine_76 rfl ?_
    by_cases h37 : (m.1 1 3) = (0 : Int32)
    · have hf := ite_pos h37 hf
      refine to_ifF (q := 82) (op := .ne) 89 (fun z => z h37) dX6_readLine_79 rfl rfl ?_
      refine to_aload_n (q := 83) rfl (by decide) dX6_readLine_82 rfl ?_
      refine to_bipush (q := 85) bp_6 dX6_readLine_83 rfl ?_
      obtain ⟨r83, m84, hc81, hf⟩ := cl2_some hf
      have qc82 := kX6_fail hS hc81 hI
      refine to_virtI (q := 88) mX6_fail [.int (6 : Int32)] dX6_readLine_85 rfl rfl (Nat.le_of_ble_eq_true rfl) mo_X6_fail mv_X6_61 (Or.inl ⟨_, _, _, h_1 hS, rfl, rfl⟩) (Call_mono (by decide) qc82.1) ?_
      have hI := qc82.2
      obtain ⟨hz85, hf⟩ := ck_some hf
      cases hf
      exact to_iret dX6_readLine_88 rfl (nf_Z hz85).1 rfl rfl hI
    · have hf := ite_neg h37 hf
      refine to_ifT (q := 89) (op := .ne) h37 dX6_readLine_79 rfl ?_
      refine to_aload_n (q := 90) rfl (by decide) dX6_readLine_89 rfl ?_
      refine to_ldcS (q := 92) (i := 7) rfl dX6_readLine_90 rfl ?_
      obtain ⟨r40, m41, hc38, hf⟩ := cl2_some hf
      have qc39 := kX6_isName hS hc38 (by decide) hI
      refine to_virtI (q := 95) mX6_isName [.ref (1000000 + 7)] dX6_readLine_92 rfl rfl (Nat.le_of_ble_eq_true rfl) mo_X6_isName mv_X6_74 (Or.inl ⟨_, _, _, h_1 hS, rfl, rfl⟩) (Call_mono (by decide) qc39.1) ?_
      have hI := qc39.2
      by_cases h42 : r40 = (0 : Int32)
      · have hf := ite_pos h42 hf
        refine to_ifT (q := 103) (op := .eq) h42 dX6_readLine_95 rfl ?_
        refine to_aload_n (q := 104) rfl (by decide) dX6_readLine_103 rfl ?_
        refine to_ldcS (q := 106) (i := 8) rfl dX6_readLine_104 rfl ?_
        obtain ⟨r45, m46, hc43, hf⟩ := cl2_some hf
        have qc44 := kX6_isName hS hc43 (by decide) hI
        refine to_virtI (q := 109) mX6_isName [.ref (1000000 + 8)] dX6_readLine_106 rfl rfl (Nat.le_of_ble_eq_true rfl) mo_X6_isName mv_X6_74 (Or.inl ⟨_, _, _, h_1 hS, rfl, rfl⟩) (Call_mono (by decide) qc44.1) ?_
        have hI := qc44.2
        by_cases h47 : r45 = (0 : Int32)
        · have hf := ite_pos h47 hf
          refine to_ifT (q := 117) (op := .eq) h47 dX6_readLine_109 rfl ?_
          refine to_aload_n (q := 118) rfl (by decide) dX6_readLine_117 rfl ?_
          refine to_ldcS (q := 120) (i := 9) rfl dX6_readLine_118 rfl ?_
          obtain ⟨r50, m51, hc48, hf⟩ := cl2_some hf
          have qc49 := kX6_isName hS hc48 (by decide) hI
          refine to_virtI (q := 123) mX6_isName [.ref (1000000 + 9)] dX6_readLine_120 rfl rfl (Nat.le_of_ble_eq_true rfl) mo_X6_isName mv_X6_74 (Or.inl ⟨_, _, _, h_1 hS, rfl, rfl⟩) (Call_mono (by decide) qc49.1) ?_
          have hI := qc49.2
          by_cases h52 : r50 = (0 : Int32)
          · have hf := ite_pos h52 hf
            refine to_ifT (q := 131) (op := .eq) h52 dX6_readLine_123 rfl ?_
            refine to_aload_n (q := 132) rfl (by decide) dX6_readLine_131 rfl ?_
            refine to_ldcS (q := 134) (i := 10) rfl dX6_readLine_132 rfl ?_
            obtain ⟨r55, m56, hc53, hf⟩ := cl2_some hf
            have qc54 := kX6_isName hS hc53 (by decide) hI
            refine to_virtI (q := 137) mX6_isName [.ref (1000000 + 10)] dX6_readLine_134 rfl rfl (Nat.le_of_ble_eq_true rfl) mo_X6_isName mv_X6_74 (Or.inl ⟨_, _, _, h_1 hS, rfl, rfl⟩) (Call_mono (by decide) qc54.1) ?_
            have hI := qc54.2
            by_cases h57 : r55 = (0 : Int32)
            · have hf := ite_pos h57 hf
              refine to_ifT (q := 147) (op := .eq) h57 dX6_readLine_137 rfl ?_
              refine to_aload_n (q := 148) rfl (by decide) dX6_readLine_147 rfl ?_
              obtain ⟨r60, m61, hc58, hf⟩ := cl2_some hf
              have qc59 := kX6_readBeats hS hc58 hI
              refine to_virtI (q := 151) mX6_readBeats [] dX6_readLine_148 rfl rfl (Nat.le_of_ble_eq_true rfl) mo_X6_readBeats mv_X6_122 (Or.inl ⟨_, _, _, h_1 hS, rfl, rfl⟩) (Call_mono (by decide) qc59.1) ?_
              have hI := qc59.2
              exact to_ext [] ext_nil (kX6_readLine_151 hS hf hI)
            · have hf := ite_neg h57 hf
              refine to_ifF (q := 140) (op := .eq) 147 h57 dX6_readLine_137 rfl rfl ?_
              refine to_aload_n (q := 141) rfl (by decide) dX6_readLine_140 rfl ?_
              obtain ⟨r64, m65, hc62, hf⟩ := cl2_some hf
              have qc63 := kX6_readSeen hS hc62 hI
              refine to_virtI (q := 144) mX6_readSeen [] dX6_readLine_141 rfl rfl (Nat.le_of_ble_eq_true rfl) mo_X6_readSeen mv_X6_119 (Or.inl ⟨_, _, _, h_1 hS, rfl, rfl⟩) (Call_mono (by decide) qc63.1) ?_
              have hI := qc63.2
              refine to_goto (q := 151) dX6_readLine_144 rfl ?_
              exact to_ext [] ext_nil (kX6_readLine_151 hS hf hI)
          · have hf := ite_neg h52 hf
            refine to_ifF (q := 126) (op := .eq) 131 h52 dX6_readLine_123 rfl rfl ?_
            refine to_aload_n (q := 127) rfl (by decide) dX6_readLine_126 rfl ?_
            obtain ⟨r68, m69, hc66, hf⟩ := cl2_some hf
            have qc67 := kX6_readWish hS hc66 hI
            refine to_virtI (q := 130) mX6_readWish [] dX6_readLine_127 rfl rfl (Nat.le_of_ble_eq_true rfl) mo_X6_readWish mv_X6_116 (Or.inl ⟨_, _, _, h_1 hS, rfl, rfl⟩) (Call_mono (by decide) qc67.1) ?_
            have hI := qc67.2
            obtain ⟨hz70, hf⟩ := ck_some hf
            cases hf
            exact to_iret dX6_readLine_130 rfl (nf_Z hz70).1 rfl rfl hI
        · have hf := ite_neg h47 hf
          refine to_ifF (q := 112) (op := .eq) 117 h47 dX6_readLine_109 rfl rfl ?_
          refine to_aload_n (q := 113) rfl (by decide) dX6_readLine_112 rfl ?_
          obtain ⟨r73, m74, hc71, hf⟩ := cl2_some hf
          have qc72 := kX6_readWord hS hc71 hI
          refine to_virtI (q := 116) mX6_readWord [] dX6_readLine_113 rfl rfl (Nat.le_of_ble_eq_true rfl) mo_X6_readWord mv_X6_113 (Or.inl ⟨_, _, _, h_1 hS, rfl, rfl⟩) (Call_mono (by decide) qc72.1) ?_
          have hI := qc72.2
          obtain ⟨hz75, hf⟩ := ck_some hf
          cases hf
          exact to_iret dX6_readLine_116 rfl (nf_Z hz75).1 rfl rfl hI
      · have hf := ite_neg h42 hf
        refine to_ifF (q := 98) (op := .eq) 103 h42 dX6_readLine_95 rfl rfl ?_
        refine to_aload_n (q := 99) rfl (by decide) dX6_readLine_98 rfl ?_
        obtain ⟨r78, m79, hc76, hf⟩ := cl2_some hf
        have qc77 := kX6_readRib hS hc76 hI
        refine to_virtI (q := 102) mX6_readRib [] dX6_readLine_99 rfl rfl (Nat.le_of_ble_eq_true rfl) mo_X6_readRib mv_X6_110 (Or.inl ⟨_, _, _, h_1 hS, rfl, rfl⟩) (Call_mono (by decide) qc77.1) ?_
        have hI := qc77.2
        obtain ⟨hz80, hf⟩ := ck_some hf
        cases hf
        exact to_iret dX6_readLine_102 rfl (nf_Z hz80).1 rfl rfl hI
def fX6_readLine_59 (m : Me) : Option (Int32 × Me) := fX6_readLine_64 ((1 : Int32)) m
set_option maxRecDepth 20000 in
theorem kX6_readLine_59 {S : Sh} (hS : ShOK S) {res : Int32 × Me} {m : Me} (hf : fX6_readLine_59 m = some res) (hI : Inv m) : TT InvS (Call 10) mX6_readLine (59, [(0, .ref 1)], [], S, m) (some (.int res.1)) (S, res.2) := by
  unfold fX6_readLine_59 at hf
  refine to_iconst (q := 60) ic_1 dX6_readLine_59 rfl ?_
  refine to_goto (q := 64) dX6_readLine_60 rfl ?_
  exact to_ext [(0, .ref 1)] (ext_cons rfl ext_nil) (kX6_readLine_64 hS hf hI)
def fX6_readLine (m : Me) : Option (Int32 × Me) := cl2 (fX6_isName 0 m) fun r3 m4 => if r3 = (0 : Int32) then cl2 (fX6_isName 7 m4) fun r8 m9 => if r8 = (0 : Int32) then cl2 (fX6_isName 8 m9) fun r13 m14 => if r13 = (0 : Int32) then cl2 (fX6_isName 9 m14) fun r18 m19 => if r18 = (0 : Int32) then cl2 (fX6_isName 10 m19) fun r23 m24 => if r23 = (0 : Int32) then cl2 (fX6_isName 11 m24) fun r28 m29 => if r28 = (0 : Int32) then fX6_readLine_64 ((0 : Int32)) m29 else fX6_readLine_59 m29 else fX6_readLine_59 m24 else fX6_readLine_59 m19 else fX6_readLine_59 m14 else fX6_readLine_59 m9 else cl2 (fX6_readFanLine m4) fun r33 m34 => ck (r33 = 0 ∨ r33 = 1) (some (r33, m34))
set_option maxRecDepth 20000 in
theorem kX6_readLine {S : Sh} (hS : ShOK S) {res : Int32 × Me} {m : Me} (hf : fX6_readLine m = some res) (hI : Inv m) : Call 11 mX6_readLine [.ref 1] (S, m) (some (.int res.1)) (S, res.2) ∧ Inv res.2 := by
  refine call_of (P := InvS) (Nat.le_of_ble_eq_true rfl) (by simp [Value.category]) ?_
  show TT InvS (Call 10) mX6_readLine (0, [(0, .ref 1)], [], S, m) _ _
  unfold fX6_readLine at hf
  refine to_aload_n (q := 1) rfl (by decide) dX6_readLine_0 rfl ?_
  refine to_ldcS (q := 3) (i := 0) rfl dX6_readLine_1 rfl ?_
  obtain ⟨r3, m4, hc1, hf⟩ := cl2_some hf
  have qc2 := kX6_isName hS hc1 (by decide) hI
  refine to_virtI (q := 6) mX6_isName [.ref (1000000 + 0)] dX6_readLine_3 rfl rfl (Nat.le_of_ble_eq_true rfl) mo_X6_isName mv_X6_74 (Or.inl ⟨_, _, _, h_1 hS, rfl, rfl⟩) (Call_mono (by decide) qc2.1) ?_
  have hI := qc2.2
  by_cases h5 : r3 = (0 : Int32)
  · have hf := ite_pos h5 hf
    refine to_ifT (q := 14) (op := .eq) h5 dX6_readLine_6 rfl ?_
    refine to_aload_n (q := 15) rfl (by decide) dX6_readLine_14 rfl ?_
    refine to_ldcS (q := 17) (i := 7) rfl dX6_readLine_15 rfl ?_
    obtain ⟨r8, m9, hc6, hf⟩ := cl2_some hf
    have qc7 := kX6_isName hS hc6 (by decide) hI
    refine to_virtI (q := 20) mX6_isName [.ref (1000000 + 7)] dX6_readLine_17 rfl rfl (Nat.le_of_ble_eq_true rfl) mo_X6_isName mv_X6_74 (Or.inl ⟨_, _, _, h_1 hS, rfl, rfl⟩) (Call_mono (by decide) qc7.1) ?_
    have hI := qc7.2
    by_cases h10 : r8 = (0 : Int32)
    · have hf := ite_pos h10 hf
      refine to_ifF (q := 23) (op := .ne) 59 (fun z => z h10) dX6_readLine_20 rfl rfl ?_
      refine to_aload_n (q := 24) rfl (by decide) dX6_readLine_23 rfl ?_
      refine to_ldcS (q := 26) (i := 8) rfl dX6_readLine_24 rfl ?_
      obtain ⟨r13, m14, hc11, hf⟩ := cl2_some hf
      have qc12 := kX6_isName hS hc11 (by decide) hI
      refine to_virtI (q := 29) mX6_isName [.ref (1000000 + 8)] dX6_readLine_26 rfl rfl (Nat.le_of_ble_eq_true rfl) mo_X6_isName mv_X6_74 (Or.inl ⟨_, _, _, h_1 hS, rfl, rfl⟩) (Call_mono (by decide) qc12.1) ?_
      have hI := qc12.2
      by_cases h15 : r13 = (0 : Int32)
      · have hf := ite_pos h15 hf
        refine to_ifF (q := 32) (op := .ne) 59 (fun z => z h15) dX6_readLine_29 rfl rfl ?_
        refine to_aload_n (q := 33) rfl (by decide) dX6_readLine_32 rfl ?_
        refine to_ldcS (q := 35) (i := 9) rfl dX6_readLine_33 rfl ?_
        obtain ⟨r18, m19, hc16, hf⟩ := cl2_some hf
        have qc17 := kX6_isName hS hc16 (by decide) hI
        refine to_virtI (q := 38) mX6_isName [.ref (1000000 + 9)] dX6_readLine_35 rfl rfl (Nat.le_of_ble_eq_true rfl) mo_X6_isName mv_X6_74 (Or.inl ⟨_, _, _, h_1 hS, rfl, rfl⟩) (Call_mono (by decide) qc17.1) ?_
        have hI := qc17.2
        by_cases h20 : r18 = (0 : Int32)
        · have hf := ite_pos h20 hf
          refine to_ifF (q := 41) (op := .ne) 59 (fun z => z h20) dX6_readLine_38 rfl rfl ?_
          refine to_aload_n (q := 42) rfl (by decide) dX6_readLine_41 rfl ?_
          refine to_ldcS (q := 44) (i := 10) rfl dX6_readLine_42 rfl ?_
          obtain ⟨r23, m24, hc21, hf⟩ := cl2_some hf
          have qc22 := kX6_isName hS hc21 (by decide) hI
          refine to_virtI (q := 47) mX6_isName [.ref (1000000 + 10)] dX6_readLine_44 rfl rfl (Nat.le_of_ble_eq_true rfl) mo_X6_isName mv_X6_74 (Or.inl ⟨_, _, _, h_1 hS, rfl, rfl⟩) (Call_mono (by decide) qc22.1) ?_
          have hI := qc22.2
          by_cases h25 : r23 = (0 : Int32)
          · have hf := ite_pos h25 hf
            refine to_ifF (q := 50) (op := .ne) 59 (fun z => z h25) dX6_readLine_47 rfl rfl ?_
            refine to_aload_n (q := 51) rfl (by decide) dX6_readLine_50 rfl ?_
            refine to_ldcS (q := 53) (i := 11) rfl dX6_readLine_51 rfl ?_
            obtain ⟨r28, m29, hc26, hf⟩ := cl2_some hf
            have qc27 := kX6_isName hS hc26 (by decide) hI
            refine to_virtI (q := 56) mX6_isName [.ref (1000000 + 11)] dX6_readLine_53 rfl rfl (Nat.le_of_ble_eq_true rfl) mo_X6_isName mv_X6_74 (Or.inl ⟨_, _, _, h_1 hS, rfl, rfl⟩) (Call_mono (by decide) qc27.1) ?_
            have hI := qc27.2
            by_cases h30 : r28 = (0 : Int32)
            · have hf := ite_pos h30 hf
              refine to_ifT (q := 63) (op := .eq) h30 dX6_readLine_56 rfl ?_
              refine to_iconst (q := 64) ic_0 dX6_readLine_63 rfl ?_
              exact to_ext [(0, .ref 1)] (ext_cons rfl ext_nil) (kX6_readLine_64 hS hf hI)
            · have hf := ite_neg h30 hf
              refine to_ifF (q := 59) (op := .eq) 63 h30 dX6_readLine_56 rfl rfl ?_
              exact to_ext [(0, .ref 1)] (ext_cons rfl ext_nil) (kX6_readLine_59 hS hf hI)
          · have hf := ite_neg h25 hf
            refine to_ifT (q := 59) (op := .ne) h25 dX6_readLine_47 rfl ?_
            exact to_ext [(0, .ref 1)] (ext_cons rfl ext_nil) (kX6_readLine_59 hS hf hI)
        · have hf := ite_neg h20 hf
          refine to_ifT (q := 59) (op := .ne) h20 dX6_readLine_38 rfl ?_
          exact to_ext [(0, .ref 1)] (ext_cons rfl ext_nil) (kX6_readLine_59 hS hf hI)
      · have hf := ite_neg h15 hf
        refine to_ifT (q := 59) (op := .ne) h15 dX6_readLine_29 rfl ?_
        exact to_ext [(0, .ref 1)] (ext_cons rfl ext_nil) (kX6_readLine_59 hS hf hI)
    · have hf := ite_neg h10 hf
      refine to_ifT (q := 59) (op := .ne) h10 dX6_readLine_20 rfl ?_
      exact to_ext [(0, .ref 1)] (ext_cons rfl ext_nil) (kX6_readLine_59 hS hf hI)
  · have hf := ite_neg h5 hf
    refine to_ifF (q := 9) (op := .eq) 14 h5 dX6_readLine_6 rfl rfl ?_
    refine to_aload_n (q := 10) rfl (by decide) dX6_readLine_9 rfl ?_
    obtain ⟨r33, m34, hc31, hf⟩ := cl2_some hf
    have qc32 := kX6_readFanLine hS hc31 hI
    refine to_virtI (q := 13) mX6_readFanLine [] dX6_readLine_10 rfl rfl (Nat.le_of_ble_eq_true rfl) mo_X6_readFanLine mv_X6_97 (Or.inl ⟨_, _, _, h_1 hS, rfl, rfl⟩) (Call_mono (by decide) qc32.1) ?_
    have hI := qc32.2
    obtain ⟨hz35, hf⟩ := ck_some hf
    cases hf
    exact to_iret dX6_readLine_13 rfl (nf_Z hz35).1 rfl rfl hI
def fX6_readFan_51 (n : Nat) (x2 : Int32) (m : Me) : Option (Int32 × Me) := match n with
  | 0 => none
  | n + 1 => if (900 : Int32) < x2 then cl2 (fX6_fail (1 : Int32) m) fun r11 m12 => ck (r11 = 0 ∨ r11 = 1) (some (r11, m12)) else cl2 (fX6_readLine m) fun r16 m17 => if r16 = (0 : Int32) then some ((0 : Int32), m17) else if (m17.1 1 4) = (0 : Int32) then some ((1 : Int32), m17) else if (m17.1 1 4) = (3 : Int32) then cl1 (fX6_step m17) fun m23 => fX6_readFan_51 n ((x2 + (1 : Int32))) m23 else cl2 (fX6_fail (1 : Int32) m17) fun r26 m27 => ck (r26 = 0 ∨ r26 = 1) (some (r26, m27))
set_option maxRecDepth 20000 in
theorem kX6_readFan_51 {S : Sh} (hS : ShOK S) {res : Int32 × Me} (n : Nat) : ∀ {x2 : Int32} {m : Me}, fX6_readFan_51 n x2 m = some res → Inv m → TT InvS (Call 11) mX6_readFan (51, [(0, .ref 1), (2, .int x2)], [], S, m) (some (.int res.1)) (S, res.2) := by
  induction n with
  | zero => intro x2 m hf; cases hf
  | succ n ih =>
    intro x2 m hf  hI
    unfold fX6_readFan_51 at hf
    refine to_iload_n (q := 52) rfl dX6_readFan_51 rfl ?_
    refine to_sipush (q := 55) sp_900 dX6_readFan_52 rfl ?_
    by_cases h8 : (900 : Int32) < x2
    · have hf := ite_pos h8 hf
      refine to_icT (q := 100) (op := .gt) h8 dX6_readFan_55 rfl ?_
      refine to_aload_n (q := 101) rfl (by decide) dX6_readFan_100 rfl ?_
      refine to_iconst (q := 102) ic_1 dX6_readFan_101 rfl ?_
      obtain ⟨r11, m12, hc9, hf⟩ := cl2_some hf
      have qc10 := kX6_fail hS hc9 hI
      refine to_virtI (q := 105) mX6_fail [.int (1 : Int32)] dX6_readFan_102 rfl rfl (Nat.le_of_ble_eq_true rfl) mo_X6_fail mv_X6_61 (Or.inl ⟨_, _, _, h_1 hS, rfl, rfl⟩) (Call_mono (by decide) qc10.1) ?_
      have hI := qc10.2
      obtain ⟨hz13, hf⟩ := ck_some hf
      cases hf
      exact to_iret dX6_readFan_105 rfl (nf_Z hz13).1 rfl rfl hI
    · have hf := ite_neg h8 hf
      refine to_icF (q := 58) (op := .gt) 100 h8 dX6_readFan_55 rfl rfl ?_
      refine to_aload_n (q := 59) rfl (by decide) dX6_readFan_58 rfl ?_
      obtain ⟨r16, m17, hc14, hf⟩ := cl2_some hf
      have qc15 := kX6_readLine hS hc14 hI
      refine to_virtI (q := 62) mX6_readLine [] dX6_readFan_59 rfl rfl (Nat.le_of_ble_eq_true rfl) mo_X6_readLine mv_X6_54 (Or.inl ⟨_, _, _, h_1 hS, rfl, rfl⟩) (Call_mono (by decide) qc15.1) ?_
      have hI := qc15.2
      by_cases h18 : r16 = (0 : Int32)
      · have hf := ite_pos h18 hf
        refine to_ifF (q := 65) (op := .ne) 67 (fun z => z h18) dX6_readFan_62 rfl rfl ?_
        refine to_iconst (q := 66) ic_0 dX6_readFan_65 rfl ?_
        cases hf
        exact to_iret dX6_readFan_66 rfl (by decide) rfl rfl hI
      · have hf := ite_neg h18 hf
        refine to_ifT (q := 67) (op := .ne) h18 dX6_readFan_62 rfl ?_
        refine to_aload_n (q := 68) rfl (by decide) dX6_readFan_67 rfl ?_
        refine to_getI (q := 71) (k0 := 6) (C := RX6) (T := TX6) (N := 10) (j := 4) rfl fx_X6_58 (h_1 hS) rfl dX6_readFan_68 rfl ?_
        by_cases h19 : (m17.1 1 4) = (0 : Int32)
        · have hf := ite_pos h19 hf
          refine to_ifF (q := 74) (op := .ne) 76 (fun z => z h19) dX6_readFan_71 rfl rfl ?_
          refine to_iconst (q := 75) ic_1 dX6_readFan_74 rfl ?_
          cases hf
          exact to_iret dX6_readFan_75 rfl (by decide) rfl rfl hI
        · have hf := ite_neg h19 hf
          refine to_ifT (q := 76) (op := .ne) h19 dX6_readFan_71 rfl ?_
          refine to_aload_n (q := 77) rfl (by decide) dX6_readFan_76 rfl ?_
          refine to_getI (q := 80) (k0 := 6) (C := RX6) (T := TX6) (N := 10) (j := 4) rfl fx_X6_58 (h_1 hS) rfl dX6_readFan_77 rfl ?_
          refine to_iconst (q := 81) ic_3 dX6_readFan_80 rfl ?_
          by_cases h20 : (m17.1 1 4) = (3 : Int32)
          · have hf := ite_pos h20 hf
            refine to_icT (q := 90) (op := .eq) h20 dX6_readFan_81 rfl ?_
            refine to_aload_n (q := 91) rfl (by decide) dX6_readFan_90 rfl ?_
            obtain ⟨m23, hc21, hf⟩ := cl1_some hf
            have qc22 := kX6_step hS hc21 hI
            refine to_virtV (q := 94) mX6_step [] dX6_readFan_91 rfl rfl (Nat.le_of_ble_eq_true rfl) mo_X6_step mv_X6_51 (Or.inl ⟨_, _, _, h_1 hS, rfl, rfl⟩) (Call_mono (by decide) qc22.1) ?_
            have hI := qc22.2
            refine to_iinc (q := 97) (v := (x2 + (1 : Int32))) rfl (congrArg (fun z => x2 + z) ic_1) [(2, .int (x2 + (1 : Int32))), (0, .ref 1)] rfl (by decide) dX6_readFan_94 rfl ?_
            refine to_goto (q := 51) dX6_readFan_97 rfl ?_
            exact to_ext [(0, .ref 1), (2, .int (x2 + (1 : Int32)))] (ext_cons rfl (ext_cons rfl ext_nil)) (ih hf hI)
          · have hf := ite_neg h20 hf
            refine to_icF (q := 84) (op := .eq) 90 h20 dX6_readFan_81 rfl rfl ?_
            refine to_aload_n (q := 85) rfl (by decide) dX6_readFan_84 rfl ?_
            refine to_iconst (q := 86) ic_1 dX6_readFan_85 rfl ?_
            obtain ⟨r26, m27, hc24, hf⟩ := cl2_some hf
            have qc25 := kX6_fail hS hc24 hI
            refine to_virtI (q := 89) mX6_fail [.int (1 : Int32)] dX6_readFan_86 rfl rfl (Nat.le_of_ble_eq_true rfl) mo_X6_fail mv_X6_61 (Or.inl ⟨_, _, _, h_1 hS, rfl, rfl⟩) (Call_mono (by decide) qc25.1) ?_
            have hI := qc25.2
            obtain ⟨hz28, hf⟩ := ck_some hf
            cases hf
            exact to_iret dX6_readFan_89 rfl (nf_Z hz28).1 rfl rfl hI
def fX6_readFan (x1 : Int32) (m : Me) : Option (Int32 × Me) := cl1 (fX2_forget (rr m 1 2) (setI m 1 1 (if (900 : Int32) < x1 then (900 : Int32) else x1))) fun m4 => cl1 (fX6_step (setI (setI (setI (setI (setI m4 1 3 (0 : Int32)) 1 8 (0 : Int32)) 1 9 (-1 : Int32)) 1 5 (0 : Int32)) 1 6 (0 : Int32))) fun m7 => fX6_readFan_51 FU ((0 : Int32)) m7
set_option maxRecDepth 20000 in
theorem kX6_readFan {S : Sh} (hS : ShOK S) {res : Int32 × Me} {x1 : Int32} {m : Me} (hf : fX6_readFan x1 m = some res) (hI : Inv m) : Call 12 mX6_readFan [.ref 1, .int x1] (S, m) (some (.int res.1)) (S, res.2) ∧ Inv res.2 := by
  refine call_of (P := InvS) (Nat.le_of_ble_eq_true rfl) (by simp [Value.category]) ?_
  show TT InvS (Call 11) mX6_readFan (0, [(0, .ref 1), (1, .int x1)], [], S, m) _ _
  unfold fX6_readFan at hf
  refine to_aload_n (q := 1) rfl (by decide) dX6_readFan_0 rfl ?_
  refine to_iload_n (q := 2) rfl dX6_readFan_1 rfl ?_
  refine to_aload_n (q := 3) rfl (by decide) dX6_readFan_2 rfl ?_
  refine to_getR (q := 6) (b := 2) (k0 := 6) (C := RX6) (T := TX6) (N := 10) (j := 0) rfl fx_X6_9 (h_1 hS) rfl (iv_1_0 hI) dX6_readFan_3 rfl ?_
  refine to_alen (q := 7) (h_2 hS) (by decide) on_900 dX6_readFan_6 rfl ?_
  refine to_min (q := 10) dX6_readFan_7 rfl (Nat.le_of_ble_eq_true rfl) (lc_min lm_X6_26) ?_
  refine to_putI (q := 13) (ty := .int) (k0 := 6) (C := RX6) (T := TX6) (N := 10) (j := 1) rfl fx_X6_32 (h_1 hS) rfl pD_I (Or.inl rfl) (nf_I _) dX6_readFan_10 rfl ?_
  refine to_aload_n (q := 14) rfl (by decide) dX6_readFan_13 rfl ?_
  have hk1 : kd (rr m 1 2) = 2 := (ivF hI).2
  refine to_getR (q := 17) (b := rr m 1 2) (k0 := 6) (C := RX6) (T := TX6) (N := 10) (j := 2) rfl fx_X6_18 (h_1 hS) rfl ((ivF hI).1) dX6_readFan_14 rfl ?_
  obtain ⟨m4, hc2, hf⟩ := cl1_some hf
  have qc3 := kX2_forget hS hc2 (hk1) hI
  refine to_virtV (q := 20) mX2_forget [] dX6_readFan_17 rfl rfl (Nat.le_of_ble_eq_true rfl) mo_X2_forget mv_X6_35 (Or.inl ⟨_, _, _, sh_kd hS hk1 (by decide), rfl, rfl⟩) (Call_mono (by decide) qc3.1) ?_
  have hI := qc3.2
  refine to_aload_n (q := 21) rfl (by decide) dX6_readFan_20 rfl ?_
  refine to_iconst (q := 22) ic_0 dX6_readFan_21 rfl ?_
  refine to_putI (q := 25) (ty := .boolean) (k0 := 6) (C := RX6) (T := TX6) (N := 10) (j := 3) rfl fx_X6_38 (h_1 hS) rfl pD_Z (Or.inl rfl) (nf_Z (by decide)) dX6_readFan_22 rfl ?_
  refine to_aload_n (q := 26) rfl (by decide) dX6_readFan_25 rfl ?_
  refine to_iconst (q := 27) ic_0 dX6_readFan_26 rfl ?_
  refine to_putI (q := 30) (ty := .int) (k0 := 6) (C := RX6) (T := TX6) (N := 10) (j := 8) rfl fx_X6_42 (h_1 hS) rfl pD_I (Or.inl rfl) (nf_I _) dX6_readFan_27 rfl ?_
  refine to_aload_n (q := 31) rfl (by decide) dX6_readFan_30 rfl ?_
  refine to_iconst (q := 32) ic_m1 dX6_readFan_31 rfl ?_
  refine to_putI (q := 35) (ty := .int) (k0 := 6) (C := RX6) (T := TX6) (N := 10) (j := 9) rfl fx_X6_22 (h_1 hS) rfl pD_I (Or.inl rfl) (nf_I _) dX6_readFan_32 rfl ?_
  refine to_aload_n (q := 36) rfl (by decide) dX6_readFan_35 rfl ?_
  refine to_iconst (q := 37) ic_0 dX6_readFan_36 rfl ?_
  refine to_putI (q := 40) (ty := .int) (k0 := 6) (C := RX6) (T := TX6) (N := 10) (j := 5) rfl fx_X6_45 (h_1 hS) rfl pD_I (Or.inl rfl) (nf_I _) dX6_readFan_37 rfl ?_
  refine to_aload_n (q := 41) rfl (by decide) dX6_readFan_40 rfl ?_
  refine to_iconst (q := 42) ic_0 dX6_readFan_41 rfl ?_
  refine to_putI (q := 45) (ty := .int) (k0 := 6) (C := RX6) (T := TX6) (N := 10) (j := 6) rfl fx_X6_48 (h_1 hS) rfl pD_I (Or.inl rfl) (nf_I _) dX6_readFan_42 rfl ?_
  refine to_aload_n (q := 46) rfl (by decide) dX6_readFan_45 rfl ?_
  obtain ⟨m7, hc5, hf⟩ := cl1_some hf
  have qc6 := kX6_step hS hc5 hI
  refine to_virtV (q := 49) mX6_step [] dX6_readFan_46 rfl rfl (Nat.le_of_ble_eq_true rfl) mo_X6_step mv_X6_51 (Or.inl ⟨_, _, _, h_1 hS, rfl, rfl⟩) (Call_mono (by decide) qc6.1) ?_
  have hI := qc6.2
  refine to_iconst (q := 50) ic_0 dX6_readFan_49 rfl ?_
  refine to_istore_n (q := 51) [(2, .int (0 : Int32)), (0, .ref 1), (1, .int x1)] rfl (by decide) dX6_readFan_50 rfl ?_
  exact to_ext [(0, .ref 1), (2, .int (0 : Int32))] (ext_cons rfl (ext_cons rfl ext_nil)) (kX6_readFan_51 hS FU hf hI)
theorem x_X6_exchange {a1 : Nat} {m m1 : Me} {r : Nat} (hf : fX6_exchange a1 m = some (r, m1)) (hI : Inv m) : kd r = 2 := by
  unfold fX6_exchange at hf
  cases hf
  exact (ivF hI).2
