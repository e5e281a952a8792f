def fX11_undo (m : Me) : Option (Int32 × Me) := cl1 (fX11_good m) fun m3 => if (m3.1 138 21) = (0 : Int32) then cl2 (fX11_isNot (6 : Int32) m3) fun r10 m11 => ck (r10 = 0 ∨ r10 = 1) (some (r10, m11)) else cl1 (fX11_copy 145 (((62 : Int32) * ((setI m3 138 21 ((m3.1 138 21) - (1 : Int32))).1 138 21))) 143 (0 : Int32) (62 : Int32) (setI m3 138 21 ((m3.1 138 21) - (1 : Int32)))) fun m7 => some ((1 : Int32), m7)
set_option maxRecDepth 20000 in
theorem kX11_undo {S : Sh} (hS : ShOK S) {res : Int32 × Me} {m : Me} (hf : fX11_undo m = some res) (hI : Inv m) : Call 2 mX11_undo [.ref 138] (S, m) (some (.int res.1)) (S, res.2) ∧ Inv res.2 := by
  refine call_of (P := InvS) (Nat.le_of_ble_eq_true rfl) (by simp [Value.category]) ?_
  show TT InvS (Call 1) mX11_undo (0, [(0, .ref 138)], [], S, m) _ _
  unfold fX11_undo at hf
  refine to_aload_n (q := 1) rfl (by decide) dX11_undo_0 rfl ?_
  obtain ⟨m3, hc1, hf⟩ := cl1_some hf
  have qc2 := kX11_good hS hc1 hI
  refine to_virtV (q := 4) mX11_good [] dX11_undo_1 rfl rfl (Nat.le_of_ble_eq_true rfl) mo_X11_good mv_X11_156 (Or.inl ⟨_, _, _, h_138 hS, rfl, rfl⟩) (Call_mono (by decide) qc2.1) ?_
  have hI := qc2.2
  refine to_aload_n (q := 5) rfl (by decide) dX11_undo_4 rfl ?_
  refine to_getI (q := 8) (k0 := 11) (C := RX11) (T := TX11) (N := 37) (j := 21) rfl fx_X11_172 (h_138 hS) rfl dX11_undo_5 rfl ?_
  by_cases h4 : (m3.1 138 21) = (0 : Int32)
  · have hf := ite_pos h4 hf
    refine to_ifF (q := 11) (op := .ne) 18 (fun z => z h4) dX11_undo_8 rfl rfl ?_
    refine to_aload_n (q := 12) rfl (by decide) dX11_undo_11 rfl ?_
    refine to_bipush (q := 14) bp_6 dX11_undo_12 rfl ?_
    obtain ⟨r10, m11, hc8, hf⟩ := cl2_some hf
    have qc9 := kX11_isNot hS hc8 hI
    refine to_virtI (q := 17) mX11_isNot [.int (6 : Int32)] dX11_undo_14 rfl rfl (Nat.le_of_ble_eq_true rfl) mo_X11_isNot mv_X11_381 (Or.inl ⟨_, _, _, h_138 hS, rfl, rfl⟩) (Call_mono (by decide) qc9.1) ?_
    have hI := qc9.2
    obtain ⟨hz12, hf⟩ := ck_some hf
    cases hf
    exact to_iret dX11_undo_17 rfl (nf_Z hz12).1 rfl rfl hI
  · have hf := ite_neg h4 hf
    refine to_ifT (q := 18) (op := .ne) h4 dX11_undo_8 rfl ?_
    refine to_aload_n (q := 19) rfl (by decide) dX11_undo_18 rfl ?_
    refine to_dup (q := 20) rfl dX11_undo_19 rfl ?_
    refine to_getI (q := 23) (k0 := 11) (C := RX11) (T := TX11) (N := 37) (j := 21) rfl fx_X11_172 (h_138 hS) rfl dX11_undo_20 rfl ?_
    refine to_iconst (q := 24) ic_1 dX11_undo_23 rfl ?_
    refine to_isub (q := 25) dX11_undo_24 rfl ?_
    refine to_putI (q := 28) (ty := .int) (k0 := 11) (C := RX11) (T := TX11) (N := 37) (j := 21) rfl fx_X11_172 (h_138 hS) rfl pD_I (Or.inl rfl) (nf_I _) dX11_undo_25 rfl ?_
    refine to_aload_n (q := 29) rfl (by decide) dX11_undo_28 rfl ?_
    refine to_getR (q := 32) (b := 145) (k0 := 11) (C := RX11) (T := TX11) (N := 37) (j := 19) rfl fx_X11_32 (h_138 hS) rfl (iv_138_19 hI) dX11_undo_29 rfl ?_
    refine to_bipush (q := 34) bp_62 dX11_undo_32 rfl ?_
    refine to_aload_n (q := 35) rfl (by decide) dX11_undo_34 rfl ?_
    refine to_getI (q := 38) (k0 := 11) (C := RX11) (T := TX11) (N := 37) (j := 21) rfl fx_X11_172 (h_138 hS) rfl dX11_undo_35 rfl ?_
    refine to_imul (q := 39) dX11_undo_38 rfl ?_
    refine to_aload_n (q := 40) rfl (by decide) dX11_undo_39 rfl ?_
    refine to_getR (q := 43) (b := 143) (k0 := 11) (C := RX11) (T := TX11) (N := 37) (j := 17) rfl fx_X11_26 (h_138 hS) rfl (iv_138_17 hI) dX11_undo_40 rfl ?_
    refine to_iconst (q := 44) ic_0 dX11_undo_43 rfl ?_
    refine to_bipush (q := 46) bp_62 dX11_undo_44 rfl ?_
    obtain ⟨m7, hc5, hf⟩ := cl1_some hf
    have qc6 := kX11_copy hS hc5 rfl rfl hI
    refine to_statV (q := 49) mX11_copy [.ref 145, .int ((62 : Int32) * ((setI m3 138 21 ((m3.1 138 21) - (1 : Int32))).1 138 21)), .ref 143, .int (0 : Int32), .int (62 : Int32)] dX11_undo_46 rfl rfl (Nat.le_of_ble_eq_true rfl) mo_X11_copy (Or.inl ml_X11_165) sa_X11_copy (Call_mono (by decide) qc6.1) ?_
    have hI := qc6.2
    refine to_iconst (q := 50) ic_1 dX11_undo_49 rfl ?_
    cases hf
    exact to_iret dX11_undo_50 rfl (by decide) rfl rfl hI
def fX11_image (m : Me) : Option (Int32 × Me) := cl1 (fX11_good m) fun m3 => if (m3.1 138 14) = (0 : Int32) then cl2 (fX11_no (1 : Int32) m3) fun r15 m16 => some (r15, m16) else if (m3.1 138 22) = (3 : Int32) then cl2 (fX11_no (3 : Int32) m3) fun r11 m12 => some (r11, m12) else cl1 (fX11_copy 143 (0 : Int32) 146 (((62 : Int32) * (m3.1 138 22))) (62 : Int32) m3) fun m8 => some ((((setI m8 138 22 ((m8.1 138 22) + (1 : Int32))).1 138 22) - (1 : Int32)), (setI m8 138 22 ((m8.1 138 22) + (1 : Int32))))
set_option maxRecDepth 20000 in
theorem kX11_image {S : Sh} (hS : ShOK S) {res : Int32 × Me} {m : Me} (hf : fX11_image m = some res) (hI : Inv m) : Call 2 mX11_image [.ref 138] (S, m) (some (.int res.1)) (S, res.2) ∧ Inv res.2 := by
  refine call_of (P := InvS) (Nat.le_of_ble_eq_true rfl) (by simp [Value.category]) ?_
  show TT InvS (Call 1) mX11_image (0, [(0, .ref 138)], [], S, m) _ _
  unfold fX11_image at hf
  refine to_aload_n (q := 1) rfl (by decide) dX11_image_0 rfl ?_
  obtain ⟨m3, hc1, hf⟩ := cl1_some hf
  have qc2 := kX11_good hS hc1 hI
  refine to_virtV (q := 4) mX11_good [] dX11_image_1 rfl rfl (Nat.le_of_ble_eq_true rfl) mo_X11_good mv_X11_156 (Or.inl ⟨_, _, _, h_138 hS, rfl, rfl⟩) (Call_mono (by decide) qc2.1) ?_
  have hI := qc2.2
  refine to_aload_n (q := 5) rfl (by decide) dX11_image_4 rfl ?_
  refine to_getI (q := 8) (k0 := 11) (C := RX11) (T := TX11) (N := 37) (j := 14) rfl fx_X11_169 (h_138 hS) rfl dX11_image_5 rfl ?_
  by_cases h4 : (m3.1 138 14) = (0 : Int32)
  · have hf := ite_pos h4 hf
    refine to_ifF (q := 11) (op := .ne) 17 (fun z => z h4) dX11_image_8 rfl rfl ?_
    refine to_aload_n (q := 12) rfl (by decide) dX11_image_11 rfl ?_
    refine to_iconst (q := 13) ic_1 dX11_image_12 rfl ?_
    obtain ⟨r15, m16, hc13, hf⟩ := cl2_some hf
    have qc14 := kX11_no hS hc13 hI
    refine to_virtI (q := 16) mX11_no [.int (1 : Int32)] dX11_image_13 rfl rfl (Nat.le_of_ble_eq_true rfl) mo_X11_no mv_X11_159 (Or.inl ⟨_, _, _, h_138 hS, rfl, rfl⟩) (Call_mono (by decide) qc14.1) ?_
    have hI := qc14.2
    cases hf
    exact to_iret dX11_image_16 rfl rfl rfl rfl hI
  · have hf := ite_neg h4 hf
    refine to_ifT (q := 17) (op := .ne) h4 dX11_image_8 rfl ?_
    refine to_aload_n (q := 18) rfl (by decide) dX11_image_17 rfl ?_
    refine to_getI (q := 21) (k0 := 11) (C := RX11) (T := TX11) (N := 37) (j := 22) rfl fx_X11_175 (h_138 hS) rfl dX11_image_18 rfl ?_
    refine to_iconst (q := 22) ic_3 dX11_image_21 rfl ?_
    by_cases h5 : (m3.1 138 22) = (3 : Int32)
    · have hf := ite_pos h5 hf
      refine to_icF (q := 25) (op := .ne) 31 (fun z => z h5) dX11_image_22 rfl rfl ?_
      refine to_aload_n (q := 26) rfl (by decide) dX11_image_25 rfl ?_
      refine to_iconst (q := 27) ic_3 dX11_image_26 rfl ?_
      obtain ⟨r11, m12, hc9, hf⟩ := cl2_some hf
      have qc10 := kX11_no hS hc9 hI
      refine to_virtI (q := 30) mX11_no [.int (3 : Int32)] dX11_image_27 rfl rfl (Nat.le_of_ble_eq_true rfl) mo_X11_no mv_X11_159 (Or.inl ⟨_, _, _, h_138 hS, rfl, rfl⟩) (Call_mono (by decide) qc10.1) ?_
      have hI := qc10.2
      cases hf
      exact to_iret dX11_image_30 rfl rfl rfl rfl hI
    · have hf := ite_neg h5 hf
      refine to_icT (q := 31) (op := .ne) h5 dX11_image_22 rfl ?_
      refine to_aload_n (q := 32) rfl (by decide) dX11_image_31 rfl ?_
      refine to_getR (q := 35) (b := 143) (k0 := 11) (C := RX11) (T := TX11) (N := 37) (j := 17) rfl fx_X11_26 (h_138 hS) rfl (iv_138_17 hI) dX11_image_32 rfl ?_
      refine to_iconst (q := 36) ic_0 dX11_image_35 rfl ?_
      refine to_aload_n (q := 37) rfl (by decide) dX11_image_36 rfl ?_
      refine to_getR (q := 40) (b := 146) (k0 := 11) (C := RX11) (T := TX11) (N := 37) (j := 20) rfl fx_X11_35 (h_138 hS) rfl (iv_138_20 hI) dX11_image_37 rfl ?_
      refine to_bipush (q := 42) bp_62 dX11_image_40 rfl ?_
      refine to_aload_n (q := 43) rfl (by decide) dX11_image_42 rfl ?_
      refine to_getI (q := 46) (k0 := 11) (C := RX11) (T := TX11) (N := 37) (j := 22) rfl fx_X11_175 (h_138 hS) rfl dX11_image_43 rfl ?_
      refine to_imul (q := 47) dX11_image_46 rfl ?_
      refine to_bipush (q := 49) bp_62 dX11_image_47 rfl ?_
      obtain ⟨m8, hc6, hf⟩ := cl1_some hf
      have qc7 := kX11_copy hS hc6 rfl rfl hI
      refine to_statV (q := 52) mX11_copy [.ref 143, .int (0 : Int32), .ref 146, .int ((62 : Int32) * (m3.1 138 22)), .int (62 : Int32)] dX11_image_49 rfl rfl (Nat.le_of_ble_eq_true rfl) mo_X11_copy (Or.inl ml_X11_165) sa_X11_copy (Call_mono (by decide) qc7.1) ?_
      have hI := qc7.2
      refine to_aload_n (q := 53) rfl (by decide) dX11_image_52 rfl ?_
      refine to_dup (q := 54) rfl dX11_image_53 rfl ?_
      refine to_getI (q := 57) (k0 := 11) (C := RX11) (T := TX11) (N := 37) (j := 22) rfl fx_X11_175 (h_138 hS) rfl dX11_image_54 rfl ?_
      refine to_iconst (q := 58) ic_1 dX11_image_57 rfl ?_
      refine to_iadd (q := 59) dX11_image_58 rfl ?_
      refine to_putI (q := 62) (ty := .int) (k0 := 11) (C := RX11) (T := TX11) (N := 37) (j := 22) rfl fx_X11_175 (h_138 hS) rfl pD_I (Or.inl rfl) (nf_I _) dX11_image_59 rfl ?_
      refine to_aload_n (q := 63) rfl (by decide) dX11_image_62 rfl ?_
      refine to_getI (q := 66) (k0 := 11) (C := RX11) (T := TX11) (N := 37) (j := 22) rfl fx_X11_175 (h_138 hS) rfl dX11_image_63 rfl ?_
      refine to_iconst (q := 67) ic_1 dX11_image_66 rfl ?_
      refine to_isub (q := 68) dX11_image_67 rfl ?_
      cases hf
      exact to_iret dX11_image_68 rfl rfl rfl rfl hI
def fX11_back (x1 : Int32) (m : Me) : Option (Int32 × Me) := cl1 (fX11_good m) fun m3 => cl2 (fX11_within x1 (0 : Int32) (((m3.1 138 22) - (1 : Int32))) m3) fun r6 m7 => if r6 = (0 : Int32) then cl2 (fX11_isNot (1 : Int32) m7) fun r14 m15 => ck (r14 = 0 ∨ r14 = 1) (some (r14, m15)) else cl1 (fX11_copy 146 (((62 : Int32) * x1)) 143 (0 : Int32) (62 : Int32) m7) fun m11 => some ((1 : Int32), (setI m11 138 21 (0 : Int32)))
set_option maxRecDepth 20000 in
theorem kX11_back {S : Sh} (hS : ShOK S) {res : Int32 × Me} {x1 : Int32} {m : Me} (hf : fX11_back x1 m = some res) (hI : Inv m) : Call 2 mX11_back [.ref 138, .int x1] (S, m) (some (.int res.1)) (S, res.2) ∧ Inv res.2 := by
  refine call_of (P := InvS) (Nat.le_of_ble_eq_true rfl) (by simp [Value.category]) ?_
  show TT InvS (Call 1) mX11_back (0, [(0, .ref 138), (1, .int x1)], [], S, m) _ _
  unfold fX11_back at hf
  refine to_aload_n (q := 1) rfl (by decide) dX11_back_0 rfl ?_
  obtain ⟨m3, hc1, hf⟩ := cl1_some hf
  have qc2 := kX11_good hS hc1 hI
  refine to_virtV (q := 4) mX11_good [] dX11_back_1 rfl rfl (Nat.le_of_ble_eq_true rfl) mo_X11_good mv_X11_156 (Or.inl ⟨_, _, _, h_138 hS, rfl, rfl⟩) (Call_mono (by decide) qc2.1) ?_
  have hI := qc2.2
  refine to_iload_n (q := 5) rfl dX11_back_4 rfl ?_
  refine to_iconst (q := 6) ic_0 dX11_back_5 rfl ?_
  refine to_aload_n (q := 7) rfl (by decide) dX11_back_6 rfl ?_
  refine to_getI (q := 10) (k0 := 11) (C := RX11) (T := TX11) (N := 37) (j := 22) rfl fx_X11_175 (h_138 hS) rfl dX11_back_7 rfl ?_
  refine to_iconst (q := 11) ic_1 dX11_back_10 rfl ?_
  refine to_isub (q := 12) dX11_back_11 rfl ?_
  obtain ⟨r6, m7, hc4, hf⟩ := cl2_some hf
  have qc5 := kX11_within hS hc4 hI
  refine to_statI (q := 15) mX11_within [.int x1, .int (0 : Int32), .int ((m3.1 138 22) - (1 : Int32))] dX11_back_12 rfl rfl (Nat.le_of_ble_eq_true rfl) mo_X11_within (Or.inl ml_X11_140) sa_X11_within (Call_mono (by decide) qc5.1) ?_
  have hI := qc5.2
  by_cases h8 : r6 = (0 : Int32)
  · have hf := ite_pos h8 hf
    refine to_ifF (q := 18) (op := .ne) 24 (fun z => z h8) dX11_back_15 rfl rfl ?_
    refine to_aload_n (q := 19) rfl (by decide) dX11_back_18 rfl ?_
    refine to_iconst (q := 20) ic_1 dX11_back_19 rfl ?_
    obtain ⟨r14, m15, hc12, hf⟩ := cl2_some hf
    have qc13 := kX11_isNot hS hc12 hI
    refine to_virtI (q := 23) mX11_isNot [.int (1 : Int32)] dX11_back_20 rfl rfl (Nat.le_of_ble_eq_true rfl) mo_X11_isNot mv_X11_381 (Or.inl ⟨_, _, _, h_138 hS, rfl, rfl⟩) (Call_mono (by decide) qc13.1) ?_
    have hI := qc13.2
    obtain ⟨hz16, hf⟩ := ck_some hf
    cases hf
    exact to_iret dX11_back_23 rfl (nf_Z hz16).1 rfl rfl hI
  · have hf := ite_neg h8 hf
    refine to_ifT (q := 24) (op := .ne) h8 dX11_back_15 rfl ?_
    refine to_aload_n (q := 25) rfl (by decide) dX11_back_24 rfl ?_
    refine to_getR (q := 28) (b := 146) (k0 := 11) (C := RX11) (T := TX11) (N := 37) (j := 20) rfl fx_X11_35 (h_138 hS) rfl (iv_138_20 hI) dX11_back_25 rfl ?_
    refine to_bipush (q := 30) bp_62 dX11_back_28 rfl ?_
    refine to_iload_n (q := 31) rfl dX11_back_30 rfl ?_
    refine to_imul (q := 32) dX11_back_31 rfl ?_
    refine to_aload_n (q := 33) rfl (by decide) dX11_back_32 rfl ?_
    refine to_getR (q := 36) (b := 143) (k0 := 11) (C := RX11) (T := TX11) (N := 37) (j := 17) rfl fx_X11_26 (h_138 hS) rfl (iv_138_17 hI) dX11_back_33 rfl ?_
    refine to_iconst (q := 37) ic_0 dX11_back_36 rfl ?_
    refine to_bipush (q := 39) bp_62 dX11_back_37 rfl ?_
    obtain ⟨m11, hc9, hf⟩ := cl1_some hf
    have qc10 := kX11_copy hS hc9 rfl rfl hI
    refine to_statV (q := 42) mX11_copy [.ref 146, .int ((62 : Int32) * x1), .ref 143, .int (0 : Int32), .int (62 : Int32)] dX11_back_39 rfl rfl (Nat.le_of_ble_eq_true rfl) mo_X11_copy (Or.inl ml_X11_165) sa_X11_copy (Call_mono (by decide) qc10.1) ?_
    have hI := qc10.2
    refine to_aload_n (q := 43) rfl (by decide) dX11_back_42 rfl ?_
    refine to_iconst (q := 44) ic_0 dX11_back_43 rfl ?_
    refine to_putI (q := 47) (ty := .int) (k0 := 11) (C := RX11) (T := TX11) (N := 37) (j := 21) rfl fx_X11_172 (h_138 hS) rfl pD_I (Or.inl rfl) (nf_I _) dX11_back_44 rfl ?_
    refine to_iconst (q := 48) ic_1 dX11_back_47 rfl ?_
    cases hf
    exact to_iret dX11_back_48 rfl (by decide) rfl rfl hI
def fX11_wish_69 (t0 : Int32) (m : Me) : Option (Int32 × Me) := some (t0, m)
set_option maxRecDepth 20000 in
theorem kX11_wish_69 {S : Sh} (hS : ShOK S) {res : Int32 × Me} {t0 : Int32} {m : Me} (hf : fX11_wish_69 t0 m = some res) (hI : Inv m) : TT InvS (Call 2) mX11_wish (69, [], [.int t0], S, m) (some (.int res.1)) (S, res.2) := by
  unfold fX11_wish_69 at hf
  cases hf
  exact to_iret dX11_wish_69 rfl rfl rfl rfl hI
def fX11_wish_21 (m : Me) : Option (Int32 × Me) := cl2 (fX11_no (1 : Int32) m) fun r21 m22 => some (r21, m22)
set_option maxRecDepth 20000 in
theorem kX11_wish_21 {S : Sh} (hS : ShOK S) {res : Int32 × Me} {m : Me} (hf : fX11_wish_21 m = some res) (hI : Inv m) : TT InvS (Call 2) mX11_wish (21, [(0, .ref 138)], [], S, m) (some (.int res.1)) (S, res.2) := by
  unfold fX11_wish_21 at hf
  refine to_aload_n (q := 22) rfl (by decide) dX11_wish_21 rfl ?_
  refine to_iconst (q := 23) ic_1 dX11_wish_22 rfl ?_
  obtain ⟨r21, m22, hc19, hf⟩ := cl2_some hf
  have qc20 := kX11_no hS hc19 hI
  refine to_virtI (q := 26) mX11_no [.int (1 : Int32)] dX11_wish_23 rfl rfl (Nat.le_of_ble_eq_true rfl) mo_X11_no mv_X11_159 (Or.inl ⟨_, _, _, h_138 hS, rfl, rfl⟩) (Call_mono (by decide) qc20.1) ?_
  have hI := qc20.2
  cases hf
  exact to_iret dX11_wish_26 rfl rfl rfl rfl hI
def fX11_wish (x1 : Int32) (x2 : Int32) (m : Me) : Option (Int32 × Me) := cl1 (fX11_good m) fun m3 => cl2 (fX11_isWish x1 m3) fun r6 m7 => if r6 = (0 : Int32) then fX11_wish_21 m7 else cl2 (fX11_within x2 (0 : Int32) (2 : Int32) m7) fun r11 m12 => if r11 = (0 : Int32) then fX11_wish_21 m12 else if x2 = (0 : Int32) then ck (inb ((64 : Int32) + x1) 186) (fX11_wish_69 ((m12.1 141 ((64 : Int32) + x1).toNatClampNeg)) m12) else if x2 = (1 : Int32) then ck (inb ((100 : Int32) + x1) 186) (fX11_wish_69 ((m12.1 141 ((100 : Int32) + x1).toNatClampNeg)) m12) else ck (inb ((104 : Int32) + x1) 186) (fX11_wish_69 ((m12.1 141 ((104 : Int32) + x1).toNatClampNeg)) m12)
set_option maxRecDepth 20000 in
theorem kX11_wish {S : Sh} (hS : ShOK S) {res : Int32 × Me} {x1 : Int32} {x2 : Int32} {m : Me} (hf : fX11_wish x1 x2 m = some res) (hI : Inv m) : Call 3 mX11_wish [.ref 138, .int x1, .int x2] (S, m) (some (.int res.1)) (S, res.2) ∧ Inv res.2 := by
  refine call_of (P := InvS) (Nat.le_of_ble_eq_true rfl) (by simp [Value.category]) ?_
  show TT InvS (Call 2) mX11_wish (0, [(0, .ref 138), (1, .int x1), (2, .int x2)], [], S, m) _ _
  unfold fX11_wish at hf
  refine to_aload_n (q := 1) rfl (by decide) dX11_wish_0 rfl ?_
  obtain ⟨m3, hc1, hf⟩ := cl1_some hf
  have qc2 := kX11_good hS hc1 hI
  refine to_virtV (q := 4) mX11_good [] dX11_wish_1 rfl rfl (Nat.le_of_ble_eq_true rfl) mo_X11_good mv_X11_156 (Or.inl ⟨_, _, _, h_138 hS, rfl, rfl⟩) (Call_mono (by decide) qc2.1) ?_
  have hI := qc2.2
  refine to_aload_n (q := 5) rfl (by decide) dX11_wish_4 rfl ?_
  refine to_iload_n (q := 6) rfl dX11_wish_5 rfl ?_
  obtain ⟨r6, m7, hc4, hf⟩ := cl2_some hf
  have qc5 := kX11_isWish hS hc4 hI
  refine to_virtI (q := 9) mX11_isWish [.int x1] dX11_wish_6 rfl rfl (Nat.le_of_ble_eq_true rfl) mo_X11_isWish mv_X11_319 (Or.inl ⟨_, _, _, h_138 hS, rfl, rfl⟩) (Call_mono (by decide) qc5.1) ?_
  have hI := qc5.2
  by_cases h8 : r6 = (0 : Int32)
  · have hf := ite_pos h8 hf
    refine to_ifT (q := 21) (op := .eq) h8 dX11_wish_9 rfl ?_
    exact to_ext [(0, .ref 138)] (ext_cons rfl ext_nil) (kX11_wish_21 hS hf hI)
  · have hf := ite_neg h8 hf
    refine to_ifF (q := 12) (op := .eq) 21 h8 dX11_wish_9 rfl rfl ?_
    refine to_iload_n (q := 13) rfl dX11_wish_12 rfl ?_
    refine to_iconst (q := 14) ic_0 dX11_wish_13 rfl ?_
    refine to_iconst (q := 15) ic_2 dX11_wish_14 rfl ?_
    obtain ⟨r11, m12, hc9, hf⟩ := cl2_some hf
    have qc10 := kX11_within hS hc9 hI
    refine to_statI (q := 18) mX11_within [.int x2, .int (0 : Int32), .int (2 : Int32)] dX11_wish_15 rfl rfl (Nat.le_of_ble_eq_true rfl) mo_X11_within (Or.inl ml_X11_140) sa_X11_within (Call_mono (by decide) qc10.1) ?_
    have hI := qc10.2
    by_cases h13 : r11 = (0 : Int32)
    · have hf := ite_pos h13 hf
      refine to_ifF (q := 21) (op := .ne) 27 (fun z => z h13) dX11_wish_18 rfl rfl ?_
      exact to_ext [(0, .ref 138)] (ext_cons rfl ext_nil) (kX11_wish_21 hS hf hI)
    · have hf := ite_neg h13 hf
      refine to_ifT (q := 27) (op := .ne) h13 dX11_wish_18 rfl ?_
      refine to_iload_n (q := 28) rfl dX11_wish_27 rfl ?_
      by_cases h14 : x2 = (0 : Int32)
      · have hf := ite_pos h14 hf
        refine to_ifF (q := 31) (op := .ne) 43 (fun z => z h14) dX11_wish_28 rfl rfl ?_
        refine to_aload_n (q := 32) rfl (by decide) dX11_wish_31 rfl ?_
        refine to_getR (q := 35) (b := 141) (k0 := 11) (C := RX11) (T := TX11) (N := 37) (j := 15) rfl fx_X11_20 (h_138 hS) rfl (iv_138_15 hI) dX11_wish_32 rfl ?_
        refine to_bipush (q := 37) bp_64 dX11_wish_35 rfl ?_
        refine to_iload_n (q := 38) rfl dX11_wish_37 rfl ?_
        refine to_iadd (q := 39) dX11_wish_38 rfl ?_
        obtain ⟨hb18, hf⟩ := ck_some hf
        refine to_iaj (q := 40) (h_141 hS) hb18 (rfl) dX11_wish_39 rfl ?_
        refine to_goto (q := 69) dX11_wish_40 rfl ?_
        exact to_ext [] ext_nil (kX11_wish_69 hS hf hI)
      · have hf := ite_neg h14 hf
        refine to_ifT (q := 43) (op := .ne) h14 dX11_wish_28 rfl ?_
        refine to_iload_n (q := 44) rfl dX11_wish_43 rfl ?_
        refine to_iconst (q := 45) ic_1 dX11_wish_44 rfl ?_
        by_cases h15 : x2 = (1 : Int32)
        · have hf := ite_pos h15 hf
          refine to_icF (q := 48) (op := .ne) 60 (fun z => z h15) dX11_wish_45 rfl rfl ?_
          refine to_aload_n (q := 49) rfl (by decide) dX11_wish_48 rfl ?_
          refine to_getR (q := 52) (b := 141) (k0 := 11) (C := RX11) (T := TX11) (N := 37) (j := 15) rfl fx_X11_20 (h_138 hS) rfl (iv_138_15 hI) dX11_wish_49 rfl ?_
          refine to_bipush (q := 54) bp_100 dX11_wish_52 rfl ?_
          refine to_iload_n (q := 55) rfl dX11_wish_54 rfl ?_
          refine to_iadd (q := 56) dX11_wish_55 rfl ?_
          obtain ⟨hb17, hf⟩ := ck_some hf
          refine to_iaj (q := 57) (h_141 hS) hb17 (rfl) dX11_wish_56 rfl ?_
          refine to_goto (q := 69) dX11_wish_57 rfl ?_
          exact to_ext [] ext_nil (kX11_wish_69 hS hf hI)
        · have hf := ite_neg h15 hf
          refine to_icT (q := 60) (op := .ne) h15 dX11_wish_45 rfl ?_
          refine to_aload_n (q := 61) rfl (by decide) dX11_wish_60 rfl ?_
          refine to_getR (q := 64) (b := 141) (k0 := 11) (C := RX11) (T := TX11) (N := 37) (j := 15) rfl fx_X11_20 (h_138 hS) rfl (iv_138_15 hI) dX11_wish_61 rfl ?_
          refine to_bipush (q := 66) bp_104 dX11_wish_64 rfl ?_
          refine to_iload_n (q := 67) rfl dX11_wish_66 rfl ?_
          refine to_iadd (q := 68) dX11_wish_67 rfl ?_
          obtain ⟨hb16, hf⟩ := ck_some hf
          refine to_iaj (q := 69) (h_141 hS) hb16 (rfl) dX11_wish_68 rfl ?_
          exact to_ext [] ext_nil (kX11_wish_69 hS hf hI)
def fX11_led_91 (m : Me) : Option (Int32 × Me) := some ((0 : Int32), (setI m 138 0 (1 : Int32)))
set_option maxRecDepth 20000 in
theorem kX11_led_91 {S : Sh} (hS : ShOK S) {res : Int32 × Me} {m : Me} (hf : fX11_led_91 m = some res) (hI : Inv m) : TT InvS (Call 0) mX11_led (91, [(0, .ref 138)], [], S, m) (some (.int res.1)) (S, res.2) := by
  unfold fX11_led_91 at hf
  refine to_aload_n (q := 92) rfl (by decide) dX11_led_91 rfl ?_
  refine to_iconst (q := 93) ic_1 dX11_led_92 rfl ?_
  refine to_putI (q := 96) (ty := .int) (k0 := 11) (C := RX11) (T := TX11) (N := 37) (j := 0) rfl fx_X11_71 (h_138 hS) rfl pD_I (Or.inl rfl) (nf_I _) dX11_led_93 rfl ?_
  refine to_iconst (q := 97) ic_0 dX11_led_96 rfl ?_
  cases hf
  exact to_iret dX11_led_97 rfl rfl rfl rfl hI
def fX11_led_79 (k4 : Int32 → Int32 → Int32 → Me → Option (Int32 × Me)) (k24 : Int32 → Int32 → Int32 → Int32 → Me → Option (Int32 × Me)) (x1 : Int32) (x2 : Int32) (x3 : Int32) (x4 : Int32) (m : Me) : Option (Int32 × Me) := k24 x1 x2 x3 ((x4 + (1 : Int32))) m
set_option maxRecDepth 20000 in
theorem kX11_led_79 {S : Sh} (hS : ShOK S) {res : Int32 × Me} {k4 : Int32 → Int32 → Int32 → Me → Option (Int32 × Me)} (hk4 : ∀ {x1 : Int32} {x2 : Int32} {x3 : Int32} {m : Me}, k4 x1 x2 x3 m = some res → Inv m → TT InvS (Call 0) mX11_led (4, [(0, .ref 138), (1, .int x1), (2, .int x2), (3, .int x3)], [], S, m) (some (.int res.1)) (S, res.2)) {k24 : Int32 → Int32 → Int32 → Int32 → Me → Option (Int32 × Me)} (hk24 : ∀ {x1 : Int32} {x2 : Int32} {x3 : Int32} {x4 : Int32} {m : Me}, k24 x1 x2 x3 x4 m = some res → Inv m → TT InvS (Call 0) mX11_led (24, [(0, .ref 138), (1, .int x1), (2, .int x2), (3, .int x3), (4, .int x4)], [], S, m) (some (.int res.1)) (S, res.2)) {x1 : Int32} {x2 : Int32} {x3 : Int32} {x4 : Int32} {m : Me} (hf : fX11_led_79 k4 k24 x1 x2 x3 x4 m = some res) (hI : Inv m) : TT InvS (Call 0) mX11_led (79, [(0, .ref 138), (1, .int x1), (2, .int x2), (3, .int x3), (4, .int x4)], [], S, m) (some (.int res.1)) (S, res.2) := by
  unfold fX11_led_79 at hf
  refine to_iinc (q := 82) (v := (x4 + (1 : Int32))) rfl (congrArg (fun z => x4 + z) ic_1) [(4, .int (x4 + (1 : Int32))), (0, .ref 138), (1, .int x1), (2, .int x2), (3, .int x3)] rfl (by decide) dX11_led_79 rfl ?_
  refine to_goto (q := 24) dX11_led_82 rfl ?_
  exact to_ext [(0, .ref 138), (1, .int x1), (2, .int x2), (3, .int x3), (4, .int (x4 + (1 : Int32)))] (ext_cons rfl (ext_cons rfl (ext_cons rfl (ext_cons rfl (ext_cons rfl ext_nil))))) (hk24 hf hI)
def fX11_led_24 (n : Nat) (k4 : Int32 → Int32 → Int32 → Me → Option (Int32 × Me)) (x1 : Int32) (x2 : Int32) (x3 : Int32) (x4 : Int32) (m : Me) : Option (Int32 × Me) := match n with
  | 0 => none
  | n + 1 => if (m.1 141 1) ≤ x4 then k4 x1 x2 ((x3 + (1 : Int32))) m else ck (inb (((3 : Int32) * x3) + x4) 62) (if (m.1 143 (((3 : Int32) * x3) + x4).toNatClampNeg) = (25 : Int32) then if x2 = x1 then some (((((setI m 138 0 (0 : Int32)).1 141 1) * x3) + x4), (setI m 138 0 (0 : Int32))) else fX11_led_79 k4 (fX11_led_24 n k4) x1 ((x2 + (1 : Int32))) x3 x4 m else fX11_led_79 k4 (fX11_led_24 n k4) x1 x2 x3 x4 m)
set_option maxRecDepth 20000 in
theorem kX11_led_24 {S : Sh} (hS : ShOK S) {res : Int32 × Me} {k4 : Int32 → Int32 → Int32 → Me → Option (Int32 × Me)} (hk4 : ∀ {x1 : Int32} {x2 : Int32} {x3 : Int32} {m : Me}, k4 x1 x2 x3 m = some res → Inv m → TT InvS (Call 0) mX11_led (4, [(0, .ref 138), (1, .int x1), (2, .int x2), (3, .int x3)], [], S, m) (some (.int res.1)) (S, res.2)) (n : Nat) : ∀ {x1 : Int32} {x2 : Int32} {x3 : Int32} {x4 : Int32} {m : Me}, fX11_led_24 n k4 x1 x2 x3 x4 m = some res → Inv m → TT InvS (Call 0) mX11_led (24, [(0, .ref 138), (1, .int x1), (2, .int x2), (3, .int x3), (4, .int x4)], [], S, m) (some (.int res.1)) (S, res.2) := by
  induction n with
  | zero => intro x1 x2 x3 x4 m hf; cases hf
  | succ n ih =>
    intro x1 x2 x3 x4 m hf  hI
    unfold fX11_led_24 at hf
    refine to_iload (q := 26) rfl dX11_led_24 rfl ?_
    refine to_aload_n (q := 27) rfl (by decide) dX11_led_26 rfl ?_
    refine to_getR (q := 30) (b := 141) (k0 := 11) (C := RX11) (T := TX11) (N := 37) (j := 15) rfl fx_X11_20 (h_138 hS) rfl (iv_138_15 hI) dX11_led_27 rfl ?_
    refine to_iconst (q := 31) ic_1 dX11_led_30 rfl ?_
    refine to_iaj (q := 32) (h_141 hS) (by decide) (tn_1) dX11_led_31 rfl ?_
    by_cases h3 : (m.1 141 1) ≤ x4
    · have hf := ite_pos h3 hf
      refine to_icT (q := 85) (op := .ge) h3 dX11_led_32 rfl ?_
      refine to_iinc (q := 88) (v := (x3 + (1 : Int32))) rfl (congrArg (fun z => x3 + z) ic_1) [(3, .int (x3 + (1 : Int32))), (0, .ref 138), (1, .int x1), (2, .int x2), (4, .int x4)] rfl (by decide) dX11_led_85 rfl ?_
      refine to_goto (q := 4) dX11_led_88 rfl ?_
      exact to_ext [(0, .ref 138), (1, .int x1), (2, .int x2), (3, .int (x3 + (1 : Int32)))] (ext_cons rfl (ext_cons rfl (ext_cons rfl (ext_cons rfl ext_nil)))) (hk4 hf hI)
    · have hf := ite_neg h3 hf
      refine to_icF (q := 35) (op := .ge) 85 h3 dX11_led_32 rfl rfl ?_
      refine to_aload_n (q := 36) rfl (by decide) dX11_led_35 rfl ?_
      refine to_getR (q := 39) (b := 143) (k0 := 11) (C := RX11) (T := TX11) (N := 37) (j := 17) rfl fx_X11_26 (h_138 hS) rfl (iv_138_17 hI) dX11_led_36 rfl ?_
      refine to_iconst (q := 40) ic_3 dX11_led_39 rfl ?_
      refine to_iload_n (q := 41) rfl dX11_led_40 rfl ?_
      refine to_imul (q := 42) dX11_led_41 rfl ?_
      refine to_iload (q := 44) rfl dX11_led_42 rfl ?_
      refine to_iadd (q := 45) dX11_led_44 rfl ?_
      obtain ⟨hb4, hf⟩ := ck_some hf
      refine to_iaj (q := 46) (h_143 hS) hb4 (rfl) dX11_led_45 rfl ?_
      refine to_bipush (q := 48) bp_25 dX11_led_46 rfl ?_
      by_cases h5 : (m.1 143 (((3 : Int32) * x3) + x4).toNatClampNeg) = (25 : Int32)
      · have hf := ite_pos h5 hf
        refine to_icT (q := 54) (op := .eq) h5 dX11_led_48 rfl ?_
        refine to_iload_n (q := 55) rfl dX11_led_54 rfl ?_
        refine to_iload_n (q := 56) rfl dX11_led_55 rfl ?_
        by_cases h6 : x2 = x1
        · have hf := ite_pos h6 hf
          refine to_icF (q := 59) (op := .ne) 76 (fun z => z h6) dX11_led_56 rfl rfl ?_
          refine to_aload_n (q := 60) rfl (by decide) dX11_led_59 rfl ?_
          refine to_iconst (q := 61) ic_0 dX11_led_60 rfl ?_
          refine to_putI (q := 64) (ty := .int) (k0 := 11) (C := RX11) (T := TX11) (N := 37) (j := 0) rfl fx_X11_71 (h_138 hS) rfl pD_I (Or.inl rfl) (nf_I _) dX11_led_61 rfl ?_
          refine to_aload_n (q := 65) rfl (by decide) dX11_led_64 rfl ?_
          refine to_getR (q := 68) (b := 141) (k0 := 11) (C := RX11) (T := TX11) (N := 37) (j := 15) rfl fx_X11_20 (h_138 hS) rfl (iv_138_15 hI) dX11_led_65 rfl ?_
          refine to_iconst (q := 69) ic_1 dX11_led_68 rfl ?_
          refine to_iaj (q := 70) (h_141 hS) (by decide) (tn_1) dX11_led_69 rfl ?_
          refine to_iload_n (q := 71) rfl dX11_led_70 rfl ?_
          refine to_imul (q := 72) dX11_led_71 rfl ?_
          refine to_iload (q := 74) rfl dX11_led_72 rfl ?_
          refine to_iadd (q := 75) dX11_led_74 rfl ?_
          cases hf
          exact to_iret dX11_led_75 rfl rfl rfl rfl hI
        · have hf := ite_neg h6 hf
          refine to_icT (q := 76) (op := .ne) h6 dX11_led_56 rfl ?_
          refine to_iinc (q := 79) (v := (x2 + (1 : Int32))) rfl (congrArg (fun z => x2 + z) ic_1) [(2, .int (x2 + (1 : Int32))), (0, .ref 138), (1, .int x1), (3, .int x3), (4, .int x4)] rfl (by decide) dX11_led_76 rfl ?_
          exact to_ext [(0, .ref 138), (1, .int x1), (2, .int (x2 + (1 : Int32))), (3, .int x3), (4, .int x4)] (ext_cons rfl (ext_cons rfl (ext_cons rfl (ext_cons rfl (ext_cons rfl ext_nil))))) (kX11_led_79 hS hk4 ih hf hI)
      · have hf := ite_neg h5 hf
        refine to_icF (q := 51) (op := .eq) 54 h5 dX11_led_48 rfl rfl ?_
        refine to_goto (q := 79) dX11_led_51 rfl ?_
        exact to_ext [(0, .ref 138), (1, .int x1), (2, .int x2), (3, .int x3), (4, .int x4)] (ext_cons rfl (ext_cons rfl (ext_cons rfl (ext_cons rfl (ext_cons rfl ext_nil))))) (kX11_led_79 hS hk4 ih hf hI)
def fX11_led_4 (n : Nat) (x1 : Int32) (x2 : Int32) (x3 : Int32) (m : Me) : Option (Int32 × Me) := match n with
  | 0 => none
  | n + 1 => if (m.1 138 14) = (0 : Int32) then fX11_led_91 m else if (m.1 141 0) ≤ x3 then fX11_led_91 m else fX11_led_24 FU (fX11_led_4 n) x1 x2 x3 ((0 : Int32)) m
set_option maxRecDepth 20000 in
theorem kX11_led_4 {S : Sh} (hS : ShOK S) {res : Int32 × Me} (n : Nat) : ∀ {x1 : Int32} {x2 : Int32} {x3 : Int32} {m : Me}, fX11_led_4 n x1 x2 x3 m = some res → Inv m → TT InvS (Call 0) mX11_led (4, [(0, .ref 138), (1, .int x1), (2, .int x2), (3, .int x3)], [], S, m) (some (.int res.1)) (S, res.2) := by
  induction n with
  | zero => intro x1 x2 x3 m hf; cases hf
  | succ n ih =>
    intro x1 x2 x3 m hf  hI
    unfold fX11_led_4 at hf
    refine to_aload_n (q := 5) rfl (by decide) dX11_led_4 rfl ?_
    refine to_getI (q := 8) (k0 := 11) (C := RX11) (T := TX11) (N := 37) (j := 14) rfl fx_X11_169 (h_138 hS) rfl dX11_led_5 rfl ?_
    by_cases h1 : (m.1 138 14) = (0 : Int32)
    · have hf := ite_pos h1 hf
      refine to_ifT (q := 91) (op := .eq) h1 dX11_led_8 rfl ?_
      exact to_ext [(0, .ref 138)] (ext_cons rfl ext_nil) (kX11_led_91 hS hf hI)
    · have hf := ite_neg h1 hf
      refine to_ifF (q := 11) (op := .eq) 91 h1 dX11_led_8 rfl rfl ?_
      refine to_iload_n (q := 12) rfl dX11_led_11 rfl ?_
      refine to_aload_n (q := 13) rfl (by decide) dX11_led_12 rfl ?_
      refine to_getR (q := 16) (b := 141) (k0 := 11) (C := RX11) (T := TX11) (N := 37) (j := 15) rfl fx_X11_20 (h_138 hS) rfl (iv_138_15 hI) dX11_led_13 rfl ?_
      refine to_iconst (q := 17) ic_0 dX11_led_16 rfl ?_
      refine to_iaj (q := 18) (h_141 hS) (by decide) (tn_0) dX11_led_17 rfl ?_
      by_cases h2 : (m.1 141 0) ≤ x3
      · have hf := ite_pos h2 hf
        refine to_icT (q := 91) (op := .ge) h2 dX11_led_18 rfl ?_
        exact to_ext [(0, .ref 138)] (ext_cons rfl ext_nil) (kX11_led_91 hS hf hI)
      · have hf := ite_neg h2 hf
        refine to_icF (q := 21) (op := .ge) 91 h2 dX11_led_18 rfl rfl ?_
        refine to_iconst (q := 22) ic_0 dX11_led_21 rfl ?_
        refine to_istore (q := 24) [(4, .int (0 : Int32)), (0, .ref 138), (1, .int x1), (2, .int x2), (3, .int x3)] rfl (by decide) dX11_led_22 rfl ?_
        exact to_ext [(0, .ref 138), (1, .int x1), (2, .int x2), (3, .int x3), (4, .int (0 : Int32))] (ext_cons rfl (ext_cons rfl (ext_cons rfl (ext_cons rfl (ext_cons rfl ext_nil))))) (kX11_led_24 hS ih FU hf hI)
def fX11_led (x1 : Int32) (m : Me) : Option (Int32 × Me) := fX11_led_4 FU x1 ((0 : Int32)) ((0 : Int32)) m
set_option maxRecDepth 20000 in
theorem kX11_led {S : Sh} (hS : ShOK S) {res : Int32 × Me} {x1 : Int32} {m : Me} (hf : fX11_led x1 m = some res) (hI : Inv m) : Call 1 mX11_led [.ref 138, .int x1] (S, m) (some (.int res.1)) (S, res.2) ∧ Inv res.2 := by
  refine call_of (P := InvS) (Nat.le_of_ble_eq_true rfl) (by simp [Value.category]) ?_
  show TT InvS (Call 0) mX11_led (0, [(0, .ref 138), (1, .int x1)], [], S, m) _ _
  unfold fX11_led at hf
  refine to_iconst (q := 1) ic_0 dX11_led_0 rfl ?_
  refine to_istore_n (q := 2) [(2, .int (0 : Int32)), (0, .ref 138), (1, .int x1)] rfl (by decide) dX11_led_1 rfl ?_
  refine to_iconst (q := 3) ic_0 dX11_led_2 rfl ?_
  refine to_istore_n (q := 4) [(3, .int (0 : Int32)), (2, .int (0 : Int32)), (0, .ref 138), (1, .int x1)] rfl (by decide) dX11_led_3 rfl ?_
  exact to_ext [(0, .ref 138), (1, .int x1), (2, .int (0 : Int32)), (3, .int (0 : Int32))] (ext_cons rfl (ext_cons rfl (ext_cons rfl (ext_cons rfl ext_nil)))) (kX11_led_4 hS FU hf hI)
def fX11_size_38 (t0 : Int32) (m : Me) : Option (Int32 × Me) := some (t0, m)
set_option maxRecDepth 20000 in
theorem kX11_size_38 {S : Sh} (hS : ShOK S) {res : Int32 × Me} {t0 : Int32} {m : Me} (hf : fX11_size_38 t0 m = some res) (hI : Inv m) : TT InvS (Call 1) mX11_size (38, [], [.int t0], S, m) (some (.int res.1)) (S, res.2) := by
  unfold fX11_size_38 at hf
  cases hf
  exact to_iret dX11_size_38 rfl rfl rfl rfl hI
def fX11_size (x1 : Int32) (m : Me) : Option (Int32 × Me) := if x1 = (10 : Int32) then some (((setI m 138 0 (0 : Int32)).1 138 2), (setI m 138 0 (0 : Int32))) else if ((setI m 138 0 (0 : Int32)).1 138 14) = (0 : Int32) then cl2 (fX11_within x1 (0 : Int32) (9 : Int32) (setI m 138 0 (0 : Int32))) fun r15 m16 => if r15 = (0 : Int32) then fX11_size_38 ((-1 : Int32)) m16 else fX11_size_38 ((0 : Int32)) m16 else if x1 = 0 then some (((setI m 138 0 (0 : Int32)).1 141 0), (setI m 138 0 (0 : Int32))) else if x1 = 1 then some (((setI m 138 0 (0 : Int32)).1 141 1), (setI m 138 0 (0 : Int32))) else if x1 = 2 then some (((setI m 138 0 (0 : Int32)).1 141 3), (setI m 138 0 (0 : Int32))) else if x1 = 3 then some (((setI m 138 0 (0 : Int32)).1 141 5), (setI m 138 0 (0 : Int32))) else if x1 = 4 then some (((setI m 138 0 (0 : Int32)).1 141 6), (setI m 138 0 (0 : Int32))) else if x1 = 5 then some (((setI m 138 0 (0 : Int32)).1 141 7), (setI m 138 0 (0 : Int32))) else if x1 = 6 then some (((setI m 138 0 (0 : Int32)).1 141 8), (setI m 138 0 (0 : Int32))) else if x1 = 7 then some (((setI m 138 0 (0 : Int32)).1 143 61), (setI m 138 0 (0 : Int32))) else if x1 = 8 then some (((setI m 138 0 (0 : Int32)).1 138 21), (setI m 138 0 (0 : Int32))) else if x1 = 9 then some (((setI m 138 0 (0 : Int32)).1 138 22), (setI m 138 0 (0 : Int32))) else some ((-1 : Int32), (setI m 138 0 (0 : Int32)))
set_option maxRecDepth 20000 in
theorem kX11_size {S : Sh} (hS : ShOK S) {res : Int32 × Me} {x1 : Int32} {m : Me} (hf : fX11_size x1 m = some res) (hI : Inv m) : Call 2 mX11_size [.ref 138, .int x1] (S, m) (some (.int res.1)) (S, res.2) ∧ Inv res.2 := by
  refine call_of (P := InvS) (Nat.le_of_ble_eq_true rfl) (by simp [Value.category]) ?_
  show TT InvS (Call 1) mX11_size (0, [(0, .ref 138), (1, .int x1)], [], S, m) _ _
  unfold fX11_size at hf
  refine to_aload_n (q := 1) rfl (by decide) dX11_size_0 rfl ?_
  refine to_iconst (q := 2) ic_0 dX11_size_1 rfl ?_
  refine to_putI (q := 5) (ty := .int) (k0 := 11) (C := RX11) (T := TX11) (N := 37) (j := 0) rfl fx_X11_71 (h_138 hS) rfl pD_I (Or.inl rfl) (nf_I _) dX11_size_2 rfl ?_
  refine to_iload_n (q := 6) rfl dX11_size_5 rfl ?_
  refine to_bipush (q := 8) bp_10 dX11_size_6 rfl ?_
  by_cases h1 : x1 = (10 : Int32)
  · have hf := ite_pos h1 hf
    refine to_icF (q := 11) (op := .ne) 16 (fun z => z h1) dX11_size_8 rfl rfl ?_
    refine to_aload_n (q := 12) rfl (by decide) dX11_size_11 rfl ?_
    refine to_getI (q := 15) (k0 := 11) (C := RX11) (T := TX11) (N := 37) (j := 2) rfl fx_X11_77 (h_138 hS) rfl dX11_size_12 rfl ?_
    cases hf
    exact to_iret dX11_size_15 rfl rfl rfl rfl hI
  · have hf := ite_neg h1 hf
    refine to_icT (q := 16) (op := .ne) h1 dX11_size_8 rfl ?_
    refine to_aload_n (q := 17) rfl (by decide) dX11_size_16 rfl ?_
    refine to_getI (q := 20) (k0 := 11) (C := RX11) (T := TX11) (N := 37) (j := 14) rfl fx_X11_169 (h_138 hS) rfl dX11_size_17 rfl ?_
    by_cases h2 : ((setI m 138 0 (0 : Int32)).1 138 14) = (0 : Int32)
    · have hf := ite_pos h2 hf
      refine to_ifF (q := 23) (op := .ne) 39 (fun z => z h2) dX11_size_20 rfl rfl ?_
      refine to_iload_n (q := 24) rfl dX11_size_23 rfl ?_
      refine to_iconst (q := 25) ic_0 dX11_size_24 rfl ?_
      refine to_bipush (q := 27) bp_9 dX11_size_25 rfl ?_
      obtain ⟨r15, m16, hc13, hf⟩ := cl2_some hf
      have qc14 := kX11_within hS hc13 hI
      refine to_statI (q := 30) mX11_within [.int x1, .int (0 : Int32), .int (9 : Int32)] dX11_size_27 rfl rfl (Nat.le_of_ble_eq_true rfl) mo_X11_within (Or.inl ml_X11_140) sa_X11_within (Call_mono (by decide) qc14.1) ?_
      have hI := qc14.2
      by_cases h17 : r15 = (0 : Int32)
      · have hf := ite_pos h17 hf
        refine to_ifT (q := 37) (op := .eq) h17 dX11_size_30 rfl ?_
        refine to_iconst (q := 38) ic_m1 dX11_size_37 rfl ?_
        exact to_ext [] ext_nil (kX11_size_38 hS hf hI)
      · have hf := ite_neg h17 hf
        refine to_ifF (q := 33) (op := .eq) 37 h17 dX11_size_30 rfl rfl ?_
        refine to_iconst (q := 34) ic_0 dX11_size_33 rfl ?_
        refine to_goto (q := 38) dX11_size_34 rfl ?_
        exact to_ext [] ext_nil (kX11_size_38 hS hf hI)
    · have hf := ite_neg h2 hf
      refine to_ifT (q := 39) (op := .ne) h2 dX11_size_20 rfl ?_
      refine to_iload_n (q := 40) rfl dX11_size_39 rfl ?_
      by_cases h3 : x1 = 0
      · have hf := ite_pos h3 hf
        refine to_tsIn (q := 96) (off := 56) dX11_size_40 (by rw [h3]; decide) (by rw [h3]; decide) (by rw [h3]; rfl) rfl ?_
        refine to_aload_n (q := 97) rfl (by decide) dX11_size_96 rfl ?_
        refine to_getR (q := 100) (b := 141) (k0 := 11) (C := RX11) (T := TX11) (N := 37) (j := 15) rfl fx_X11_20 (h_138 hS) rfl (iv_138_15 hI) dX11_size_97 rfl ?_
        refine to_iconst (q := 101) ic_0 dX11_size_100 rfl ?_
        refine to_iaj (q := 102) (h_141 hS) (by decide) (tn_0) dX11_size_101 rfl ?_
        cases hf
        exact to_iret dX11_size_102 rfl rfl rfl rfl hI
      · have hf := ite_neg h3 hf
        by_cases h4 : x1 = 1
        · have hf := ite_pos h4 hf
          refine to_tsIn (q := 103) (off := 63) dX11_size_40 (by rw [h4]; decide) (by rw [h4]; decide) (by rw [h4]; rfl) rfl ?_
          refine to_aload_n (q := 104) rfl (by decide) dX11_size_103 rfl ?_
          refine to_getR (q := 107) (b := 141) (k0 := 11) (C := RX11) (T := TX11) (N := 37) (j := 15) rfl fx_X11_20 (h_138 hS) rfl (iv_138_15 hI) dX11_size_104 rfl ?_
          refine to_iconst (q := 108) ic_1 dX11_size_107 rfl ?_
          refine to_iaj (q := 109) (h_141 hS) (by decide) (tn_1) dX11_size_108 rfl ?_
          cases hf
          exact to_iret dX11_size_109 rfl rfl rfl rfl hI
        · have hf := ite_neg h4 hf
          by_cases h5 : x1 = 2
          · have hf := ite_pos h5 hf
            refine to_tsIn (q := 110) (off := 70) dX11_size_40 (by rw [h5]; decide) (by rw [h5]; decide) (by rw [h5]; rfl) rfl ?_
            refine to_aload_n (q := 111) rfl (by decide) dX11_size_110 rfl ?_
            refine to_getR (q := 114) (b := 141) (k0 := 11) (C := RX11) (T := TX11) (N := 37) (j := 15) rfl fx_X11_20 (h_138 hS) rfl (iv_138_15 hI) dX11_size_111 rfl ?_
            refine to_iconst (q := 115) ic_3 dX11_size_114 rfl ?_
            refine to_iaj (q := 116) (h_141 hS) (by decide) (tn_3) dX11_size_115 rfl ?_
            cases hf
            exact to_iret dX11_size_116 rfl rfl rfl rfl hI
          · have hf := ite_neg h5 hf
            by_cases h6 : x1 = 3
            · have hf := ite_pos h6 hf
              refine to_tsIn (q := 117) (off := 77) dX11_size_40 (by rw [h6]; decide) (by rw [h6]; decide) (by rw [h6]; rfl) rfl ?_
              refine to_aload_n (q := 118) rfl (by decide) dX11_size_117 rfl ?_
              refine to_getR (q := 121) (b := 141) (k0 := 11) (C := RX11) (T := TX11) (N := 37) (j := 15) rfl fx_X11_20 (h_138 hS) rfl (iv_138_15 hI) dX11_size_118 rfl ?_
              refine to_iconst (q := 122) ic_5 dX11_size_121 rfl ?_
              refine to_iaj (q := 123) (h_141 hS) (by decide) (tn_5) dX11_size_122 rfl ?_
              cases hf
              exact to_iret dX11_size_123 rfl rfl rfl rfl hI
            · have hf := ite_neg h6 hf
              by_cases h7 : x1 = 4
              · have hf := ite_pos h7 hf
                refine to_tsIn (q := 124) (off := 84) dX11_size_40 (by rw [h7]; decide) (by rw [h7]; decide) (by rw [h7]; rfl) rfl ?_
                refine to_aload_n (q := 125) rfl (by decide) dX11_size_124 rfl ?_
                refine to_getR (q := 128) (b := 141) (k0 := 11) (C := RX11) (T := TX11) (N := 37) (j := 15) rfl fx_X11_20 (h_138 hS) rfl (iv_138_15 hI) dX11_size_125 rfl ?_
                refine to_bipush (q := 130) bp_6 dX11_size_128 rfl ?_
                refine to_iaj (q := 131) (h_141 hS) (by decide) (tn_6) dX11_size_130 rfl ?_
                cases hf
                exact to_iret dX11_size_131 rfl rfl rfl rfl hI
              · have hf := ite_neg h7 hf
                by_cases h8 : x1 = 5
                · have hf := ite_pos h8 hf
                  refine to_tsIn (q := 132) (off := 92) dX11_size_40 (by rw [h8]; decide) (by rw [h8]; decide) (by rw [h8]; rfl) rfl ?_
                  refine to_aload_n (q := 133) rfl (by decide) dX11_size_132 rfl ?_
                  refine to_getR (q := 136) (b := 141) (k0 := 11) (C := RX11) (T := TX11) (N := 37) (j := 15) rfl fx_X11_20 (h_138 hS) rfl (iv_138_15 hI) dX11_size_133 rfl ?_
                  refine to_bipush (q := 138) bp_7 dX11_size_136 rfl ?_
                  refine to_iaj (q := 139) (h_141 hS) (by decide) (tn_7) dX11_size_138 rfl ?_
                  cases hf
                  exact to_iret dX11_size_139 rfl rfl rfl rfl hI
                · have hf := ite_neg h8 hf
                  by_cases h9 : x1 = 6
                  · have hf := ite_pos h9 hf
                    refine to_tsIn (q := 140) (off := 100) dX11_size_40 (by rw [h9]; decide) (by rw [h9]; decide) (by rw [h9]; rfl) rfl ?_
                    refine to_aload_n (q := 141) rfl (by decide) dX11_size_140 rfl ?_
                    refine to_getR (q := 144) (b := 141) (k0 := 11) (C := RX11) (T := TX11) (N := 37) (j := 15) rfl fx_X11_20 (h_138 hS) rfl (iv_138_15 hI) dX11_size_141 rfl ?_
                    refine to_bipush (q := 146) bp_8 dX11_size_144 rfl ?_
                    refine to_iaj (q := 147) (h_141 hS) (by decide) (tn_8) dX11_size_146 rfl ?_
                    cases hf
                    exact to_iret dX11_size_147 rfl rfl rfl rfl hI
                  · have hf := ite_neg h9 hf
                    by_cases h10 : x1 = 7
                    · have hf := ite_pos h10 hf
                      refine to_tsIn (q := 148) (off := 108) dX11_size_40 (by rw [h10]; decide) (by rw [h10]; decide) (by rw [h10]; rfl) rfl ?_
                      refine to_aload_n (q := 149) rfl (by decide) dX11_size_148 rfl ?_
                      refine to_getR (q := 152) (b := 143) (k0 := 11) (C := RX11) (T := TX11) (N := 37) (j := 17) rfl fx_X11_26 (h_138 hS) rfl (iv_138_17 hI) dX11_size_149 rfl ?_
                      refine to_bipush (q := 154) bp_61 dX11_size_152 rfl ?_
                      refine to_iaj (q := 155) (h_143 hS) (by decide) (tn_61) dX11_size_154 rfl ?_
                      cases hf
                      exact to_iret dX11_size_155 rfl rfl rfl rfl hI
                    · have hf := ite_neg h10 hf
                      by_cases h11 : x1 = 8
                      · have hf := ite_pos h11 hf
                        refine to_tsIn (q := 156) (off := 116) dX11_size_40 (by rw [h11]; decide) (by rw [h11]; decide) (by rw [h11]; rfl) rfl ?_
                        refine to_aload_n (q := 157) rfl (by decide) dX11_size_156 rfl ?_
                        refine to_getI (q := 160) (k0 := 11) (C := RX11) (T := TX11) (N := 37) (j := 21) rfl fx_X11_172 (h_138 hS) rfl dX11_size_157 rfl ?_
                        cases hf
                        exact to_iret dX11_size_160 rfl rfl rfl rfl hI
                      · have hf := ite_neg h11 hf
                        by_cases h12 : x1 = 9
                        · have hf := ite_pos h12 hf
                          refine to_tsIn (q := 161) (off := 121) dX11_size_40 (by rw [h12]; decide) (by rw [h12]; decide) (by rw [h12]; rfl) rfl ?_
                          refine to_aload_n (q := 162) rfl (by decide) dX11_size_161 rfl ?_
                          refine to_getI (q := 165) (k0 := 11) (C := RX11) (T := TX11) (N := 37) (j := 22) rfl fx_X11_175 (h_138 hS) rfl dX11_size_162 rfl ?_
                          cases hf
                          exact to_iret dX11_size_165 rfl rfl rfl rfl hI
                        · have hf := ite_neg h12 hf
                          refine to_tsOut (q := 166) dX11_size_40 (ts_out10 h3 h4 h5 h6 h7 h8 h9 h10 h11 h12) rfl ?_
                          refine to_iconst (q := 167) ic_m1 dX11_size_166 rfl ?_
                          cases hf
                          exact to_iret dX11_size_167 rfl rfl rfl rfl hI
def fX11_trouble (m : Me) : Option (Int32 × Me) := some (((setI m 138 0 (0 : Int32)).1 138 11), (setI m 138 0 (0 : Int32)))
set_option maxRecDepth 20000 in
theorem kX11_trouble {S : Sh} (hS : ShOK S) {res : Int32 × Me} {m : Me} (hf : fX11_trouble m = some res) (hI : Inv m) : Call 1 mX11_trouble [.ref 138] (S, m) (some (.int res.1)) (S, res.2) ∧ Inv res.2 := by
  refine call_of (P := InvS) (Nat.le_of_ble_eq_true rfl) (by simp [Value.category]) ?_
  show TT InvS (Call 0) mX11_trouble (0, [(0, .ref 138)], [], S, m) _ _
  unfold fX11_trouble at hf
  refine to_aload_n (q := 1) rfl (by decide) dX11_trouble_0 rfl ?_
  refine to_iconst (q := 2) ic_0 dX11_trouble_1 rfl ?_
  refine to_putI (q := 5) (ty := .int) (k0 := 11) (C := RX11) (T := TX11) (N := 37) (j := 0) rfl fx_X11_71 (h_138 hS) rfl pD_I (Or.inl rfl) (nf_I _) dX11_trouble_2 rfl ?_
  refine to_aload_n (q := 6) rfl (by decide) dX11_trouble_5 rfl ?_
  refine to_getI (q := 9) (k0 := 11) (C := RX11) (T := TX11) (N := 37) (j := 11) rfl fx_X11_74 (h_138 hS) rfl dX11_trouble_6 rfl ?_
  cases hf
  exact to_iret dX11_trouble_9 rfl rfl rfl rfl hI
