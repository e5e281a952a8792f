def fX10_append_49 (k3 : Int32 → Int32 → Me → Option (Me)) (x1 : Int32) (x2 : Int32) (m : Me) : Option (Me) := k3 x1 ((x2 + (-8 : Int32))) m
set_option maxRecDepth 20000 in
theorem kX10_append_49 {S : Sh} (hS : ShOK S) {res : Me} {k3 : Int32 → Int32 → Me → Option (Me)} (hk3 : ∀ {x1 : Int32} {x2 : Int32} {m : Me}, k3 x1 x2 m = some res → Inv m → TT InvS (Call 0) mX10_append (3, [(0, .ref 0), (1, .int x1), (2, .int x2)], [], S, m) none (S, res)) {x1 : Int32} {x2 : Int32} {m : Me} (hf : fX10_append_49 k3 x1 x2 m = some res) (hI : Inv m) : TT InvS (Call 0) mX10_append (49, [(0, .ref 0), (1, .int x1), (2, .int x2)], [], S, m) none (S, res) := by
  unfold fX10_append_49 at hf
  refine to_iinc (q := 52) (v := (x2 + (-8 : Int32))) rfl (congrArg (fun z => x2 + z) ic_m8) [(2, .int (x2 + (-8 : Int32))), (0, .ref 0), (1, .int x1)] rfl (by decide) dX10_append_49 rfl ?_
  refine to_goto (q := 3) dX10_append_52 rfl ?_
  exact to_ext [(0, .ref 0), (1, .int x1), (2, .int (x2 + (-8 : Int32)))] (ext_cons rfl (ext_cons rfl (ext_cons rfl ext_nil))) (hk3 hf hI)
def fX10_append_3 (n : Nat) (x1 : Int32) (x2 : Int32) (m : Me) : Option (Me) := match n with
  | 0 => none
  | n + 1 => if x2 < (0 : Int32) then some m else if (m.1 0 2) < (0 : Int32) then fX10_append_49 (fX10_append_3 n) x1 x2 m else if (900 : Int32) ≤ (m.1 0 2) then fX10_append_49 (fX10_append_3 n) x1 x2 m else ck (inb (m.1 0 2) 900) (fX10_append_49 (fX10_append_3 n) x1 x2 (setI (setI m 2 (m.1 0 2).toNatClampNeg (((x1 >>> (x2 &&& 31))).toInt8.toInt32).toInt8.toInt32) 0 2 (((setI m 2 (m.1 0 2).toNatClampNeg (((x1 >>> (x2 &&& 31))).toInt8.toInt32).toInt8.toInt32).1 0 2) + (1 : Int32))))
set_option maxRecDepth 20000 in
theorem kX10_append_3 {S : Sh} (hS : ShOK S) {res : Me} (n : Nat) : ∀ {x1 : Int32} {x2 : Int32} {m : Me}, fX10_append_3 n x1 x2 m = some res → Inv m → TT InvS (Call 0) mX10_append (3, [(0, .ref 0), (1, .int x1), (2, .int x2)], [], S, m) none (S, res) := by
  induction n with
  | zero => intro x1 x2 m hf; cases hf
  | succ n ih =>
    intro x1 x2 m hf  hI
    unfold fX10_append_3 at hf
    refine to_iload_n (q := 4) rfl dX10_append_3 rfl ?_
    by_cases h1 : x2 < (0 : Int32)
    · have hf := ite_pos h1 hf
      refine to_ifT (q := 55) (op := .lt) h1 dX10_append_4 rfl ?_
      cases hf
      exact to_vret dX10_append_55 rfl rfl rfl hI
    · have hf := ite_neg h1 hf
      refine to_ifF (q := 7) (op := .lt) 55 h1 dX10_append_4 rfl rfl ?_
      refine to_aload_n (q := 8) rfl (by decide) dX10_append_7 rfl ?_
      refine to_getI (q := 11) (k0 := 10) (C := RX10) (T := TX10) (N := 17) (j := 2) rfl fx_X10_90 (h_0 hS) rfl dX10_append_8 rfl ?_
      by_cases h2 : (m.1 0 2) < (0 : Int32)
      · have hf := ite_pos h2 hf
        refine to_ifT (q := 49) (op := .lt) h2 dX10_append_11 rfl ?_
        exact to_ext [(0, .ref 0), (1, .int x1), (2, .int x2)] (ext_cons rfl (ext_cons rfl (ext_cons rfl ext_nil))) (kX10_append_49 hS ih hf hI)
      · have hf := ite_neg h2 hf
        refine to_ifF (q := 14) (op := .lt) 49 h2 dX10_append_11 rfl rfl ?_
        refine to_aload_n (q := 15) rfl (by decide) dX10_append_14 rfl ?_
        refine to_getI (q := 18) (k0 := 10) (C := RX10) (T := TX10) (N := 17) (j := 2) rfl fx_X10_90 (h_0 hS) rfl dX10_append_15 rfl ?_
        refine to_aload_n (q := 19) rfl (by decide) dX10_append_18 rfl ?_
        refine to_getR (q := 22) (b := 2) (k0 := 10) (C := RX10) (T := TX10) (N := 17) (j := 1) rfl fx_X10_20 (h_0 hS) rfl (iv_0_1 hI) dX10_append_19 rfl ?_
        refine to_alen (q := 23) (h_2 hS) (by decide) on_900 dX10_append_22 rfl ?_
        by_cases h3 : (900 : Int32) ≤ (m.1 0 2)
        · have hf := ite_pos h3 hf
          refine to_icT (q := 49) (op := .ge) h3 dX10_append_23 rfl ?_
          exact to_ext [(0, .ref 0), (1, .int x1), (2, .int x2)] (ext_cons rfl (ext_cons rfl (ext_cons rfl ext_nil))) (kX10_append_49 hS ih hf hI)
        · have hf := ite_neg h3 hf
          refine to_icF (q := 26) (op := .ge) 49 h3 dX10_append_23 rfl rfl ?_
          refine to_aload_n (q := 27) rfl (by decide) dX10_append_26 rfl ?_
          refine to_getR (q := 30) (b := 2) (k0 := 10) (C := RX10) (T := TX10) (N := 17) (j := 1) rfl fx_X10_20 (h_0 hS) rfl (iv_0_1 hI) dX10_append_27 rfl ?_
          refine to_aload_n (q := 31) rfl (by decide) dX10_append_30 rfl ?_
          refine to_getI (q := 34) (k0 := 10) (C := RX10) (T := TX10) (N := 17) (j := 2) rfl fx_X10_90 (h_0 hS) rfl dX10_append_31 rfl ?_
          refine to_iload_n (q := 35) rfl dX10_append_34 rfl ?_
          refine to_iload_n (q := 36) rfl dX10_append_35 rfl ?_
          refine to_ishr (q := 37) dX10_append_36 rfl ?_
          refine to_i2b (q := 38) dX10_append_37 rfl ?_
          obtain ⟨hb4, hf⟩ := ck_some hf
          refine to_basj (q := 39) (h_2 hS) hb4 (rfl) dX10_append_38 rfl ?_
          refine to_aload_n (q := 40) rfl (by decide) dX10_append_39 rfl ?_
          refine to_dup (q := 41) rfl dX10_append_40 rfl ?_
          refine to_getI (q := 44) (k0 := 10) (C := RX10) (T := TX10) (N := 17) (j := 2) rfl fx_X10_90 (h_0 hS) rfl dX10_append_41 rfl ?_
          refine to_iconst (q := 45) ic_1 dX10_append_44 rfl ?_
          refine to_iadd (q := 46) dX10_append_45 rfl ?_
          refine to_putI (q := 49) (ty := .int) (k0 := 10) (C := RX10) (T := TX10) (N := 17) (j := 2) rfl fx_X10_90 (h_0 hS) rfl pD_I (Or.inl rfl) (nf_I _) dX10_append_46 rfl ?_
          exact to_ext [(0, .ref 0), (1, .int x1), (2, .int x2)] (ext_cons rfl (ext_cons rfl (ext_cons rfl ext_nil))) (kX10_append_49 hS ih hf hI)
def fX10_append (x1 : Int32) (m : Me) : Option (Me) := fX10_append_3 FU x1 ((24 : Int32)) m
set_option maxRecDepth 20000 in
theorem kX10_append {S : Sh} (hS : ShOK S) {res : Me} {x1 : Int32} {m : Me} (hf : fX10_append x1 m = some res) (hI : Inv m) : Call 1 mX10_append [.ref 0, .int x1] (S, m) none (S, res) ∧ Inv res := by
  refine call_of (P := InvS) (Nat.le_of_ble_eq_true rfl) (by simp [Value.category]) ?_
  show TT InvS (Call 0) mX10_append (0, [(0, .ref 0), (1, .int x1)], [], S, m) _ _
  unfold fX10_append at hf
  refine to_bipush (q := 2) bp_24 dX10_append_0 rfl ?_
  refine to_istore_n (q := 3) [(2, .int (24 : Int32)), (0, .ref 0), (1, .int x1)] rfl (by decide) dX10_append_2 rfl ?_
  exact to_ext [(0, .ref 0), (1, .int x1), (2, .int (24 : Int32))] (ext_cons rfl (ext_cons rfl (ext_cons rfl ext_nil))) (kX10_append_3 hS FU hf hI)
def fX10_feed (x1 : Int32) (x2 : Int32) (x3 : Int32) (x4 : Int32) (x5 : Int32) (m : Me) : Option (Int32 × Me) := if ((m.1 0 2) + (20 : Int32)) ≤ (900 : Int32) then cl1 (fX10_append x1 m) fun m4 => cl1 (fX10_append x2 m4) fun m7 => cl1 (fX10_append x3 m7) fun m10 => cl1 (fX10_append x4 m10) fun m13 => cl1 (fX10_append x5 m13) fun m16 => some ((m16.1 0 2), m16) else some ((-1 : Int32), m)
set_option maxRecDepth 20000 in
theorem kX10_feed {S : Sh} (hS : ShOK S) {res : Int32 × Me} {x1 : Int32} {x2 : Int32} {x3 : Int32} {x4 : Int32} {x5 : Int32} {m : Me} (hf : fX10_feed x1 x2 x3 x4 x5 m = some res) (hI : Inv m) : Call 2 mX10_feed [.ref 0, .int x1, .int x2, .int x3, .int x4, .int x5] (S, m) (some (.int res.1)) (S, res.2) ∧ Inv res.2 := by
  refine call_of (P := InvS) (Nat.le_of_ble_eq_true rfl) (by simp [Value.category]) ?_
  show TT InvS (Call 1) mX10_feed (0, [(0, .ref 0), (1, .int x1), (2, .int x2), (3, .int x3), (4, .int x4), (5, .int x5)], [], S, m) _ _
  unfold fX10_feed at hf
  refine to_aload_n (q := 1) rfl (by decide) dX10_feed_0 rfl ?_
  refine to_getI (q := 4) (k0 := 10) (C := RX10) (T := TX10) (N := 17) (j := 2) rfl fx_X10_90 (h_0 hS) rfl dX10_feed_1 rfl ?_
  refine to_bipush (q := 6) bp_20 dX10_feed_4 rfl ?_
  refine to_iadd (q := 7) dX10_feed_6 rfl ?_
  refine to_sipush (q := 10) sp_900 dX10_feed_7 rfl ?_
  by_cases h1 : ((m.1 0 2) + (20 : Int32)) ≤ (900 : Int32)
  · have hf := ite_pos h1 hf
    refine to_icT (q := 15) (op := .le) h1 dX10_feed_10 rfl ?_
    refine to_aload_n (q := 16) rfl (by decide) dX10_feed_15 rfl ?_
    refine to_iload_n (q := 17) rfl dX10_feed_16 rfl ?_
    obtain ⟨m4, hc2, hf⟩ := cl1_some hf
    have qc3 := kX10_append hS hc2 hI
    refine to_virtV (q := 20) mX10_append [.int x1] dX10_feed_17 rfl rfl (Nat.le_of_ble_eq_true rfl) mo_X10_append mv_X10_94 (Or.inl ⟨_, _, _, h_0 hS, rfl, rfl⟩) (Call_mono (by decide) qc3.1) ?_
    have hI := qc3.2
    refine to_aload_n (q := 21) rfl (by decide) dX10_feed_20 rfl ?_
    refine to_iload_n (q := 22) rfl dX10_feed_21 rfl ?_
    obtain ⟨m7, hc5, hf⟩ := cl1_some hf
    have qc6 := kX10_append hS hc5 hI
    refine to_virtV (q := 25) mX10_append [.int x2] dX10_feed_22 rfl rfl (Nat.le_of_ble_eq_true rfl) mo_X10_append mv_X10_94 (Or.inl ⟨_, _, _, h_0 hS, rfl, rfl⟩) (Call_mono (by decide) qc6.1) ?_
    have hI := qc6.2
    refine to_aload_n (q := 26) rfl (by decide) dX10_feed_25 rfl ?_
    refine to_iload_n (q := 27) rfl dX10_feed_26 rfl ?_
    obtain ⟨m10, hc8, hf⟩ := cl1_some hf
    have qc9 := kX10_append hS hc8 hI
    refine to_virtV (q := 30) mX10_append [.int x3] dX10_feed_27 rfl rfl (Nat.le_of_ble_eq_true rfl) mo_X10_append mv_X10_94 (Or.inl ⟨_, _, _, h_0 hS, rfl, rfl⟩) (Call_mono (by decide) qc9.1) ?_
    have hI := qc9.2
    refine to_aload_n (q := 31) rfl (by decide) dX10_feed_30 rfl ?_
    refine to_iload (q := 33) rfl dX10_feed_31 rfl ?_
    obtain ⟨m13, hc11, hf⟩ := cl1_some hf
    have qc12 := kX10_append hS hc11 hI
    refine to_virtV (q := 36) mX10_append [.int x4] dX10_feed_33 rfl rfl (Nat.le_of_ble_eq_true rfl) mo_X10_append mv_X10_94 (Or.inl ⟨_, _, _, h_0 hS, rfl, rfl⟩) (Call_mono (by decide) qc12.1) ?_
    have hI := qc12.2
    refine to_aload_n (q := 37) rfl (by decide) dX10_feed_36 rfl ?_
    refine to_iload (q := 39) rfl dX10_feed_37 rfl ?_
    obtain ⟨m16, hc14, hf⟩ := cl1_some hf
    have qc15 := kX10_append hS hc14 hI
    refine to_virtV (q := 42) mX10_append [.int x5] dX10_feed_39 rfl rfl (Nat.le_of_ble_eq_true rfl) mo_X10_append mv_X10_94 (Or.inl ⟨_, _, _, h_0 hS, rfl, rfl⟩) (Call_mono (by decide) qc15.1) ?_
    have hI := qc15.2
    refine to_aload_n (q := 43) rfl (by decide) dX10_feed_42 rfl ?_
    refine to_getI (q := 46) (k0 := 10) (C := RX10) (T := TX10) (N := 17) (j := 2) rfl fx_X10_90 (h_0 hS) rfl dX10_feed_43 rfl ?_
    cases hf
    exact to_iret dX10_feed_46 rfl rfl rfl rfl hI
  · have hf := ite_neg h1 hf
    refine to_icF (q := 13) (op := .le) 15 h1 dX10_feed_10 rfl rfl ?_
    refine to_iconst (q := 14) ic_m1 dX10_feed_13 rfl ?_
    cases hf
    exact to_iret dX10_feed_14 rfl rfl rfl rfl hI
def fX10_refuse (x1 : Int32) (m : Me) : Option (Int32 × Me) := some ((-1 : Int32), (setI m 0 16 x1))
set_option maxRecDepth 20000 in
theorem kX10_refuse {S : Sh} (hS : ShOK S) {res : Int32 × Me} {x1 : Int32} {m : Me} (hf : fX10_refuse x1 m = some res) (hI : Inv m) : Call 1 mX10_refuse [.ref 0, .int x1] (S, m) (some (.int res.1)) (S, res.2) ∧ Inv res.2 := by
  refine call_of (P := InvS) (Nat.le_of_ble_eq_true rfl) (by simp [Value.category]) ?_
  show TT InvS (Call 0) mX10_refuse (0, [(0, .ref 0), (1, .int x1)], [], S, m) _ _
  unfold fX10_refuse at hf
  refine to_aload_n (q := 1) rfl (by decide) dX10_refuse_0 rfl ?_
  refine to_iload_n (q := 2) rfl dX10_refuse_1 rfl ?_
  refine to_putI (q := 5) (ty := .int) (k0 := 10) (C := RX10) (T := TX10) (N := 17) (j := 16) rfl fx_X10_141 (h_0 hS) rfl pD_I (Or.inl rfl) (nf_I _) dX10_refuse_2 rfl ?_
  refine to_iconst (q := 6) ic_m1 dX10_refuse_5 rfl ?_
  cases hf
  exact to_iret dX10_refuse_6 rfl rfl rfl rfl hI
def fX10_answer (x1 : Int32) (m : Me) : Option (Int32 × Me) := some (x1, (setI m 0 16 (0 : Int32)))
set_option maxRecDepth 20000 in
theorem kX10_answer {S : Sh} (hS : ShOK S) {res : Int32 × Me} {x1 : Int32} {m : Me} (hf : fX10_answer x1 m = some res) (hI : Inv m) : Call 1 mX10_answer [.ref 0, .int x1] (S, m) (some (.int res.1)) (S, res.2) ∧ Inv res.2 := by
  refine call_of (P := InvS) (Nat.le_of_ble_eq_true rfl) (by simp [Value.category]) ?_
  show TT InvS (Call 0) mX10_answer (0, [(0, .ref 0), (1, .int x1)], [], S, m) _ _
  unfold fX10_answer at hf
  refine to_aload_n (q := 1) rfl (by decide) dX10_answer_0 rfl ?_
  refine to_iconst (q := 2) ic_0 dX10_answer_1 rfl ?_
  refine to_putI (q := 5) (ty := .int) (k0 := 10) (C := RX10) (T := TX10) (N := 17) (j := 16) rfl fx_X10_141 (h_0 hS) rfl pD_I (Or.inl rfl) (nf_I _) dX10_answer_2 rfl ?_
  refine to_iload_n (q := 6) rfl dX10_answer_5 rfl ?_
  cases hf
  exact to_iret dX10_answer_6 rfl rfl rfl rfl hI
def fX10_fan_12 (m : Me) : Option (Int32 × Me) := cl2 (fX10_refuse (2 : Int32) m) fun r39 m40 => some (r39, m40)
set_option maxRecDepth 20000 in
theorem kX10_fan_12 {S : Sh} (hS : ShOK S) {res : Int32 × Me} {m : Me} (hf : fX10_fan_12 m = some res) (hI : Inv m) : TT InvS (Call 12) mX10_fan (12, [(0, .ref 0)], [], S, m) (some (.int res.1)) (S, res.2) := by
  unfold fX10_fan_12 at hf
  refine to_aload_n (q := 13) rfl (by decide) dX10_fan_12 rfl ?_
  refine to_iconst (q := 14) ic_2 dX10_fan_13 rfl ?_
  obtain ⟨r39, m40, hc37, hf⟩ := cl2_some hf
  have qc38 := kX10_refuse hS hc37 hI
  refine to_virtI (q := 17) mX10_refuse [.int (2 : Int32)] dX10_fan_14 rfl rfl (Nat.le_of_ble_eq_true rfl) mo_X10_refuse mv_X10_98 (Or.inl ⟨_, _, _, h_0 hS, rfl, rfl⟩) (Call_mono (by decide) qc38.1) ?_
  have hI := qc38.2
  cases hf
  exact to_iret dX10_fan_17 rfl rfl rfl rfl hI
def fX10_fan (x1 : Int32) (m : Me) : Option (Int32 × Me) := if x1 < (0 : Int32) then fX10_fan_12 m else if x1 ≤ (m.1 0 2) then cl2 (fX6_readFan x1 (setI m 0 2 (0 : Int32))) fun r5 m6 => if r5 = (0 : Int32) then cl2 (fX10_refuse (4 : Int32) m6) fun r35 m36 => some (r35, m36) else cl2 (fX6_exchange (rr m6 0 3) m6) fun r11 m12 => cl1 (fX5_copyFrom 81 ((rr (setR m12 0 3 (some r11)) 0 3) + 1) (setI (setR m12 0 3 (some r11)) 0 4 (1 : Int32))) fun m16 => cl1 (fX0_forget m16) fun m19 => cl1 (fX9_study (rr m19 0 3) 88 (setI m19 0 7 (0 : Int32))) fun m23 => cl2 (fX2_openings (rr m23 0 3) m23) fun r27 m28 => cl2 (fX10_answer r27 m28) fun r31 m32 => some (r31, m32) else fX10_fan_12 m
set_option maxRecDepth 20000 in
theorem kX10_fan {S : Sh} (hS : ShOK S) {res : Int32 × Me} {x1 : Int32} {m : Me} (hf : fX10_fan x1 m = some res) (hI : Inv m) : Call 13 mX10_fan [.ref 0, .int x1] (S, m) (some (.int res.1)) (S, res.2) ∧ Inv res.2 := by
  refine call_of (P := InvS) (Nat.le_of_ble_eq_true rfl) (by simp [Value.category]) ?_
  show TT InvS (Call 12) mX10_fan (0, [(0, .ref 0), (1, .int x1)], [], S, m) _ _
  unfold fX10_fan at hf
  refine to_iload_n (q := 1) rfl dX10_fan_0 rfl ?_
  by_cases h1 : x1 < (0 : Int32)
  · have hf := ite_pos h1 hf
    refine to_ifT (q := 12) (op := .lt) h1 dX10_fan_1 rfl ?_
    exact to_ext [(0, .ref 0)] (ext_cons rfl ext_nil) (kX10_fan_12 hS hf hI)
  · have hf := ite_neg h1 hf
    refine to_ifF (q := 4) (op := .lt) 12 h1 dX10_fan_1 rfl rfl ?_
    refine to_iload_n (q := 5) rfl dX10_fan_4 rfl ?_
    refine to_aload_n (q := 6) rfl (by decide) dX10_fan_5 rfl ?_
    refine to_getI (q := 9) (k0 := 10) (C := RX10) (T := TX10) (N := 17) (j := 2) rfl fx_X10_90 (h_0 hS) rfl dX10_fan_6 rfl ?_
    by_cases h2 : x1 ≤ (m.1 0 2)
    · have hf := ite_pos h2 hf
      refine to_icT (q := 18) (op := .le) h2 dX10_fan_9 rfl ?_
      refine to_aload_n (q := 19) rfl (by decide) dX10_fan_18 rfl ?_
      refine to_iconst (q := 20) ic_0 dX10_fan_19 rfl ?_
      refine to_putI (q := 23) (ty := .int) (k0 := 10) (C := RX10) (T := TX10) (N := 17) (j := 2) rfl fx_X10_90 (h_0 hS) rfl pD_I (Or.inl rfl) (nf_I _) dX10_fan_20 rfl ?_
      refine to_aload_n (q := 24) rfl (by decide) dX10_fan_23 rfl ?_
      refine to_getR (q := 27) (b := 1) (k0 := 10) (C := RX10) (T := TX10) (N := 17) (j := 0) rfl fx_X10_12 (h_0 hS) rfl (iv_0_0 hI) dX10_fan_24 rfl ?_
      refine to_iload_n (q := 28) rfl dX10_fan_27 rfl ?_
      obtain ⟨r5, m6, hc3, hf⟩ := cl2_some hf
      have qc4 := kX6_readFan hS hc3 hI
      refine to_virtI (q := 31) mX6_readFan [.int x1] dX10_fan_28 rfl rfl (Nat.le_of_ble_eq_true rfl) mo_X6_readFan mv_X10_102 (Or.inl ⟨_, _, _, h_1 hS, rfl, rfl⟩) (Call_mono (by decide) qc4.1) ?_
      have hI := qc4.2
      by_cases h7 : r5 = (0 : Int32)
      · have hf := ite_pos h7 hf
        refine to_ifF (q := 34) (op := .ne) 40 (fun z => z h7) dX10_fan_31 rfl rfl ?_
        refine to_aload_n (q := 35) rfl (by decide) dX10_fan_34 rfl ?_
        refine to_iconst (q := 36) ic_4 dX10_fan_35 rfl ?_
        obtain ⟨r35, m36, hc33, hf⟩ := cl2_some hf
        have qc34 := kX10_refuse hS hc33 hI
        refine to_virtI (q := 39) mX10_refuse [.int (4 : Int32)] dX10_fan_36 rfl rfl (Nat.le_of_ble_eq_true rfl) mo_X10_refuse mv_X10_98 (Or.inl ⟨_, _, _, h_0 hS, rfl, rfl⟩) (Call_mono (by decide) qc34.1) ?_
        have hI := qc34.2
        cases hf
        exact to_iret dX10_fan_39 rfl rfl rfl rfl hI
      · have hf := ite_neg h7 hf
        refine to_ifT (q := 40) (op := .ne) h7 dX10_fan_31 rfl ?_
        refine to_aload_n (q := 41) rfl (by decide) dX10_fan_40 rfl ?_
        refine to_aload_n (q := 42) rfl (by decide) dX10_fan_41 rfl ?_
        refine to_getR (q := 45) (b := 1) (k0 := 10) (C := RX10) (T := TX10) (N := 17) (j := 0) rfl fx_X10_12 (h_0 hS) rfl (iv_0_0 hI) dX10_fan_42 rfl ?_
        refine to_aload_n (q := 46) rfl (by decide) dX10_fan_45 rfl ?_
        have hk8 : kd (rr m6 0 3) = 2 := (ivT hI).2
        refine to_getR (q := 49) (b := rr m6 0 3) (k0 := 10) (C := RX10) (T := TX10) (N := 17) (j := 3) rfl fx_X10_26 (h_0 hS) rfl ((ivT hI).1) dX10_fan_46 rfl ?_
        obtain ⟨r11, m12, hc9, hf⟩ := cl2_some hf
        have qc10 := kX6_exchange hS hc9 (hk8) hI
        refine to_virtR (q := 52) mX6_exchange [.ref (rr m6 0 3)] dX10_fan_49 rfl rfl (Nat.le_of_ble_eq_true rfl) mo_X6_exchange mv_X10_106 (Or.inl ⟨_, _, _, h_1 hS, rfl, rfl⟩) (Call_mono (by decide) qc10.1) ?_
        have hkr11 : kd r11 = 2 := x_X6_exchange hc9 hI
        have hI := qc10.2
        refine to_putR (q := 55) (ty := .object "FanParts$Fan") (k0 := 10) (C := RX10) (T := TX10) (N := 17) (j := 3) rfl fx_X10_26 (h_0 hS) (kd_S hS (hkr11) (by decide)) rfl pD_Fan (Or.inl rfl) (fun _ => ⟨rfl, rfl⟩) dX10_fan_52 rfl ?_
        have hI : Inv (setR m12 0 3 (some r11)) := inv_told hI (hkr11)
        refine to_aload_n (q := 56) rfl (by decide) dX10_fan_55 rfl ?_
        refine to_iconst (q := 57) ic_1 dX10_fan_56 rfl ?_
        refine to_putI (q := 60) (ty := .boolean) (k0 := 10) (C := RX10) (T := TX10) (N := 17) (j := 4) rfl fx_X10_110 (h_0 hS) rfl pD_Z (Or.inl rfl) (nf_Z (by decide)) dX10_fan_57 rfl ?_
        refine to_aload_n (q := 61) rfl (by decide) dX10_fan_60 rfl ?_
        refine to_getR (q := 64) (b := 81) (k0 := 10) (C := RX10) (T := TX10) (N := 17) (j := 5) rfl fx_X10_33 (h_0 hS) rfl (iv_0_5 hI) dX10_fan_61 rfl ?_
        refine to_aload_n (q := 65) rfl (by decide) dX10_fan_64 rfl ?_
        have hk13 : kd (rr (setR m12 0 3 (some r11)) 0 3) = 2 := (ivT hI).2
        refine to_getR (q := 68) (b := rr (setR m12 0 3 (some r11)) 0 3) (k0 := 10) (C := RX10) (T := TX10) (N := 17) (j := 3) rfl fx_X10_26 (h_0 hS) rfl ((ivT hI).1) dX10_fan_65 rfl ?_
        refine to_getR (q := 71) (b := (rr (setR m12 0 3 (some r11)) 0 3) + 1) (k0 := 2) (C := RX2) (T := TX2) (N := 14) (j := 5) rfl fx_X10_114 (sh_kd hS hk13 (by decide)) rfl (iv2s hI (hk13)) dX10_fan_68 rfl ?_
        obtain ⟨m16, hc14, hf⟩ := cl1_some hf
        have qc15 := kX5_copyFrom hS hc14 rfl ((kd2s (hk13))) hI
        refine to_virtV (q := 74) mX5_copyFrom [.ref ((rr (setR m12 0 3 (some r11)) 0 3) + 1)] dX10_fan_71 rfl rfl (Nat.le_of_ble_eq_true rfl) mo_X5_copyFrom mv_X10_117 (Or.inl ⟨_, _, _, h_81 hS, rfl, rfl⟩) (Call_mono (by decide) qc15.1) ?_
        have hI := qc15.2
        refine to_aload_n (q := 75) rfl (by decide) dX10_fan_74 rfl ?_
        refine to_getR (q := 78) (b := 84) (k0 := 10) (C := RX10) (T := TX10) (N := 17) (j := 8) rfl fx_X10_44 (h_0 hS) rfl (iv_0_8 hI) dX10_fan_75 rfl ?_
        obtain ⟨m19, hc17, hf⟩ := cl1_some hf
        have qc18 := kX0_forget hS hc17 hI
        refine to_virtV (q := 81) mX0_forget [] dX10_fan_78 rfl rfl (Nat.le_of_ble_eq_true rfl) mo_X0_forget mv_X10_121 (Or.inl ⟨_, _, _, h_84 hS, rfl, rfl⟩) (Call_mono (by decide) qc18.1) ?_
        have hI := qc18.2
        refine to_aload_n (q := 82) rfl (by decide) dX10_fan_81 rfl ?_
        refine to_iconst (q := 83) ic_0 dX10_fan_82 rfl ?_
        refine to_putI (q := 86) (ty := .int) (k0 := 10) (C := RX10) (T := TX10) (N := 17) (j := 7) rfl fx_X10_124 (h_0 hS) rfl pD_I (Or.inl rfl) (nf_I _) dX10_fan_83 rfl ?_
        refine to_aload_n (q := 87) rfl (by decide) dX10_fan_86 rfl ?_
        refine to_getR (q := 90) (b := 94) (k0 := 10) (C := RX10) (T := TX10) (N := 17) (j := 11) rfl fx_X10_61 (h_0 hS) rfl (iv_0_11 hI) dX10_fan_87 rfl ?_
        refine to_aload_n (q := 91) rfl (by decide) dX10_fan_90 rfl ?_
        have hk20 : kd (rr m19 0 3) = 2 := (ivT hI).2
        refine to_getR (q := 94) (b := rr m19 0 3) (k0 := 10) (C := RX10) (T := TX10) (N := 17) (j := 3) rfl fx_X10_26 (h_0 hS) rfl ((ivT hI).1) dX10_fan_91 rfl ?_
        refine to_aload_n (q := 95) rfl (by decide) dX10_fan_94 rfl ?_
        refine to_getR (q := 98) (b := 88) (k0 := 10) (C := RX10) (T := TX10) (N := 17) (j := 9) rfl fx_X10_51 (h_0 hS) rfl (iv_0_9 hI) dX10_fan_95 rfl ?_
        obtain ⟨m23, hc21, hf⟩ := cl1_some hf
        have qc22 := kX9_study hS hc21 (hk20) rfl hI
        refine to_virtV (q := 101) mX9_study [.ref (rr m19 0 3), .ref 88] dX10_fan_98 rfl rfl (Nat.le_of_ble_eq_true rfl) mo_X9_study mv_X10_127 (Or.inl ⟨_, _, _, h_94 hS, rfl, rfl⟩) (Call_mono (by decide) qc22.1) ?_
        have hI := qc22.2
        refine to_aload_n (q := 102) rfl (by decide) dX10_fan_101 rfl ?_
        refine to_aload_n (q := 103) rfl (by decide) dX10_fan_102 rfl ?_
        have hk24 : kd (rr m23 0 3) = 2 := (ivT hI).2
        refine to_getR (q := 106) (b := rr m23 0 3) (k0 := 10) (C := RX10) (T := TX10) (N := 17) (j := 3) rfl fx_X10_26 (h_0 hS) rfl ((ivT hI).1) dX10_fan_103 rfl ?_
        obtain ⟨r27, m28, hc25, hf⟩ := cl2_some hf
        have qc26 := kX2_openings hS hc25 (hk24) hI
        refine to_virtI (q := 109) mX2_openings [] dX10_fan_106 rfl rfl (Nat.le_of_ble_eq_true rfl) mo_X2_openings mv_X10_131 (Or.inl ⟨_, _, _, sh_kd hS hk24 (by decide), rfl, rfl⟩) (Call_mono (by decide) qc26.1) ?_
        have hI := qc26.2
        obtain ⟨r31, m32, hc29, hf⟩ := cl2_some hf
        have qc30 := kX10_answer hS hc29 hI
        refine to_virtI (q := 112) mX10_answer [.int r27] dX10_fan_109 rfl rfl (Nat.le_of_ble_eq_true rfl) mo_X10_answer mv_X10_135 (Or.inl ⟨_, _, _, h_0 hS, rfl, rfl⟩) (Call_mono (by decide) qc30.1) ?_
        have hI := qc30.2
        cases hf
        exact to_iret dX10_fan_112 rfl rfl rfl rfl hI
    · have hf := ite_neg h2 hf
      refine to_icF (q := 12) (op := .le) 18 h2 dX10_fan_9 rfl rfl ?_
      exact to_ext [(0, .ref 0)] (ext_cons rfl ext_nil) (kX10_fan_12 hS hf hI)
def fX10_fault (m : Me) : Option (Int32 × Me) := some ((m.1 1 8), m)
set_option maxRecDepth 20000 in
theorem kX10_fault {S : Sh} (hS : ShOK S) {res : Int32 × Me} {m : Me} (hf : fX10_fault m = some res) (hI : Inv m) : Call 1 mX10_fault [.ref 0] (S, m) (some (.int res.1)) (S, res.2) ∧ Inv res.2 := by
  refine call_of (P := InvS) (Nat.le_of_ble_eq_true rfl) (by simp [Value.category]) ?_
  show TT InvS (Call 0) mX10_fault (0, [(0, .ref 0)], [], S, m) _ _
  unfold fX10_fault at hf
  refine to_aload_n (q := 1) rfl (by decide) dX10_fault_0 rfl ?_
  refine to_getR (q := 4) (b := 1) (k0 := 10) (C := RX10) (T := TX10) (N := 17) (j := 0) rfl fx_X10_12 (h_0 hS) rfl (iv_0_0 hI) dX10_fault_1 rfl ?_
  refine to_getI (q := 7) (k0 := 6) (C := RX6) (T := TX6) (N := 10) (j := 8) rfl fx_X10_138 (h_1 hS) rfl dX10_fault_4 rfl ?_
  cases hf
  exact to_iret dX10_fault_7 rfl rfl rfl rfl hI
def fX10_where_19 (t0 : Int32) (m : Me) : Option (Int32 × Me) := some (t0, m)
set_option maxRecDepth 20000 in
theorem kX10_where_19 {S : Sh} (hS : ShOK S) {res : Int32 × Me} {t0 : Int32} {m : Me} (hf : fX10_where_19 t0 m = some res) (hI : Inv m) : TT InvS (Call 0) mX10_where (19, [], [.int t0], S, m) (some (.int res.1)) (S, res.2) := by
  unfold fX10_where_19 at hf
  cases hf
  exact to_iret dX10_where_19 rfl rfl rfl rfl hI
def fX10_where (m : Me) : Option (Int32 × Me) := if (m.1 0 16) = (4 : Int32) then fX10_where_19 ((m.1 1 9)) m else fX10_where_19 ((-1 : Int32)) m
set_option maxRecDepth 20000 in
theorem kX10_where {S : Sh} (hS : ShOK S) {res : Int32 × Me} {m : Me} (hf : fX10_where m = some res) (hI : Inv m) : Call 1 mX10_where [.ref 0] (S, m) (some (.int res.1)) (S, res.2) ∧ Inv res.2 := by
  refine call_of (P := InvS) (Nat.le_of_ble_eq_true rfl) (by simp [Value.category]) ?_
  show TT InvS (Call 0) mX10_where (0, [(0, .ref 0)], [], S, m) _ _
  unfold fX10_where at hf
  refine to_aload_n (q := 1) rfl (by decide) dX10_where_0 rfl ?_
  refine to_getI (q := 4) (k0 := 10) (C := RX10) (T := TX10) (N := 17) (j := 16) rfl fx_X10_141 (h_0 hS) rfl dX10_where_1 rfl ?_
  refine to_iconst (q := 5) ic_4 dX10_where_4 rfl ?_
  by_cases h1 : (m.1 0 16) = (4 : Int32)
  · have hf := ite_pos h1 hf
    refine to_icF (q := 8) (op := .ne) 18 (fun z => z h1) dX10_where_5 rfl rfl ?_
    refine to_aload_n (q := 9) rfl (by decide) dX10_where_8 rfl ?_
    refine to_getR (q := 12) (b := 1) (k0 := 10) (C := RX10) (T := TX10) (N := 17) (j := 0) rfl fx_X10_12 (h_0 hS) rfl (iv_0_0 hI) dX10_where_9 rfl ?_
    refine to_getI (q := 15) (k0 := 6) (C := RX6) (T := TX6) (N := 10) (j := 9) rfl fx_X10_144 (h_1 hS) rfl dX10_where_12 rfl ?_
    refine to_goto (q := 19) dX10_where_15 rfl ?_
    exact to_ext [] ext_nil (kX10_where_19 hS hf hI)
  · have hf := ite_neg h1 hf
    refine to_icT (q := 18) (op := .ne) h1 dX10_where_5 rfl ?_
    refine to_iconst (q := 19) ic_m1 dX10_where_18 rfl ?_
    exact to_ext [] ext_nil (kX10_where_19 hS hf hI)
def fX10_noSide_21 (t0 : Int32) (m : Me) : Option (Int32 × Me) := ck (t0 = 0 ∨ t0 = 1) (some (t0, m))
set_option maxRecDepth 20000 in
theorem kX10_noSide_21 {S : Sh} (hS : ShOK S) {res : Int32 × Me} {t0 : Int32} {m : Me} (hf : fX10_noSide_21 t0 m = some res) (hI : Inv m) : TT InvS (Call 0) mX10_noSide (21, [], [.int t0], S, m) (some (.int res.1)) (S, res.2) := by
  unfold fX10_noSide_21 at hf
  obtain ⟨hz4, hf⟩ := ck_some hf
  cases hf
  exact to_iret dX10_noSide_21 rfl (nf_Z hz4).1 rfl rfl hI
def fX10_noSide_16 (m : Me) : Option (Int32 × Me) := fX10_noSide_21 ((1 : Int32)) m
set_option maxRecDepth 20000 in
theorem kX10_noSide_16 {S : Sh} (hS : ShOK S) {res : Int32 × Me} {m : Me} (hf : fX10_noSide_16 m = some res) (hI : Inv m) : TT InvS (Call 0) mX10_noSide (16, [], [], S, m) (some (.int res.1)) (S, res.2) := by
  unfold fX10_noSide_16 at hf
  refine to_iconst (q := 17) ic_1 dX10_noSide_16 rfl ?_
  refine to_goto (q := 21) dX10_noSide_17 rfl ?_
  exact to_ext [] ext_nil (kX10_noSide_21 hS hf hI)
def fX10_noSide (x1 : Int32) (m : Me) : Option (Int32 × Me) := if (m.1 0 4) = (0 : Int32) then fX10_noSide_16 m else if x1 < (0 : Int32) then fX10_noSide_16 m else if x1 ≤ (1 : Int32) then fX10_noSide_21 ((0 : Int32)) m else fX10_noSide_16 m
set_option maxRecDepth 20000 in
theorem kX10_noSide {S : Sh} (hS : ShOK S) {res : Int32 × Me} {x1 : Int32} {m : Me} (hf : fX10_noSide x1 m = some res) (hI : Inv m) : Call 1 mX10_noSide [.ref 0, .int x1] (S, m) (some (.int res.1)) (S, res.2) ∧ Inv res.2 := by
  refine call_of (P := InvS) (Nat.le_of_ble_eq_true rfl) (by simp [Value.category]) ?_
  show TT InvS (Call 0) mX10_noSide (0, [(0, .ref 0), (1, .int x1)], [], S, m) _ _
  unfold fX10_noSide at hf
  refine to_aload_n (q := 1) rfl (by decide) dX10_noSide_0 rfl ?_
  refine to_getI (q := 4) (k0 := 10) (C := RX10) (T := TX10) (N := 17) (j := 4) rfl fx_X10_110 (h_0 hS) rfl dX10_noSide_1 rfl ?_
  by_cases h1 : (m.1 0 4) = (0 : Int32)
  · have hf := ite_pos h1 hf
    refine to_ifT (q := 16) (op := .eq) h1 dX10_noSide_4 rfl ?_
    exact to_ext [] ext_nil (kX10_noSide_16 hS hf hI)
  · have hf := ite_neg h1 hf
    refine to_ifF (q := 7) (op := .eq) 16 h1 dX10_noSide_4 rfl rfl ?_
    refine to_iload_n (q := 8) rfl dX10_noSide_7 rfl ?_
    by_cases h2 : x1 < (0 : Int32)
    · have hf := ite_pos h2 hf
      refine to_ifT (q := 16) (op := .lt) h2 dX10_noSide_8 rfl ?_
      exact to_ext [] ext_nil (kX10_noSide_16 hS hf hI)
    · have hf := ite_neg h2 hf
      refine to_ifF (q := 11) (op := .lt) 16 h2 dX10_noSide_8 rfl rfl ?_
      refine to_iload_n (q := 12) rfl dX10_noSide_11 rfl ?_
      refine to_iconst (q := 13) ic_1 dX10_noSide_12 rfl ?_
      by_cases h3 : x1 ≤ (1 : Int32)
      · have hf := ite_pos h3 hf
        refine to_icT (q := 20) (op := .le) h3 dX10_noSide_13 rfl ?_
        refine to_iconst (q := 21) ic_0 dX10_noSide_20 rfl ?_
        exact to_ext [] ext_nil (kX10_noSide_21 hS hf hI)
      · have hf := ite_neg h3 hf
        refine to_icF (q := 16) (op := .le) 20 h3 dX10_noSide_13 rfl rfl ?_
        exact to_ext [] ext_nil (kX10_noSide_16 hS hf hI)
def fX10_noRib_27 (t0 : Int32) (m : Me) : Option (Int32 × Me) := ck (t0 = 0 ∨ t0 = 1) (some (t0, m))
set_option maxRecDepth 20000 in
theorem kX10_noRib_27 {S : Sh} (hS : ShOK S) {res : Int32 × Me} {t0 : Int32} {m : Me} (hf : fX10_noRib_27 t0 m = some res) (hI : Inv m) : TT InvS (Call 0) mX10_noRib (27, [], [.int t0], S, m) (some (.int res.1)) (S, res.2) := by
  unfold fX10_noRib_27 at hf
  obtain ⟨hz5, hf⟩ := ck_some hf
  cases hf
  exact to_iret dX10_noRib_27 rfl (nf_Z hz5).1 rfl rfl hI
def fX10_noRib_22 (m : Me) : Option (Int32 × Me) := fX10_noRib_27 ((1 : Int32)) m
set_option maxRecDepth 20000 in
theorem kX10_noRib_22 {S : Sh} (hS : ShOK S) {res : Int32 × Me} {m : Me} (hf : fX10_noRib_22 m = some res) (hI : Inv m) : TT InvS (Call 0) mX10_noRib (22, [], [], S, m) (some (.int res.1)) (S, res.2) := by
  unfold fX10_noRib_22 at hf
  refine to_iconst (q := 23) ic_1 dX10_noRib_22 rfl ?_
  refine to_goto (q := 27) dX10_noRib_23 rfl ?_
  exact to_ext [] ext_nil (kX10_noRib_27 hS hf hI)
def fX10_noRib (x1 : Int32) (m : Me) : Option (Int32 × Me) := if (m.1 0 4) = (0 : Int32) then fX10_noRib_22 m else if x1 < (0 : Int32) then fX10_noRib_22 m else if x1 < (m.1 (rr m 0 3) 0) then fX10_noRib_27 ((0 : Int32)) m else fX10_noRib_22 m
set_option maxRecDepth 20000 in
theorem kX10_noRib {S : Sh} (hS : ShOK S) {res : Int32 × Me} {x1 : Int32} {m : Me} (hf : fX10_noRib x1 m = some res) (hI : Inv m) : Call 1 mX10_noRib [.ref 0, .int x1] (S, m) (some (.int res.1)) (S, res.2) ∧ Inv res.2 := by
  refine call_of (P := InvS) (Nat.le_of_ble_eq_true rfl) (by simp [Value.category]) ?_
  show TT InvS (Call 0) mX10_noRib (0, [(0, .ref 0), (1, .int x1)], [], S, m) _ _
  unfold fX10_noRib at hf
  refine to_aload_n (q := 1) rfl (by decide) dX10_noRib_0 rfl ?_
  refine to_getI (q := 4) (k0 := 10) (C := RX10) (T := TX10) (N := 17) (j := 4) rfl fx_X10_110 (h_0 hS) rfl dX10_noRib_1 rfl ?_
  by_cases h1 : (m.1 0 4) = (0 : Int32)
  · have hf := ite_pos h1 hf
    refine to_ifT (q := 22) (op := .eq) h1 dX10_noRib_4 rfl ?_
    exact to_ext [] ext_nil (kX10_noRib_22 hS hf hI)
  · have hf := ite_neg h1 hf
    refine to_ifF (q := 7) (op := .eq) 22 h1 dX10_noRib_4 rfl rfl ?_
    refine to_iload_n (q := 8) rfl dX10_noRib_7 rfl ?_
    by_cases h2 : x1 < (0 : Int32)
    · have hf := ite_pos h2 hf
      refine to_ifT (q := 22) (op := .lt) h2 dX10_noRib_8 rfl ?_
      exact to_ext [] ext_nil (kX10_noRib_22 hS hf hI)
    · have hf := ite_neg h2 hf
      refine to_ifF (q := 11) (op := .lt) 22 h2 dX10_noRib_8 rfl rfl ?_
      refine to_iload_n (q := 12) rfl dX10_noRib_11 rfl ?_
      refine to_aload_n (q := 13) rfl (by decide) dX10_noRib_12 rfl ?_
      have hk3 : kd (rr m 0 3) = 2 := (ivT hI).2
      refine to_getR (q := 16) (b := rr m 0 3) (k0 := 10) (C := RX10) (T := TX10) (N := 17) (j := 3) rfl fx_X10_26 (h_0 hS) rfl ((ivT hI).1) dX10_noRib_13 rfl ?_
      refine to_getI (q := 19) (k0 := 2) (C := RX2) (T := TX2) (N := 14) (j := 0) rfl fx_X10_190 (sh_kd hS hk3 (by decide)) rfl dX10_noRib_16 rfl ?_
      by_cases h4 : x1 < (m.1 (rr m 0 3) 0)
      · have hf := ite_pos h4 hf
        refine to_icT (q := 26) (op := .lt) h4 dX10_noRib_19 rfl ?_
        refine to_iconst (q := 27) ic_0 dX10_noRib_26 rfl ?_
        exact to_ext [] ext_nil (kX10_noRib_27 hS hf hI)
      · have hf := ite_neg h4 hf
        refine to_icF (q := 22) (op := .lt) 26 h4 dX10_noRib_19 rfl rfl ?_
        exact to_ext [] ext_nil (kX10_noRib_22 hS hf hI)
def fX10_noCell_36 (t0 : Int32) (m : Me) : Option (Int32 × Me) := ck (t0 = 0 ∨ t0 = 1) (some (t0, m))
set_option maxRecDepth 20000 in
theorem kX10_noCell_36 {S : Sh} (hS : ShOK S) {res : Int32 × Me} {t0 : Int32} {m : Me} (hf : fX10_noCell_36 t0 m = some res) (hI : Inv m) : TT InvS (Call 1) mX10_noCell (36, [], [.int t0], S, m) (some (.int res.1)) (S, res.2) := by
  unfold fX10_noCell_36 at hf
  obtain ⟨hz14, hf⟩ := ck_some hf
  cases hf
  exact to_iret dX10_noCell_36 rfl (nf_Z hz14).1 rfl rfl hI
def fX10_noCell_31 (m : Me) : Option (Int32 × Me) := fX10_noCell_36 ((1 : Int32)) m
set_option maxRecDepth 20000 in
theorem kX10_noCell_31 {S : Sh} (hS : ShOK S) {res : Int32 × Me} {m : Me} (hf : fX10_noCell_31 m = some res) (hI : Inv m) : TT InvS (Call 1) mX10_noCell (31, [], [], S, m) (some (.int res.1)) (S, res.2) := by
  unfold fX10_noCell_31 at hf
  refine to_iconst (q := 32) ic_1 dX10_noCell_31 rfl ?_
  refine to_goto (q := 36) dX10_noCell_32 rfl ?_
  exact to_ext [] ext_nil (kX10_noCell_36 hS hf hI)
def fX10_noCell (x1 : Int32) (x2 : Int32) (x3 : Int32) (m : Me) : Option (Int32 × Me) := cl2 (fX10_noSide x1 m) fun r3 m4 => if r3 = (0 : Int32) then cl2 (fX10_noRib x2 m4) fun r8 m9 => if r8 = (0 : Int32) then if x3 < (0 : Int32) then fX10_noCell_31 m9 else if x3 < (m9.1 (rr m9 0 3) 1) then fX10_noCell_36 ((0 : Int32)) m9 else fX10_noCell_31 m9 else fX10_noCell_31 m9 else fX10_noCell_31 m4
set_option maxRecDepth 20000 in
theorem kX10_noCell {S : Sh} (hS : ShOK S) {res : Int32 × Me} {x1 : Int32} {x2 : Int32} {x3 : Int32} {m : Me} (hf : fX10_noCell x1 x2 x3 m = some res) (hI : Inv m) : Call 2 mX10_noCell [.ref 0, .int x1, .int x2, .int x3] (S, m) (some (.int res.1)) (S, res.2) ∧ Inv res.2 := by
  refine call_of (P := InvS) (Nat.le_of_ble_eq_true rfl) (by simp [Value.category]) ?_
  show TT InvS (Call 1) mX10_noCell (0, [(0, .ref 0), (1, .int x1), (2, .int x2), (3, .int x3)], [], S, m) _ _
  unfold fX10_noCell at hf
  refine to_aload_n (q := 1) rfl (by decide) dX10_noCell_0 rfl ?_
  refine to_iload_n (q := 2) rfl dX10_noCell_1 rfl ?_
  obtain ⟨r3, m4, hc1, hf⟩ := cl2_some hf
  have qc2 := kX10_noSide hS hc1 hI
  refine to_virtI (q := 5) mX10_noSide [.int x1] dX10_noCell_2 rfl rfl (Nat.le_of_ble_eq_true rfl) mo_X10_noSide mv_X10_216 (Or.inl ⟨_, _, _, h_0 hS, rfl, rfl⟩) (Call_mono (by decide) qc2.1) ?_
  have hI := qc2.2
  by_cases h5 : r3 = (0 : Int32)
  · have hf := ite_pos h5 hf
    refine to_ifF (q := 8) (op := .ne) 31 (fun z => z h5) dX10_noCell_5 rfl rfl ?_
    refine to_aload_n (q := 9) rfl (by decide) dX10_noCell_8 rfl ?_
    refine to_iload_n (q := 10) rfl dX10_noCell_9 rfl ?_
    obtain ⟨r8, m9, hc6, hf⟩ := cl2_some hf
    have qc7 := kX10_noRib hS hc6 hI
    refine to_virtI (q := 13) mX10_noRib [.int x2] dX10_noCell_10 rfl rfl (Nat.le_of_ble_eq_true rfl) mo_X10_noRib mv_X10_161 (Or.inl ⟨_, _, _, h_0 hS, rfl, rfl⟩) (Call_mono (by decide) qc7.1) ?_
    have hI := qc7.2
    by_cases h10 : r8 = (0 : Int32)
    · have hf := ite_pos h10 hf
      refine to_ifF (q := 16) (op := .ne) 31 (fun z => z h10) dX10_noCell_13 rfl rfl ?_
      refine to_iload_n (q := 17) rfl dX10_noCell_16 rfl ?_
      by_cases h11 : x3 < (0 : Int32)
      · have hf := ite_pos h11 hf
        refine to_ifT (q := 31) (op := .lt) h11 dX10_noCell_17 rfl ?_
        exact to_ext [] ext_nil (kX10_noCell_31 hS hf hI)
      · have hf := ite_neg h11 hf
        refine to_ifF (q := 20) (op := .lt) 31 h11 dX10_noCell_17 rfl rfl ?_
        refine to_iload_n (q := 21) rfl dX10_noCell_20 rfl ?_
        refine to_aload_n (q := 22) rfl (by decide) dX10_noCell_21 rfl ?_
        have hk12 : kd (rr m9 0 3) = 2 := (ivT hI).2
        refine to_getR (q := 25) (b := rr m9 0 3) (k0 := 10) (C := RX10) (T := TX10) (N := 17) (j := 3) rfl fx_X10_26 (h_0 hS) rfl ((ivT hI).1) dX10_noCell_22 rfl ?_
        refine to_getI (q := 28) (k0 := 2) (C := RX2) (T := TX2) (N := 14) (j := 1) rfl fx_X10_151 (sh_kd hS hk12 (by decide)) rfl dX10_noCell_25 rfl ?_
        by_cases h13 : x3 < (m9.1 (rr m9 0 3) 1)
        · have hf := ite_pos h13 hf
          refine to_icT (q := 35) (op := .lt) h13 dX10_noCell_28 rfl ?_
          refine to_iconst (q := 36) ic_0 dX10_noCell_35 rfl ?_
          exact to_ext [] ext_nil (kX10_noCell_36 hS hf hI)
        · have hf := ite_neg h13 hf
          refine to_icF (q := 31) (op := .lt) 35 h13 dX10_noCell_28 rfl rfl ?_
          exact to_ext [] ext_nil (kX10_noCell_31 hS hf hI)
    · have hf := ite_neg h10 hf
      refine to_ifT (q := 31) (op := .ne) h10 dX10_noCell_13 rfl ?_
      exact to_ext [] ext_nil (kX10_noCell_31 hS hf hI)
  · have hf := ite_neg h5 hf
    refine to_ifT (q := 31) (op := .ne) h5 dX10_noCell_5 rfl ?_
    exact to_ext [] ext_nil (kX10_noCell_31 hS hf hI)
def fX10_cell (x1 : Int32) (x2 : Int32) (x3 : Int32) (m : Me) : Option (Int32 × Me) := cl2 (fX10_noCell x1 x2 x3 m) fun r3 m4 => if r3 = (0 : Int32) then cl2 (fX5_letterOf 81 x1 ((((m4.1 (rr m4 0 3) 1) * x2) + x3)) m4) fun r9 m10 => cl2 (fX10_letterOrBare r9 m10) fun r13 m14 => cl2 (fX10_answer r13 m14) fun r17 m18 => some (r17, m18) else cl2 (fX10_refuse (1 : Int32) m4) fun r21 m22 => some (r21, m22)
set_option maxRecDepth 20000 in
theorem kX10_cell {S : Sh} (hS : ShOK S) {res : Int32 × Me} {x1 : Int32} {x2 : Int32} {x3 : Int32} {m : Me} (hf : fX10_cell x1 x2 x3 m = some res) (hI : Inv m) : Call 3 mX10_cell [.ref 0, .int x1, .int x2, .int x3] (S, m) (some (.int res.1)) (S, res.2) ∧ Inv res.2 := by
  refine call_of (P := InvS) (Nat.le_of_ble_eq_true rfl) (by simp [Value.category]) ?_
  show TT InvS (Call 2) mX10_cell (0, [(0, .ref 0), (1, .int x1), (2, .int x2), (3, .int x3)], [], S, m) _ _
  unfold fX10_cell at hf
  refine to_aload_n (q := 1) rfl (by decide) dX10_cell_0 rfl ?_
  refine to_iload_n (q := 2) rfl dX10_cell_1 rfl ?_
  refine to_iload_n (q := 3) rfl dX10_cell_2 rfl ?_
  refine to_iload_n (q := 4) rfl dX10_cell_3 rfl ?_
  obtain ⟨r3, m4, hc1, hf⟩ := cl2_some hf
  have qc2 := kX10_noCell hS hc1 hI
  refine to_virtI (q := 7) mX10_noCell [.int x1, .int x2, .int x3] dX10_cell_4 rfl rfl (Nat.le_of_ble_eq_true rfl) mo_X10_noCell mv_X10_147 (Or.inl ⟨_, _, _, h_0 hS, rfl, rfl⟩) (Call_mono (by decide) qc2.1) ?_
  have hI := qc2.2
  by_cases h5 : r3 = (0 : Int32)
  · have hf := ite_pos h5 hf
    refine to_ifT (q := 16) (op := .eq) h5 dX10_cell_7 rfl ?_
    refine to_aload_n (q := 17) rfl (by decide) dX10_cell_16 rfl ?_
    refine to_aload_n (q := 18) rfl (by decide) dX10_cell_17 rfl ?_
    refine to_getR (q := 21) (b := 81) (k0 := 10) (C := RX10) (T := TX10) (N := 17) (j := 5) rfl fx_X10_33 (h_0 hS) rfl (iv_0_5 hI) dX10_cell_18 rfl ?_
    refine to_iload_n (q := 22) rfl dX10_cell_21 rfl ?_
    refine to_aload_n (q := 23) rfl (by decide) dX10_cell_22 rfl ?_
    have hk6 : kd (rr m4 0 3) = 2 := (ivT hI).2
    refine to_getR (q := 26) (b := rr m4 0 3) (k0 := 10) (C := RX10) (T := TX10) (N := 17) (j := 3) rfl fx_X10_26 (h_0 hS) rfl ((ivT hI).1) dX10_cell_23 rfl ?_
    refine to_getI (q := 29) (k0 := 2) (C := RX2) (T := TX2) (N := 14) (j := 1) rfl fx_X10_151 (sh_kd hS hk6 (by decide)) rfl dX10_cell_26 rfl ?_
    refine to_iload_n (q := 30) rfl dX10_cell_29 rfl ?_
    refine to_imul (q := 31) dX10_cell_30 rfl ?_
    refine to_iload_n (q := 32) rfl dX10_cell_31 rfl ?_
    refine to_iadd (q := 33) dX10_cell_32 rfl ?_
    obtain ⟨r9, m10, hc7, hf⟩ := cl2_some hf
    have qc8 := kX5_letterOf hS hc7 rfl hI
    refine to_virtI (q := 36) mX5_letterOf [.int x1, .int (((m4.1 (rr m4 0 3) 1) * x2) + x3)] dX10_cell_33 rfl rfl (Nat.le_of_ble_eq_true rfl) mo_X5_letterOf mv_X10_154 (Or.inl ⟨_, _, _, h_81 hS, rfl, rfl⟩) (Call_mono (by decide) qc8.1) ?_
    have hI := qc8.2
    obtain ⟨r13, m14, hc11, hf⟩ := cl2_some hf
    have qc12 := kX10_letterOrBare hS hc11 hI
    refine to_statI (q := 39) mX10_letterOrBare [.int r9] dX10_cell_36 rfl rfl (Nat.le_of_ble_eq_true rfl) mo_X10_letterOrBare (Or.inl ml_X10_158) sa_X10_letterOrBare (Call_mono (by decide) qc12.1) ?_
    have hI := qc12.2
    obtain ⟨r17, m18, hc15, hf⟩ := cl2_some hf
    have qc16 := kX10_answer hS hc15 hI
    refine to_virtI (q := 42) mX10_answer [.int r13] dX10_cell_39 rfl rfl (Nat.le_of_ble_eq_true rfl) mo_X10_answer mv_X10_135 (Or.inl ⟨_, _, _, h_0 hS, rfl, rfl⟩) (Call_mono (by decide) qc16.1) ?_
    have hI := qc16.2
    cases hf
    exact to_iret dX10_cell_42 rfl rfl rfl rfl hI
  · have hf := ite_neg h5 hf
    refine to_ifF (q := 10) (op := .eq) 16 h5 dX10_cell_7 rfl rfl ?_
    refine to_aload_n (q := 11) rfl (by decide) dX10_cell_10 rfl ?_
    refine to_iconst (q := 12) ic_1 dX10_cell_11 rfl ?_
    obtain ⟨r21, m22, hc19, hf⟩ := cl2_some hf
    have qc20 := kX10_refuse hS hc19 hI
    refine to_virtI (q := 15) mX10_refuse [.int (1 : Int32)] dX10_cell_12 rfl rfl (Nat.le_of_ble_eq_true rfl) mo_X10_refuse mv_X10_98 (Or.inl ⟨_, _, _, h_0 hS, rfl, rfl⟩) (Call_mono (by decide) qc20.1) ?_
    have hI := qc20.2
    cases hf
    exact to_iret dX10_cell_15 rfl rfl rfl rfl hI
def fX10_broken_31 (t0 : Int32) (m : Me) : Option (Int32 × Me) := cl2 (fX10_answer t0 m) fun r17 m18 => some (r17, m18)
set_option maxRecDepth 20000 in
theorem kX10_broken_31 {S : Sh} (hS : ShOK S) {res : Int32 × Me} {t0 : Int32} {m : Me} (hf : fX10_broken_31 t0 m = some res) (hI : Inv m) : TT InvS (Call 1) mX10_broken (31, [], [.int t0, .ref 0], S, m) (some (.int res.1)) (S, res.2) := by
  unfold fX10_broken_31 at hf
  obtain ⟨r17, m18, hc15, hf⟩ := cl2_some hf
  have qc16 := kX10_answer hS hc15 hI
  refine to_virtI (q := 34) mX10_answer [.int t0] dX10_broken_31 rfl rfl (Nat.le_of_ble_eq_true rfl) mo_X10_answer mv_X10_135 (Or.inl ⟨_, _, _, h_0 hS, rfl, rfl⟩) (Call_mono (by decide) qc16.1) ?_
  have hI := qc16.2
  cases hf
  exact to_iret dX10_broken_34 rfl rfl rfl rfl hI
def fX10_broken (x1 : Int32) (m : Me) : Option (Int32 × Me) := cl2 (fX10_noRib x1 m) fun r3 m4 => if r3 = (0 : Int32) then cl2 (fX5_lacksRib 81 x1 m4) fun r8 m9 => if r8 = (0 : Int32) then fX10_broken_31 ((0 : Int32)) m9 else fX10_broken_31 ((1 : Int32)) m9 else cl2 (fX10_refuse (1 : Int32) m4) fun r13 m14 => some (r13, m14)
set_option maxRecDepth 20000 in
theorem kX10_broken {S : Sh} (hS : ShOK S) {res : Int32 × Me} {x1 : Int32} {m : Me} (hf : fX10_broken x1 m = some res) (hI : Inv m) : Call 2 mX10_broken [.ref 0, .int x1] (S, m) (some (.int res.1)) (S, res.2) ∧ Inv res.2 := by
  refine call_of (P := InvS) (Nat.le_of_ble_eq_true rfl) (by simp [Value.category]) ?_
  show TT InvS (Call 1) mX10_broken (0, [(0, .ref 0), (1, .int x1)], [], S, m) _ _
  unfold fX10_broken at hf
  refine to_aload_n (q := 1) rfl (by decide) dX10_broken_0 rfl ?_
  refine to_iload_n (q := 2) rfl dX10_broken_1 rfl ?_
  obtain ⟨r3, m4, hc1, hf⟩ := cl2_some hf
  have qc2 := kX10_noRib hS hc1 hI
  refine to_virtI (q := 5) mX10_noRib [.int x1] dX10_broken_2 rfl rfl (Nat.le_of_ble_eq_true rfl) mo_X10_noRib mv_X10_161 (Or.inl ⟨_, _, _, h_0 hS, rfl, rfl⟩) (Call_mono (by decide) qc2.1) ?_
  have hI := qc2.2
  by_cases h5 : r3 = (0 : Int32)
  · have hf := ite_pos h5 hf
    refine to_ifT (q := 14) (op := .eq) h5 dX10_broken_5 rfl ?_
    refine to_aload_n (q := 15) rfl (by decide) dX10_broken_14 rfl ?_
    refine to_aload_n (q := 16) rfl (by decide) dX10_broken_15 rfl ?_
    refine to_getR (q := 19) (b := 81) (k0 := 10) (C := RX10) (T := TX10) (N := 17) (j := 5) rfl fx_X10_33 (h_0 hS) rfl (iv_0_5 hI) dX10_broken_16 rfl ?_
    refine to_iload_n (q := 20) rfl dX10_broken_19 rfl ?_
    obtain ⟨r8, m9, hc6, hf⟩ := cl2_some hf
    have qc7 := kX5_lacksRib hS hc6 rfl hI
    refine to_virtI (q := 23) mX5_lacksRib [.int x1] dX10_broken_20 rfl rfl (Nat.le_of_ble_eq_true rfl) mo_X5_lacksRib mv_X10_164 (Or.inl ⟨_, _, _, h_81 hS, rfl, rfl⟩) (Call_mono (by decide) qc7.1) ?_
    have hI := qc7.2
    by_cases h10 : r8 = (0 : Int32)
    · have hf := ite_pos h10 hf
      refine to_ifT (q := 30) (op := .eq) h10 dX10_broken_23 rfl ?_
      refine to_iconst (q := 31) ic_0 dX10_broken_30 rfl ?_
      exact to_ext [] ext_nil (kX10_broken_31 hS hf hI)
    · have hf := ite_neg h10 hf
      refine to_ifF (q := 26) (op := .eq) 30 h10 dX10_broken_23 rfl rfl ?_
      refine to_iconst (q := 27) ic_1 dX10_broken_26 rfl ?_
      refine to_goto (q := 31) dX10_broken_27 rfl ?_
      exact to_ext [] ext_nil (kX10_broken_31 hS hf hI)
  · have hf := ite_neg h5 hf
    refine to_ifF (q := 8) (op := .eq) 14 h5 dX10_broken_5 rfl rfl ?_
    refine to_aload_n (q := 9) rfl (by decide) dX10_broken_8 rfl ?_
    refine to_iconst (q := 10) ic_1 dX10_broken_9 rfl ?_
    obtain ⟨r13, m14, hc11, hf⟩ := cl2_some hf
    have qc12 := kX10_refuse hS hc11 hI
    refine to_virtI (q := 13) mX10_refuse [.int (1 : Int32)] dX10_broken_10 rfl rfl (Nat.le_of_ble_eq_true rfl) mo_X10_refuse mv_X10_98 (Or.inl ⟨_, _, _, h_0 hS, rfl, rfl⟩) (Call_mono (by decide) qc12.1) ?_
    have hI := qc12.2
    cases hf
    exact to_iret dX10_broken_13 rfl rfl rfl rfl hI
def fX10_wrongView_30 (t0 : Int32) (m : Me) : Option (Int32 × Me) := some (t0, m)
set_option maxRecDepth 20000 in
theorem kX10_wrongView_30 {S : Sh} (hS : ShOK S) {res : Int32 × Me} {t0 : Int32} {m : Me} (hf : fX10_wrongView_30 t0 m = some res) (hI : Inv m) : TT InvS (Call 1) mX10_wrongView (30, [], [.int t0], S, m) (some (.int res.1)) (S, res.2) := by
  unfold fX10_wrongView_30 at hf
  cases hf
  exact to_iret dX10_wrongView_30 rfl rfl rfl rfl hI
def fX10_wrongView_25 (m : Me) : Option (Int32 × Me) := fX10_wrongView_30 ((2 : Int32)) m
set_option maxRecDepth 20000 in
theorem kX10_wrongView_25 {S : Sh} (hS : ShOK S) {res : Int32 × Me} {m : Me} (hf : fX10_wrongView_25 m = some res) (hI : Inv m) : TT InvS (Call 1) mX10_wrongView (25, [], [], S, m) (some (.int res.1)) (S, res.2) := by
  unfold fX10_wrongView_25 at hf
  refine to_iconst (q := 26) ic_2 dX10_wrongView_25 rfl ?_
  refine to_goto (q := 30) dX10_wrongView_26 rfl ?_
  exact to_ext [] ext_nil (kX10_wrongView_30 hS hf hI)
def fX10_wrongView (x1 : Int32) (x2 : Int32) (m : Me) : Option (Int32 × Me) := cl2 (fX10_noSide x1 m) fun r3 m4 => if r3 = (0 : Int32) then if x2 < (0 : Int32) then fX10_wrongView_25 m4 else cl2 (fX2_openings (rr m4 0 3) m4) fun r10 m11 => if x2 < r10 then fX10_wrongView_30 ((0 : Int32)) m11 else fX10_wrongView_25 m11 else some ((1 : Int32), m4)
set_option maxRecDepth 20000 in
theorem kX10_wrongView {S : Sh} (hS : ShOK S) {res : Int32 × Me} {x1 : Int32} {x2 : Int32} {m : Me} (hf : fX10_wrongView x1 x2 m = some res) (hI : Inv m) : Call 2 mX10_wrongView [.ref 0, .int x1, .int x2] (S, m) (some (.int res.1)) (S, res.2) ∧ Inv res.2 := by
  refine call_of (P := InvS) (Nat.le_of_ble_eq_true rfl) (by simp [Value.category]) ?_
  show TT InvS (Call 1) mX10_wrongView (0, [(0, .ref 0), (1, .int x1), (2, .int x2)], [], S, m) _ _
  unfold fX10_wrongView at hf
  refine to_aload_n (q := 1) rfl (by decide) dX10_wrongView_0 rfl ?_
  refine to_iload_n (q := 2) rfl dX10_wrongView_1 rfl ?_
  obtain ⟨r3, m4, hc1, hf⟩ := cl2_some hf
  have qc2 := kX10_noSide hS hc1 hI
  refine to_virtI (q := 5) mX10_noSide [.int x1] dX10_wrongView_2 rfl rfl (Nat.le_of_ble_eq_true rfl) mo_X10_noSide mv_X10_216 (Or.inl ⟨_, _, _, h_0 hS, rfl, rfl⟩) (Call_mono (by decide) qc2.1) ?_
  have hI := qc2.2
  by_cases h5 : r3 = (0 : Int32)
  · have hf := ite_pos h5 hf
    refine to_ifT (q := 10) (op := .eq) h5 dX10_wrongView_5 rfl ?_
    refine to_iload_n (q := 11) rfl dX10_wrongView_10 rfl ?_
    by_cases h6 : x2 < (0 : Int32)
    · have hf := ite_pos h6 hf
      refine to_ifT (q := 25) (op := .lt) h6 dX10_wrongView_11 rfl ?_
      exact to_ext [] ext_nil (kX10_wrongView_25 hS hf hI)
    · have hf := ite_neg h6 hf
      refine to_ifF (q := 14) (op := .lt) 25 h6 dX10_wrongView_11 rfl rfl ?_
      refine to_iload_n (q := 15) rfl dX10_wrongView_14 rfl ?_
      refine to_aload_n (q := 16) rfl (by decide) dX10_wrongView_15 rfl ?_
      have hk7 : kd (rr m4 0 3) = 2 := (ivT hI).2
      refine to_getR (q := 19) (b := rr m4 0 3) (k0 := 10) (C := RX10) (T := TX10) (N := 17) (j := 3) rfl fx_X10_26 (h_0 hS) rfl ((ivT hI).1) dX10_wrongView_16 rfl ?_
      obtain ⟨r10, m11, hc8, hf⟩ := cl2_some hf
      have qc9 := kX2_openings hS hc8 (hk7) hI
      refine to_virtI (q := 22) mX2_openings [] dX10_wrongView_19 rfl rfl (Nat.le_of_ble_eq_true rfl) mo_X2_openings mv_X10_131 (Or.inl ⟨_, _, _, sh_kd hS hk7 (by decide), rfl, rfl⟩) (Call_mono (by decide) qc9.1) ?_
      have hI := qc9.2
      by_cases h12 : x2 < r10
      · have hf := ite_pos h12 hf
        refine to_icT (q := 29) (op := .lt) h12 dX10_wrongView_22 rfl ?_
        refine to_iconst (q := 30) ic_0 dX10_wrongView_29 rfl ?_
        exact to_ext [] ext_nil (kX10_wrongView_30 hS hf hI)
      · have hf := ite_neg h12 hf
        refine to_icF (q := 25) (op := .lt) 29 h12 dX10_wrongView_22 rfl rfl ?_
        exact to_ext [] ext_nil (kX10_wrongView_25 hS hf hI)
  · have hf := ite_neg h5 hf
    refine to_ifF (q := 8) (op := .eq) 10 h5 dX10_wrongView_5 rfl rfl ?_
    refine to_iconst (q := 9) ic_1 dX10_wrongView_8 rfl ?_
    cases hf
    exact to_iret dX10_wrongView_9 rfl rfl rfl rfl hI
def fX10_lookAt (x1 : Int32) (x2 : Int32) (m : Me) : Option (Me) := cl1 (fX7_look 88 (rr m 0 3) 81 (m.1 81 1) x1 x2 m) fun m4 => some m4
set_option maxRecDepth 20000 in
theorem kX10_lookAt {S : Sh} (hS : ShOK S) {res : Me} {x1 : Int32} {x2 : Int32} {m : Me} (hf : fX10_lookAt x1 x2 m = some res) (hI : Inv m) : Call 5 mX10_lookAt [.ref 0, .int x1, .int x2] (S, m) none (S, res) ∧ Inv res := by
  refine call_of (P := InvS) (Nat.le_of_ble_eq_true rfl) (by simp [Value.category]) ?_
  show TT InvS (Call 4) mX10_lookAt (0, [(0, .ref 0), (1, .int x1), (2, .int x2)], [], S, m) _ _
  unfold fX10_lookAt at hf
  refine to_aload_n (q := 1) rfl (by decide) dX10_lookAt_0 rfl ?_
  refine to_getR (q := 4) (b := 88) (k0 := 10) (C := RX10) (T := TX10) (N := 17) (j := 9) rfl fx_X10_51 (h_0 hS) rfl (iv_0_9 hI) dX10_lookAt_1 rfl ?_
  refine to_aload_n (q := 5) rfl (by decide) dX10_lookAt_4 rfl ?_
  have hk1 : kd (rr m 0 3) = 2 := (ivT hI).2
  refine to_getR (q := 8) (b := rr m 0 3) (k0 := 10) (C := RX10) (T := TX10) (N := 17) (j := 3) rfl fx_X10_26 (h_0 hS) rfl ((ivT hI).1) dX10_lookAt_5 rfl ?_
  refine to_aload_n (q := 9) rfl (by decide) dX10_lookAt_8 rfl ?_
  refine to_getR (q := 12) (b := 81) (k0 := 10) (C := RX10) (T := TX10) (N := 17) (j := 5) rfl fx_X10_33 (h_0 hS) rfl (iv_0_5 hI) dX10_lookAt_9 rfl ?_
  refine to_aload_n (q := 13) rfl (by decide) dX10_lookAt_12 rfl ?_
  refine to_getR (q := 16) (b := 81) (k0 := 10) (C := RX10) (T := TX10) (N := 17) (j := 5) rfl fx_X10_33 (h_0 hS) rfl (iv_0_5 hI) dX10_lookAt_13 rfl ?_
  refine to_getI (q := 19) (k0 := 5) (C := RX5) (T := TX5) (N := 3) (j := 1) rfl fx_X10_233 (h_81 hS) rfl dX10_lookAt_16 rfl ?_
  refine to_iload_n (q := 20) rfl dX10_lookAt_19 rfl ?_
  refine to_iload_n (q := 21) rfl dX10_lookAt_20 rfl ?_
  obtain ⟨m4, hc2, hf⟩ := cl1_some hf
  have qc3 := kX7_look hS hc2 rfl (hk1) rfl hI
  refine to_virtV (q := 24) mX7_look [.ref (rr m 0 3), .ref 81, .int (m.1 81 1), .int x1, .int x2] dX10_lookAt_21 rfl rfl (Nat.le_of_ble_eq_true rfl) mo_X7_look mv_X10_301 (Or.inl ⟨_, _, _, h_88 hS, rfl, rfl⟩) (Call_mono (by decide) qc3.1) ?_
  have hI := qc3.2
  cases hf
  exact to_vret dX10_lookAt_24 rfl rfl rfl hI
def fX10_shows (x1 : Int32) (x2 : Int32) (m : Me) : Option (Int32 × Me) := cl2 (fX10_wrongView x1 x2 m) fun r3 m4 => if r3 = (0 : Int32) then cl1 (fX10_lookAt x1 x2 m4) fun m8 => cl2 (fX10_answer (m8.1 88 2) m8) fun r11 m12 => some (r11, m12) else cl2 (fX10_refuse r3 m4) fun r15 m16 => some (r15, m16)
set_option maxRecDepth 20000 in
theorem kX10_shows {S : Sh} (hS : ShOK S) {res : Int32 × Me} {x1 : Int32} {x2 : Int32} {m : Me} (hf : fX10_shows x1 x2 m = some res) (hI : Inv m) : Call 6 mX10_shows [.ref 0, .int x1, .int x2] (S, m) (some (.int res.1)) (S, res.2) ∧ Inv res.2 := by
  refine call_of (P := InvS) (Nat.le_of_ble_eq_true rfl) (by simp [Value.category]) ?_
  show TT InvS (Call 5) mX10_shows (0, [(0, .ref 0), (1, .int x1), (2, .int x2)], [], S, m) _ _
  unfold fX10_shows at hf
  refine to_aload_n (q := 1) rfl (by decide) dX10_shows_0 rfl ?_
  refine to_iload_n (q := 2) rfl dX10_shows_1 rfl ?_
  refine to_iload_n (q := 3) rfl dX10_shows_2 rfl ?_
  obtain ⟨r3, m4, hc1, hf⟩ := cl2_some hf
  have qc2 := kX10_wrongView hS hc1 hI
  refine to_virtI (q := 6) mX10_wrongView [.int x1, .int x2] dX10_shows_3 rfl rfl (Nat.le_of_ble_eq_true rfl) mo_X10_wrongView mv_X10_167 (Or.inl ⟨_, _, _, h_0 hS, rfl, rfl⟩) (Call_mono (by decide) qc2.1) ?_
  have hI := qc2.2
  refine to_istore_n (q := 7) [(3, .int r3), (0, .ref 0), (1, .int x1), (2, .int x2)] rfl (by decide) dX10_shows_6 rfl ?_
  refine to_iload_n (q := 8) rfl dX10_shows_7 rfl ?_
  by_cases h5 : r3 = (0 : Int32)
  · have hf := ite_pos h5 hf
    refine to_ifT (q := 17) (op := .eq) h5 dX10_shows_8 rfl ?_
    refine to_aload_n (q := 18) rfl (by decide) dX10_shows_17 rfl ?_
    refine to_iload_n (q := 19) rfl dX10_shows_18 rfl ?_
    refine to_iload_n (q := 20) rfl dX10_shows_19 rfl ?_
    obtain ⟨m8, hc6, hf⟩ := cl1_some hf
    have qc7 := kX10_lookAt hS hc6 hI
    refine to_virtV (q := 23) mX10_lookAt [.int x1, .int x2] dX10_shows_20 rfl rfl (Nat.le_of_ble_eq_true rfl) mo_X10_lookAt mv_X10_170 (Or.inl ⟨_, _, _, h_0 hS, rfl, rfl⟩) (Call_mono (by decide) qc7.1) ?_
    have hI := qc7.2
    refine to_aload_n (q := 24) rfl (by decide) dX10_shows_23 rfl ?_
    refine to_aload_n (q := 25) rfl (by decide) dX10_shows_24 rfl ?_
    refine to_getR (q := 28) (b := 88) (k0 := 10) (C := RX10) (T := TX10) (N := 17) (j := 9) rfl fx_X10_51 (h_0 hS) rfl (iv_0_9 hI) dX10_shows_25 rfl ?_
    refine to_getI (q := 31) (k0 := 7) (C := RX7) (T := TX7) (N := 3) (j := 2) rfl fx_X10_174 (h_88 hS) rfl dX10_shows_28 rfl ?_
    obtain ⟨r11, m12, hc9, hf⟩ := cl2_some hf
    have qc10 := kX10_answer hS hc9 hI
    refine to_virtI (q := 34) mX10_answer [.int (m8.1 88 2)] dX10_shows_31 rfl rfl (Nat.le_of_ble_eq_true rfl) mo_X10_answer mv_X10_135 (Or.inl ⟨_, _, _, h_0 hS, rfl, rfl⟩) (Call_mono (by decide) qc10.1) ?_
    have hI := qc10.2
    cases hf
    exact to_iret dX10_shows_34 rfl rfl rfl rfl hI
  · have hf := ite_neg h5 hf
    refine to_ifF (q := 11) (op := .eq) 17 h5 dX10_shows_8 rfl rfl ?_
    refine to_aload_n (q := 12) rfl (by decide) dX10_shows_11 rfl ?_
    refine to_iload_n (q := 13) rfl dX10_shows_12 rfl ?_
    obtain ⟨r15, m16, hc13, hf⟩ := cl2_some hf
    have qc14 := kX10_refuse hS hc13 hI
    refine to_virtI (q := 16) mX10_refuse [.int r3] dX10_shows_13 rfl rfl (Nat.le_of_ble_eq_true rfl) mo_X10_refuse mv_X10_98 (Or.inl ⟨_, _, _, h_0 hS, rfl, rfl⟩) (Call_mono (by decide) qc14.1) ?_
    have hI := qc14.2
    cases hf
    exact to_iret dX10_shows_16 rfl rfl rfl rfl hI
def fX10_wrongPlace_42 (t0 : Int32) (m : Me) : Option (Int32 × Me) := some (t0, m)
set_option maxRecDepth 20000 in
theorem kX10_wrongPlace_42 {S : Sh} (hS : ShOK S) {res : Int32 × Me} {t0 : Int32} {m : Me} (hf : fX10_wrongPlace_42 t0 m = some res) (hI : Inv m) : TT InvS (Call 5) mX10_wrongPlace (42, [], [.int t0], S, m) (some (.int res.1)) (S, res.2) := by
  unfold fX10_wrongPlace_42 at hf
  cases hf
  exact to_iret dX10_wrongPlace_42 rfl rfl rfl rfl hI
def fX10_wrongPlace_37 (m : Me) : Option (Int32 × Me) := fX10_wrongPlace_42 ((1 : Int32)) m
set_option maxRecDepth 20000 in
theorem kX10_wrongPlace_37 {S : Sh} (hS : ShOK S) {res : Int32 × Me} {m : Me} (hf : fX10_wrongPlace_37 m = some res) (hI : Inv m) : TT InvS (Call 5) mX10_wrongPlace (37, [], [], S, m) (some (.int res.1)) (S, res.2) := by
  unfold fX10_wrongPlace_37 at hf
  refine to_iconst (q := 38) ic_1 dX10_wrongPlace_37 rfl ?_
  refine to_goto (q := 42) dX10_wrongPlace_38 rfl ?_
  exact to_ext [] ext_nil (kX10_wrongPlace_42 hS hf hI)
def fX10_wrongPlace (x1 : Int32) (x2 : Int32) (x3 : Int32) (m : Me) : Option (Int32 × Me) := cl2 (fX10_wrongView x1 x2 m) fun r3 m4 => if r3 = (0 : Int32) then cl1 (fX10_lookAt x1 x2 m4) fun m8 => if x3 < (0 : Int32) then fX10_wrongPlace_37 m8 else if x3 < (m8.1 88 2) then fX10_wrongPlace_42 ((0 : Int32)) m8 else fX10_wrongPlace_37 m8 else some (r3, m4)
set_option maxRecDepth 20000 in
theorem kX10_wrongPlace {S : Sh} (hS : ShOK S) {res : Int32 × Me} {x1 : Int32} {x2 : Int32} {x3 : Int32} {m : Me} (hf : fX10_wrongPlace x1 x2 x3 m = some res) (hI : Inv m) : Call 6 mX10_wrongPlace [.ref 0, .int x1, .int x2, .int x3] (S, m) (some (.int res.1)) (S, res.2) ∧ Inv res.2 := by
  refine call_of (P := InvS) (Nat.le_of_ble_eq_true rfl) (by simp [Value.category]) ?_
  show TT InvS (Call 5) mX10_wrongPlace (0, [(0, .ref 0), (1, .int x1), (2, .int x2), (3, .int x3)], [], S, m) _ _
  unfold fX10_wrongPlace at hf
  refine to_aload_n (q := 1) rfl (by decide) dX10_wrongPlace_0 rfl ?_
  refine to_iload_n (q := 2) rfl dX10_wrongPlace_1 rfl ?_
  refine to_iload_n (q := 3) rfl dX10_wrongPlace_2 rfl ?_
  obtain ⟨r3, m4, hc1, hf⟩ := cl2_some hf
  have qc2 := kX10_wrongView hS hc1 hI
  refine to_virtI (q := 6) mX10_wrongView [.int x1, .int x2] dX10_wrongPlace_3 rfl rfl (Nat.le_of_ble_eq_true rfl) mo_X10_wrongView mv_X10_167 (Or.inl ⟨_, _, _, h_0 hS, rfl, rfl⟩) (Call_mono (by decide) qc2.1) ?_
  have hI := qc2.2
  refine to_istore (q := 8) [(4, .int r3), (0, .ref 0), (1, .int x1), (2, .int x2), (3, .int x3)] rfl (by decide) dX10_wrongPlace_6 rfl ?_
  refine to_iload (q := 10) rfl dX10_wrongPlace_8 rfl ?_
  by_cases h5 : r3 = (0 : Int32)
  · have hf := ite_pos h5 hf
    refine to_ifT (q := 16) (op := .eq) h5 dX10_wrongPlace_10 rfl ?_
    refine to_aload_n (q := 17) rfl (by decide) dX10_wrongPlace_16 rfl ?_
    refine to_iload_n (q := 18) rfl dX10_wrongPlace_17 rfl ?_
    refine to_iload_n (q := 19) rfl dX10_wrongPlace_18 rfl ?_
    obtain ⟨m8, hc6, hf⟩ := cl1_some hf
    have qc7 := kX10_lookAt hS hc6 hI
    refine to_virtV (q := 22) mX10_lookAt [.int x1, .int x2] dX10_wrongPlace_19 rfl rfl (Nat.le_of_ble_eq_true rfl) mo_X10_lookAt mv_X10_170 (Or.inl ⟨_, _, _, h_0 hS, rfl, rfl⟩) (Call_mono (by decide) qc7.1) ?_
    have hI := qc7.2
    refine to_iload_n (q := 23) rfl dX10_wrongPlace_22 rfl ?_
    by_cases h9 : x3 < (0 : Int32)
    · have hf := ite_pos h9 hf
      refine to_ifT (q := 37) (op := .lt) h9 dX10_wrongPlace_23 rfl ?_
      exact to_ext [] ext_nil (kX10_wrongPlace_37 hS hf hI)
    · have hf := ite_neg h9 hf
      refine to_ifF (q := 26) (op := .lt) 37 h9 dX10_wrongPlace_23 rfl rfl ?_
      refine to_iload_n (q := 27) rfl dX10_wrongPlace_26 rfl ?_
      refine to_aload_n (q := 28) rfl (by decide) dX10_wrongPlace_27 rfl ?_
      refine to_getR (q := 31) (b := 88) (k0 := 10) (C := RX10) (T := TX10) (N := 17) (j := 9) rfl fx_X10_51 (h_0 hS) rfl (iv_0_9 hI) dX10_wrongPlace_28 rfl ?_
      refine to_getI (q := 34) (k0 := 7) (C := RX7) (T := TX7) (N := 3) (j := 2) rfl fx_X10_174 (h_88 hS) rfl dX10_wrongPlace_31 rfl ?_
      by_cases h10 : x3 < (m8.1 88 2)
      · have hf := ite_pos h10 hf
        refine to_icT (q := 41) (op := .lt) h10 dX10_wrongPlace_34 rfl ?_
        refine to_iconst (q := 42) ic_0 dX10_wrongPlace_41 rfl ?_
        exact to_ext [] ext_nil (kX10_wrongPlace_42 hS hf hI)
      · have hf := ite_neg h10 hf
        refine to_icF (q := 37) (op := .lt) 41 h10 dX10_wrongPlace_34 rfl rfl ?_
        exact to_ext [] ext_nil (kX10_wrongPlace_37 hS hf hI)
  · have hf := ite_neg h5 hf
    refine to_ifF (q := 13) (op := .eq) 16 h5 dX10_wrongPlace_10 rfl rfl ?_
    refine to_iload (q := 15) rfl dX10_wrongPlace_13 rfl ?_
    cases hf
    exact to_iret dX10_wrongPlace_15 rfl rfl rfl rfl hI
def fX10_letter (x1 : Int32) (x2 : Int32) (x3 : Int32) (m : Me) : Option (Int32 × Me) := cl2 (fX10_wrongPlace x1 x2 x3 m) fun r3 m4 => if r3 = (0 : Int32) then ck (inb x3 30) (cl2 (fX10_letterOrBare ((m4.1 (88 + 2) x3.toNatClampNeg)) m4) fun r9 m10 => cl2 (fX10_answer r9 m10) fun r13 m14 => some (r13, m14)) else cl2 (fX10_refuse r3 m4) fun r17 m18 => some (r17, m18)
set_option maxRecDepth 20000 in
theorem kX10_letter {S : Sh} (hS : ShOK S) {res : Int32 × Me} {x1 : Int32} {x2 : Int32} {x3 : Int32} {m : Me} (hf : fX10_letter x1 x2 x3 m = some res) (hI : Inv m) : Call 7 mX10_letter [.ref 0, .int x1, .int x2, .int x3] (S, m) (some (.int res.1)) (S, res.2) ∧ Inv res.2 := by
  refine call_of (P := InvS) (Nat.le_of_ble_eq_true rfl) (by simp [Value.category]) ?_
  show TT InvS (Call 6) mX10_letter (0, [(0, .ref 0), (1, .int x1), (2, .int x2), (3, .int x3)], [], S, m) _ _
  unfold fX10_letter at hf
  refine to_aload_n (q := 1) rfl (by decide) dX10_letter_0 rfl ?_
  refine to_iload_n (q := 2) rfl dX10_letter_1 rfl ?_
  refine to_iload_n (q := 3) rfl dX10_letter_2 rfl ?_
  refine to_iload_n (q := 4) rfl dX10_letter_3 rfl ?_
  obtain ⟨r3, m4, hc1, hf⟩ := cl2_some hf
  have qc2 := kX10_wrongPlace hS hc1 hI
  refine to_virtI (q := 7) mX10_wrongPlace [.int x1, .int x2, .int x3] dX10_letter_4 rfl rfl (Nat.le_of_ble_eq_true rfl) mo_X10_wrongPlace mv_X10_177 (Or.inl ⟨_, _, _, h_0 hS, rfl, rfl⟩) (Call_mono (by decide) qc2.1) ?_
  have hI := qc2.2
  refine to_istore (q := 9) [(4, .int r3), (0, .ref 0), (1, .int x1), (2, .int x2), (3, .int x3)] rfl (by decide) dX10_letter_7 rfl ?_
  refine to_iload (q := 11) rfl dX10_letter_9 rfl ?_
  by_cases h5 : r3 = (0 : Int32)
  · have hf := ite_pos h5 hf
    refine to_ifT (q := 21) (op := .eq) h5 dX10_letter_11 rfl ?_
    refine to_aload_n (q := 22) rfl (by decide) dX10_letter_21 rfl ?_
    refine to_aload_n (q := 23) rfl (by decide) dX10_letter_22 rfl ?_
    refine to_getR (q := 26) (b := 88) (k0 := 10) (C := RX10) (T := TX10) (N := 17) (j := 9) rfl fx_X10_51 (h_0 hS) rfl (iv_0_9 hI) dX10_letter_23 rfl ?_
    refine to_getR (q := 29) (b := 88 + 2) (k0 := 7) (C := RX7) (T := TX7) (N := 3) (j := 1) rfl fx_X10_181 (h_88 hS) rfl (iv7b hI (a := 88) rfl) dX10_letter_26 rfl ?_
    refine to_iload_n (q := 30) rfl dX10_letter_29 rfl ?_
    obtain ⟨hb6, hf⟩ := ck_some hf
    refine to_iaj (q := 31) (sh_ln hS (kd7b (a := 88) rfl) (by decide)) hb6 (rfl) dX10_letter_30 rfl ?_
    obtain ⟨r9, m10, hc7, hf⟩ := cl2_some hf
    have qc8 := kX10_letterOrBare hS hc7 hI
    refine to_statI (q := 34) mX10_letterOrBare [.int (m4.1 (88 + 2) x3.toNatClampNeg)] dX10_letter_31 rfl rfl (Nat.le_of_ble_eq_true rfl) mo_X10_letterOrBare (Or.inl ml_X10_158) sa_X10_letterOrBare (Call_mono (by decide) qc8.1) ?_
    have hI := qc8.2
    obtain ⟨r13, m14, hc11, hf⟩ := cl2_some hf
    have qc12 := kX10_answer hS hc11 hI
    refine to_virtI (q := 37) mX10_answer [.int r9] dX10_letter_34 rfl rfl (Nat.le_of_ble_eq_true rfl) mo_X10_answer mv_X10_135 (Or.inl ⟨_, _, _, h_0 hS, rfl, rfl⟩) (Call_mono (by decide) qc12.1) ?_
    have hI := qc12.2
    cases hf
    exact to_iret dX10_letter_37 rfl rfl rfl rfl hI
  · have hf := ite_neg h5 hf
    refine to_ifF (q := 14) (op := .eq) 21 h5 dX10_letter_11 rfl rfl ?_
    refine to_aload_n (q := 15) rfl (by decide) dX10_letter_14 rfl ?_
    refine to_iload (q := 17) rfl dX10_letter_15 rfl ?_
    obtain ⟨r17, m18, hc15, hf⟩ := cl2_some hf
    have qc16 := kX10_refuse hS hc15 hI
    refine to_virtI (q := 20) mX10_refuse [.int r3] dX10_letter_17 rfl rfl (Nat.le_of_ble_eq_true rfl) mo_X10_refuse mv_X10_98 (Or.inl ⟨_, _, _, h_0 hS, rfl, rfl⟩) (Call_mono (by decide) qc16.1) ?_
    have hI := qc16.2
    cases hf
    exact to_iret dX10_letter_20 rfl rfl rfl rfl hI
def fX10_at (x1 : Int32) (x2 : Int32) (x3 : Int32) (m : Me) : Option (Int32 × Me) := cl2 (fX10_wrongPlace x1 x2 x3 m) fun r3 m4 => if r3 = (0 : Int32) then ck (inb x3 30) (cl2 (fX10_answer ((m4.1 (88 + 1) x3.toNatClampNeg)) m4) fun r9 m10 => some (r9, m10)) else cl2 (fX10_refuse r3 m4) fun r13 m14 => some (r13, m14)
set_option maxRecDepth 20000 in
theorem kX10_at {S : Sh} (hS : ShOK S) {res : Int32 × Me} {x1 : Int32} {x2 : Int32} {x3 : Int32} {m : Me} (hf : fX10_at x1 x2 x3 m = some res) (hI : Inv m) : Call 7 mX10_at [.ref 0, .int x1, .int x2, .int x3] (S, m) (some (.int res.1)) (S, res.2) ∧ Inv res.2 := by
  refine call_of (P := InvS) (Nat.le_of_ble_eq_true rfl) (by simp [Value.category]) ?_
  show TT InvS (Call 6) mX10_at (0, [(0, .ref 0), (1, .int x1), (2, .int x2), (3, .int x3)], [], S, m) _ _
  unfold fX10_at at hf
  refine to_aload_n (q := 1) rfl (by decide) dX10_at_0 rfl ?_
  refine to_iload_n (q := 2) rfl dX10_at_1 rfl ?_
  refine to_iload_n (q := 3) rfl dX10_at_2 rfl ?_
  refine to_iload_n (q := 4) rfl dX10_at_3 rfl ?_
  obtain ⟨r3, m4, hc1, hf⟩ := cl2_some hf
  have qc2 := kX10_wrongPlace hS hc1 hI
  refine to_virtI (q := 7) mX10_wrongPlace [.int x1, .int x2, .int x3] dX10_at_4 rfl rfl (Nat.le_of_ble_eq_true rfl) mo_X10_wrongPlace mv_X10_177 (Or.inl ⟨_, _, _, h_0 hS, rfl, rfl⟩) (Call_mono (by decide) qc2.1) ?_
  have hI := qc2.2
  refine to_istore (q := 9) [(4, .int r3), (0, .ref 0), (1, .int x1), (2, .int x2), (3, .int x3)] rfl (by decide) dX10_at_7 rfl ?_
  refine to_iload (q := 11) rfl dX10_at_9 rfl ?_
  by_cases h5 : r3 = (0 : Int32)
  · have hf := ite_pos h5 hf
    refine to_ifT (q := 21) (op := .eq) h5 dX10_at_11 rfl ?_
    refine to_aload_n (q := 22) rfl (by decide) dX10_at_21 rfl ?_
    refine to_aload_n (q := 23) rfl (by decide) dX10_at_22 rfl ?_
    refine to_getR (q := 26) (b := 88) (k0 := 10) (C := RX10) (T := TX10) (N := 17) (j := 9) rfl fx_X10_51 (h_0 hS) rfl (iv_0_9 hI) dX10_at_23 rfl ?_
    refine to_getR (q := 29) (b := 88 + 1) (k0 := 7) (C := RX7) (T := TX7) (N := 3) (j := 0) rfl fx_X10_184 (h_88 hS) rfl (iv7a hI (a := 88) rfl) dX10_at_26 rfl ?_
    refine to_iload_n (q := 30) rfl dX10_at_29 rfl ?_
    obtain ⟨hb6, hf⟩ := ck_some hf
    refine to_iaj (q := 31) (sh_ln hS (kd7a (a := 88) rfl) (by decide)) hb6 (rfl) dX10_at_30 rfl ?_
    obtain ⟨r9, m10, hc7, hf⟩ := cl2_some hf
    have qc8 := kX10_answer hS hc7 hI
    refine to_virtI (q := 34) mX10_answer [.int (m4.1 (88 + 1) x3.toNatClampNeg)] dX10_at_31 rfl rfl (Nat.le_of_ble_eq_true rfl) mo_X10_answer mv_X10_135 (Or.inl ⟨_, _, _, h_0 hS, rfl, rfl⟩) (Call_mono (by decide) qc8.1) ?_
    have hI := qc8.2
    cases hf
    exact to_iret dX10_at_34 rfl rfl rfl rfl hI
  · have hf := ite_neg h5 hf
    refine to_ifF (q := 14) (op := .eq) 21 h5 dX10_at_11 rfl rfl ?_
    refine to_aload_n (q := 15) rfl (by decide) dX10_at_14 rfl ?_
    refine to_iload (q := 17) rfl dX10_at_15 rfl ?_
    obtain ⟨r13, m14, hc11, hf⟩ := cl2_some hf
    have qc12 := kX10_refuse hS hc11 hI
    refine to_virtI (q := 20) mX10_refuse [.int r3] dX10_at_17 rfl rfl (Nat.le_of_ble_eq_true rfl) mo_X10_refuse mv_X10_98 (Or.inl ⟨_, _, _, h_0 hS, rfl, rfl⟩) (Call_mono (by decide) qc12.1) ?_
    have hI := qc12.2
    cases hf
    exact to_iret dX10_at_20 rfl rfl rfl rfl hI
def fX10_shown_37 (n : Nat) (x1 : Int32) (x2 : Int32) (x3 : Int32) (x4 : Int32) (m : Me) : Option (Int32 × Me) := match n with
  | 0 => none
  | n + 1 => cl2 (fX2_openings (rr m 0 3) m) fun r22 m23 => if r22 ≤ x4 then cl2 (fX10_answer (-2 : Int32) m23) fun r27 m28 => some (r27, m28) else cl2 (fX2_openCells (rr m23 0 3) x1 x2 x4 m23) fun r32 m33 => if r32 ≤ x3 then fX10_shown_37 n x1 x2 x3 ((x4 + (1 : Int32))) m33 else cl2 (fX10_answer x4 m33) fun r37 m38 => some (r37, m38)
set_option maxRecDepth 20000 in
theorem kX10_shown_37 {S : Sh} (hS : ShOK S) {res : Int32 × Me} (n : Nat) : ∀ {x1 : Int32} {x2 : Int32} {x3 : Int32} {x4 : Int32} {m : Me}, fX10_shown_37 n x1 x2 x3 x4 m = some res → Inv m → TT InvS (Call 2) mX10_shown (37, [(0, .ref 0), (1, .int x1), (2, .int x2), (3, .int x3), (4, .int x4)], [], S, m) (some (.int res.1)) (S, res.2) := by
  induction n with
  | zero => intro x1 x2 x3 x4 m hf; cases hf
  | succ n ih =>
    intro x1 x2 x3 x4 m hf  hI
    unfold fX10_shown_37 at hf
    refine to_iload (q := 39) rfl dX10_shown_37 rfl ?_
    refine to_aload_n (q := 40) rfl (by decide) dX10_shown_39 rfl ?_
    have hk19 : kd (rr m 0 3) = 2 := (ivT hI).2
    refine to_getR (q := 43) (b := rr m 0 3) (k0 := 10) (C := RX10) (T := TX10) (N := 17) (j := 3) rfl fx_X10_26 (h_0 hS) rfl ((ivT hI).1) dX10_shown_40 rfl ?_
    obtain ⟨r22, m23, hc20, hf⟩ := cl2_some hf
    have qc21 := kX2_openings hS hc20 (hk19) hI
    refine to_virtI (q := 46) mX2_openings [] dX10_shown_43 rfl rfl (Nat.le_of_ble_eq_true rfl) mo_X2_openings mv_X10_131 (Or.inl ⟨_, _, _, sh_kd hS hk19 (by decide), rfl, rfl⟩) (Call_mono (by decide) qc21.1) ?_
    have hI := qc21.2
    by_cases h24 : r22 ≤ x4
    · have hf := ite_pos h24 hf
      refine to_icT (q := 77) (op := .ge) h24 dX10_shown_46 rfl ?_
      refine to_aload_n (q := 78) rfl (by decide) dX10_shown_77 rfl ?_
      refine to_bipush (q := 80) bp_m2 dX10_shown_78 rfl ?_
      obtain ⟨r27, m28, hc25, hf⟩ := cl2_some hf
      have qc26 := kX10_answer hS hc25 hI
      refine to_virtI (q := 83) mX10_answer [.int (-2 : Int32)] dX10_shown_80 rfl rfl (Nat.le_of_ble_eq_true rfl) mo_X10_answer mv_X10_135 (Or.inl ⟨_, _, _, h_0 hS, rfl, rfl⟩) (Call_mono (by decide) qc26.1) ?_
      have hI := qc26.2
      cases hf
      exact to_iret dX10_shown_83 rfl rfl rfl rfl hI
    · have hf := ite_neg h24 hf
      refine to_icF (q := 49) (op := .ge) 77 h24 dX10_shown_46 rfl rfl ?_
      refine to_aload_n (q := 50) rfl (by decide) dX10_shown_49 rfl ?_
      have hk29 : kd (rr m23 0 3) = 2 := (ivT hI).2
      refine to_getR (q := 53) (b := rr m23 0 3) (k0 := 10) (C := RX10) (T := TX10) (N := 17) (j := 3) rfl fx_X10_26 (h_0 hS) rfl ((ivT hI).1) dX10_shown_50 rfl ?_
      refine to_iload_n (q := 54) rfl dX10_shown_53 rfl ?_
      refine to_iload_n (q := 55) rfl dX10_shown_54 rfl ?_
      refine to_iload (q := 57) rfl dX10_shown_55 rfl ?_
      obtain ⟨r32, m33, hc30, hf⟩ := cl2_some hf
      have qc31 := kX2_openCells hS hc30 (hk29) hI
      refine to_virtI (q := 60) mX2_openCells [.int x1, .int x2, .int x4] dX10_shown_57 rfl rfl (Nat.le_of_ble_eq_true rfl) mo_X2_openCells mv_X10_187 (Or.inl ⟨_, _, _, sh_kd hS hk29 (by decide), rfl, rfl⟩) (Call_mono (by decide) qc31.1) ?_
      have hI := qc31.2
      refine to_iload_n (q := 61) rfl dX10_shown_60 rfl ?_
      by_cases h34 : r32 ≤ x3
      · have hf := ite_pos h34 hf
        refine to_icT (q := 71) (op := .le) h34 dX10_shown_61 rfl ?_
        refine to_iinc (q := 74) (v := (x4 + (1 : Int32))) rfl (congrArg (fun z => x4 + z) ic_1) [(4, .int (x4 + (1 : Int32))), (0, .ref 0), (1, .int x1), (2, .int x2), (3, .int x3)] rfl (by decide) dX10_shown_71 rfl ?_
        refine to_goto (q := 37) dX10_shown_74 rfl ?_
        exact to_ext [(0, .ref 0), (1, .int x1), (2, .int x2), (3, .int x3), (4, .int (x4 + (1 : Int32)))] (ext_cons rfl (ext_cons rfl (ext_cons rfl (ext_cons rfl (ext_cons rfl ext_nil))))) (ih hf hI)
      · have hf := ite_neg h34 hf
        refine to_icF (q := 64) (op := .le) 71 h34 dX10_shown_61 rfl rfl ?_
        refine to_aload_n (q := 65) rfl (by decide) dX10_shown_64 rfl ?_
        refine to_iload (q := 67) rfl dX10_shown_65 rfl ?_
        obtain ⟨r37, m38, hc35, hf⟩ := cl2_some hf
        have qc36 := kX10_answer hS hc35 hI
        refine to_virtI (q := 70) mX10_answer [.int x4] dX10_shown_67 rfl rfl (Nat.le_of_ble_eq_true rfl) mo_X10_answer mv_X10_135 (Or.inl ⟨_, _, _, h_0 hS, rfl, rfl⟩) (Call_mono (by decide) qc36.1) ?_
        have hI := qc36.2
        cases hf
        exact to_iret dX10_shown_70 rfl rfl rfl rfl hI
def fX10_shown (x1 : Int32) (x2 : Int32) (x3 : Int32) (m : Me) : Option (Int32 × Me) := cl2 (fX10_noCell x1 x2 x3 m) fun r3 m4 => if r3 = (0 : Int32) then cl2 (fX5_lacksRib 81 x2 m4) fun r8 m9 => if r8 = (0 : Int32) then fX10_shown_37 FU x1 x2 x3 ((0 : Int32)) m9 else cl2 (fX10_answer (-2 : Int32) m9) fun r13 m14 => some (r13, m14) else cl2 (fX10_refuse (1 : Int32) m4) fun r17 m18 => some (r17, m18)
set_option maxRecDepth 20000 in
theorem kX10_shown {S : Sh} (hS : ShOK S) {res : Int32 × Me} {x1 : Int32} {x2 : Int32} {x3 : Int32} {m : Me} (hf : fX10_shown x1 x2 x3 m = some res) (hI : Inv m) : Call 3 mX10_shown [.ref 0, .int x1, .int x2, .int x3] (S, m) (some (.int res.1)) (S, res.2) ∧ Inv res.2 := by
  refine call_of (P := InvS) (Nat.le_of_ble_eq_true rfl) (by simp [Value.category]) ?_
  show TT InvS (Call 2) mX10_shown (0, [(0, .ref 0), (1, .int x1), (2, .int x2), (3, .int x3)], [], S, m) _ _
  unfold fX10_shown at hf
  refine to_aload_n (q := 1) rfl (by decide) dX10_shown_0 rfl ?_
  refine to_iload_n (q := 2) rfl dX10_shown_1 rfl ?_
  refine to_iload_n (q := 3) rfl dX10_shown_2 rfl ?_
  refine to_iload_n (q := 4) rfl dX10_shown_3 rfl ?_
  obtain ⟨r3, m4, hc1, hf⟩ := cl2_some hf
  have qc2 := kX10_noCell hS hc1 hI
  refine to_virtI (q := 7) mX10_noCell [.int x1, .int x2, .int x3] dX10_shown_4 rfl rfl (Nat.le_of_ble_eq_true rfl) mo_X10_noCell mv_X10_147 (Or.inl ⟨_, _, _, h_0 hS, rfl, rfl⟩) (Call_mono (by decide) qc2.1) ?_
  have hI := qc2.2
  by_cases h5 : r3 = (0 : Int32)
  · have hf := ite_pos h5 hf
    refine to_ifT (q := 16) (op := .eq) h5 dX10_shown_7 rfl ?_
    refine to_aload_n (q := 17) rfl (by decide) dX10_shown_16 rfl ?_
    refine to_getR (q := 20) (b := 81) (k0 := 10) (C := RX10) (T := TX10) (N := 17) (j := 5) rfl fx_X10_33 (h_0 hS) rfl (iv_0_5 hI) dX10_shown_17 rfl ?_
    refine to_iload_n (q := 21) rfl dX10_shown_20 rfl ?_
    obtain ⟨r8, m9, hc6, hf⟩ := cl2_some hf
    have qc7 := kX5_lacksRib hS hc6 rfl hI
    refine to_virtI (q := 24) mX5_lacksRib [.int x2] dX10_shown_21 rfl rfl (Nat.le_of_ble_eq_true rfl) mo_X5_lacksRib mv_X10_164 (Or.inl ⟨_, _, _, h_81 hS, rfl, rfl⟩) (Call_mono (by decide) qc7.1) ?_
    have hI := qc7.2
    by_cases h10 : r8 = (0 : Int32)
    · have hf := ite_pos h10 hf
      refine to_ifT (q := 34) (op := .eq) h10 dX10_shown_24 rfl ?_
      refine to_iconst (q := 35) ic_0 dX10_shown_34 rfl ?_
      refine to_istore (q := 37) [(4, .int (0 : Int32)), (0, .ref 0), (1, .int x1), (2, .int x2), (3, .int x3)] rfl (by decide) dX10_shown_35 rfl ?_
      exact to_ext [(0, .ref 0), (1, .int x1), (2, .int x2), (3, .int x3), (4, .int (0 : Int32))] (ext_cons rfl (ext_cons rfl (ext_cons rfl (ext_cons rfl (ext_cons rfl ext_nil))))) (kX10_shown_37 hS FU hf hI)
    · have hf := ite_neg h10 hf
      refine to_ifF (q := 27) (op := .eq) 34 h10 dX10_shown_24 rfl rfl ?_
      refine to_aload_n (q := 28) rfl (by decide) dX10_shown_27 rfl ?_
      refine to_bipush (q := 30) bp_m2 dX10_shown_28 rfl ?_
      obtain ⟨r13, m14, hc11, hf⟩ := cl2_some hf
      have qc12 := kX10_answer hS hc11 hI
      refine to_virtI (q := 33) mX10_answer [.int (-2 : Int32)] dX10_shown_30 rfl rfl (Nat.le_of_ble_eq_true rfl) mo_X10_answer mv_X10_135 (Or.inl ⟨_, _, _, h_0 hS, rfl, rfl⟩) (Call_mono (by decide) qc12.1) ?_
      have hI := qc12.2
      cases hf
      exact to_iret dX10_shown_33 rfl rfl rfl rfl hI
  · have hf := ite_neg h5 hf
    refine to_ifF (q := 10) (op := .eq) 16 h5 dX10_shown_7 rfl rfl ?_
    refine to_aload_n (q := 11) rfl (by decide) dX10_shown_10 rfl ?_
    refine to_iconst (q := 12) ic_1 dX10_shown_11 rfl ?_
    obtain ⟨r17, m18, hc15, hf⟩ := cl2_some hf
    have qc16 := kX10_refuse hS hc15 hI
    refine to_virtI (q := 15) mX10_refuse [.int (1 : Int32)] dX10_shown_12 rfl rfl (Nat.le_of_ble_eq_true rfl) mo_X10_refuse mv_X10_98 (Or.inl ⟨_, _, _, h_0 hS, rfl, rfl⟩) (Call_mono (by decide) qc16.1) ?_
    have hI := qc16.2
    cases hf
    exact to_iret dX10_shown_15 rfl rfl rfl rfl hI
def fX10_ribs_71 (k23 : Int32 → Int32 → Int32 → Int32 → Me → Option (Int32 × Me)) (x1 : Int32) (x2 : Int32) (x4 : Int32) (x5 : Int32) (m : Me) : Option (Int32 × Me) := k23 x1 x2 x4 ((x5 + (1 : Int32))) m
set_option maxRecDepth 20000 in
theorem kX10_ribs_71 {S : Sh} (hS : ShOK S) {res : Int32 × Me} {k23 : Int32 → Int32 → Int32 → Int32 → Me → Option (Int32 × Me)} (hk23 : ∀ {x1 : Int32} {x2 : Int32} {x4 : Int32} {x5 : Int32} {m : Me}, k23 x1 x2 x4 x5 m = some res → Inv m → TT InvS (Call 2) mX10_ribs (23, [(0, .ref 0), (1, .int x1), (2, .int x2), (4, .int x4), (5, .int x5)], [], S, m) (some (.int res.1)) (S, res.2)) {x1 : Int32} {x2 : Int32} {x4 : Int32} {x5 : Int32} {m : Me} (hf : fX10_ribs_71 k23 x1 x2 x4 x5 m = some res) (hI : Inv m) : TT InvS (Call 2) mX10_ribs (71, [(0, .ref 0), (1, .int x1), (2, .int x2), (4, .int x4), (5, .int x5)], [], S, m) (some (.int res.1)) (S, res.2) := by
  unfold fX10_ribs_71 at hf
  refine to_iinc (q := 74) (v := (x5 + (1 : Int32))) rfl (congrArg (fun z => x5 + z) ic_1) [(5, .int (x5 + (1 : Int32))), (0, .ref 0), (1, .int x1), (2, .int x2), (4, .int x4)] rfl (by decide) dX10_ribs_71 rfl ?_
  refine to_goto (q := 23) dX10_ribs_74 rfl ?_
  exact to_ext [(0, .ref 0), (1, .int x1), (2, .int x2), (4, .int x4), (5, .int (x5 + (1 : Int32)))] (ext_cons rfl (ext_cons rfl (ext_cons rfl (ext_cons rfl (ext_cons rfl ext_nil))))) (hk23 hf hI)
def fX10_ribs_23 (n : Nat) (x1 : Int32) (x2 : Int32) (x4 : Int32) (x5 : Int32) (m : Me) : Option (Int32 × Me) := match n with
  | 0 => none
  | n + 1 => if (m.1 (rr m 0 3) 0) ≤ x5 then cl2 (fX10_answer x4 m) fun r14 m15 => some (r14, m15) else cl2 (fX5_lacksRib 81 x5 m) fun r18 m19 => if r18 = (0 : Int32) then cl2 (fX2_openCells (rr m19 0 3) x1 x5 x2 m19) fun r24 m25 => if r24 = (m25.1 (rr m25 0 3) 1) then fX10_ribs_71 (fX10_ribs_23 n) x1 x2 ((x4 + (1 : Int32))) x5 m25 else fX10_ribs_71 (fX10_ribs_23 n) x1 x2 x4 x5 m25 else fX10_ribs_71 (fX10_ribs_23 n) x1 x2 x4 x5 m19
set_option maxRecDepth 20000 in
theorem kX10_ribs_23 {S : Sh} (hS : ShOK S) {res : Int32 × Me} (n : Nat) : ∀ {x1 : Int32} {x2 : Int32} {x4 : Int32} {x5 : Int32} {m : Me}, fX10_ribs_23 n x1 x2 x4 x5 m = some res → Inv m → TT InvS (Call 2) mX10_ribs (23, [(0, .ref 0), (1, .int x1), (2, .int x2), (4, .int x4), (5, .int x5)], [], S, m) (some (.int res.1)) (S, res.2) := by
  induction n with
  | zero => intro x1 x2 x4 x5 m hf; cases hf
  | succ n ih =>
    intro x1 x2 x4 x5 m hf  hI
    unfold fX10_ribs_23 at hf
    refine to_iload (q := 25) rfl dX10_ribs_23 rfl ?_
    refine to_aload_n (q := 26) rfl (by decide) dX10_ribs_25 rfl ?_
    have hk10 : kd (rr m 0 3) = 2 := (ivT hI).2
    refine to_getR (q := 29) (b := rr m 0 3) (k0 := 10) (C := RX10) (T := TX10) (N := 17) (j := 3) rfl fx_X10_26 (h_0 hS) rfl ((ivT hI).1) dX10_ribs_26 rfl ?_
    refine to_getI (q := 32) (k0 := 2) (C := RX2) (T := TX2) (N := 14) (j := 0) rfl fx_X10_190 (sh_kd hS hk10 (by decide)) rfl dX10_ribs_29 rfl ?_
    by_cases h11 : (m.1 (rr m 0 3) 0) ≤ x5
    · have hf := ite_pos h11 hf
      refine to_icT (q := 77) (op := .ge) h11 dX10_ribs_32 rfl ?_
      refine to_aload_n (q := 78) rfl (by decide) dX10_ribs_77 rfl ?_
      refine to_iload (q := 80) rfl dX10_ribs_78 rfl ?_
      obtain ⟨r14, m15, hc12, hf⟩ := cl2_some hf
      have qc13 := kX10_answer hS hc12 hI
      refine to_virtI (q := 83) mX10_answer [.int x4] dX10_ribs_80 rfl rfl (Nat.le_of_ble_eq_true rfl) mo_X10_answer mv_X10_135 (Or.inl ⟨_, _, _, h_0 hS, rfl, rfl⟩) (Call_mono (by decide) qc13.1) ?_
      have hI := qc13.2
      cases hf
      exact to_iret dX10_ribs_83 rfl rfl rfl rfl hI
    · have hf := ite_neg h11 hf
      refine to_icF (q := 35) (op := .ge) 77 h11 dX10_ribs_32 rfl rfl ?_
      refine to_aload_n (q := 36) rfl (by decide) dX10_ribs_35 rfl ?_
      refine to_getR (q := 39) (b := 81) (k0 := 10) (C := RX10) (T := TX10) (N := 17) (j := 5) rfl fx_X10_33 (h_0 hS) rfl (iv_0_5 hI) dX10_ribs_36 rfl ?_
      refine to_iload (q := 41) rfl dX10_ribs_39 rfl ?_
      obtain ⟨r18, m19, hc16, hf⟩ := cl2_some hf
      have qc17 := kX5_lacksRib hS hc16 rfl hI
      refine to_virtI (q := 44) mX5_lacksRib [.int x5] dX10_ribs_41 rfl rfl (Nat.le_of_ble_eq_true rfl) mo_X5_lacksRib mv_X10_164 (Or.inl ⟨_, _, _, h_81 hS, rfl, rfl⟩) (Call_mono (by decide) qc17.1) ?_
      have hI := qc17.2
      by_cases h20 : r18 = (0 : Int32)
      · have hf := ite_pos h20 hf
        refine to_ifF (q := 47) (op := .ne) 71 (fun z => z h20) dX10_ribs_44 rfl rfl ?_
        refine to_aload_n (q := 48) rfl (by decide) dX10_ribs_47 rfl ?_
        have hk21 : kd (rr m19 0 3) = 2 := (ivT hI).2
        refine to_getR (q := 51) (b := rr m19 0 3) (k0 := 10) (C := RX10) (T := TX10) (N := 17) (j := 3) rfl fx_X10_26 (h_0 hS) rfl ((ivT hI).1) dX10_ribs_48 rfl ?_
        refine to_iload_n (q := 52) rfl dX10_ribs_51 rfl ?_
        refine to_iload (q := 54) rfl dX10_ribs_52 rfl ?_
        refine to_iload_n (q := 55) rfl dX10_ribs_54 rfl ?_
        obtain ⟨r24, m25, hc22, hf⟩ := cl2_some hf
        have qc23 := kX2_openCells hS hc22 (hk21) hI
        refine to_virtI (q := 58) mX2_openCells [.int x1, .int x5, .int x2] dX10_ribs_55 rfl rfl (Nat.le_of_ble_eq_true rfl) mo_X2_openCells mv_X10_187 (Or.inl ⟨_, _, _, sh_kd hS hk21 (by decide), rfl, rfl⟩) (Call_mono (by decide) qc23.1) ?_
        have hI := qc23.2
        refine to_aload_n (q := 59) rfl (by decide) dX10_ribs_58 rfl ?_
        have hk26 : kd (rr m25 0 3) = 2 := (ivT hI).2
        refine to_getR (q := 62) (b := rr m25 0 3) (k0 := 10) (C := RX10) (T := TX10) (N := 17) (j := 3) rfl fx_X10_26 (h_0 hS) rfl ((ivT hI).1) dX10_ribs_59 rfl ?_
        refine to_getI (q := 65) (k0 := 2) (C := RX2) (T := TX2) (N := 14) (j := 1) rfl fx_X10_151 (sh_kd hS hk26 (by decide)) rfl dX10_ribs_62 rfl ?_
        by_cases h27 : r24 = (m25.1 (rr m25 0 3) 1)
        · have hf := ite_pos h27 hf
          refine to_icF (q := 68) (op := .ne) 71 (fun z => z h27) dX10_ribs_65 rfl rfl ?_
          refine to_iinc (q := 71) (v := (x4 + (1 : Int32))) rfl (congrArg (fun z => x4 + z) ic_1) [(4, .int (x4 + (1 : Int32))), (0, .ref 0), (1, .int x1), (2, .int x2), (5, .int x5)] rfl (by decide) dX10_ribs_68 rfl ?_
          exact to_ext [(0, .ref 0), (1, .int x1), (2, .int x2), (4, .int (x4 + (1 : Int32))), (5, .int x5)] (ext_cons rfl (ext_cons rfl (ext_cons rfl (ext_cons rfl (ext_cons rfl ext_nil))))) (kX10_ribs_71 hS ih hf hI)
        · have hf := ite_neg h27 hf
          refine to_icT (q := 71) (op := .ne) h27 dX10_ribs_65 rfl ?_
          exact to_ext [(0, .ref 0), (1, .int x1), (2, .int x2), (4, .int x4), (5, .int x5)] (ext_cons rfl (ext_cons rfl (ext_cons rfl (ext_cons rfl (ext_cons rfl ext_nil))))) (kX10_ribs_71 hS ih hf hI)
      · have hf := ite_neg h20 hf
        refine to_ifT (q := 71) (op := .ne) h20 dX10_ribs_44 rfl ?_
        exact to_ext [(0, .ref 0), (1, .int x1), (2, .int x2), (4, .int x4), (5, .int x5)] (ext_cons rfl (ext_cons rfl (ext_cons rfl (ext_cons rfl (ext_cons rfl ext_nil))))) (kX10_ribs_71 hS ih hf hI)
def fX10_ribs (x1 : Int32) (x2 : Int32) (m : Me) : Option (Int32 × Me) := cl2 (fX10_wrongView x1 x2 m) fun r3 m4 => if r3 = (0 : Int32) then fX10_ribs_23 FU x1 x2 ((0 : Int32)) ((0 : Int32)) m4 else cl2 (fX10_refuse r3 m4) fun r8 m9 => some (r8, m9)
set_option maxRecDepth 20000 in
theorem kX10_ribs {S : Sh} (hS : ShOK S) {res : Int32 × Me} {x1 : Int32} {x2 : Int32} {m : Me} (hf : fX10_ribs x1 x2 m = some res) (hI : Inv m) : Call 3 mX10_ribs [.ref 0, .int x1, .int x2] (S, m) (some (.int res.1)) (S, res.2) ∧ Inv res.2 := by
  refine call_of (P := InvS) (Nat.le_of_ble_eq_true rfl) (by simp [Value.category]) ?_
  show TT InvS (Call 2) mX10_ribs (0, [(0, .ref 0), (1, .int x1), (2, .int x2)], [], S, m) _ _
  unfold fX10_ribs at hf
  refine to_aload_n (q := 1) rfl (by decide) dX10_ribs_0 rfl ?_
  refine to_iload_n (q := 2) rfl dX10_ribs_1 rfl ?_
  refine to_iload_n (q := 3) rfl dX10_ribs_2 rfl ?_
  obtain ⟨r3, m4, hc1, hf⟩ := cl2_some hf
  have qc2 := kX10_wrongView hS hc1 hI
  refine to_virtI (q := 6) mX10_wrongView [.int x1, .int x2] dX10_ribs_3 rfl rfl (Nat.le_of_ble_eq_true rfl) mo_X10_wrongView mv_X10_167 (Or.inl ⟨_, _, _, h_0 hS, rfl, rfl⟩) (Call_mono (by decide) qc2.1) ?_
  have hI := qc2.2
  refine to_istore_n (q := 7) [(3, .int r3), (0, .ref 0), (1, .int x1), (2, .int x2)] rfl (by decide) dX10_ribs_6 rfl ?_
  refine to_iload_n (q := 8) rfl dX10_ribs_7 rfl ?_
  by_cases h5 : r3 = (0 : Int32)
  · have hf := ite_pos h5 hf
    refine to_ifT (q := 17) (op := .eq) h5 dX10_ribs_8 rfl ?_
    refine to_iconst (q := 18) ic_0 dX10_ribs_17 rfl ?_
    refine to_istore (q := 20) [(4, .int (0 : Int32)), (3, .int r3), (0, .ref 0), (1, .int x1), (2, .int x2)] rfl (by decide) dX10_ribs_18 rfl ?_
    refine to_iconst (q := 21) ic_0 dX10_ribs_20 rfl ?_
    refine to_istore (q := 23) [(5, .int (0 : Int32)), (4, .int (0 : Int32)), (3, .int r3), (0, .ref 0), (1, .int x1), (2, .int x2)] rfl (by decide) dX10_ribs_21 rfl ?_
    exact to_ext [(0, .ref 0), (1, .int x1), (2, .int x2), (4, .int (0 : Int32)), (5, .int (0 : Int32))] (ext_cons rfl (ext_cons rfl (ext_cons rfl (ext_cons rfl (ext_cons rfl ext_nil))))) (kX10_ribs_23 hS FU hf hI)
  · have hf := ite_neg h5 hf
    refine to_ifF (q := 11) (op := .eq) 17 h5 dX10_ribs_8 rfl rfl ?_
    refine to_aload_n (q := 12) rfl (by decide) dX10_ribs_11 rfl ?_
    refine to_iload_n (q := 13) rfl dX10_ribs_12 rfl ?_
    obtain ⟨r8, m9, hc6, hf⟩ := cl2_some hf
    have qc7 := kX10_refuse hS hc6 hI
    refine to_virtI (q := 16) mX10_refuse [.int r3] dX10_ribs_13 rfl rfl (Nat.le_of_ble_eq_true rfl) mo_X10_refuse mv_X10_98 (Or.inl ⟨_, _, _, h_0 hS, rfl, rfl⟩) (Call_mono (by decide) qc7.1) ?_
    have hI := qc7.2
    cases hf
    exact to_iret dX10_ribs_16 rfl rfl rfl rfl hI
def fX10_painted_26 (t0 : Int32) (m : Me) : Option (Int32 × Me) := some (t0, m)
set_option maxRecDepth 20000 in
theorem kX10_painted_26 {S : Sh} (hS : ShOK S) {res : Int32 × Me} {t0 : Int32} {m : Me} (hf : fX10_painted_26 t0 m = some res) (hI : Inv m) : TT InvS (Call 1) mX10_painted (26, [], [.int t0], S, m) (some (.int res.1)) (S, res.2) := by
  unfold fX10_painted_26 at hf
  cases hf
  exact to_iret dX10_painted_26 rfl rfl rfl rfl hI
def fX10_painted (m : Me) : Option (Int32 × Me) := if (m.1 0 4) = (0 : Int32) then cl2 (fX10_refuse (1 : Int32) m) fun r4 m5 => fX10_painted_26 r4 m5 else cl2 (fX5_countPainted 81 m) fun r8 m9 => cl2 (fX10_answer r8 m9) fun r12 m13 => fX10_painted_26 r12 m13
set_option maxRecDepth 20000 in
theorem kX10_painted {S : Sh} (hS : ShOK S) {res : Int32 × Me} {m : Me} (hf : fX10_painted m = some res) (hI : Inv m) : Call 2 mX10_painted [.ref 0] (S, m) (some (.int res.1)) (S, res.2) ∧ Inv res.2 := by
  refine call_of (P := InvS) (Nat.le_of_ble_eq_true rfl) (by simp [Value.category]) ?_
  show TT InvS (Call 1) mX10_painted (0, [(0, .ref 0)], [], S, m) _ _
  unfold fX10_painted at hf
  refine to_aload_n (q := 1) rfl (by decide) dX10_painted_0 rfl ?_
  refine to_getI (q := 4) (k0 := 10) (C := RX10) (T := TX10) (N := 17) (j := 4) rfl fx_X10_110 (h_0 hS) rfl dX10_painted_1 rfl ?_
  by_cases h1 : (m.1 0 4) = (0 : Int32)
  · have hf := ite_pos h1 hf
    refine to_ifT (q := 21) (op := .eq) h1 dX10_painted_4 rfl ?_
    refine to_aload_n (q := 22) rfl (by decide) dX10_painted_21 rfl ?_
    refine to_iconst (q := 23) ic_1 dX10_painted_22 rfl ?_
    obtain ⟨r4, m5, hc2, hf⟩ := cl2_some hf
    have qc3 := kX10_refuse hS hc2 hI
    refine to_virtI (q := 26) mX10_refuse [.int (1 : Int32)] dX10_painted_23 rfl rfl (Nat.le_of_ble_eq_true rfl) mo_X10_refuse mv_X10_98 (Or.inl ⟨_, _, _, h_0 hS, rfl, rfl⟩) (Call_mono (by decide) qc3.1) ?_
    have hI := qc3.2
    exact to_ext [] ext_nil (kX10_painted_26 hS hf hI)
  · have hf := ite_neg h1 hf
    refine to_ifF (q := 7) (op := .eq) 21 h1 dX10_painted_4 rfl rfl ?_
    refine to_aload_n (q := 8) rfl (by decide) dX10_painted_7 rfl ?_
    refine to_aload_n (q := 9) rfl (by decide) dX10_painted_8 rfl ?_
    refine to_getR (q := 12) (b := 81) (k0 := 10) (C := RX10) (T := TX10) (N := 17) (j := 5) rfl fx_X10_33 (h_0 hS) rfl (iv_0_5 hI) dX10_painted_9 rfl ?_
    obtain ⟨r8, m9, hc6, hf⟩ := cl2_some hf
    have qc7 := kX5_countPainted hS hc6 rfl hI
    refine to_virtI (q := 15) mX5_countPainted [] dX10_painted_12 rfl rfl (Nat.le_of_ble_eq_true rfl) mo_X5_countPainted mv_X10_193 (Or.inl ⟨_, _, _, h_81 hS, rfl, rfl⟩) (Call_mono (by decide) qc7.1) ?_
    have hI := qc7.2
    obtain ⟨r12, m13, hc10, hf⟩ := cl2_some hf
    have qc11 := kX10_answer hS hc10 hI
    refine to_virtI (q := 18) mX10_answer [.int r8] dX10_painted_15 rfl rfl (Nat.le_of_ble_eq_true rfl) mo_X10_answer mv_X10_135 (Or.inl ⟨_, _, _, h_0 hS, rfl, rfl⟩) (Call_mono (by decide) qc11.1) ?_
    have hI := qc11.2
    refine to_goto (q := 26) dX10_painted_18 rfl ?_
    exact to_ext [] ext_nil (kX10_painted_26 hS hf hI)
def fX10_cost_34 (t0 : Int32) (m : Me) : Option (Int32 × Me) := some (t0, m)
set_option maxRecDepth 20000 in
theorem kX10_cost_34 {S : Sh} (hS : ShOK S) {res : Int32 × Me} {t0 : Int32} {m : Me} (hf : fX10_cost_34 t0 m = some res) (hI : Inv m) : TT InvS (Call 1) mX10_cost (34, [], [.int t0], S, m) (some (.int res.1)) (S, res.2) := by
  unfold fX10_cost_34 at hf
  cases hf
  exact to_iret dX10_cost_34 rfl rfl rfl rfl hI
def fX10_cost (m : Me) : Option (Int32 × Me) := if (m.1 0 4) = (0 : Int32) then cl2 (fX10_refuse (1 : Int32) m) fun r4 m5 => fX10_cost_34 r4 m5 else cl2 (fX5_countPainted 81 m) fun r9 m10 => cl2 (fX10_answer (((m.1 (rr m 0 3) 2) * r9)) m10) fun r13 m14 => fX10_cost_34 r13 m14
set_option maxRecDepth 20000 in
theorem kX10_cost {S : Sh} (hS : ShOK S) {res : Int32 × Me} {m : Me} (hf : fX10_cost m = some res) (hI : Inv m) : Call 2 mX10_cost [.ref 0] (S, m) (some (.int res.1)) (S, res.2) ∧ Inv res.2 := by
  refine call_of (P := InvS) (Nat.le_of_ble_eq_true rfl) (by simp [Value.category]) ?_
  show TT InvS (Call 1) mX10_cost (0, [(0, .ref 0)], [], S, m) _ _
  unfold fX10_cost at hf
  refine to_aload_n (q := 1) rfl (by decide) dX10_cost_0 rfl ?_
  refine to_getI (q := 4) (k0 := 10) (C := RX10) (T := TX10) (N := 17) (j := 4) rfl fx_X10_110 (h_0 hS) rfl dX10_cost_1 rfl ?_
  by_cases h1 : (m.1 0 4) = (0 : Int32)
  · have hf := ite_pos h1 hf
    refine to_ifT (q := 29) (op := .eq) h1 dX10_cost_4 rfl ?_
    refine to_aload_n (q := 30) rfl (by decide) dX10_cost_29 rfl ?_
    refine to_iconst (q := 31) ic_1 dX10_cost_30 rfl ?_
    obtain ⟨r4, m5, hc2, hf⟩ := cl2_some hf
    have qc3 := kX10_refuse hS hc2 hI
    refine to_virtI (q := 34) mX10_refuse [.int (1 : Int32)] dX10_cost_31 rfl rfl (Nat.le_of_ble_eq_true rfl) mo_X10_refuse mv_X10_98 (Or.inl ⟨_, _, _, h_0 hS, rfl, rfl⟩) (Call_mono (by decide) qc3.1) ?_
    have hI := qc3.2
    exact to_ext [] ext_nil (kX10_cost_34 hS hf hI)
  · have hf := ite_neg h1 hf
    refine to_ifF (q := 7) (op := .eq) 29 h1 dX10_cost_4 rfl rfl ?_
    refine to_aload_n (q := 8) rfl (by decide) dX10_cost_7 rfl ?_
    refine to_aload_n (q := 9) rfl (by decide) dX10_cost_8 rfl ?_
    have hk6 : kd (rr m 0 3) = 2 := (ivT hI).2
    refine to_getR (q := 12) (b := rr m 0 3) (k0 := 10) (C := RX10) (T := TX10) (N := 17) (j := 3) rfl fx_X10_26 (h_0 hS) rfl ((ivT hI).1) dX10_cost_9 rfl ?_
    refine to_getI (q := 15) (k0 := 2) (C := RX2) (T := TX2) (N := 14) (j := 2) rfl fx_X10_196 (sh_kd hS hk6 (by decide)) rfl dX10_cost_12 rfl ?_
    refine to_aload_n (q := 16) rfl (by decide) dX10_cost_15 rfl ?_
    refine to_getR (q := 19) (b := 81) (k0 := 10) (C := RX10) (T := TX10) (N := 17) (j := 5) rfl fx_X10_33 (h_0 hS) rfl (iv_0_5 hI) dX10_cost_16 rfl ?_
    obtain ⟨r9, m10, hc7, hf⟩ := cl2_some hf
    have qc8 := kX5_countPainted hS hc7 rfl hI
    refine to_virtI (q := 22) mX5_countPainted [] dX10_cost_19 rfl rfl (Nat.le_of_ble_eq_true rfl) mo_X5_countPainted mv_X10_193 (Or.inl ⟨_, _, _, h_81 hS, rfl, rfl⟩) (Call_mono (by decide) qc8.1) ?_
    have hI := qc8.2
    refine to_imul (q := 23) dX10_cost_22 rfl ?_
    obtain ⟨r13, m14, hc11, hf⟩ := cl2_some hf
    have qc12 := kX10_answer hS hc11 hI
    refine to_virtI (q := 26) mX10_answer [.int ((m.1 (rr m 0 3) 2) * r9)] dX10_cost_23 rfl rfl (Nat.le_of_ble_eq_true rfl) mo_X10_answer mv_X10_135 (Or.inl ⟨_, _, _, h_0 hS, rfl, rfl⟩) (Call_mono (by decide) qc12.1) ?_
    have hI := qc12.2
    refine to_goto (q := 34) dX10_cost_26 rfl ?_
    exact to_ext [] ext_nil (kX10_cost_34 hS hf hI)
def fX10_noWord_27 (t0 : Int32) (m : Me) : Option (Int32 × Me) := ck (t0 = 0 ∨ t0 = 1) (some (t0, m))
set_option maxRecDepth 20000 in
theorem kX10_noWord_27 {S : Sh} (hS : ShOK S) {res : Int32 × Me} {t0 : Int32} {m : Me} (hf : fX10_noWord_27 t0 m = some res) (hI : Inv m) : TT InvS (Call 0) mX10_noWord (27, [], [.int t0], S, m) (some (.int res.1)) (S, res.2) := by
  unfold fX10_noWord_27 at hf
  obtain ⟨hz5, hf⟩ := ck_some hf
  cases hf
  exact to_iret dX10_noWord_27 rfl (nf_Z hz5).1 rfl rfl hI
def fX10_noWord_22 (m : Me) : Option (Int32 × Me) := fX10_noWord_27 ((1 : Int32)) m
set_option maxRecDepth 20000 in
theorem kX10_noWord_22 {S : Sh} (hS : ShOK S) {res : Int32 × Me} {m : Me} (hf : fX10_noWord_22 m = some res) (hI : Inv m) : TT InvS (Call 0) mX10_noWord (22, [], [], S, m) (some (.int res.1)) (S, res.2) := by
  unfold fX10_noWord_22 at hf
  refine to_iconst (q := 23) ic_1 dX10_noWord_22 rfl ?_
  refine to_goto (q := 27) dX10_noWord_23 rfl ?_
  exact to_ext [] ext_nil (kX10_noWord_27 hS hf hI)
def fX10_noWord (x1 : Int32) (m : Me) : Option (Int32 × Me) := if (m.1 0 4) = (0 : Int32) then fX10_noWord_22 m else if x1 < (0 : Int32) then fX10_noWord_22 m else if x1 < (m.1 (rr m 0 3) 7) then fX10_noWord_27 ((0 : Int32)) m else fX10_noWord_22 m
set_option maxRecDepth 20000 in
theorem kX10_noWord {S : Sh} (hS : ShOK S) {res : Int32 × Me} {x1 : Int32} {m : Me} (hf : fX10_noWord x1 m = some res) (hI : Inv m) : Call 1 mX10_noWord [.ref 0, .int x1] (S, m) (some (.int res.1)) (S, res.2) ∧ Inv res.2 := by
  refine call_of (P := InvS) (Nat.le_of_ble_eq_true rfl) (by simp [Value.category]) ?_
  show TT InvS (Call 0) mX10_noWord (0, [(0, .ref 0), (1, .int x1)], [], S, m) _ _
  unfold fX10_noWord at hf
  refine to_aload_n (q := 1) rfl (by decide) dX10_noWord_0 rfl ?_
  refine to_getI (q := 4) (k0 := 10) (C := RX10) (T := TX10) (N := 17) (j := 4) rfl fx_X10_110 (h_0 hS) rfl dX10_noWord_1 rfl ?_
  by_cases h1 : (m.1 0 4) = (0 : Int32)
  · have hf := ite_pos h1 hf
    refine to_ifT (q := 22) (op := .eq) h1 dX10_noWord_4 rfl ?_
    exact to_ext [] ext_nil (kX10_noWord_22 hS hf hI)
  · have hf := ite_neg h1 hf
    refine to_ifF (q := 7) (op := .eq) 22 h1 dX10_noWord_4 rfl rfl ?_
    refine to_iload_n (q := 8) rfl dX10_noWord_7 rfl ?_
    by_cases h2 : x1 < (0 : Int32)
    · have hf := ite_pos h2 hf
      refine to_ifT (q := 22) (op := .lt) h2 dX10_noWord_8 rfl ?_
      exact to_ext [] ext_nil (kX10_noWord_22 hS hf hI)
    · have hf := ite_neg h2 hf
      refine to_ifF (q := 11) (op := .lt) 22 h2 dX10_noWord_8 rfl rfl ?_
      refine to_iload_n (q := 12) rfl dX10_noWord_11 rfl ?_
      refine to_aload_n (q := 13) rfl (by decide) dX10_noWord_12 rfl ?_
      have hk3 : kd (rr m 0 3) = 2 := (ivT hI).2
      refine to_getR (q := 16) (b := rr m 0 3) (k0 := 10) (C := RX10) (T := TX10) (N := 17) (j := 3) rfl fx_X10_26 (h_0 hS) rfl ((ivT hI).1) dX10_noWord_13 rfl ?_
      refine to_getI (q := 19) (k0 := 2) (C := RX2) (T := TX2) (N := 14) (j := 7) rfl fx_X10_223 (sh_kd hS hk3 (by decide)) rfl dX10_noWord_16 rfl ?_
      by_cases h4 : x1 < (m.1 (rr m 0 3) 7)
      · have hf := ite_pos h4 hf
        refine to_icT (q := 26) (op := .lt) h4 dX10_noWord_19 rfl ?_
        refine to_iconst (q := 27) ic_0 dX10_noWord_26 rfl ?_
        exact to_ext [] ext_nil (kX10_noWord_27 hS hf hI)
      · have hf := ite_neg h4 hf
        refine to_icF (q := 22) (op := .lt) 26 h4 dX10_noWord_19 rfl rfl ?_
        exact to_ext [] ext_nil (kX10_noWord_22 hS hf hI)
def fX10_wrongReading_18 (t0 : Int32) (m : Me) : Option (Int32 × Me) := some (t0, m)
set_option maxRecDepth 20000 in
theorem kX10_wrongReading_18 {S : Sh} (hS : ShOK S) {res : Int32 × Me} {t0 : Int32} {m : Me} (hf : fX10_wrongReading_18 t0 m = some res) (hI : Inv m) : TT InvS (Call 2) mX10_wrongReading (18, [], [.int t0], S, m) (some (.int res.1)) (S, res.2) := by
  unfold fX10_wrongReading_18 at hf
  cases hf
  exact to_iret dX10_wrongReading_18 rfl rfl rfl rfl hI
def fX10_wrongReading (x1 : Int32) (x2 : Int32) (x3 : Int32) (m : Me) : Option (Int32 × Me) := cl2 (fX10_noWord x1 m) fun r3 m4 => if r3 = (0 : Int32) then cl2 (fX10_wrongView x2 x3 m4) fun r8 m9 => fX10_wrongReading_18 r8 m9 else fX10_wrongReading_18 ((1 : Int32)) m4
set_option maxRecDepth 20000 in
theorem kX10_wrongReading {S : Sh} (hS : ShOK S) {res : Int32 × Me} {x1 : Int32} {x2 : Int32} {x3 : Int32} {m : Me} (hf : fX10_wrongReading x1 x2 x3 m = some res) (hI : Inv m) : Call 3 mX10_wrongReading [.ref 0, .int x1, .int x2, .int x3] (S, m) (some (.int res.1)) (S, res.2) ∧ Inv res.2 := by
  refine call_of (P := InvS) (Nat.le_of_ble_eq_true rfl) (by simp [Value.category]) ?_
  show TT InvS (Call 2) mX10_wrongReading (0, [(0, .ref 0), (1, .int x1), (2, .int x2), (3, .int x3)], [], S, m) _ _
  unfold fX10_wrongReading at hf
  refine to_aload_n (q := 1) rfl (by decide) dX10_wrongReading_0 rfl ?_
  refine to_iload_n (q := 2) rfl dX10_wrongReading_1 rfl ?_
  obtain ⟨r3, m4, hc1, hf⟩ := cl2_some hf
  have qc2 := kX10_noWord hS hc1 hI
  refine to_virtI (q := 5) mX10_noWord [.int x1] dX10_wrongReading_2 rfl rfl (Nat.le_of_ble_eq_true rfl) mo_X10_noWord mv_X10_213 (Or.inl ⟨_, _, _, h_0 hS, rfl, rfl⟩) (Call_mono (by decide) qc2.1) ?_
  have hI := qc2.2
  by_cases h5 : r3 = (0 : Int32)
  · have hf := ite_pos h5 hf
    refine to_ifT (q := 12) (op := .eq) h5 dX10_wrongReading_5 rfl ?_
    refine to_aload_n (q := 13) rfl (by decide) dX10_wrongReading_12 rfl ?_
    refine to_iload_n (q := 14) rfl dX10_wrongReading_13 rfl ?_
    refine to_iload_n (q := 15) rfl dX10_wrongReading_14 rfl ?_
    obtain ⟨r8, m9, hc6, hf⟩ := cl2_some hf
    have qc7 := kX10_wrongView hS hc6 hI
    refine to_virtI (q := 18) mX10_wrongView [.int x2, .int x3] dX10_wrongReading_15 rfl rfl (Nat.le_of_ble_eq_true rfl) mo_X10_wrongView mv_X10_167 (Or.inl ⟨_, _, _, h_0 hS, rfl, rfl⟩) (Call_mono (by decide) qc7.1) ?_
    have hI := qc7.2
    exact to_ext [] ext_nil (kX10_wrongReading_18 hS hf hI)
  · have hf := ite_neg h5 hf
    refine to_ifF (q := 8) (op := .eq) 12 h5 dX10_wrongReading_5 rfl rfl ?_
    refine to_iconst (q := 9) ic_1 dX10_wrongReading_8 rfl ?_
    refine to_goto (q := 18) dX10_wrongReading_9 rfl ?_
    exact to_ext [] ext_nil (kX10_wrongReading_18 hS hf hI)
def fX10_reads (x1 : Int32) (x2 : Int32) (x3 : Int32) (m : Me) : Option (Int32 × Me) := cl2 (fX10_wrongReading x1 x2 x3 m) fun r3 m4 => if r3 = (0 : Int32) then cl1 (fX10_lookAt x2 x3 m4) fun m8 => ck (inb x1 6) (cl2 (fX7_timesRead 88 (rr m8 0 3 + 7 + 2 * x1.toNatClampNeg) m8) fun r13 m14 => cl2 (fX10_answer r13 m14) fun r17 m18 => some (r17, m18)) else cl2 (fX10_refuse r3 m4) fun r21 m22 => some (r21, m22)
set_option maxRecDepth 20000 in
theorem kX10_reads {S : Sh} (hS : ShOK S) {res : Int32 × Me} {x1 : Int32} {x2 : Int32} {x3 : Int32} {m : Me} (hf : fX10_reads x1 x2 x3 m = some res) (hI : Inv m) : Call 6 mX10_reads [.ref 0, .int x1, .int x2, .int x3] (S, m) (some (.int res.1)) (S, res.2) ∧ Inv res.2 := by
  refine call_of (P := InvS) (Nat.le_of_ble_eq_true rfl) (by simp [Value.category]) ?_
  show TT InvS (Call 5) mX10_reads (0, [(0, .ref 0), (1, .int x1), (2, .int x2), (3, .int x3)], [], S, m) _ _
  unfold fX10_reads at hf
  refine to_aload_n (q := 1) rfl (by decide) dX10_reads_0 rfl ?_
  refine to_iload_n (q := 2) rfl dX10_reads_1 rfl ?_
  refine to_iload_n (q := 3) rfl dX10_reads_2 rfl ?_
  refine to_iload_n (q := 4) rfl dX10_reads_3 rfl ?_
  obtain ⟨r3, m4, hc1, hf⟩ := cl2_some hf
  have qc2 := kX10_wrongReading hS hc1 hI
  refine to_virtI (q := 7) mX10_wrongReading [.int x1, .int x2, .int x3] dX10_reads_4 rfl rfl (Nat.le_of_ble_eq_true rfl) mo_X10_wrongReading mv_X10_199 (Or.inl ⟨_, _, _, h_0 hS, rfl, rfl⟩) (Call_mono (by decide) qc2.1) ?_
  have hI := qc2.2
  refine to_istore (q := 9) [(4, .int r3), (0, .ref 0), (1, .int x1), (2, .int x2), (3, .int x3)] rfl (by decide) dX10_reads_7 rfl ?_
  refine to_iload (q := 11) rfl dX10_reads_9 rfl ?_
  by_cases h5 : r3 = (0 : Int32)
  · have hf := ite_pos h5 hf
    refine to_ifT (q := 21) (op := .eq) h5 dX10_reads_11 rfl ?_
    refine to_aload_n (q := 22) rfl (by decide) dX10_reads_21 rfl ?_
    refine to_iload_n (q := 23) rfl dX10_reads_22 rfl ?_
    refine to_iload_n (q := 24) rfl dX10_reads_23 rfl ?_
    obtain ⟨m8, hc6, hf⟩ := cl1_some hf
    have qc7 := kX10_lookAt hS hc6 hI
    refine to_virtV (q := 27) mX10_lookAt [.int x2, .int x3] dX10_reads_24 rfl rfl (Nat.le_of_ble_eq_true rfl) mo_X10_lookAt mv_X10_170 (Or.inl ⟨_, _, _, h_0 hS, rfl, rfl⟩) (Call_mono (by decide) qc7.1) ?_
    have hI := qc7.2
    refine to_aload_n (q := 28) rfl (by decide) dX10_reads_27 rfl ?_
    refine to_aload_n (q := 29) rfl (by decide) dX10_reads_28 rfl ?_
    refine to_getR (q := 32) (b := 88) (k0 := 10) (C := RX10) (T := TX10) (N := 17) (j := 9) rfl fx_X10_51 (h_0 hS) rfl (iv_0_9 hI) dX10_reads_29 rfl ?_
    refine to_aload_n (q := 33) rfl (by decide) dX10_reads_32 rfl ?_
    have hk9 : kd (rr m8 0 3) = 2 := (ivT hI).2
    refine to_getR (q := 36) (b := rr m8 0 3) (k0 := 10) (C := RX10) (T := TX10) (N := 17) (j := 3) rfl fx_X10_26 (h_0 hS) rfl ((ivT hI).1) dX10_reads_33 rfl ?_
    refine to_getR (q := 39) (b := (rr m8 0 3) + 3) (k0 := 2) (C := RX2) (T := TX2) (N := 14) (j := 6) rfl fx_X10_202 (sh_kd hS hk9 (by decide)) rfl (iv2w hI (hk9)) dX10_reads_36 rfl ?_
    refine to_iload_n (q := 40) rfl dX10_reads_39 rfl ?_
    obtain ⟨hb10, hf⟩ := ck_some hf
    refine to_aald (q := 41) (b := rr m8 0 3 + 7 + 2 * x1.toNatClampNeg) (sh_ln hS (kd2w (hk9)) (by decide)) (by decide) hb10 (ivW hI (hk9) hb10) dX10_reads_40 rfl ?_
    obtain ⟨r13, m14, hc11, hf⟩ := cl2_some hf
    have qc12 := kX7_timesRead hS hc11 rfl (kdW (hk9) hb10) hI
    refine to_virtI (q := 44) mX7_timesRead [.ref (rr m8 0 3 + 7 + 2 * x1.toNatClampNeg)] dX10_reads_41 rfl rfl (Nat.le_of_ble_eq_true rfl) mo_X7_timesRead mv_X10_206 (Or.inl ⟨_, _, _, h_88 hS, rfl, rfl⟩) (Call_mono (by decide) qc12.1) ?_
    have hI := qc12.2
    obtain ⟨r17, m18, hc15, hf⟩ := cl2_some hf
    have qc16 := kX10_answer hS hc15 hI
    refine to_virtI (q := 47) mX10_answer [.int r13] dX10_reads_44 rfl rfl (Nat.le_of_ble_eq_true rfl) mo_X10_answer mv_X10_135 (Or.inl ⟨_, _, _, h_0 hS, rfl, rfl⟩) (Call_mono (by decide) qc16.1) ?_
    have hI := qc16.2
    cases hf
    exact to_iret dX10_reads_47 rfl rfl rfl rfl hI
  · have hf := ite_neg h5 hf
    refine to_ifF (q := 14) (op := .eq) 21 h5 dX10_reads_11 rfl rfl ?_
    refine to_aload_n (q := 15) rfl (by decide) dX10_reads_14 rfl ?_
    refine to_iload (q := 17) rfl dX10_reads_15 rfl ?_
    obtain ⟨r21, m22, hc19, hf⟩ := cl2_some hf
    have qc20 := kX10_refuse hS hc19 hI
    refine to_virtI (q := 20) mX10_refuse [.int r3] dX10_reads_17 rfl rfl (Nat.le_of_ble_eq_true rfl) mo_X10_refuse mv_X10_98 (Or.inl ⟨_, _, _, h_0 hS, rfl, rfl⟩) (Call_mono (by decide) qc20.1) ?_
    have hI := qc20.2
    cases hf
    exact to_iret dX10_reads_20 rfl rfl rfl rfl hI
def fX10_readAt (x1 : Int32) (x2 : Int32) (x3 : Int32) (m : Me) : Option (Int32 × Me) := cl2 (fX10_wrongReading x1 x2 x3 m) fun r3 m4 => if r3 = (0 : Int32) then cl1 (fX10_lookAt x2 x3 m4) fun m8 => ck (inb x1 6) (cl2 (fX7_firstRead 88 (rr m8 0 3 + 7 + 2 * x1.toNatClampNeg) m8) fun r13 m14 => cl2 (fX10_answer r13 m14) fun r17 m18 => some (r17, m18)) else cl2 (fX10_refuse r3 m4) fun r21 m22 => some (r21, m22)
set_option maxRecDepth 20000 in
theorem kX10_readAt {S : Sh} (hS : ShOK S) {res : Int32 × Me} {x1 : Int32} {x2 : Int32} {x3 : Int32} {m : Me} (hf : fX10_readAt x1 x2 x3 m = some res) (hI : Inv m) : Call 6 mX10_readAt [.ref 0, .int x1, .int x2, .int x3] (S, m) (some (.int res.1)) (S, res.2) ∧ Inv res.2 := by
  refine call_of (P := InvS) (Nat.le_of_ble_eq_true rfl) (by simp [Value.category]) ?_
  show TT InvS (Call 5) mX10_readAt (0, [(0, .ref 0), (1, .int x1), (2, .int x2), (3, .int x3)], [], S, m) _ _
  unfold fX10_readAt at hf
  refine to_aload_n (q := 1) rfl (by decide) dX10_readAt_0 rfl ?_
  refine to_iload_n (q := 2) rfl dX10_readAt_1 rfl ?_
  refine to_iload_n (q := 3) rfl dX10_readAt_2 rfl ?_
  refine to_iload_n (q := 4) rfl dX10_readAt_3 rfl ?_
  obtain ⟨r3, m4, hc1, hf⟩ := cl2_some hf
  have qc2 := kX10_wrongReading hS hc1 hI
  refine to_virtI (q := 7) mX10_wrongReading [.int x1, .int x2, .int x3] dX10_readAt_4 rfl rfl (Nat.le_of_ble_eq_true rfl) mo_X10_wrongReading mv_X10_199 (Or.inl ⟨_, _, _, h_0 hS, rfl, rfl⟩) (Call_mono (by decide) qc2.1) ?_
  have hI := qc2.2
  refine to_istore (q := 9) [(4, .int r3), (0, .ref 0), (1, .int x1), (2, .int x2), (3, .int x3)] rfl (by decide) dX10_readAt_7 rfl ?_
  refine to_iload (q := 11) rfl dX10_readAt_9 rfl ?_
  by_cases h5 : r3 = (0 : Int32)
  · have hf := ite_pos h5 hf
    refine to_ifT (q := 21) (op := .eq) h5 dX10_readAt_11 rfl ?_
    refine to_aload_n (q := 22) rfl (by decide) dX10_readAt_21 rfl ?_
    refine to_iload_n (q := 23) rfl dX10_readAt_22 rfl ?_
    refine to_iload_n (q := 24) rfl dX10_readAt_23 rfl ?_
    obtain ⟨m8, hc6, hf⟩ := cl1_some hf
    have qc7 := kX10_lookAt hS hc6 hI
    refine to_virtV (q := 27) mX10_lookAt [.int x2, .int x3] dX10_readAt_24 rfl rfl (Nat.le_of_ble_eq_true rfl) mo_X10_lookAt mv_X10_170 (Or.inl ⟨_, _, _, h_0 hS, rfl, rfl⟩) (Call_mono (by decide) qc7.1) ?_
    have hI := qc7.2
    refine to_aload_n (q := 28) rfl (by decide) dX10_readAt_27 rfl ?_
    refine to_aload_n (q := 29) rfl (by decide) dX10_readAt_28 rfl ?_
    refine to_getR (q := 32) (b := 88) (k0 := 10) (C := RX10) (T := TX10) (N := 17) (j := 9) rfl fx_X10_51 (h_0 hS) rfl (iv_0_9 hI) dX10_readAt_29 rfl ?_
    refine to_aload_n (q := 33) rfl (by decide) dX10_readAt_32 rfl ?_
    have hk9 : kd (rr m8 0 3) = 2 := (ivT hI).2
    refine to_getR (q := 36) (b := rr m8 0 3) (k0 := 10) (C := RX10) (T := TX10) (N := 17) (j := 3) rfl fx_X10_26 (h_0 hS) rfl ((ivT hI).1) dX10_readAt_33 rfl ?_
    refine to_getR (q := 39) (b := (rr m8 0 3) + 3) (k0 := 2) (C := RX2) (T := TX2) (N := 14) (j := 6) rfl fx_X10_202 (sh_kd hS hk9 (by decide)) rfl (iv2w hI (hk9)) dX10_readAt_36 rfl ?_
    refine to_iload_n (q := 40) rfl dX10_readAt_39 rfl ?_
    obtain ⟨hb10, hf⟩ := ck_some hf
    refine to_aald (q := 41) (b := rr m8 0 3 + 7 + 2 * x1.toNatClampNeg) (sh_ln hS (kd2w (hk9)) (by decide)) (by decide) hb10 (ivW hI (hk9) hb10) dX10_readAt_40 rfl ?_
    obtain ⟨r13, m14, hc11, hf⟩ := cl2_some hf
    have qc12 := kX7_firstRead hS hc11 rfl (kdW (hk9) hb10) hI
    refine to_virtI (q := 44) mX7_firstRead [.ref (rr m8 0 3 + 7 + 2 * x1.toNatClampNeg)] dX10_readAt_41 rfl rfl (Nat.le_of_ble_eq_true rfl) mo_X7_firstRead mv_X10_210 (Or.inl ⟨_, _, _, h_88 hS, rfl, rfl⟩) (Call_mono (by decide) qc12.1) ?_
    have hI := qc12.2
    obtain ⟨r17, m18, hc15, hf⟩ := cl2_some hf
    have qc16 := kX10_answer hS hc15 hI
    refine to_virtI (q := 47) mX10_answer [.int r13] dX10_readAt_44 rfl rfl (Nat.le_of_ble_eq_true rfl) mo_X10_answer mv_X10_135 (Or.inl ⟨_, _, _, h_0 hS, rfl, rfl⟩) (Call_mono (by decide) qc16.1) ?_
    have hI := qc16.2
    cases hf
    exact to_iret dX10_readAt_47 rfl rfl rfl rfl hI
  · have hf := ite_neg h5 hf
    refine to_ifF (q := 14) (op := .eq) 21 h5 dX10_readAt_11 rfl rfl ?_
    refine to_aload_n (q := 15) rfl (by decide) dX10_readAt_14 rfl ?_
    refine to_iload (q := 17) rfl dX10_readAt_15 rfl ?_
    obtain ⟨r21, m22, hc19, hf⟩ := cl2_some hf
    have qc20 := kX10_refuse hS hc19 hI
    refine to_virtI (q := 20) mX10_refuse [.int r3] dX10_readAt_17 rfl rfl (Nat.le_of_ble_eq_true rfl) mo_X10_refuse mv_X10_98 (Or.inl ⟨_, _, _, h_0 hS, rfl, rfl⟩) (Call_mono (by decide) qc20.1) ?_
    have hI := qc20.2
    cases hf
    exact to_iret dX10_readAt_20 rfl rfl rfl rfl hI
def fX10_isReadIf (x1 : Int32) (a2 : Nat) (x3 : Int32) (x4 : Int32) (m : Me) : Option (Int32 × Me) := cl1 (fX7_look 88 (rr m 0 3) 81 x1 x3 x4 m) fun m4 => cl2 (fX7_isRead 88 a2 m4) fun r7 m8 => ck (r7 = 0 ∨ r7 = 1) (some (r7, m8))
set_option maxRecDepth 20000 in
theorem kX10_isReadIf {S : Sh} (hS : ShOK S) {res : Int32 × Me} {x1 : Int32} {a2 : Nat} {x3 : Int32} {x4 : Int32} {m : Me} (hf : fX10_isReadIf x1 a2 x3 x4 m = some res) (ha2 : kd a2 = 8) (hI : Inv m) : Call 5 mX10_isReadIf [.ref 0, .int x1, .ref a2, .int x3, .int x4] (S, m) (some (.int res.1)) (S, res.2) ∧ Inv res.2 := by
  refine call_of (P := InvS) (Nat.le_of_ble_eq_true rfl) (by simp [Value.category]) ?_
  show TT InvS (Call 4) mX10_isReadIf (0, [(0, .ref 0), (1, .int x1), (2, .ref a2), (3, .int x3), (4, .int x4)], [], S, m) _ _
  unfold fX10_isReadIf at hf
  refine to_aload_n (q := 1) rfl (by decide) dX10_isReadIf_0 rfl ?_
  refine to_getR (q := 4) (b := 88) (k0 := 10) (C := RX10) (T := TX10) (N := 17) (j := 9) rfl fx_X10_51 (h_0 hS) rfl (iv_0_9 hI) dX10_isReadIf_1 rfl ?_
  refine to_aload_n (q := 5) rfl (by decide) dX10_isReadIf_4 rfl ?_
  have hk1 : kd (rr m 0 3) = 2 := (ivT hI).2
  refine to_getR (q := 8) (b := rr m 0 3) (k0 := 10) (C := RX10) (T := TX10) (N := 17) (j := 3) rfl fx_X10_26 (h_0 hS) rfl ((ivT hI).1) dX10_isReadIf_5 rfl ?_
  refine to_aload_n (q := 9) rfl (by decide) dX10_isReadIf_8 rfl ?_
  refine to_getR (q := 12) (b := 81) (k0 := 10) (C := RX10) (T := TX10) (N := 17) (j := 5) rfl fx_X10_33 (h_0 hS) rfl (iv_0_5 hI) dX10_isReadIf_9 rfl ?_
  refine to_iload_n (q := 13) rfl dX10_isReadIf_12 rfl ?_
  refine to_iload_n (q := 14) rfl dX10_isReadIf_13 rfl ?_
  refine to_iload (q := 16) rfl dX10_isReadIf_14 rfl ?_
  obtain ⟨m4, hc2, hf⟩ := cl1_some hf
  have qc3 := kX7_look hS hc2 rfl (hk1) rfl hI
  refine to_virtV (q := 19) mX7_look [.ref (rr m 0 3), .ref 81, .int x1, .int x3, .int x4] dX10_isReadIf_16 rfl rfl (Nat.le_of_ble_eq_true rfl) mo_X7_look mv_X10_301 (Or.inl ⟨_, _, _, h_88 hS, rfl, rfl⟩) (Call_mono (by decide) qc3.1) ?_
  have hI := qc3.2
  refine to_aload_n (q := 20) rfl (by decide) dX10_isReadIf_19 rfl ?_
  refine to_getR (q := 23) (b := 88) (k0 := 10) (C := RX10) (T := TX10) (N := 17) (j := 9) rfl fx_X10_51 (h_0 hS) rfl (iv_0_9 hI) dX10_isReadIf_20 rfl ?_
  refine to_aload_n (q := 24) rfl (kd_4 (ha2) (by decide)) dX10_isReadIf_23 rfl ?_
  obtain ⟨r7, m8, hc5, hf⟩ := cl2_some hf
  have qc6 := kX7_isRead hS hc5 rfl (ha2) hI
  refine to_virtI (q := 27) mX7_isRead [.ref a2] dX10_isReadIf_24 rfl rfl (Nat.le_of_ble_eq_true rfl) mo_X7_isRead mv_X10_226 (Or.inl ⟨_, _, _, h_88 hS, rfl, rfl⟩) (Call_mono (by decide) qc6.1) ?_
  have hI := qc6.2
  obtain ⟨hz9, hf⟩ := ck_some hf
  cases hf
  exact to_iret dX10_isReadIf_27 rfl (nf_Z hz9).1 rfl rfl hI
def fX10_gatherSpans_77 (k8 : Nat → Int32 → Int32 → Int32 → Int32 → Me → Option (Int32 × Me)) (a1 : Nat) (x2 : Int32) (x3 : Int32) (x5 : Int32) (x6 : Int32) (m : Me) : Option (Int32 × Me) := k8 a1 x2 x3 x6 ((x5 + (1 : Int32))) m
set_option maxRecDepth 20000 in
theorem kX10_gatherSpans_77 {S : Sh} (hS : ShOK S) {res : Int32 × Me} {k8 : Nat → Int32 → Int32 → Int32 → Int32 → Me → Option (Int32 × Me)} (hk8 : ∀ {a1 : Nat} {x2 : Int32} {x3 : Int32} {x4 : Int32} {x5 : Int32} {m : Me}, k8 a1 x2 x3 x4 x5 m = some res → kd a1 = 8 → Inv m → TT InvS (Call 5) mX10_gatherSpans (8, [(0, .ref 0), (1, .ref a1), (2, .int x2), (3, .int x3), (4, .int x4), (5, .int x5)], [], S, m) (some (.int res.1)) (S, res.2)) {a1 : Nat} {x2 : Int32} {x3 : Int32} {x5 : Int32} {x6 : Int32} {m : Me} (hf : fX10_gatherSpans_77 k8 a1 x2 x3 x5 x6 m = some res) (ha1 : kd a1 = 8) (hI : Inv m) : TT InvS (Call 5) mX10_gatherSpans (77, [(0, .ref 0), (1, .ref a1), (2, .int x2), (3, .int x3), (5, .int x5), (6, .int x6)], [], S, m) (some (.int res.1)) (S, res.2) := by
  unfold fX10_gatherSpans_77 at hf
  refine to_iload (q := 79) rfl dX10_gatherSpans_77 rfl ?_
  refine to_istore (q := 81) [(4, .int x6), (0, .ref 0), (1, .ref a1), (2, .int x2), (3, .int x3), (5, .int x5), (6, .int x6)] rfl (by decide) dX10_gatherSpans_79 rfl ?_
  refine to_iinc (q := 84) (v := (x5 + (1 : Int32))) rfl (congrArg (fun z => x5 + z) ic_1) [(5, .int (x5 + (1 : Int32))), (4, .int x6), (0, .ref 0), (1, .ref a1), (2, .int x2), (3, .int x3), (6, .int x6)] rfl (by decide) dX10_gatherSpans_81 rfl ?_
  refine to_goto (q := 8) dX10_gatherSpans_84 rfl ?_
  exact to_ext [(0, .ref 0), (1, .ref a1), (2, .int x2), (3, .int x3), (4, .int x6), (5, .int (x5 + (1 : Int32)))] (ext_cons rfl (ext_cons rfl (ext_cons rfl (ext_cons rfl (ext_cons rfl (ext_cons rfl ext_nil)))))) (hk8 hf (ha1) hI)
def fX10_gatherSpans_60 (k8 : Nat → Int32 → Int32 → Int32 → Int32 → Me → Option (Int32 × Me)) (a1 : Nat) (x2 : Int32) (x3 : Int32) (x5 : Int32) (x6 : Int32) (m : Me) : Option (Int32 × Me) := if x6 = (0 : Int32) then fX10_gatherSpans_77 k8 a1 x2 x3 x5 x6 m else ck (inb (((2 : Int32) * x3) - (1 : Int32)) 336) (fX10_gatherSpans_77 k8 a1 x2 x3 x5 x6 (setI m 131 (((2 : Int32) * x3) - (1 : Int32)).toNatClampNeg x5))
set_option maxRecDepth 20000 in
theorem kX10_gatherSpans_60 {S : Sh} (hS : ShOK S) {res : Int32 × Me} {k8 : Nat → Int32 → Int32 → Int32 → Int32 → Me → Option (Int32 × Me)} (hk8 : ∀ {a1 : Nat} {x2 : Int32} {x3 : Int32} {x4 : Int32} {x5 : Int32} {m : Me}, k8 a1 x2 x3 x4 x5 m = some res → kd a1 = 8 → Inv m → TT InvS (Call 5) mX10_gatherSpans (8, [(0, .ref 0), (1, .ref a1), (2, .int x2), (3, .int x3), (4, .int x4), (5, .int x5)], [], S, m) (some (.int res.1)) (S, res.2)) {a1 : Nat} {x2 : Int32} {x3 : Int32} {x5 : Int32} {x6 : Int32} {m : Me} (hf : fX10_gatherSpans_60 k8 a1 x2 x3 x5 x6 m = some res) (ha1 : kd a1 = 8) (hI : Inv m) : TT InvS (Call 5) mX10_gatherSpans (60, [(0, .ref 0), (1, .ref a1), (2, .int x2), (3, .int x3), (5, .int x5), (6, .int x6)], [], S, m) (some (.int res.1)) (S, res.2) := by
  unfold fX10_gatherSpans_60 at hf
  refine to_iload (q := 62) rfl dX10_gatherSpans_60 rfl ?_
  by_cases h14 : x6 = (0 : Int32)
  · have hf := ite_pos h14 hf
    refine to_ifT (q := 77) (op := .eq) h14 dX10_gatherSpans_62 rfl ?_
    exact to_ext [(0, .ref 0), (1, .ref a1), (2, .int x2), (3, .int x3), (5, .int x5), (6, .int x6)] (ext_cons rfl (ext_cons rfl (ext_cons rfl (ext_cons rfl (ext_cons rfl (ext_cons rfl ext_nil)))))) (kX10_gatherSpans_77 hS hk8 hf (ha1) hI)
  · have hf := ite_neg h14 hf
    refine to_ifF (q := 65) (op := .eq) 77 h14 dX10_gatherSpans_62 rfl rfl ?_
    refine to_aload_n (q := 66) rfl (by decide) dX10_gatherSpans_65 rfl ?_
    refine to_getR (q := 69) (b := 131) (k0 := 10) (C := RX10) (T := TX10) (N := 17) (j := 15) rfl fx_X10_86 (h_0 hS) rfl (iv_0_15 hI) dX10_gatherSpans_66 rfl ?_
    refine to_iconst (q := 70) ic_2 dX10_gatherSpans_69 rfl ?_
    refine to_iload_n (q := 71) rfl dX10_gatherSpans_70 rfl ?_
    refine to_imul (q := 72) dX10_gatherSpans_71 rfl ?_
    refine to_iconst (q := 73) ic_1 dX10_gatherSpans_72 rfl ?_
    refine to_isub (q := 74) dX10_gatherSpans_73 rfl ?_
    refine to_iload (q := 76) rfl dX10_gatherSpans_74 rfl ?_
    obtain ⟨hb15, hf⟩ := ck_some hf
    refine to_iasj (q := 77) (h_131 hS) hb15 (rfl) dX10_gatherSpans_76 rfl ?_
    exact to_ext [(0, .ref 0), (1, .ref a1), (2, .int x2), (3, .int x3), (5, .int x5), (6, .int x6)] (ext_cons rfl (ext_cons rfl (ext_cons rfl (ext_cons rfl (ext_cons rfl (ext_cons rfl ext_nil)))))) (kX10_gatherSpans_77 hS hk8 hf (ha1) hI)
def fX10_gatherSpans_8 (n : Nat) (a1 : Nat) (x2 : Int32) (x3 : Int32) (x4 : Int32) (x5 : Int32) (m : Me) : Option (Int32 × Me) := match n with
  | 0 => none
  | n + 1 => cl2 (fX2_openings (rr m 0 3) m) fun r4 m5 => if r4 ≤ x5 then some (x3, m5) else cl2 (fX10_isReadIf (m5.1 81 1) a1 x2 x5 m5) fun r9 m10 => if r9 = (0 : Int32) then fX10_gatherSpans_60 (fX10_gatherSpans_8 n) a1 x2 x3 x5 r9 m10 else if x4 = (0 : Int32) then ck (inb ((2 : Int32) * x3) 336) (fX10_gatherSpans_60 (fX10_gatherSpans_8 n) a1 x2 ((x3 + (1 : Int32))) x5 r9 (setI m10 131 ((2 : Int32) * x3).toNatClampNeg x5)) else fX10_gatherSpans_60 (fX10_gatherSpans_8 n) a1 x2 x3 x5 r9 m10
set_option maxRecDepth 20000 in
theorem kX10_gatherSpans_8 {S : Sh} (hS : ShOK S) {res : Int32 × Me} (n : Nat) : ∀ {a1 : Nat} {x2 : Int32} {x3 : Int32} {x4 : Int32} {x5 : Int32} {m : Me}, fX10_gatherSpans_8 n a1 x2 x3 x4 x5 m = some res → kd a1 = 8 → Inv m → TT InvS (Call 5) mX10_gatherSpans (8, [(0, .ref 0), (1, .ref a1), (2, .int x2), (3, .int x3), (4, .int x4), (5, .int x5)], [], S, m) (some (.int res.1)) (S, res.2) := by
  induction n with
  | zero => intro a1 x2 x3 x4 x5 m hf; cases hf
  | succ n ih =>
    intro a1 x2 x3 x4 x5 m hf ha1 hI
    unfold fX10_gatherSpans_8 at hf
    refine to_iload (q := 10) rfl dX10_gatherSpans_8 rfl ?_
    refine to_aload_n (q := 11) rfl (by decide) dX10_gatherSpans_10 rfl ?_
    have hk1 : kd (rr m 0 3) = 2 := (ivT hI).2
    refine to_getR (q := 14) (b := rr m 0 3) (k0 := 10) (C := RX10) (T := TX10) (N := 17) (j := 3) rfl fx_X10_26 (h_0 hS) rfl ((ivT hI).1) dX10_gatherSpans_11 rfl ?_
    obtain ⟨r4, m5, hc2, hf⟩ := cl2_some hf
    have qc3 := kX2_openings hS hc2 (hk1) hI
    refine to_virtI (q := 17) mX2_openings [] dX10_gatherSpans_14 rfl rfl (Nat.le_of_ble_eq_true rfl) mo_X2_openings mv_X10_131 (Or.inl ⟨_, _, _, sh_kd hS hk1 (by decide), rfl, rfl⟩) (Call_mono (by decide) qc3.1) ?_
    have hI := qc3.2
    by_cases h6 : r4 ≤ x5
    · have hf := ite_pos h6 hf
      refine to_icT (q := 87) (op := .ge) h6 dX10_gatherSpans_17 rfl ?_
      refine to_iload_n (q := 88) rfl dX10_gatherSpans_87 rfl ?_
      cases hf
      exact to_iret dX10_gatherSpans_88 rfl rfl rfl rfl hI
    · have hf := ite_neg h6 hf
      refine to_icF (q := 20) (op := .ge) 87 h6 dX10_gatherSpans_17 rfl rfl ?_
      refine to_aload_n (q := 21) rfl (by decide) dX10_gatherSpans_20 rfl ?_
      refine to_aload_n (q := 22) rfl (by decide) dX10_gatherSpans_21 rfl ?_
      refine to_getR (q := 25) (b := 81) (k0 := 10) (C := RX10) (T := TX10) (N := 17) (j := 5) rfl fx_X10_33 (h_0 hS) rfl (iv_0_5 hI) dX10_gatherSpans_22 rfl ?_
      refine to_getI (q := 28) (k0 := 5) (C := RX5) (T := TX5) (N := 3) (j := 1) rfl fx_X10_233 (h_81 hS) rfl dX10_gatherSpans_25 rfl ?_
      refine to_aload_n (q := 29) rfl (kd_4 (ha1) (by decide)) dX10_gatherSpans_28 rfl ?_
      refine to_iload_n (q := 30) rfl dX10_gatherSpans_29 rfl ?_
      refine to_iload (q := 32) rfl dX10_gatherSpans_30 rfl ?_
      obtain ⟨r9, m10, hc7, hf⟩ := cl2_some hf
      have qc8 := kX10_isReadIf hS hc7 (ha1) hI
      refine to_virtI (q := 35) mX10_isReadIf [.int (m5.1 81 1), .ref a1, .int x2, .int x5] dX10_gatherSpans_32 rfl rfl (Nat.le_of_ble_eq_true rfl) mo_X10_isReadIf mv_X10_377 (Or.inl ⟨_, _, _, h_0 hS, rfl, rfl⟩) (Call_mono (by decide) qc8.1) ?_
      have hI := qc8.2
      refine to_istore (q := 37) [(6, .int r9), (0, .ref 0), (1, .ref a1), (2, .int x2), (3, .int x3), (4, .int x4), (5, .int x5)] rfl (by decide) dX10_gatherSpans_35 rfl ?_
      refine to_iload (q := 39) rfl dX10_gatherSpans_37 rfl ?_
      by_cases h11 : r9 = (0 : Int32)
      · have hf := ite_pos h11 hf
        refine to_ifT (q := 60) (op := .eq) h11 dX10_gatherSpans_39 rfl ?_
        exact to_ext [(0, .ref 0), (1, .ref a1), (2, .int x2), (3, .int x3), (5, .int x5), (6, .int r9)] (ext_cons rfl (ext_cons rfl (ext_cons rfl (ext_cons rfl (ext_cons rfl (ext_cons rfl ext_nil)))))) (kX10_gatherSpans_60 hS ih hf (ha1) hI)
      · have hf := ite_neg h11 hf
        refine to_ifF (q := 42) (op := .eq) 60 h11 dX10_gatherSpans_39 rfl rfl ?_
        refine to_iload (q := 44) rfl dX10_gatherSpans_42 rfl ?_
        by_cases h12 : x4 = (0 : Int32)
        · have hf := ite_pos h12 hf
          refine to_ifF (q := 47) (op := .ne) 60 (fun z => z h12) dX10_gatherSpans_44 rfl rfl ?_
          refine to_aload_n (q := 48) rfl (by decide) dX10_gatherSpans_47 rfl ?_
          refine to_getR (q := 51) (b := 131) (k0 := 10) (C := RX10) (T := TX10) (N := 17) (j := 15) rfl fx_X10_86 (h_0 hS) rfl (iv_0_15 hI) dX10_gatherSpans_48 rfl ?_
          refine to_iconst (q := 52) ic_2 dX10_gatherSpans_51 rfl ?_
          refine to_iload_n (q := 53) rfl dX10_gatherSpans_52 rfl ?_
          refine to_imul (q := 54) dX10_gatherSpans_53 rfl ?_
          refine to_iload (q := 56) rfl dX10_gatherSpans_54 rfl ?_
          obtain ⟨hb13, hf⟩ := ck_some hf
          refine to_iasj (q := 57) (h_131 hS) hb13 (rfl) dX10_gatherSpans_56 rfl ?_
          refine to_iinc (q := 60) (v := (x3 + (1 : Int32))) rfl (congrArg (fun z => x3 + z) ic_1) [(3, .int (x3 + (1 : Int32))), (6, .int r9), (0, .ref 0), (1, .ref a1), (2, .int x2), (4, .int x4), (5, .int x5)] rfl (by decide) dX10_gatherSpans_57 rfl ?_
          exact to_ext [(0, .ref 0), (1, .ref a1), (2, .int x2), (3, .int (x3 + (1 : Int32))), (5, .int x5), (6, .int r9)] (ext_cons rfl (ext_cons rfl (ext_cons rfl (ext_cons rfl (ext_cons rfl (ext_cons rfl ext_nil)))))) (kX10_gatherSpans_60 hS ih hf (ha1) hI)
        · have hf := ite_neg h12 hf
          refine to_ifT (q := 60) (op := .ne) h12 dX10_gatherSpans_44 rfl ?_
          exact to_ext [(0, .ref 0), (1, .ref a1), (2, .int x2), (3, .int x3), (5, .int x5), (6, .int r9)] (ext_cons rfl (ext_cons rfl (ext_cons rfl (ext_cons rfl (ext_cons rfl (ext_cons rfl ext_nil)))))) (kX10_gatherSpans_60 hS ih hf (ha1) hI)
def fX10_gatherSpans (a1 : Nat) (x2 : Int32) (m : Me) : Option (Int32 × Me) := fX10_gatherSpans_8 FU a1 x2 ((0 : Int32)) ((0 : Int32)) ((0 : Int32)) m
set_option maxRecDepth 20000 in
theorem kX10_gatherSpans {S : Sh} (hS : ShOK S) {res : Int32 × Me} {a1 : Nat} {x2 : Int32} {m : Me} (hf : fX10_gatherSpans a1 x2 m = some res) (ha1 : kd a1 = 8) (hI : Inv m) : Call 6 mX10_gatherSpans [.ref 0, .ref a1, .int x2] (S, m) (some (.int res.1)) (S, res.2) ∧ Inv res.2 := by
  refine call_of (P := InvS) (Nat.le_of_ble_eq_true rfl) (by simp [Value.category]) ?_
  show TT InvS (Call 5) mX10_gatherSpans (0, [(0, .ref 0), (1, .ref a1), (2, .int x2)], [], S, m) _ _
  unfold fX10_gatherSpans at hf
  refine to_iconst (q := 1) ic_0 dX10_gatherSpans_0 rfl ?_
  refine to_istore_n (q := 2) [(3, .int (0 : Int32)), (0, .ref 0), (1, .ref a1), (2, .int x2)] rfl (by decide) dX10_gatherSpans_1 rfl ?_
  refine to_iconst (q := 3) ic_0 dX10_gatherSpans_2 rfl ?_
  refine to_istore (q := 5) [(4, .int (0 : Int32)), (3, .int (0 : Int32)), (0, .ref 0), (1, .ref a1), (2, .int x2)] rfl (by decide) dX10_gatherSpans_3 rfl ?_
  refine to_iconst (q := 6) ic_0 dX10_gatherSpans_5 rfl ?_
  refine to_istore (q := 8) [(5, .int (0 : Int32)), (4, .int (0 : Int32)), (3, .int (0 : Int32)), (0, .ref 0), (1, .ref a1), (2, .int x2)] rfl (by decide) dX10_gatherSpans_6 rfl ?_
  exact to_ext [(0, .ref 0), (1, .ref a1), (2, .int x2), (3, .int (0 : Int32)), (4, .int (0 : Int32)), (5, .int (0 : Int32))] (ext_cons rfl (ext_cons rfl (ext_cons rfl (ext_cons rfl (ext_cons rfl (ext_cons rfl ext_nil)))))) (kX10_gatherSpans_8 hS FU hf (ha1) hI)
def fX10_spans_16 (m : Me) : Option (Int32 × Me) := cl2 (fX10_refuse (1 : Int32) m) fun r23 m24 => some (r23, m24)
set_option maxRecDepth 20000 in
theorem kX10_spans_16 {S : Sh} (hS : ShOK S) {res : Int32 × Me} {m : Me} (hf : fX10_spans_16 m = some res) (hI : Inv m) : TT InvS (Call 6) mX10_spans (16, [(0, .ref 0)], [], S, m) (some (.int res.1)) (S, res.2) := by
  unfold fX10_spans_16 at hf
  refine to_aload_n (q := 17) rfl (by decide) dX10_spans_16 rfl ?_
  refine to_iconst (q := 18) ic_1 dX10_spans_17 rfl ?_
  obtain ⟨r23, m24, hc21, hf⟩ := cl2_some hf
  have qc22 := kX10_refuse hS hc21 hI
  refine to_virtI (q := 21) mX10_refuse [.int (1 : Int32)] dX10_spans_18 rfl rfl (Nat.le_of_ble_eq_true rfl) mo_X10_refuse mv_X10_98 (Or.inl ⟨_, _, _, h_0 hS, rfl, rfl⟩) (Call_mono (by decide) qc22.1) ?_
  have hI := qc22.2
  cases hf
  exact to_iret dX10_spans_21 rfl rfl rfl rfl hI
def fX10_spans (x1 : Int32) (x2 : Int32) (m : Me) : Option (Int32 × Me) := cl2 (fX10_noWord x1 m) fun r3 m4 => if r3 = (0 : Int32) then cl2 (fX10_noSide x2 m4) fun r8 m9 => if r8 = (0 : Int32) then ck (inb x1 6) (cl2 (fX10_gatherSpans (rr m9 0 3 + 7 + 2 * x1.toNatClampNeg) x2 m9) fun r15 m16 => cl2 (fX10_answer r15 m16) fun r19 m20 => some (r19, m20)) else fX10_spans_16 m9 else fX10_spans_16 m4
set_option maxRecDepth 20000 in
theorem kX10_spans {S : Sh} (hS : ShOK S) {res : Int32 × Me} {x1 : Int32} {x2 : Int32} {m : Me} (hf : fX10_spans x1 x2 m = some res) (hI : Inv m) : Call 7 mX10_spans [.ref 0, .int x1, .int x2] (S, m) (some (.int res.1)) (S, res.2) ∧ Inv res.2 := by
  refine call_of (P := InvS) (Nat.le_of_ble_eq_true rfl) (by simp [Value.category]) ?_
  show TT InvS (Call 6) mX10_spans (0, [(0, .ref 0), (1, .int x1), (2, .int x2)], [], S, m) _ _
  unfold fX10_spans at hf
  refine to_aload_n (q := 1) rfl (by decide) dX10_spans_0 rfl ?_
  refine to_iload_n (q := 2) rfl dX10_spans_1 rfl ?_
  obtain ⟨r3, m4, hc1, hf⟩ := cl2_some hf
  have qc2 := kX10_noWord hS hc1 hI
  refine to_virtI (q := 5) mX10_noWord [.int x1] dX10_spans_2 rfl rfl (Nat.le_of_ble_eq_true rfl) mo_X10_noWord mv_X10_213 (Or.inl ⟨_, _, _, h_0 hS, rfl, rfl⟩) (Call_mono (by decide) qc2.1) ?_
  have hI := qc2.2
  by_cases h5 : r3 = (0 : Int32)
  · have hf := ite_pos h5 hf
    refine to_ifF (q := 8) (op := .ne) 16 (fun z => z h5) dX10_spans_5 rfl rfl ?_
    refine to_aload_n (q := 9) rfl (by decide) dX10_spans_8 rfl ?_
    refine to_iload_n (q := 10) rfl dX10_spans_9 rfl ?_
    obtain ⟨r8, m9, hc6, hf⟩ := cl2_some hf
    have qc7 := kX10_noSide hS hc6 hI
    refine to_virtI (q := 13) mX10_noSide [.int x2] dX10_spans_10 rfl rfl (Nat.le_of_ble_eq_true rfl) mo_X10_noSide mv_X10_216 (Or.inl ⟨_, _, _, h_0 hS, rfl, rfl⟩) (Call_mono (by decide) qc7.1) ?_
    have hI := qc7.2
    by_cases h10 : r8 = (0 : Int32)
    · have hf := ite_pos h10 hf
      refine to_ifT (q := 22) (op := .eq) h10 dX10_spans_13 rfl ?_
      refine to_aload_n (q := 23) rfl (by decide) dX10_spans_22 rfl ?_
      refine to_aload_n (q := 24) rfl (by decide) dX10_spans_23 rfl ?_
      refine to_aload_n (q := 25) rfl (by decide) dX10_spans_24 rfl ?_
      have hk11 : kd (rr m9 0 3) = 2 := (ivT hI).2
      refine to_getR (q := 28) (b := rr m9 0 3) (k0 := 10) (C := RX10) (T := TX10) (N := 17) (j := 3) rfl fx_X10_26 (h_0 hS) rfl ((ivT hI).1) dX10_spans_25 rfl ?_
      refine to_getR (q := 31) (b := (rr m9 0 3) + 3) (k0 := 2) (C := RX2) (T := TX2) (N := 14) (j := 6) rfl fx_X10_202 (sh_kd hS hk11 (by decide)) rfl (iv2w hI (hk11)) dX10_spans_28 rfl ?_
      refine to_iload_n (q := 32) rfl dX10_spans_31 rfl ?_
      obtain ⟨hb12, hf⟩ := ck_some hf
      refine to_aald (q := 33) (b := rr m9 0 3 + 7 + 2 * x1.toNatClampNeg) (sh_ln hS (kd2w (hk11)) (by decide)) (by decide) hb12 (ivW hI (hk11) hb12) dX10_spans_32 rfl ?_
      refine to_iload_n (q := 34) rfl dX10_spans_33 rfl ?_
      obtain ⟨r15, m16, hc13, hf⟩ := cl2_some hf
      have qc14 := kX10_gatherSpans hS hc13 (kdW (hk11) hb12) hI
      refine to_virtI (q := 37) mX10_gatherSpans [.ref (rr m9 0 3 + 7 + 2 * x1.toNatClampNeg), .int x2] dX10_spans_34 rfl rfl (Nat.le_of_ble_eq_true rfl) mo_X10_gatherSpans mv_X10_219 (Or.inl ⟨_, _, _, h_0 hS, rfl, rfl⟩) (Call_mono (by decide) qc14.1) ?_
      have hI := qc14.2
      obtain ⟨r19, m20, hc17, hf⟩ := cl2_some hf
      have qc18 := kX10_answer hS hc17 hI
      refine to_virtI (q := 40) mX10_answer [.int r15] dX10_spans_37 rfl rfl (Nat.le_of_ble_eq_true rfl) mo_X10_answer mv_X10_135 (Or.inl ⟨_, _, _, h_0 hS, rfl, rfl⟩) (Call_mono (by decide) qc18.1) ?_
      have hI := qc18.2
      cases hf
      exact to_iret dX10_spans_40 rfl rfl rfl rfl hI
    · have hf := ite_neg h10 hf
      refine to_ifF (q := 16) (op := .eq) 22 h10 dX10_spans_13 rfl rfl ?_
      exact to_ext [(0, .ref 0)] (ext_cons rfl ext_nil) (kX10_spans_16 hS hf hI)
  · have hf := ite_neg h5 hf
    refine to_ifT (q := 16) (op := .ne) h5 dX10_spans_5 rfl ?_
    exact to_ext [(0, .ref 0)] (ext_cons rfl ext_nil) (kX10_spans_16 hS hf hI)
def fX10_span_72 (t0 : Int32) (t1 : Int32) (m : Me) : Option (Int32 × Me) := ck (inb (t1 + t0) 336) (cl2 (fX10_answer ((m.1 131 (t1 + t0).toNatClampNeg)) m) fun r31 m32 => some (r31, m32))
set_option maxRecDepth 20000 in
theorem kX10_span_72 {S : Sh} (hS : ShOK S) {res : Int32 × Me} {t0 : Int32} {t1 : Int32} {m : Me} (hf : fX10_span_72 t0 t1 m = some res) (hI : Inv m) : TT InvS (Call 6) mX10_span (72, [], [.int t0, .int t1, .ref 131, .ref 0], S, m) (some (.int res.1)) (S, res.2) := by
  unfold fX10_span_72 at hf
  refine to_iadd (q := 73) dX10_span_72 rfl ?_
  obtain ⟨hb28, hf⟩ := ck_some hf
  refine to_iaj (q := 74) (h_131 hS) hb28 (rfl) dX10_span_73 rfl ?_
  obtain ⟨r31, m32, hc29, hf⟩ := cl2_some hf
  have qc30 := kX10_answer hS hc29 hI
  refine to_virtI (q := 77) mX10_answer [.int (m.1 131 (t1 + t0).toNatClampNeg)] dX10_span_74 rfl rfl (Nat.le_of_ble_eq_true rfl) mo_X10_answer mv_X10_135 (Or.inl ⟨_, _, _, h_0 hS, rfl, rfl⟩) (Call_mono (by decide) qc30.1) ?_
  have hI := qc30.2
  cases hf
  exact to_iret dX10_span_77 rfl rfl rfl rfl hI
def fX10_span_48 (m : Me) : Option (Int32 × Me) := cl2 (fX10_refuse (1 : Int32) m) fun r26 m27 => some (r26, m27)
set_option maxRecDepth 20000 in
theorem kX10_span_48 {S : Sh} (hS : ShOK S) {res : Int32 × Me} {m : Me} (hf : fX10_span_48 m = some res) (hI : Inv m) : TT InvS (Call 6) mX10_span (48, [(0, .ref 0)], [], S, m) (some (.int res.1)) (S, res.2) := by
  unfold fX10_span_48 at hf
  refine to_aload_n (q := 49) rfl (by decide) dX10_span_48 rfl ?_
  refine to_iconst (q := 50) ic_1 dX10_span_49 rfl ?_
  obtain ⟨r26, m27, hc24, hf⟩ := cl2_some hf
  have qc25 := kX10_refuse hS hc24 hI
  refine to_virtI (q := 53) mX10_refuse [.int (1 : Int32)] dX10_span_50 rfl rfl (Nat.le_of_ble_eq_true rfl) mo_X10_refuse mv_X10_98 (Or.inl ⟨_, _, _, h_0 hS, rfl, rfl⟩) (Call_mono (by decide) qc25.1) ?_
  have hI := qc25.2
  cases hf
  exact to_iret dX10_span_53 rfl rfl rfl rfl hI
def fX10_span_16 (m : Me) : Option (Int32 × Me) := cl2 (fX10_refuse (1 : Int32) m) fun r22 m23 => some (r22, m23)
set_option maxRecDepth 20000 in
theorem kX10_span_16 {S : Sh} (hS : ShOK S) {res : Int32 × Me} {m : Me} (hf : fX10_span_16 m = some res) (hI : Inv m) : TT InvS (Call 6) mX10_span (16, [(0, .ref 0)], [], S, m) (some (.int res.1)) (S, res.2) := by
  unfold fX10_span_16 at hf
  refine to_aload_n (q := 17) rfl (by decide) dX10_span_16 rfl ?_
  refine to_iconst (q := 18) ic_1 dX10_span_17 rfl ?_
  obtain ⟨r22, m23, hc20, hf⟩ := cl2_some hf
  have qc21 := kX10_refuse hS hc20 hI
  refine to_virtI (q := 21) mX10_refuse [.int (1 : Int32)] dX10_span_18 rfl rfl (Nat.le_of_ble_eq_true rfl) mo_X10_refuse mv_X10_98 (Or.inl ⟨_, _, _, h_0 hS, rfl, rfl⟩) (Call_mono (by decide) qc21.1) ?_
  have hI := qc21.2
  cases hf
  exact to_iret dX10_span_21 rfl rfl rfl rfl hI
def fX10_span (x1 : Int32) (x2 : Int32) (x3 : Int32) (x4 : Int32) (m : Me) : Option (Int32 × Me) := cl2 (fX10_noWord x1 m) fun r3 m4 => if r3 = (0 : Int32) then cl2 (fX10_noSide x2 m4) fun r8 m9 => if r8 = (0 : Int32) then ck (inb x1 6) (cl2 (fX10_gatherSpans (rr m9 0 3 + 7 + 2 * x1.toNatClampNeg) x2 m9) fun r15 m16 => if x3 < (0 : Int32) then fX10_span_48 m16 else if x3 < r15 then if x4 = (0 : Int32) then fX10_span_72 ((0 : Int32)) (((2 : Int32) * x3)) m16 else fX10_span_72 ((1 : Int32)) (((2 : Int32) * x3)) m16 else fX10_span_48 m16) else fX10_span_16 m9 else fX10_span_16 m4
set_option maxRecDepth 20000 in
theorem kX10_span {S : Sh} (hS : ShOK S) {res : Int32 × Me} {x1 : Int32} {x2 : Int32} {x3 : Int32} {x4 : Int32} {m : Me} (hf : fX10_span x1 x2 x3 x4 m = some res) (hI : Inv m) : Call 7 mX10_span [.ref 0, .int x1, .int x2, .int x3, .int x4] (S, m) (some (.int res.1)) (S, res.2) ∧ Inv res.2 := by
  refine call_of (P := InvS) (Nat.le_of_ble_eq_true rfl) (by simp [Value.category]) ?_
  show TT InvS (Call 6) mX10_span (0, [(0, .ref 0), (1, .int x1), (2, .int x2), (3, .int x3), (4, .int x4)], [], S, m) _ _
  unfold fX10_span at hf
  refine to_aload_n (q := 1) rfl (by decide) dX10_span_0 rfl ?_
  refine to_iload_n (q := 2) rfl dX10_span_1 rfl ?_
  obtain ⟨r3, m4, hc1, hf⟩ := cl2_some hf
  have qc2 := kX10_noWord hS hc1 hI
  refine to_virtI (q := 5) mX10_noWord [.int x1] dX10_span_2 rfl rfl (Nat.le_of_ble_eq_true rfl) mo_X10_noWord mv_X10_213 (Or.inl ⟨_, _, _, h_0 hS, rfl, rfl⟩) (Call_mono (by decide) qc2.1) ?_
  have hI := qc2.2
  by_cases h5 : r3 = (0 : Int32)
  · have hf := ite_pos h5 hf
    refine to_ifF (q := 8) (op := .ne) 16 (fun z => z h5) dX10_span_5 rfl rfl ?_
    refine to_aload_n (q := 9) rfl (by decide) dX10_span_8 rfl ?_
    refine to_iload_n (q := 10) rfl dX10_span_9 rfl ?_
    obtain ⟨r8, m9, hc6, hf⟩ := cl2_some hf
    have qc7 := kX10_noSide hS hc6 hI
    refine to_virtI (q := 13) mX10_noSide [.int x2] dX10_span_10 rfl rfl (Nat.le_of_ble_eq_true rfl) mo_X10_noSide mv_X10_216 (Or.inl ⟨_, _, _, h_0 hS, rfl, rfl⟩) (Call_mono (by decide) qc7.1) ?_
    have hI := qc7.2
    by_cases h10 : r8 = (0 : Int32)
    · have hf := ite_pos h10 hf
      refine to_ifT (q := 22) (op := .eq) h10 dX10_span_13 rfl ?_
      refine to_aload_n (q := 23) rfl (by decide) dX10_span_22 rfl ?_
      refine to_aload_n (q := 24) rfl (by decide) dX10_span_23 rfl ?_
      have hk11 : kd (rr m9 0 3) = 2 := (ivT hI).2
      refine to_getR (q := 27) (b := rr m9 0 3) (k0 := 10) (C := RX10) (T := TX10) (N := 17) (j := 3) rfl fx_X10_26 (h_0 hS) rfl ((ivT hI).1) dX10_span_24 rfl ?_
      refine to_getR (q := 30) (b := (rr m9 0 3) + 3) (k0 := 2) (C := RX2) (T := TX2) (N := 14) (j := 6) rfl fx_X10_202 (sh_kd hS hk11 (by decide)) rfl (iv2w hI (hk11)) dX10_span_27 rfl ?_
      refine to_iload_n (q := 31) rfl dX10_span_30 rfl ?_
      obtain ⟨hb12, hf⟩ := ck_some hf
      refine to_aald (q := 32) (b := rr m9 0 3 + 7 + 2 * x1.toNatClampNeg) (sh_ln hS (kd2w (hk11)) (by decide)) (by decide) hb12 (ivW hI (hk11) hb12) dX10_span_31 rfl ?_
      refine to_iload_n (q := 33) rfl dX10_span_32 rfl ?_
      obtain ⟨r15, m16, hc13, hf⟩ := cl2_some hf
      have qc14 := kX10_gatherSpans hS hc13 (kdW (hk11) hb12) hI
      refine to_virtI (q := 36) mX10_gatherSpans [.ref (rr m9 0 3 + 7 + 2 * x1.toNatClampNeg), .int x2] dX10_span_33 rfl rfl (Nat.le_of_ble_eq_true rfl) mo_X10_gatherSpans mv_X10_219 (Or.inl ⟨_, _, _, h_0 hS, rfl, rfl⟩) (Call_mono (by decide) qc14.1) ?_
      have hI := qc14.2
      refine to_istore (q := 38) [(5, .int r15), (0, .ref 0), (1, .int x1), (2, .int x2), (3, .int x3), (4, .int x4)] rfl (by decide) dX10_span_36 rfl ?_
      refine to_iload_n (q := 39) rfl dX10_span_38 rfl ?_
      by_cases h17 : x3 < (0 : Int32)
      · have hf := ite_pos h17 hf
        refine to_ifT (q := 48) (op := .lt) h17 dX10_span_39 rfl ?_
        exact to_ext [(0, .ref 0)] (ext_cons rfl ext_nil) (kX10_span_48 hS hf hI)
      · have hf := ite_neg h17 hf
        refine to_ifF (q := 42) (op := .lt) 48 h17 dX10_span_39 rfl rfl ?_
        refine to_iload_n (q := 43) rfl dX10_span_42 rfl ?_
        refine to_iload (q := 45) rfl dX10_span_43 rfl ?_
        by_cases h18 : x3 < r15
        · have hf := ite_pos h18 hf
          refine to_icT (q := 54) (op := .lt) h18 dX10_span_45 rfl ?_
          refine to_aload_n (q := 55) rfl (by decide) dX10_span_54 rfl ?_
          refine to_aload_n (q := 56) rfl (by decide) dX10_span_55 rfl ?_
          refine to_getR (q := 59) (b := 131) (k0 := 10) (C := RX10) (T := TX10) (N := 17) (j := 15) rfl fx_X10_86 (h_0 hS) rfl (iv_0_15 hI) dX10_span_56 rfl ?_
          refine to_iconst (q := 60) ic_2 dX10_span_59 rfl ?_
          refine to_iload_n (q := 61) rfl dX10_span_60 rfl ?_
          refine to_imul (q := 62) dX10_span_61 rfl ?_
          refine to_iload (q := 64) rfl dX10_span_62 rfl ?_
          by_cases h19 : x4 = (0 : Int32)
          · have hf := ite_pos h19 hf
            refine to_ifT (q := 71) (op := .eq) h19 dX10_span_64 rfl ?_
            refine to_iconst (q := 72) ic_0 dX10_span_71 rfl ?_
            exact to_ext [] ext_nil (kX10_span_72 hS hf hI)
          · have hf := ite_neg h19 hf
            refine to_ifF (q := 67) (op := .eq) 71 h19 dX10_span_64 rfl rfl ?_
            refine to_iconst (q := 68) ic_1 dX10_span_67 rfl ?_
            refine to_goto (q := 72) dX10_span_68 rfl ?_
            exact to_ext [] ext_nil (kX10_span_72 hS hf hI)
        · have hf := ite_neg h18 hf
          refine to_icF (q := 48) (op := .lt) 54 h18 dX10_span_45 rfl rfl ?_
          exact to_ext [(0, .ref 0)] (ext_cons rfl ext_nil) (kX10_span_48 hS hf hI)
    · have hf := ite_neg h10 hf
      refine to_ifF (q := 16) (op := .eq) 22 h10 dX10_span_13 rfl rfl ?_
      exact to_ext [(0, .ref 0)] (ext_cons rfl ext_nil) (kX10_span_16 hS hf hI)
  · have hf := ite_neg h5 hf
    refine to_ifT (q := 16) (op := .ne) h5 dX10_span_5 rfl ?_
    exact to_ext [(0, .ref 0)] (ext_cons rfl ext_nil) (kX10_span_16 hS hf hI)
def fX10_says_70 (k29 : Int32 → Int32 → Me → Option (Int32 × Me)) (x4 : Int32) (x5 : Int32) (m : Me) : Option (Int32 × Me) := k29 x4 ((x5 + (1 : Int32))) m
set_option maxRecDepth 20000 in
theorem kX10_says_70 {S : Sh} (hS : ShOK S) {res : Int32 × Me} {k29 : Int32 → Int32 → Me → Option (Int32 × Me)} (hk29 : ∀ {x4 : Int32} {x5 : Int32} {m : Me}, k29 x4 x5 m = some res → Inv m → TT InvS (Call 5) mX10_says (29, [(0, .ref 0), (4, .int x4), (5, .int x5)], [], S, m) (some (.int res.1)) (S, res.2)) {x4 : Int32} {x5 : Int32} {m : Me} (hf : fX10_says_70 k29 x4 x5 m = some res) (hI : Inv m) : TT InvS (Call 5) mX10_says (70, [(0, .ref 0), (4, .int x4), (5, .int x5)], [], S, m) (some (.int res.1)) (S, res.2) := by
  unfold fX10_says_70 at hf
  refine to_iinc (q := 73) (v := (x5 + (1 : Int32))) rfl (congrArg (fun z => x5 + z) ic_1) [(5, .int (x5 + (1 : Int32))), (0, .ref 0), (4, .int x4)] rfl (by decide) dX10_says_70 rfl ?_
  refine to_goto (q := 29) dX10_says_73 rfl ?_
  exact to_ext [(0, .ref 0), (4, .int x4), (5, .int (x5 + (1 : Int32)))] (ext_cons rfl (ext_cons rfl (ext_cons rfl ext_nil))) (hk29 hf hI)
def fX10_says_29 (n : Nat) (x4 : Int32) (x5 : Int32) (m : Me) : Option (Int32 × Me) := match n with
  | 0 => none
  | n + 1 => if (m.1 (rr m 0 3) 7) ≤ x5 then cl2 (fX10_answer x4 m) fun r17 m18 => some (r17, m18) else ck (inb x5 6) (cl2 (fX7_isRead 88 (rr m 0 3 + 7 + 2 * x5.toNatClampNeg) m) fun r23 m24 => if r23 = (0 : Int32) then fX10_says_70 (fX10_says_29 n) x4 x5 m24 else fX10_says_70 (fX10_says_29 n) ((x4 ||| ((1 : Int32) <<< (x5 &&& 31)))) x5 m24)
set_option maxRecDepth 20000 in
theorem kX10_says_29 {S : Sh} (hS : ShOK S) {res : Int32 × Me} (n : Nat) : ∀ {x4 : Int32} {x5 : Int32} {m : Me}, fX10_says_29 n x4 x5 m = some res → Inv m → TT InvS (Call 5) mX10_says (29, [(0, .ref 0), (4, .int x4), (5, .int x5)], [], S, m) (some (.int res.1)) (S, res.2) := by
  induction n with
  | zero => intro x4 x5 m hf; cases hf
  | succ n ih =>
    intro x4 x5 m hf  hI
    unfold fX10_says_29 at hf
    refine to_iload (q := 31) rfl dX10_says_29 rfl ?_
    refine to_aload_n (q := 32) rfl (by decide) dX10_says_31 rfl ?_
    have hk13 : kd (rr m 0 3) = 2 := (ivT hI).2
    refine to_getR (q := 35) (b := rr m 0 3) (k0 := 10) (C := RX10) (T := TX10) (N := 17) (j := 3) rfl fx_X10_26 (h_0 hS) rfl ((ivT hI).1) dX10_says_32 rfl ?_
    refine to_getI (q := 38) (k0 := 2) (C := RX2) (T := TX2) (N := 14) (j := 7) rfl fx_X10_223 (sh_kd hS hk13 (by decide)) rfl dX10_says_35 rfl ?_
    by_cases h14 : (m.1 (rr m 0 3) 7) ≤ x5
    · have hf := ite_pos h14 hf
      refine to_icT (q := 76) (op := .ge) h14 dX10_says_38 rfl ?_
      refine to_aload_n (q := 77) rfl (by decide) dX10_says_76 rfl ?_
      refine to_iload (q := 79) rfl dX10_says_77 rfl ?_
      obtain ⟨r17, m18, hc15, hf⟩ := cl2_some hf
      have qc16 := kX10_answer hS hc15 hI
      refine to_virtI (q := 82) mX10_answer [.int x4] dX10_says_79 rfl rfl (Nat.le_of_ble_eq_true rfl) mo_X10_answer mv_X10_135 (Or.inl ⟨_, _, _, h_0 hS, rfl, rfl⟩) (Call_mono (by decide) qc16.1) ?_
      have hI := qc16.2
      cases hf
      exact to_iret dX10_says_82 rfl rfl rfl rfl hI
    · have hf := ite_neg h14 hf
      refine to_icF (q := 41) (op := .ge) 76 h14 dX10_says_38 rfl rfl ?_
      refine to_aload_n (q := 42) rfl (by decide) dX10_says_41 rfl ?_
      refine to_getR (q := 45) (b := 88) (k0 := 10) (C := RX10) (T := TX10) (N := 17) (j := 9) rfl fx_X10_51 (h_0 hS) rfl (iv_0_9 hI) dX10_says_42 rfl ?_
      refine to_aload_n (q := 46) rfl (by decide) dX10_says_45 rfl ?_
      have hk19 : kd (rr m 0 3) = 2 := (ivT hI).2
      refine to_getR (q := 49) (b := rr m 0 3) (k0 := 10) (C := RX10) (T := TX10) (N := 17) (j := 3) rfl fx_X10_26 (h_0 hS) rfl ((ivT hI).1) dX10_says_46 rfl ?_
      refine to_getR (q := 52) (b := (rr m 0 3) + 3) (k0 := 2) (C := RX2) (T := TX2) (N := 14) (j := 6) rfl fx_X10_202 (sh_kd hS hk19 (by decide)) rfl (iv2w hI (hk19)) dX10_says_49 rfl ?_
      refine to_iload (q := 54) rfl dX10_says_52 rfl ?_
      obtain ⟨hb20, hf⟩ := ck_some hf
      refine to_aald (q := 55) (b := rr m 0 3 + 7 + 2 * x5.toNatClampNeg) (sh_ln hS (kd2w (hk19)) (by decide)) (by decide) hb20 (ivW hI (hk19) hb20) dX10_says_54 rfl ?_
      obtain ⟨r23, m24, hc21, hf⟩ := cl2_some hf
      have qc22 := kX7_isRead hS hc21 rfl (kdW (hk19) hb20) hI
      refine to_virtI (q := 58) mX7_isRead [.ref (rr m 0 3 + 7 + 2 * x5.toNatClampNeg)] dX10_says_55 rfl rfl (Nat.le_of_ble_eq_true rfl) mo_X7_isRead mv_X10_226 (Or.inl ⟨_, _, _, h_88 hS, rfl, rfl⟩) (Call_mono (by decide) qc22.1) ?_
      have hI := qc22.2
      by_cases h25 : r23 = (0 : Int32)
      · have hf := ite_pos h25 hf
        refine to_ifT (q := 70) (op := .eq) h25 dX10_says_58 rfl ?_
        exact to_ext [(0, .ref 0), (4, .int x4), (5, .int x5)] (ext_cons rfl (ext_cons rfl (ext_cons rfl ext_nil))) (kX10_says_70 hS ih hf hI)
      · have hf := ite_neg h25 hf
        refine to_ifF (q := 61) (op := .eq) 70 h25 dX10_says_58 rfl rfl ?_
        refine to_iload (q := 63) rfl dX10_says_61 rfl ?_
        refine to_iconst (q := 64) ic_1 dX10_says_63 rfl ?_
        refine to_iload (q := 66) rfl dX10_says_64 rfl ?_
        refine to_ishl (q := 67) dX10_says_66 rfl ?_
        refine to_ior (q := 68) dX10_says_67 rfl ?_
        refine to_istore (q := 70) [(4, .int (x4 ||| ((1 : Int32) <<< (x5 &&& 31)))), (0, .ref 0), (5, .int x5)] rfl (by decide) dX10_says_68 rfl ?_
        exact to_ext [(0, .ref 0), (4, .int (x4 ||| ((1 : Int32) <<< (x5 &&& 31)))), (5, .int x5)] (ext_cons rfl (ext_cons rfl (ext_cons rfl ext_nil))) (kX10_says_70 hS ih hf hI)
def fX10_says (x1 : Int32) (x2 : Int32) (m : Me) : Option (Int32 × Me) := cl2 (fX10_wrongView x1 x2 m) fun r3 m4 => if r3 = (0 : Int32) then cl1 (fX10_lookAt x1 x2 m4) fun m8 => fX10_says_29 FU ((0 : Int32)) ((0 : Int32)) m8 else cl2 (fX10_refuse r3 m4) fun r11 m12 => some (r11, m12)
set_option maxRecDepth 20000 in
theorem kX10_says {S : Sh} (hS : ShOK S) {res : Int32 × Me} {x1 : Int32} {x2 : Int32} {m : Me} (hf : fX10_says x1 x2 m = some res) (hI : Inv m) : Call 6 mX10_says [.ref 0, .int x1, .int x2] (S, m) (some (.int res.1)) (S, res.2) ∧ Inv res.2 := by
  refine call_of (P := InvS) (Nat.le_of_ble_eq_true rfl) (by simp [Value.category]) ?_
  show TT InvS (Call 5) mX10_says (0, [(0, .ref 0), (1, .int x1), (2, .int x2)], [], S, m) _ _
  unfold fX10_says at hf
  refine to_aload_n (q := 1) rfl (by decide) dX10_says_0 rfl ?_
  refine to_iload_n (q := 2) rfl dX10_says_1 rfl ?_
  refine to_iload_n (q := 3) rfl dX10_says_2 rfl ?_
  obtain ⟨r3, m4, hc1, hf⟩ := cl2_some hf
  have qc2 := kX10_wrongView hS hc1 hI
  refine to_virtI (q := 6) mX10_wrongView [.int x1, .int x2] dX10_says_3 rfl rfl (Nat.le_of_ble_eq_true rfl) mo_X10_wrongView mv_X10_167 (Or.inl ⟨_, _, _, h_0 hS, rfl, rfl⟩) (Call_mono (by decide) qc2.1) ?_
  have hI := qc2.2
  refine to_istore_n (q := 7) [(3, .int r3), (0, .ref 0), (1, .int x1), (2, .int x2)] rfl (by decide) dX10_says_6 rfl ?_
  refine to_iload_n (q := 8) rfl dX10_says_7 rfl ?_
  by_cases h5 : r3 = (0 : Int32)
  · have hf := ite_pos h5 hf
    refine to_ifT (q := 17) (op := .eq) h5 dX10_says_8 rfl ?_
    refine to_aload_n (q := 18) rfl (by decide) dX10_says_17 rfl ?_
    refine to_iload_n (q := 19) rfl dX10_says_18 rfl ?_
    refine to_iload_n (q := 20) rfl dX10_says_19 rfl ?_
    obtain ⟨m8, hc6, hf⟩ := cl1_some hf
    have qc7 := kX10_lookAt hS hc6 hI
    refine to_virtV (q := 23) mX10_lookAt [.int x1, .int x2] dX10_says_20 rfl rfl (Nat.le_of_ble_eq_true rfl) mo_X10_lookAt mv_X10_170 (Or.inl ⟨_, _, _, h_0 hS, rfl, rfl⟩) (Call_mono (by decide) qc7.1) ?_
    have hI := qc7.2
    refine to_iconst (q := 24) ic_0 dX10_says_23 rfl ?_
    refine to_istore (q := 26) [(4, .int (0 : Int32)), (3, .int r3), (0, .ref 0), (1, .int x1), (2, .int x2)] rfl (by decide) dX10_says_24 rfl ?_
    refine to_iconst (q := 27) ic_0 dX10_says_26 rfl ?_
    refine to_istore (q := 29) [(5, .int (0 : Int32)), (4, .int (0 : Int32)), (3, .int r3), (0, .ref 0), (1, .int x1), (2, .int x2)] rfl (by decide) dX10_says_27 rfl ?_
    exact to_ext [(0, .ref 0), (4, .int (0 : Int32)), (5, .int (0 : Int32))] (ext_cons rfl (ext_cons rfl (ext_cons rfl ext_nil))) (kX10_says_29 hS FU hf hI)
  · have hf := ite_neg h5 hf
    refine to_ifF (q := 11) (op := .eq) 17 h5 dX10_says_8 rfl rfl ?_
    refine to_aload_n (q := 12) rfl (by decide) dX10_says_11 rfl ?_
    refine to_iload_n (q := 13) rfl dX10_says_12 rfl ?_
    obtain ⟨r11, m12, hc9, hf⟩ := cl2_some hf
    have qc10 := kX10_refuse hS hc9 hI
    refine to_virtI (q := 16) mX10_refuse [.int r3] dX10_says_13 rfl rfl (Nat.le_of_ble_eq_true rfl) mo_X10_refuse mv_X10_98 (Or.inl ⟨_, _, _, h_0 hS, rfl, rfl⟩) (Call_mono (by decide) qc10.1) ?_
    have hI := qc10.2
    cases hf
    exact to_iret dX10_says_16 rfl rfl rfl rfl hI
def fX10_noWish_27 (t0 : Int32) (m : Me) : Option (Int32 × Me) := ck (t0 = 0 ∨ t0 = 1) (some (t0, m))
set_option maxRecDepth 20000 in
theorem kX10_noWish_27 {S : Sh} (hS : ShOK S) {res : Int32 × Me} {t0 : Int32} {m : Me} (hf : fX10_noWish_27 t0 m = some res) (hI : Inv m) : TT InvS (Call 0) mX10_noWish (27, [], [.int t0], S, m) (some (.int res.1)) (S, res.2) := by
  unfold fX10_noWish_27 at hf
  obtain ⟨hz5, hf⟩ := ck_some hf
  cases hf
  exact to_iret dX10_noWish_27 rfl (nf_Z hz5).1 rfl rfl hI
def fX10_noWish_22 (m : Me) : Option (Int32 × Me) := fX10_noWish_27 ((1 : Int32)) m
set_option maxRecDepth 20000 in
theorem kX10_noWish_22 {S : Sh} (hS : ShOK S) {res : Int32 × Me} {m : Me} (hf : fX10_noWish_22 m = some res) (hI : Inv m) : TT InvS (Call 0) mX10_noWish (22, [], [], S, m) (some (.int res.1)) (S, res.2) := by
  unfold fX10_noWish_22 at hf
  refine to_iconst (q := 23) ic_1 dX10_noWish_22 rfl ?_
  refine to_goto (q := 27) dX10_noWish_23 rfl ?_
  exact to_ext [] ext_nil (kX10_noWish_27 hS hf hI)
def fX10_noWish (x1 : Int32) (m : Me) : Option (Int32 × Me) := if (m.1 0 4) = (0 : Int32) then fX10_noWish_22 m else if x1 < (0 : Int32) then fX10_noWish_22 m else if x1 < (m.1 (rr m 0 3) 9) then fX10_noWish_27 ((0 : Int32)) m else fX10_noWish_22 m
set_option maxRecDepth 20000 in
theorem kX10_noWish {S : Sh} (hS : ShOK S) {res : Int32 × Me} {x1 : Int32} {m : Me} (hf : fX10_noWish x1 m = some res) (hI : Inv m) : Call 1 mX10_noWish [.ref 0, .int x1] (S, m) (some (.int res.1)) (S, res.2) ∧ Inv res.2 := by
  refine call_of (P := InvS) (Nat.le_of_ble_eq_true rfl) (by simp [Value.category]) ?_
  show TT InvS (Call 0) mX10_noWish (0, [(0, .ref 0), (1, .int x1)], [], S, m) _ _
  unfold fX10_noWish at hf
  refine to_aload_n (q := 1) rfl (by decide) dX10_noWish_0 rfl ?_
  refine to_getI (q := 4) (k0 := 10) (C := RX10) (T := TX10) (N := 17) (j := 4) rfl fx_X10_110 (h_0 hS) rfl dX10_noWish_1 rfl ?_
  by_cases h1 : (m.1 0 4) = (0 : Int32)
  · have hf := ite_pos h1 hf
    refine to_ifT (q := 22) (op := .eq) h1 dX10_noWish_4 rfl ?_
    exact to_ext [] ext_nil (kX10_noWish_22 hS hf hI)
  · have hf := ite_neg h1 hf
    refine to_ifF (q := 7) (op := .eq) 22 h1 dX10_noWish_4 rfl rfl ?_
    refine to_iload_n (q := 8) rfl dX10_noWish_7 rfl ?_
    by_cases h2 : x1 < (0 : Int32)
    · have hf := ite_pos h2 hf
      refine to_ifT (q := 22) (op := .lt) h2 dX10_noWish_8 rfl ?_
      exact to_ext [] ext_nil (kX10_noWish_22 hS hf hI)
    · have hf := ite_neg h2 hf
      refine to_ifF (q := 11) (op := .lt) 22 h2 dX10_noWish_8 rfl rfl ?_
      refine to_iload_n (q := 12) rfl dX10_noWish_11 rfl ?_
      refine to_aload_n (q := 13) rfl (by decide) dX10_noWish_12 rfl ?_
      have hk3 : kd (rr m 0 3) = 2 := (ivT hI).2
      refine to_getR (q := 16) (b := rr m 0 3) (k0 := 10) (C := RX10) (T := TX10) (N := 17) (j := 3) rfl fx_X10_26 (h_0 hS) rfl ((ivT hI).1) dX10_noWish_13 rfl ?_
      refine to_getI (q := 19) (k0 := 2) (C := RX2) (T := TX2) (N := 14) (j := 9) rfl fx_X10_371 (sh_kd hS hk3 (by decide)) rfl dX10_noWish_16 rfl ?_
      by_cases h4 : x1 < (m.1 (rr m 0 3) 9)
      · have hf := ite_pos h4 hf
        refine to_icT (q := 26) (op := .lt) h4 dX10_noWish_19 rfl ?_
        refine to_iconst (q := 27) ic_0 dX10_noWish_26 rfl ?_
        exact to_ext [] ext_nil (kX10_noWish_27 hS hf hI)
      · have hf := ite_neg h4 hf
        refine to_icF (q := 22) (op := .lt) 26 h4 dX10_noWish_19 rfl rfl ?_
        exact to_ext [] ext_nil (kX10_noWish_22 hS hf hI)
def fX10_keptBits_52 (k4 : Int32 → Int32 → Int32 → Me → Option (Int32 × Me)) (x1 : Int32) (x2 : Int32) (x3 : Int32) (m : Me) : Option (Int32 × Me) := k4 x1 x2 ((x3 + (1 : Int32))) m
set_option maxRecDepth 20000 in
theorem kX10_keptBits_52 {S : Sh} (hS : ShOK S) {res : Int32 × Me} {k4 : Int32 → Int32 → Int32 → Me → Option (Int32 × Me)} (hk4 : ∀ {x1 : Int32} {x2 : Int32} {x3 : Int32} {m : Me}, k4 x1 x2 x3 m = some res → Inv m → TT InvS (Call 5) mX10_keptBits (4, [(0, .ref 0), (1, .int x1), (2, .int x2), (3, .int x3)], [], S, m) (some (.int res.1)) (S, res.2)) {x1 : Int32} {x2 : Int32} {x3 : Int32} {m : Me} (hf : fX10_keptBits_52 k4 x1 x2 x3 m = some res) (hI : Inv m) : TT InvS (Call 5) mX10_keptBits (52, [(0, .ref 0), (1, .int x1), (2, .int x2), (3, .int x3)], [], S, m) (some (.int res.1)) (S, res.2) := by
  unfold fX10_keptBits_52 at hf
  refine to_iinc (q := 55) (v := (x3 + (1 : Int32))) rfl (congrArg (fun z => x3 + z) ic_1) [(3, .int (x3 + (1 : Int32))), (0, .ref 0), (1, .int x1), (2, .int x2)] rfl (by decide) dX10_keptBits_52 rfl ?_
  refine to_goto (q := 4) dX10_keptBits_55 rfl ?_
  exact to_ext [(0, .ref 0), (1, .int x1), (2, .int x2), (3, .int (x3 + (1 : Int32)))] (ext_cons rfl (ext_cons rfl (ext_cons rfl (ext_cons rfl ext_nil)))) (hk4 hf hI)
def fX10_keptBits_4 (n : Nat) (x1 : Int32) (x2 : Int32) (x3 : Int32) (m : Me) : Option (Int32 × Me) := match n with
  | 0 => none
  | n + 1 => if (m.1 (rr m 0 3) 9) ≤ x3 then some (x2, m) else ck (inb x3 4) (cl2 (fX10_isReadIf x1 (rr m 0 3 + 19 + 2 * x3.toNatClampNeg) ((m.1 (rr m 0 3 + 19 + 2 * x3.toNatClampNeg) 2)) ((m.1 (rr m 0 3 + 19 + 2 * x3.toNatClampNeg) 3)) m) fun r7 m8 => if r7 = (0 : Int32) then fX10_keptBits_52 (fX10_keptBits_4 n) x1 x2 x3 m8 else fX10_keptBits_52 (fX10_keptBits_4 n) x1 ((x2 ||| ((1 : Int32) <<< (x3 &&& 31)))) x3 m8)
set_option maxRecDepth 20000 in
theorem kX10_keptBits_4 {S : Sh} (hS : ShOK S) {res : Int32 × Me} (n : Nat) : ∀ {x1 : Int32} {x2 : Int32} {x3 : Int32} {m : Me}, fX10_keptBits_4 n x1 x2 x3 m = some res → Inv m → TT InvS (Call 5) mX10_keptBits (4, [(0, .ref 0), (1, .int x1), (2, .int x2), (3, .int x3)], [], S, m) (some (.int res.1)) (S, res.2) := by
  induction n with
  | zero => intro x1 x2 x3 m hf; cases hf
  | succ n ih =>
    intro x1 x2 x3 m hf  hI
    unfold fX10_keptBits_4 at hf
    refine to_iload_n (q := 5) rfl dX10_keptBits_4 rfl ?_
    refine to_aload_n (q := 6) rfl (by decide) dX10_keptBits_5 rfl ?_
    have hk1 : kd (rr m 0 3) = 2 := (ivT hI).2
    refine to_getR (q := 9) (b := rr m 0 3) (k0 := 10) (C := RX10) (T := TX10) (N := 17) (j := 3) rfl fx_X10_26 (h_0 hS) rfl ((ivT hI).1) dX10_keptBits_6 rfl ?_
    refine to_getI (q := 12) (k0 := 2) (C := RX2) (T := TX2) (N := 14) (j := 9) rfl fx_X10_371 (sh_kd hS hk1 (by decide)) rfl dX10_keptBits_9 rfl ?_
    by_cases h2 : (m.1 (rr m 0 3) 9) ≤ x3
    · have hf := ite_pos h2 hf
      refine to_icT (q := 58) (op := .ge) h2 dX10_keptBits_12 rfl ?_
      refine to_iload_n (q := 59) rfl dX10_keptBits_58 rfl ?_
      cases hf
      exact to_iret dX10_keptBits_59 rfl rfl rfl rfl hI
    · have hf := ite_neg h2 hf
      refine to_icF (q := 15) (op := .ge) 58 h2 dX10_keptBits_12 rfl rfl ?_
      refine to_aload_n (q := 16) rfl (by decide) dX10_keptBits_15 rfl ?_
      have hk3 : kd (rr m 0 3) = 2 := (ivT hI).2
      refine to_getR (q := 19) (b := rr m 0 3) (k0 := 10) (C := RX10) (T := TX10) (N := 17) (j := 3) rfl fx_X10_26 (h_0 hS) rfl ((ivT hI).1) dX10_keptBits_16 rfl ?_
      refine to_getR (q := 22) (b := (rr m 0 3) + 4) (k0 := 2) (C := RX2) (T := TX2) (N := 14) (j := 8) rfl fx_X10_242 (sh_kd hS hk3 (by decide)) rfl (iv2i hI (hk3)) dX10_keptBits_19 rfl ?_
      refine to_iload_n (q := 23) rfl dX10_keptBits_22 rfl ?_
      obtain ⟨hb4, hf⟩ := ck_some hf
      refine to_aald (q := 24) (b := rr m 0 3 + 19 + 2 * x3.toNatClampNeg) (sh_ln hS (kd2i (hk3)) (by decide)) (by decide) hb4 (ivI hI (hk3) hb4) dX10_keptBits_23 rfl ?_
      refine to_astore (q := 26) [(4, .ref (rr m 0 3 + 19 + 2 * x3.toNatClampNeg)), (0, .ref 0), (1, .int x1), (2, .int x2), (3, .int x3)] rfl (kd_4 (kdI (hk3) hb4) (by decide)) (by decide) dX10_keptBits_24 rfl ?_
      refine to_aload_n (q := 27) rfl (by decide) dX10_keptBits_26 rfl ?_
      refine to_iload_n (q := 28) rfl dX10_keptBits_27 rfl ?_
      refine to_aload (q := 30) rfl (kd_4 (kdI (hk3) hb4) (by decide)) dX10_keptBits_28 rfl ?_
      refine to_aload (q := 32) rfl (kd_4 (kdI (hk3) hb4) (by decide)) dX10_keptBits_30 rfl ?_
      refine to_getI (q := 35) (k0 := 8) (C := RX8) (T := TX8) (N := 5) (j := 2) rfl fx_X10_293 (sh_kd hS (kdI (hk3) hb4) (by decide)) rfl dX10_keptBits_32 rfl ?_
      refine to_aload (q := 37) rfl (kd_4 (kdI (hk3) hb4) (by decide)) dX10_keptBits_35 rfl ?_
      refine to_getI (q := 40) (k0 := 8) (C := RX8) (T := TX8) (N := 5) (j := 3) rfl fx_X10_298 (sh_kd hS (kdI (hk3) hb4) (by decide)) rfl dX10_keptBits_37 rfl ?_
      obtain ⟨r7, m8, hc5, hf⟩ := cl2_some hf
      have qc6 := kX10_isReadIf hS hc5 (kdI (hk3) hb4) hI
      refine to_virtI (q := 43) mX10_isReadIf [.int x1, .ref (rr m 0 3 + 19 + 2 * x3.toNatClampNeg), .int (m.1 (rr m 0 3 + 19 + 2 * x3.toNatClampNeg) 2), .int (m.1 (rr m 0 3 + 19 + 2 * x3.toNatClampNeg) 3)] dX10_keptBits_40 rfl rfl (Nat.le_of_ble_eq_true rfl) mo_X10_isReadIf mv_X10_377 (Or.inl ⟨_, _, _, h_0 hS, rfl, rfl⟩) (Call_mono (by decide) qc6.1) ?_
      have hI := qc6.2
      by_cases h9 : r7 = (0 : Int32)
      · have hf := ite_pos h9 hf
        refine to_ifT (q := 52) (op := .eq) h9 dX10_keptBits_43 rfl ?_
        exact to_ext [(0, .ref 0), (1, .int x1), (2, .int x2), (3, .int x3)] (ext_cons rfl (ext_cons rfl (ext_cons rfl (ext_cons rfl ext_nil)))) (kX10_keptBits_52 hS ih hf hI)
      · have hf := ite_neg h9 hf
        refine to_ifF (q := 46) (op := .eq) 52 h9 dX10_keptBits_43 rfl rfl ?_
        refine to_iload_n (q := 47) rfl dX10_keptBits_46 rfl ?_
        refine to_iconst (q := 48) ic_1 dX10_keptBits_47 rfl ?_
        refine to_iload_n (q := 49) rfl dX10_keptBits_48 rfl ?_
        refine to_ishl (q := 50) dX10_keptBits_49 rfl ?_
        refine to_ior (q := 51) dX10_keptBits_50 rfl ?_
        refine to_istore_n (q := 52) [(2, .int (x2 ||| ((1 : Int32) <<< (x3 &&& 31)))), (4, .ref (rr m 0 3 + 19 + 2 * x3.toNatClampNeg)), (0, .ref 0), (1, .int x1), (3, .int x3)] rfl (by decide) dX10_keptBits_51 rfl ?_
        exact to_ext [(0, .ref 0), (1, .int x1), (2, .int (x2 ||| ((1 : Int32) <<< (x3 &&& 31)))), (3, .int x3)] (ext_cons rfl (ext_cons rfl (ext_cons rfl (ext_cons rfl ext_nil)))) (kX10_keptBits_52 hS ih hf hI)
def fX10_keptBits (x1 : Int32) (m : Me) : Option (Int32 × Me) := fX10_keptBits_4 FU x1 ((0 : Int32)) ((0 : Int32)) m
set_option maxRecDepth 20000 in
theorem kX10_keptBits {S : Sh} (hS : ShOK S) {res : Int32 × Me} {x1 : Int32} {m : Me} (hf : fX10_keptBits x1 m = some res) (hI : Inv m) : Call 6 mX10_keptBits [.ref 0, .int x1] (S, m) (some (.int res.1)) (S, res.2) ∧ Inv res.2 := by
  refine call_of (P := InvS) (Nat.le_of_ble_eq_true rfl) (by simp [Value.category]) ?_
  show TT InvS (Call 5) mX10_keptBits (0, [(0, .ref 0), (1, .int x1)], [], S, m) _ _
  unfold fX10_keptBits at hf
  refine to_iconst (q := 1) ic_0 dX10_keptBits_0 rfl ?_
  refine to_istore_n (q := 2) [(2, .int (0 : Int32)), (0, .ref 0), (1, .int x1)] rfl (by decide) dX10_keptBits_1 rfl ?_
  refine to_iconst (q := 3) ic_0 dX10_keptBits_2 rfl ?_
  refine to_istore_n (q := 4) [(3, .int (0 : Int32)), (2, .int (0 : Int32)), (0, .ref 0), (1, .int x1)] rfl (by decide) dX10_keptBits_3 rfl ?_
  exact to_ext [(0, .ref 0), (1, .int x1), (2, .int (0 : Int32)), (3, .int (0 : Int32))] (ext_cons rfl (ext_cons rfl (ext_cons rfl (ext_cons rfl ext_nil)))) (kX10_keptBits_4 hS FU hf hI)
def fX10_kept (x1 : Int32) (m : Me) : Option (Int32 × Me) := cl2 (fX10_noWish x1 m) fun r3 m4 => if r3 = (0 : Int32) then cl2 (fX10_keptBits (m4.1 81 1) m4) fun r8 m9 => cl2 (fX10_answer (((r8 >>> (x1 &&& 31)) &&& (1 : Int32))) m9) fun r12 m13 => some (r12, m13) else cl2 (fX10_refuse (1 : Int32) m4) fun r16 m17 => some (r16, m17)
set_option maxRecDepth 20000 in
theorem kX10_kept {S : Sh} (hS : ShOK S) {res : Int32 × Me} {x1 : Int32} {m : Me} (hf : fX10_kept x1 m = some res) (hI : Inv m) : Call 7 mX10_kept [.ref 0, .int x1] (S, m) (some (.int res.1)) (S, res.2) ∧ Inv res.2 := by
  refine call_of (P := InvS) (Nat.le_of_ble_eq_true rfl) (by simp [Value.category]) ?_
  show TT InvS (Call 6) mX10_kept (0, [(0, .ref 0), (1, .int x1)], [], S, m) _ _
  unfold fX10_kept at hf
  refine to_aload_n (q := 1) rfl (by decide) dX10_kept_0 rfl ?_
  refine to_iload_n (q := 2) rfl dX10_kept_1 rfl ?_
  obtain ⟨r3, m4, hc1, hf⟩ := cl2_some hf
  have qc2 := kX10_noWish hS hc1 hI
  refine to_virtI (q := 5) mX10_noWish [.int x1] dX10_kept_2 rfl rfl (Nat.le_of_ble_eq_true rfl) mo_X10_noWish mv_X10_230 (Or.inl ⟨_, _, _, h_0 hS, rfl, rfl⟩) (Call_mono (by decide) qc2.1) ?_
  have hI := qc2.2
  by_cases h5 : r3 = (0 : Int32)
  · have hf := ite_pos h5 hf
    refine to_ifT (q := 14) (op := .eq) h5 dX10_kept_5 rfl ?_
    refine to_aload_n (q := 15) rfl (by decide) dX10_kept_14 rfl ?_
    refine to_aload_n (q := 16) rfl (by decide) dX10_kept_15 rfl ?_
    refine to_aload_n (q := 17) rfl (by decide) dX10_kept_16 rfl ?_
    refine to_getR (q := 20) (b := 81) (k0 := 10) (C := RX10) (T := TX10) (N := 17) (j := 5) rfl fx_X10_33 (h_0 hS) rfl (iv_0_5 hI) dX10_kept_17 rfl ?_
    refine to_getI (q := 23) (k0 := 5) (C := RX5) (T := TX5) (N := 3) (j := 1) rfl fx_X10_233 (h_81 hS) rfl dX10_kept_20 rfl ?_
    obtain ⟨r8, m9, hc6, hf⟩ := cl2_some hf
    have qc7 := kX10_keptBits hS hc6 hI
    refine to_virtI (q := 26) mX10_keptBits [.int (m4.1 81 1)] dX10_kept_23 rfl rfl (Nat.le_of_ble_eq_true rfl) mo_X10_keptBits mv_X10_236 (Or.inl ⟨_, _, _, h_0 hS, rfl, rfl⟩) (Call_mono (by decide) qc7.1) ?_
    have hI := qc7.2
    refine to_iload_n (q := 27) rfl dX10_kept_26 rfl ?_
    refine to_ishr (q := 28) dX10_kept_27 rfl ?_
    refine to_iconst (q := 29) ic_1 dX10_kept_28 rfl ?_
    refine to_iand (q := 30) dX10_kept_29 rfl ?_
    obtain ⟨r12, m13, hc10, hf⟩ := cl2_some hf
    have qc11 := kX10_answer hS hc10 hI
    refine to_virtI (q := 33) mX10_answer [.int ((r8 >>> (x1 &&& 31)) &&& (1 : Int32))] dX10_kept_30 rfl rfl (Nat.le_of_ble_eq_true rfl) mo_X10_answer mv_X10_135 (Or.inl ⟨_, _, _, h_0 hS, rfl, rfl⟩) (Call_mono (by decide) qc11.1) ?_
    have hI := qc11.2
    cases hf
    exact to_iret dX10_kept_33 rfl rfl rfl rfl hI
  · have hf := ite_neg h5 hf
    refine to_ifF (q := 8) (op := .eq) 14 h5 dX10_kept_5 rfl rfl ?_
    refine to_aload_n (q := 9) rfl (by decide) dX10_kept_8 rfl ?_
    refine to_iconst (q := 10) ic_1 dX10_kept_9 rfl ?_
    obtain ⟨r16, m17, hc14, hf⟩ := cl2_some hf
    have qc15 := kX10_refuse hS hc14 hI
    refine to_virtI (q := 13) mX10_refuse [.int (1 : Int32)] dX10_kept_10 rfl rfl (Nat.le_of_ble_eq_true rfl) mo_X10_refuse mv_X10_98 (Or.inl ⟨_, _, _, h_0 hS, rfl, rfl⟩) (Call_mono (by decide) qc15.1) ?_
    have hI := qc15.2
    cases hf
    exact to_iret dX10_kept_13 rfl rfl rfl rfl hI
def fX10_allKept_30 (t0 : Int32) (m : Me) : Option (Int32 × Me) := some (t0, m)
set_option maxRecDepth 20000 in
theorem kX10_allKept_30 {S : Sh} (hS : ShOK S) {res : Int32 × Me} {t0 : Int32} {m : Me} (hf : fX10_allKept_30 t0 m = some res) (hI : Inv m) : TT InvS (Call 6) mX10_allKept (30, [], [.int t0], S, m) (some (.int res.1)) (S, res.2) := by
  unfold fX10_allKept_30 at hf
  cases hf
  exact to_iret dX10_allKept_30 rfl rfl rfl rfl hI
def fX10_allKept (m : Me) : Option (Int32 × Me) := if (m.1 0 4) = (0 : Int32) then cl2 (fX10_refuse (1 : Int32) m) fun r4 m5 => fX10_allKept_30 r4 m5 else cl2 (fX10_keptBits (m.1 81 1) m) fun r8 m9 => cl2 (fX10_answer r8 m9) fun r12 m13 => fX10_allKept_30 r12 m13
set_option maxRecDepth 20000 in
theorem kX10_allKept {S : Sh} (hS : ShOK S) {res : Int32 × Me} {m : Me} (hf : fX10_allKept m = some res) (hI : Inv m) : Call 7 mX10_allKept [.ref 0] (S, m) (some (.int res.1)) (S, res.2) ∧ Inv res.2 := by
  refine call_of (P := InvS) (Nat.le_of_ble_eq_true rfl) (by simp [Value.category]) ?_
  show TT InvS (Call 6) mX10_allKept (0, [(0, .ref 0)], [], S, m) _ _
  unfold fX10_allKept at hf
  refine to_aload_n (q := 1) rfl (by decide) dX10_allKept_0 rfl ?_
  refine to_getI (q := 4) (k0 := 10) (C := RX10) (T := TX10) (N := 17) (j := 4) rfl fx_X10_110 (h_0 hS) rfl dX10_allKept_1 rfl ?_
  by_cases h1 : (m.1 0 4) = (0 : Int32)
  · have hf := ite_pos h1 hf
    refine to_ifT (q := 25) (op := .eq) h1 dX10_allKept_4 rfl ?_
    refine to_aload_n (q := 26) rfl (by decide) dX10_allKept_25 rfl ?_
    refine to_iconst (q := 27) ic_1 dX10_allKept_26 rfl ?_
    obtain ⟨r4, m5, hc2, hf⟩ := cl2_some hf
    have qc3 := kX10_refuse hS hc2 hI
    refine to_virtI (q := 30) mX10_refuse [.int (1 : Int32)] dX10_allKept_27 rfl rfl (Nat.le_of_ble_eq_true rfl) mo_X10_refuse mv_X10_98 (Or.inl ⟨_, _, _, h_0 hS, rfl, rfl⟩) (Call_mono (by decide) qc3.1) ?_
    have hI := qc3.2
    exact to_ext [] ext_nil (kX10_allKept_30 hS hf hI)
  · have hf := ite_neg h1 hf
    refine to_ifF (q := 7) (op := .eq) 25 h1 dX10_allKept_4 rfl rfl ?_
    refine to_aload_n (q := 8) rfl (by decide) dX10_allKept_7 rfl ?_
    refine to_aload_n (q := 9) rfl (by decide) dX10_allKept_8 rfl ?_
    refine to_aload_n (q := 10) rfl (by decide) dX10_allKept_9 rfl ?_
    refine to_getR (q := 13) (b := 81) (k0 := 10) (C := RX10) (T := TX10) (N := 17) (j := 5) rfl fx_X10_33 (h_0 hS) rfl (iv_0_5 hI) dX10_allKept_10 rfl ?_
    refine to_getI (q := 16) (k0 := 5) (C := RX5) (T := TX5) (N := 3) (j := 1) rfl fx_X10_233 (h_81 hS) rfl dX10_allKept_13 rfl ?_
    obtain ⟨r8, m9, hc6, hf⟩ := cl2_some hf
    have qc7 := kX10_keptBits hS hc6 hI
    refine to_virtI (q := 19) mX10_keptBits [.int (m.1 81 1)] dX10_allKept_16 rfl rfl (Nat.le_of_ble_eq_true rfl) mo_X10_keptBits mv_X10_236 (Or.inl ⟨_, _, _, h_0 hS, rfl, rfl⟩) (Call_mono (by decide) qc7.1) ?_
    have hI := qc7.2
    obtain ⟨r12, m13, hc10, hf⟩ := cl2_some hf
    have qc11 := kX10_answer hS hc10 hI
    refine to_virtI (q := 22) mX10_answer [.int r8] dX10_allKept_19 rfl rfl (Nat.le_of_ble_eq_true rfl) mo_X10_answer mv_X10_135 (Or.inl ⟨_, _, _, h_0 hS, rfl, rfl⟩) (Call_mono (by decide) qc11.1) ?_
    have hI := qc11.2
    refine to_goto (q := 30) dX10_allKept_22 rfl ?_
    exact to_ext [] ext_nil (kX10_allKept_30 hS hf hI)
def fX10_gatherMistakes_106 (k4 : Int32 → Int32 → Me → Option (Int32 × Me)) (k17 : Int32 → Int32 → Int32 → Me → Option (Int32 × Me)) (k31 : Int32 → Int32 → Int32 → Int32 → Me → Option (Int32 × Me)) (x1 : Int32) (x2 : Int32) (x3 : Int32) (x4 : Int32) (m : Me) : Option (Int32 × Me) := k31 x1 x2 x3 ((x4 + (1 : Int32))) m
set_option maxRecDepth 20000 in
theorem kX10_gatherMistakes_106 {S : Sh} (hS : ShOK S) {res : Int32 × Me} {k4 : Int32 → Int32 → Me → Option (Int32 × Me)} (hk4 : ∀ {x1 : Int32} {x2 : Int32} {m : Me}, k4 x1 x2 m = some res → Inv m → TT InvS (Call 5) mX10_gatherMistakes (4, [(0, .ref 0), (1, .int x1), (2, .int x2)], [], S, m) (some (.int res.1)) (S, res.2)) {k17 : Int32 → Int32 → Int32 → Me → Option (Int32 × Me)} (hk17 : ∀ {x1 : Int32} {x2 : Int32} {x3 : Int32} {m : Me}, k17 x1 x2 x3 m = some res → Inv m → TT InvS (Call 5) mX10_gatherMistakes (17, [(0, .ref 0), (1, .int x1), (2, .int x2), (3, .int x3)], [], S, m) (some (.int res.1)) (S, res.2)) {k31 : Int32 → Int32 → Int32 → Int32 → Me → Option (Int32 × Me)} (hk31 : ∀ {x1 : Int32} {x2 : Int32} {x3 : Int32} {x4 : Int32} {m : Me}, k31 x1 x2 x3 x4 m = some res → Inv m → TT InvS (Call 5) mX10_gatherMistakes (31, [(0, .ref 0), (1, .int x1), (2, .int x2), (3, .int x3), (4, .int x4)], [], S, m) (some (.int res.1)) (S, res.2)) {x1 : Int32} {x2 : Int32} {x3 : Int32} {x4 : Int32} {m : Me} (hf : fX10_gatherMistakes_106 k4 k17 k31 x1 x2 x3 x4 m = some res) (hI : Inv m) : TT InvS (Call 5) mX10_gatherMistakes (106, [(0, .ref 0), (1, .int x1), (2, .int x2), (3, .int x3), (4, .int x4)], [], S, m) (some (.int res.1)) (S, res.2) := by
  unfold fX10_gatherMistakes_106 at hf
  refine to_iinc (q := 109) (v := (x4 + (1 : Int32))) rfl (congrArg (fun z => x4 + z) ic_1) [(4, .int (x4 + (1 : Int32))), (0, .ref 0), (1, .int x1), (2, .int x2), (3, .int x3)] rfl (by decide) dX10_gatherMistakes_106 rfl ?_
  refine to_goto (q := 31) dX10_gatherMistakes_109 rfl ?_
  exact to_ext [(0, .ref 0), (1, .int x1), (2, .int x2), (3, .int x3), (4, .int (x4 + (1 : Int32)))] (ext_cons rfl (ext_cons rfl (ext_cons rfl (ext_cons rfl (ext_cons rfl ext_nil))))) (hk31 hf hI)
def fX10_gatherMistakes_31 (n : Nat) (k4 : Int32 → Int32 → Me → Option (Int32 × Me)) (k17 : Int32 → Int32 → Int32 → Me → Option (Int32 × Me)) (x1 : Int32) (x2 : Int32) (x3 : Int32) (x4 : Int32) (m : Me) : Option (Int32 × Me) := match n with
  | 0 => none
  | n + 1 => if (m.1 (rr m 0 3) 7) ≤ x4 then k17 x1 x2 ((x3 + (1 : Int32))) m else ck (inb x4 6) (cl2 (fX7_isRead 88 (rr m 0 3 + 7 + 2 * x4.toNatClampNeg) m) fun r17 m18 => if r17 = (0 : Int32) then fX10_gatherMistakes_106 k4 k17 (fX10_gatherMistakes_31 n k4 k17) x1 x2 x3 x4 m18 else ck (inb x4 6) (cl2 (fX2_isWished (rr m18 0 3) (rr m18 0 3 + 7 + 2 * x4.toNatClampNeg) x3 x2 m18) fun r25 m26 => if r25 = (0 : Int32) then ck (inb x1 336) (fX10_gatherMistakes_106 k4 k17 (fX10_gatherMistakes_31 n k4 k17) ((x1 + (1 : Int32))) x2 x3 x4 (setI m26 131 x1.toNatClampNeg ((((100 : Int32) * x4) + ((50 : Int32) * x3)) + x2))) else fX10_gatherMistakes_106 k4 k17 (fX10_gatherMistakes_31 n k4 k17) x1 x2 x3 x4 m26))
set_option maxRecDepth 20000 in
theorem kX10_gatherMistakes_31 {S : Sh} (hS : ShOK S) {res : Int32 × Me} {k4 : Int32 → Int32 → Me → Option (Int32 × Me)} (hk4 : ∀ {x1 : Int32} {x2 : Int32} {m : Me}, k4 x1 x2 m = some res → Inv m → TT InvS (Call 5) mX10_gatherMistakes (4, [(0, .ref 0), (1, .int x1), (2, .int x2)], [], S, m) (some (.int res.1)) (S, res.2)) {k17 : Int32 → Int32 → Int32 → Me → Option (Int32 × Me)} (hk17 : ∀ {x1 : Int32} {x2 : Int32} {x3 : Int32} {m : Me}, k17 x1 x2 x3 m = some res → Inv m → TT InvS (Call 5) mX10_gatherMistakes (17, [(0, .ref 0), (1, .int x1), (2, .int x2), (3, .int x3)], [], S, m) (some (.int res.1)) (S, res.2)) (n : Nat) : ∀ {x1 : Int32} {x2 : Int32} {x3 : Int32} {x4 : Int32} {m : Me}, fX10_gatherMistakes_31 n k4 k17 x1 x2 x3 x4 m = some res → Inv m → TT InvS (Call 5) mX10_gatherMistakes (31, [(0, .ref 0), (1, .int x1), (2, .int x2), (3, .int x3), (4, .int x4)], [], S, m) (some (.int res.1)) (S, res.2) := by
  induction n with
  | zero => intro x1 x2 x3 x4 m hf; cases hf
  | succ n ih =>
    intro x1 x2 x3 x4 m hf  hI
    unfold fX10_gatherMistakes_31 at hf
    refine to_iload (q := 33) rfl dX10_gatherMistakes_31 rfl ?_
    refine to_aload_n (q := 34) rfl (by decide) dX10_gatherMistakes_33 rfl ?_
    have hk11 : kd (rr m 0 3) = 2 := (ivT hI).2
    refine to_getR (q := 37) (b := rr m 0 3) (k0 := 10) (C := RX10) (T := TX10) (N := 17) (j := 3) rfl fx_X10_26 (h_0 hS) rfl ((ivT hI).1) dX10_gatherMistakes_34 rfl ?_
    refine to_getI (q := 40) (k0 := 2) (C := RX2) (T := TX2) (N := 14) (j := 7) rfl fx_X10_223 (sh_kd hS hk11 (by decide)) rfl dX10_gatherMistakes_37 rfl ?_
    by_cases h12 : (m.1 (rr m 0 3) 7) ≤ x4
    · have hf := ite_pos h12 hf
      refine to_icT (q := 112) (op := .ge) h12 dX10_gatherMistakes_40 rfl ?_
      refine to_iinc (q := 115) (v := (x3 + (1 : Int32))) rfl (congrArg (fun z => x3 + z) ic_1) [(3, .int (x3 + (1 : Int32))), (0, .ref 0), (1, .int x1), (2, .int x2), (4, .int x4)] rfl (by decide) dX10_gatherMistakes_112 rfl ?_
      refine to_goto (q := 17) dX10_gatherMistakes_115 rfl ?_
      exact to_ext [(0, .ref 0), (1, .int x1), (2, .int x2), (3, .int (x3 + (1 : Int32)))] (ext_cons rfl (ext_cons rfl (ext_cons rfl (ext_cons rfl ext_nil)))) (hk17 hf hI)
    · have hf := ite_neg h12 hf
      refine to_icF (q := 43) (op := .ge) 112 h12 dX10_gatherMistakes_40 rfl rfl ?_
      refine to_aload_n (q := 44) rfl (by decide) dX10_gatherMistakes_43 rfl ?_
      refine to_getR (q := 47) (b := 88) (k0 := 10) (C := RX10) (T := TX10) (N := 17) (j := 9) rfl fx_X10_51 (h_0 hS) rfl (iv_0_9 hI) dX10_gatherMistakes_44 rfl ?_
      refine to_aload_n (q := 48) rfl (by decide) dX10_gatherMistakes_47 rfl ?_
      have hk13 : kd (rr m 0 3) = 2 := (ivT hI).2
      refine to_getR (q := 51) (b := rr m 0 3) (k0 := 10) (C := RX10) (T := TX10) (N := 17) (j := 3) rfl fx_X10_26 (h_0 hS) rfl ((ivT hI).1) dX10_gatherMistakes_48 rfl ?_
      refine to_getR (q := 54) (b := (rr m 0 3) + 3) (k0 := 2) (C := RX2) (T := TX2) (N := 14) (j := 6) rfl fx_X10_202 (sh_kd hS hk13 (by decide)) rfl (iv2w hI (hk13)) dX10_gatherMistakes_51 rfl ?_
      refine to_iload (q := 56) rfl dX10_gatherMistakes_54 rfl ?_
      obtain ⟨hb14, hf⟩ := ck_some hf
      refine to_aald (q := 57) (b := rr m 0 3 + 7 + 2 * x4.toNatClampNeg) (sh_ln hS (kd2w (hk13)) (by decide)) (by decide) hb14 (ivW hI (hk13) hb14) dX10_gatherMistakes_56 rfl ?_
      obtain ⟨r17, m18, hc15, hf⟩ := cl2_some hf
      have qc16 := kX7_isRead hS hc15 rfl (kdW (hk13) hb14) hI
      refine to_virtI (q := 60) mX7_isRead [.ref (rr m 0 3 + 7 + 2 * x4.toNatClampNeg)] dX10_gatherMistakes_57 rfl rfl (Nat.le_of_ble_eq_true rfl) mo_X7_isRead mv_X10_226 (Or.inl ⟨_, _, _, h_88 hS, rfl, rfl⟩) (Call_mono (by decide) qc16.1) ?_
      have hI := qc16.2
      by_cases h19 : r17 = (0 : Int32)
      · have hf := ite_pos h19 hf
        refine to_ifT (q := 106) (op := .eq) h19 dX10_gatherMistakes_60 rfl ?_
        exact to_ext [(0, .ref 0), (1, .int x1), (2, .int x2), (3, .int x3), (4, .int x4)] (ext_cons rfl (ext_cons rfl (ext_cons rfl (ext_cons rfl (ext_cons rfl ext_nil))))) (kX10_gatherMistakes_106 hS hk4 hk17 ih hf hI)
      · have hf := ite_neg h19 hf
        refine to_ifF (q := 63) (op := .eq) 106 h19 dX10_gatherMistakes_60 rfl rfl ?_
        refine to_aload_n (q := 64) rfl (by decide) dX10_gatherMistakes_63 rfl ?_
        have hk20 : kd (rr m18 0 3) = 2 := (ivT hI).2
        refine to_getR (q := 67) (b := rr m18 0 3) (k0 := 10) (C := RX10) (T := TX10) (N := 17) (j := 3) rfl fx_X10_26 (h_0 hS) rfl ((ivT hI).1) dX10_gatherMistakes_64 rfl ?_
        refine to_aload_n (q := 68) rfl (by decide) dX10_gatherMistakes_67 rfl ?_
        have hk21 : kd (rr m18 0 3) = 2 := (ivT hI).2
        refine to_getR (q := 71) (b := rr m18 0 3) (k0 := 10) (C := RX10) (T := TX10) (N := 17) (j := 3) rfl fx_X10_26 (h_0 hS) rfl ((ivT hI).1) dX10_gatherMistakes_68 rfl ?_
        refine to_getR (q := 74) (b := (rr m18 0 3) + 3) (k0 := 2) (C := RX2) (T := TX2) (N := 14) (j := 6) rfl fx_X10_202 (sh_kd hS hk21 (by decide)) rfl (iv2w hI (hk21)) dX10_gatherMistakes_71 rfl ?_
        refine to_iload (q := 76) rfl dX10_gatherMistakes_74 rfl ?_
        obtain ⟨hb22, hf⟩ := ck_some hf
        refine to_aald (q := 77) (b := rr m18 0 3 + 7 + 2 * x4.toNatClampNeg) (sh_ln hS (kd2w (hk21)) (by decide)) (by decide) hb22 (ivW hI (hk21) hb22) dX10_gatherMistakes_76 rfl ?_
        refine to_iload_n (q := 78) rfl dX10_gatherMistakes_77 rfl ?_
        refine to_iload_n (q := 79) rfl dX10_gatherMistakes_78 rfl ?_
        obtain ⟨r25, m26, hc23, hf⟩ := cl2_some hf
        have qc24 := kX2_isWished hS hc23 (hk20) (kdW (hk21) hb22) hI
        refine to_virtI (q := 82) mX2_isWished [.ref (rr m18 0 3 + 7 + 2 * x4.toNatClampNeg), .int x3, .int x2] dX10_gatherMistakes_79 rfl rfl (Nat.le_of_ble_eq_true rfl) mo_X2_isWished mv_X10_381 (Or.inl ⟨_, _, _, sh_kd hS hk20 (by decide), rfl, rfl⟩) (Call_mono (by decide) qc24.1) ?_
        have hI := qc24.2
        by_cases h27 : r25 = (0 : Int32)
        · have hf := ite_pos h27 hf
          refine to_ifF (q := 85) (op := .ne) 106 (fun z => z h27) dX10_gatherMistakes_82 rfl rfl ?_
          refine to_aload_n (q := 86) rfl (by decide) dX10_gatherMistakes_85 rfl ?_
          refine to_getR (q := 89) (b := 131) (k0 := 10) (C := RX10) (T := TX10) (N := 17) (j := 15) rfl fx_X10_86 (h_0 hS) rfl (iv_0_15 hI) dX10_gatherMistakes_86 rfl ?_
          refine to_iload_n (q := 90) rfl dX10_gatherMistakes_89 rfl ?_
          refine to_bipush (q := 92) bp_100 dX10_gatherMistakes_90 rfl ?_
          refine to_iload (q := 94) rfl dX10_gatherMistakes_92 rfl ?_
          refine to_imul (q := 95) dX10_gatherMistakes_94 rfl ?_
          refine to_bipush (q := 97) bp_50 dX10_gatherMistakes_95 rfl ?_
          refine to_iload_n (q := 98) rfl dX10_gatherMistakes_97 rfl ?_
          refine to_imul (q := 99) dX10_gatherMistakes_98 rfl ?_
          refine to_iadd (q := 100) dX10_gatherMistakes_99 rfl ?_
          refine to_iload_n (q := 101) rfl dX10_gatherMistakes_100 rfl ?_
          refine to_iadd (q := 102) dX10_gatherMistakes_101 rfl ?_
          obtain ⟨hb28, hf⟩ := ck_some hf
          refine to_iasj (q := 103) (h_131 hS) hb28 (rfl) dX10_gatherMistakes_102 rfl ?_
          refine to_iinc (q := 106) (v := (x1 + (1 : Int32))) rfl (congrArg (fun z => x1 + z) ic_1) [(1, .int (x1 + (1 : Int32))), (0, .ref 0), (2, .int x2), (3, .int x3), (4, .int x4)] rfl (by decide) dX10_gatherMistakes_103 rfl ?_
          exact to_ext [(0, .ref 0), (1, .int (x1 + (1 : Int32))), (2, .int x2), (3, .int x3), (4, .int x4)] (ext_cons rfl (ext_cons rfl (ext_cons rfl (ext_cons rfl (ext_cons rfl ext_nil))))) (kX10_gatherMistakes_106 hS hk4 hk17 ih hf hI)
        · have hf := ite_neg h27 hf
          refine to_ifT (q := 106) (op := .ne) h27 dX10_gatherMistakes_82 rfl ?_
          exact to_ext [(0, .ref 0), (1, .int x1), (2, .int x2), (3, .int x3), (4, .int x4)] (ext_cons rfl (ext_cons rfl (ext_cons rfl (ext_cons rfl (ext_cons rfl ext_nil))))) (kX10_gatherMistakes_106 hS hk4 hk17 ih hf hI)
def fX10_gatherMistakes_17 (n : Nat) (k4 : Int32 → Int32 → Me → Option (Int32 × Me)) (x1 : Int32) (x2 : Int32) (x3 : Int32) (m : Me) : Option (Int32 × Me) := match n with
  | 0 => none
  | n + 1 => if (1 : Int32) < x3 then k4 x1 ((x2 + (1 : Int32))) m else cl1 (fX10_lookAt x3 x2 m) fun m10 => fX10_gatherMistakes_31 FU k4 (fX10_gatherMistakes_17 n k4) x1 x2 x3 ((0 : Int32)) m10
set_option maxRecDepth 20000 in
theorem kX10_gatherMistakes_17 {S : Sh} (hS : ShOK S) {res : Int32 × Me} {k4 : Int32 → Int32 → Me → Option (Int32 × Me)} (hk4 : ∀ {x1 : Int32} {x2 : Int32} {m : Me}, k4 x1 x2 m = some res → Inv m → TT InvS (Call 5) mX10_gatherMistakes (4, [(0, .ref 0), (1, .int x1), (2, .int x2)], [], S, m) (some (.int res.1)) (S, res.2)) (n : Nat) : ∀ {x1 : Int32} {x2 : Int32} {x3 : Int32} {m : Me}, fX10_gatherMistakes_17 n k4 x1 x2 x3 m = some res → Inv m → TT InvS (Call 5) mX10_gatherMistakes (17, [(0, .ref 0), (1, .int x1), (2, .int x2), (3, .int x3)], [], S, m) (some (.int res.1)) (S, res.2) := by
  induction n with
  | zero => intro x1 x2 x3 m hf; cases hf
  | succ n ih =>
    intro x1 x2 x3 m hf  hI
    unfold fX10_gatherMistakes_17 at hf
    refine to_iload_n (q := 18) rfl dX10_gatherMistakes_17 rfl ?_
    refine to_iconst (q := 19) ic_1 dX10_gatherMistakes_18 rfl ?_
    by_cases h7 : (1 : Int32) < x3
    · have hf := ite_pos h7 hf
      refine to_icT (q := 118) (op := .gt) h7 dX10_gatherMistakes_19 rfl ?_
      refine to_iinc (q := 121) (v := (x2 + (1 : Int32))) rfl (congrArg (fun z => x2 + z) ic_1) [(2, .int (x2 + (1 : Int32))), (0, .ref 0), (1, .int x1), (3, .int x3)] rfl (by decide) dX10_gatherMistakes_118 rfl ?_
      refine to_goto (q := 4) dX10_gatherMistakes_121 rfl ?_
      exact to_ext [(0, .ref 0), (1, .int x1), (2, .int (x2 + (1 : Int32)))] (ext_cons rfl (ext_cons rfl (ext_cons rfl ext_nil))) (hk4 hf hI)
    · have hf := ite_neg h7 hf
      refine to_icF (q := 22) (op := .gt) 118 h7 dX10_gatherMistakes_19 rfl rfl ?_
      refine to_aload_n (q := 23) rfl (by decide) dX10_gatherMistakes_22 rfl ?_
      refine to_iload_n (q := 24) rfl dX10_gatherMistakes_23 rfl ?_
      refine to_iload_n (q := 25) rfl dX10_gatherMistakes_24 rfl ?_
      obtain ⟨m10, hc8, hf⟩ := cl1_some hf
      have qc9 := kX10_lookAt hS hc8 hI
      refine to_virtV (q := 28) mX10_lookAt [.int x3, .int x2] dX10_gatherMistakes_25 rfl rfl (Nat.le_of_ble_eq_true rfl) mo_X10_lookAt mv_X10_170 (Or.inl ⟨_, _, _, h_0 hS, rfl, rfl⟩) (Call_mono (by decide) qc9.1) ?_
      have hI := qc9.2
      refine to_iconst (q := 29) ic_0 dX10_gatherMistakes_28 rfl ?_
      refine to_istore (q := 31) [(4, .int (0 : Int32)), (0, .ref 0), (1, .int x1), (2, .int x2), (3, .int x3)] rfl (by decide) dX10_gatherMistakes_29 rfl ?_
      exact to_ext [(0, .ref 0), (1, .int x1), (2, .int x2), (3, .int x3), (4, .int (0 : Int32))] (ext_cons rfl (ext_cons rfl (ext_cons rfl (ext_cons rfl (ext_cons rfl ext_nil))))) (kX10_gatherMistakes_31 hS hk4 ih FU hf hI)
def fX10_gatherMistakes_4 (n : Nat) (x1 : Int32) (x2 : Int32) (m : Me) : Option (Int32 × Me) := match n with
  | 0 => none
  | n + 1 => cl2 (fX2_openings (rr m 0 3) m) fun r4 m5 => if r4 ≤ x2 then some (x1, m5) else fX10_gatherMistakes_17 FU (fX10_gatherMistakes_4 n) x1 x2 ((0 : Int32)) m5
set_option maxRecDepth 20000 in
theorem kX10_gatherMistakes_4 {S : Sh} (hS : ShOK S) {res : Int32 × Me} (n : Nat) : ∀ {x1 : Int32} {x2 : Int32} {m : Me}, fX10_gatherMistakes_4 n x1 x2 m = some res → Inv m → TT InvS (Call 5) mX10_gatherMistakes (4, [(0, .ref 0), (1, .int x1), (2, .int x2)], [], S, m) (some (.int res.1)) (S, res.2) := by
  induction n with
  | zero => intro x1 x2 m hf; cases hf
  | succ n ih =>
    intro x1 x2 m hf  hI
    unfold fX10_gatherMistakes_4 at hf
    refine to_iload_n (q := 5) rfl dX10_gatherMistakes_4 rfl ?_
    refine to_aload_n (q := 6) rfl (by decide) dX10_gatherMistakes_5 rfl ?_
    have hk1 : kd (rr m 0 3) = 2 := (ivT hI).2
    refine to_getR (q := 9) (b := rr m 0 3) (k0 := 10) (C := RX10) (T := TX10) (N := 17) (j := 3) rfl fx_X10_26 (h_0 hS) rfl ((ivT hI).1) dX10_gatherMistakes_6 rfl ?_
    obtain ⟨r4, m5, hc2, hf⟩ := cl2_some hf
    have qc3 := kX2_openings hS hc2 (hk1) hI
    refine to_virtI (q := 12) mX2_openings [] dX10_gatherMistakes_9 rfl rfl (Nat.le_of_ble_eq_true rfl) mo_X2_openings mv_X10_131 (Or.inl ⟨_, _, _, sh_kd hS hk1 (by decide), rfl, rfl⟩) (Call_mono (by decide) qc3.1) ?_
    have hI := qc3.2
    by_cases h6 : r4 ≤ x2
    · have hf := ite_pos h6 hf
      refine to_icT (q := 124) (op := .ge) h6 dX10_gatherMistakes_12 rfl ?_
      refine to_iload_n (q := 125) rfl dX10_gatherMistakes_124 rfl ?_
      cases hf
      exact to_iret dX10_gatherMistakes_125 rfl rfl rfl rfl hI
    · have hf := ite_neg h6 hf
      refine to_icF (q := 15) (op := .ge) 124 h6 dX10_gatherMistakes_12 rfl rfl ?_
      refine to_iconst (q := 16) ic_0 dX10_gatherMistakes_15 rfl ?_
      refine to_istore_n (q := 17) [(3, .int (0 : Int32)), (0, .ref 0), (1, .int x1), (2, .int x2)] rfl (by decide) dX10_gatherMistakes_16 rfl ?_
      exact to_ext [(0, .ref 0), (1, .int x1), (2, .int x2), (3, .int (0 : Int32))] (ext_cons rfl (ext_cons rfl (ext_cons rfl (ext_cons rfl ext_nil)))) (kX10_gatherMistakes_17 hS ih FU hf hI)
def fX10_gatherMistakes (m : Me) : Option (Int32 × Me) := fX10_gatherMistakes_4 FU ((0 : Int32)) ((0 : Int32)) m
set_option maxRecDepth 20000 in
theorem kX10_gatherMistakes {S : Sh} (hS : ShOK S) {res : Int32 × Me} {m : Me} (hf : fX10_gatherMistakes m = some res) (hI : Inv m) : Call 6 mX10_gatherMistakes [.ref 0] (S, m) (some (.int res.1)) (S, res.2) ∧ Inv res.2 := by
  refine call_of (P := InvS) (Nat.le_of_ble_eq_true rfl) (by simp [Value.category]) ?_
  show TT InvS (Call 5) mX10_gatherMistakes (0, [(0, .ref 0)], [], S, m) _ _
  unfold fX10_gatherMistakes at hf
  refine to_iconst (q := 1) ic_0 dX10_gatherMistakes_0 rfl ?_
  refine to_istore_n (q := 2) [(1, .int (0 : Int32)), (0, .ref 0)] rfl (by decide) dX10_gatherMistakes_1 rfl ?_
  refine to_iconst (q := 3) ic_0 dX10_gatherMistakes_2 rfl ?_
  refine to_istore_n (q := 4) [(2, .int (0 : Int32)), (1, .int (0 : Int32)), (0, .ref 0)] rfl (by decide) dX10_gatherMistakes_3 rfl ?_
  exact to_ext [(0, .ref 0), (1, .int (0 : Int32)), (2, .int (0 : Int32))] (ext_cons rfl (ext_cons rfl (ext_cons rfl ext_nil))) (kX10_gatherMistakes_4 hS FU hf hI)
def fX10_mistakes_23 (t0 : Int32) (m : Me) : Option (Int32 × Me) := some (t0, m)
set_option maxRecDepth 20000 in
theorem kX10_mistakes_23 {S : Sh} (hS : ShOK S) {res : Int32 × Me} {t0 : Int32} {m : Me} (hf : fX10_mistakes_23 t0 m = some res) (hI : Inv m) : TT InvS (Call 6) mX10_mistakes (23, [], [.int t0], S, m) (some (.int res.1)) (S, res.2) := by
  unfold fX10_mistakes_23 at hf
  cases hf
  exact to_iret dX10_mistakes_23 rfl rfl rfl rfl hI
def fX10_mistakes (m : Me) : Option (Int32 × Me) := if (m.1 0 4) = (0 : Int32) then cl2 (fX10_refuse (1 : Int32) m) fun r4 m5 => fX10_mistakes_23 r4 m5 else cl2 (fX10_gatherMistakes m) fun r8 m9 => cl2 (fX10_answer r8 m9) fun r12 m13 => fX10_mistakes_23 r12 m13
set_option maxRecDepth 20000 in
theorem kX10_mistakes {S : Sh} (hS : ShOK S) {res : Int32 × Me} {m : Me} (hf : fX10_mistakes m = some res) (hI : Inv m) : Call 7 mX10_mistakes [.ref 0] (S, m) (some (.int res.1)) (S, res.2) ∧ Inv res.2 := by
  refine call_of (P := InvS) (Nat.le_of_ble_eq_true rfl) (by simp [Value.category]) ?_
  show TT InvS (Call 6) mX10_mistakes (0, [(0, .ref 0)], [], S, m) _ _
  unfold fX10_mistakes at hf
  refine to_aload_n (q := 1) rfl (by decide) dX10_mistakes_0 rfl ?_
  refine to_getI (q := 4) (k0 := 10) (C := RX10) (T := TX10) (N := 17) (j := 4) rfl fx_X10_110 (h_0 hS) rfl dX10_mistakes_1 rfl ?_
  by_cases h1 : (m.1 0 4) = (0 : Int32)
  · have hf := ite_pos h1 hf
    refine to_ifT (q := 18) (op := .eq) h1 dX10_mistakes_4 rfl ?_
    refine to_aload_n (q := 19) rfl (by decide) dX10_mistakes_18 rfl ?_
    refine to_iconst (q := 20) ic_1 dX10_mistakes_19 rfl ?_
    obtain ⟨r4, m5, hc2, hf⟩ := cl2_some hf
    have qc3 := kX10_refuse hS hc2 hI
    refine to_virtI (q := 23) mX10_refuse [.int (1 : Int32)] dX10_mistakes_20 rfl rfl (Nat.le_of_ble_eq_true rfl) mo_X10_refuse mv_X10_98 (Or.inl ⟨_, _, _, h_0 hS, rfl, rfl⟩) (Call_mono (by decide) qc3.1) ?_
    have hI := qc3.2
    exact to_ext [] ext_nil (kX10_mistakes_23 hS hf hI)
  · have hf := ite_neg h1 hf
    refine to_ifF (q := 7) (op := .eq) 18 h1 dX10_mistakes_4 rfl rfl ?_
    refine to_aload_n (q := 8) rfl (by decide) dX10_mistakes_7 rfl ?_
    refine to_aload_n (q := 9) rfl (by decide) dX10_mistakes_8 rfl ?_
    obtain ⟨r8, m9, hc6, hf⟩ := cl2_some hf
    have qc7 := kX10_gatherMistakes hS hc6 hI
    refine to_virtI (q := 12) mX10_gatherMistakes [] dX10_mistakes_9 rfl rfl (Nat.le_of_ble_eq_true rfl) mo_X10_gatherMistakes mv_X10_239 (Or.inl ⟨_, _, _, h_0 hS, rfl, rfl⟩) (Call_mono (by decide) qc7.1) ?_
    have hI := qc7.2
    obtain ⟨r12, m13, hc10, hf⟩ := cl2_some hf
    have qc11 := kX10_answer hS hc10 hI
    refine to_virtI (q := 15) mX10_answer [.int r8] dX10_mistakes_12 rfl rfl (Nat.le_of_ble_eq_true rfl) mo_X10_answer mv_X10_135 (Or.inl ⟨_, _, _, h_0 hS, rfl, rfl⟩) (Call_mono (by decide) qc11.1) ?_
    have hI := qc11.2
    refine to_goto (q := 23) dX10_mistakes_15 rfl ?_
    exact to_ext [] ext_nil (kX10_mistakes_23 hS hf hI)
def fX10_mistake_19 (m : Me) : Option (Int32 × Me) := cl2 (fX10_refuse (1 : Int32) m) fun r15 m16 => some (r15, m16)
set_option maxRecDepth 20000 in
theorem kX10_mistake_19 {S : Sh} (hS : ShOK S) {res : Int32 × Me} {m : Me} (hf : fX10_mistake_19 m = some res) (hI : Inv m) : TT InvS (Call 6) mX10_mistake (19, [(0, .ref 0)], [], S, m) (some (.int res.1)) (S, res.2) := by
  unfold fX10_mistake_19 at hf
  refine to_aload_n (q := 20) rfl (by decide) dX10_mistake_19 rfl ?_
  refine to_iconst (q := 21) ic_1 dX10_mistake_20 rfl ?_
  obtain ⟨r15, m16, hc13, hf⟩ := cl2_some hf
  have qc14 := kX10_refuse hS hc13 hI
  refine to_virtI (q := 24) mX10_refuse [.int (1 : Int32)] dX10_mistake_21 rfl rfl (Nat.le_of_ble_eq_true rfl) mo_X10_refuse mv_X10_98 (Or.inl ⟨_, _, _, h_0 hS, rfl, rfl⟩) (Call_mono (by decide) qc14.1) ?_
  have hI := qc14.2
  cases hf
  exact to_iret dX10_mistake_24 rfl rfl rfl rfl hI
def fX10_mistake (x1 : Int32) (m : Me) : Option (Int32 × Me) := if (m.1 0 4) = (0 : Int32) then fX10_mistake_19 m else if x1 < (0 : Int32) then fX10_mistake_19 m else cl2 (fX10_gatherMistakes m) fun r5 m6 => if x1 < r5 then ck (inb x1 336) (cl2 (fX10_answer (m6.1 131 x1.toNatClampNeg) m6) fun r11 m12 => some (r11, m12)) else fX10_mistake_19 m6
set_option maxRecDepth 20000 in
theorem kX10_mistake {S : Sh} (hS : ShOK S) {res : Int32 × Me} {x1 : Int32} {m : Me} (hf : fX10_mistake x1 m = some res) (hI : Inv m) : Call 7 mX10_mistake [.ref 0, .int x1] (S, m) (some (.int res.1)) (S, res.2) ∧ Inv res.2 := by
  refine call_of (P := InvS) (Nat.le_of_ble_eq_true rfl) (by simp [Value.category]) ?_
  show TT InvS (Call 6) mX10_mistake (0, [(0, .ref 0), (1, .int x1)], [], S, m) _ _
  unfold fX10_mistake at hf
  refine to_aload_n (q := 1) rfl (by decide) dX10_mistake_0 rfl ?_
  refine to_getI (q := 4) (k0 := 10) (C := RX10) (T := TX10) (N := 17) (j := 4) rfl fx_X10_110 (h_0 hS) rfl dX10_mistake_1 rfl ?_
  by_cases h1 : (m.1 0 4) = (0 : Int32)
  · have hf := ite_pos h1 hf
    refine to_ifT (q := 19) (op := .eq) h1 dX10_mistake_4 rfl ?_
    exact to_ext [(0, .ref 0)] (ext_cons rfl ext_nil) (kX10_mistake_19 hS hf hI)
  · have hf := ite_neg h1 hf
    refine to_ifF (q := 7) (op := .eq) 19 h1 dX10_mistake_4 rfl rfl ?_
    refine to_iload_n (q := 8) rfl dX10_mistake_7 rfl ?_
    by_cases h2 : x1 < (0 : Int32)
    · have hf := ite_pos h2 hf
      refine to_ifT (q := 19) (op := .lt) h2 dX10_mistake_8 rfl ?_
      exact to_ext [(0, .ref 0)] (ext_cons rfl ext_nil) (kX10_mistake_19 hS hf hI)
    · have hf := ite_neg h2 hf
      refine to_ifF (q := 11) (op := .lt) 19 h2 dX10_mistake_8 rfl rfl ?_
      refine to_iload_n (q := 12) rfl dX10_mistake_11 rfl ?_
      refine to_aload_n (q := 13) rfl (by decide) dX10_mistake_12 rfl ?_
      obtain ⟨r5, m6, hc3, hf⟩ := cl2_some hf
      have qc4 := kX10_gatherMistakes hS hc3 hI
      refine to_virtI (q := 16) mX10_gatherMistakes [] dX10_mistake_13 rfl rfl (Nat.le_of_ble_eq_true rfl) mo_X10_gatherMistakes mv_X10_239 (Or.inl ⟨_, _, _, h_0 hS, rfl, rfl⟩) (Call_mono (by decide) qc4.1) ?_
      have hI := qc4.2
      by_cases h7 : x1 < r5
      · have hf := ite_pos h7 hf
        refine to_icT (q := 25) (op := .lt) h7 dX10_mistake_16 rfl ?_
        refine to_aload_n (q := 26) rfl (by decide) dX10_mistake_25 rfl ?_
        refine to_aload_n (q := 27) rfl (by decide) dX10_mistake_26 rfl ?_
        refine to_getR (q := 30) (b := 131) (k0 := 10) (C := RX10) (T := TX10) (N := 17) (j := 15) rfl fx_X10_86 (h_0 hS) rfl (iv_0_15 hI) dX10_mistake_27 rfl ?_
        refine to_iload_n (q := 31) rfl dX10_mistake_30 rfl ?_
        obtain ⟨hb8, hf⟩ := ck_some hf
        refine to_iaj (q := 32) (h_131 hS) hb8 (rfl) dX10_mistake_31 rfl ?_
        obtain ⟨r11, m12, hc9, hf⟩ := cl2_some hf
        have qc10 := kX10_answer hS hc9 hI
        refine to_virtI (q := 35) mX10_answer [.int (m6.1 131 x1.toNatClampNeg)] dX10_mistake_32 rfl rfl (Nat.le_of_ble_eq_true rfl) mo_X10_answer mv_X10_135 (Or.inl ⟨_, _, _, h_0 hS, rfl, rfl⟩) (Call_mono (by decide) qc10.1) ?_
        have hI := qc10.2
        cases hf
        exact to_iret dX10_mistake_35 rfl rfl rfl rfl hI
      · have hf := ite_neg h7 hf
        refine to_icF (q := 19) (op := .lt) 25 h7 dX10_mistake_16 rfl rfl ?_
        exact to_ext [(0, .ref 0)] (ext_cons rfl ext_nil) (kX10_mistake_19 hS hf hI)
def fX10_bestPlace (a1 : Nat) (m : Me) : Option (Int32 × Me) := cl1 (fX10_lookAt (m.1 a1 2) (m.1 a1 3) m) fun m3 => cl2 (fX7_cheapestPlace 88 a1 m3) fun r6 m7 => some (r6, m7)
set_option maxRecDepth 20000 in
theorem kX10_bestPlace {S : Sh} (hS : ShOK S) {res : Int32 × Me} {a1 : Nat} {m : Me} (hf : fX10_bestPlace a1 m = some res) (ha1 : kd a1 = 8) (hI : Inv m) : Call 6 mX10_bestPlace [.ref 0, .ref a1] (S, m) (some (.int res.1)) (S, res.2) ∧ Inv res.2 := by
  refine call_of (P := InvS) (Nat.le_of_ble_eq_true rfl) (by simp [Value.category]) ?_
  show TT InvS (Call 5) mX10_bestPlace (0, [(0, .ref 0), (1, .ref a1)], [], S, m) _ _
  unfold fX10_bestPlace at hf
  refine to_aload_n (q := 1) rfl (by decide) dX10_bestPlace_0 rfl ?_
  refine to_aload_n (q := 2) rfl (kd_4 (ha1) (by decide)) dX10_bestPlace_1 rfl ?_
  refine to_getI (q := 5) (k0 := 8) (C := RX8) (T := TX8) (N := 5) (j := 2) rfl fx_X10_293 (sh_kd hS ha1 (by decide)) rfl dX10_bestPlace_2 rfl ?_
  refine to_aload_n (q := 6) rfl (kd_4 (ha1) (by decide)) dX10_bestPlace_5 rfl ?_
  refine to_getI (q := 9) (k0 := 8) (C := RX8) (T := TX8) (N := 5) (j := 3) rfl fx_X10_298 (sh_kd hS ha1 (by decide)) rfl dX10_bestPlace_6 rfl ?_
  obtain ⟨m3, hc1, hf⟩ := cl1_some hf
  have qc2 := kX10_lookAt hS hc1 hI
  refine to_virtV (q := 12) mX10_lookAt [.int (m.1 a1 2), .int (m.1 a1 3)] dX10_bestPlace_9 rfl rfl (Nat.le_of_ble_eq_true rfl) mo_X10_lookAt mv_X10_170 (Or.inl ⟨_, _, _, h_0 hS, rfl, rfl⟩) (Call_mono (by decide) qc2.1) ?_
  have hI := qc2.2
  refine to_aload_n (q := 13) rfl (by decide) dX10_bestPlace_12 rfl ?_
  refine to_getR (q := 16) (b := 88) (k0 := 10) (C := RX10) (T := TX10) (N := 17) (j := 9) rfl fx_X10_51 (h_0 hS) rfl (iv_0_9 hI) dX10_bestPlace_13 rfl ?_
  refine to_aload_n (q := 17) rfl (kd_4 (ha1) (by decide)) dX10_bestPlace_16 rfl ?_
  obtain ⟨r6, m7, hc4, hf⟩ := cl2_some hf
  have qc5 := kX7_cheapestPlace hS hc4 rfl (ha1) hI
  refine to_virtI (q := 20) mX7_cheapestPlace [.ref a1] dX10_bestPlace_17 rfl rfl (Nat.le_of_ble_eq_true rfl) mo_X7_cheapestPlace mv_X10_385 (Or.inl ⟨_, _, _, h_88 hS, rfl, rfl⟩) (Call_mono (by decide) qc5.1) ?_
  have hI := qc5.2
  cases hf
  exact to_iret dX10_bestPlace_20 rfl rfl rfl rfl hI
def fX10_mend_57 (t0 : Int32) (m : Me) : Option (Int32 × Me) := cl2 (fX10_answer t0 m) fun r25 m26 => some (r25, m26)
set_option maxRecDepth 20000 in
theorem kX10_mend_57 {S : Sh} (hS : ShOK S) {res : Int32 × Me} {t0 : Int32} {m : Me} (hf : fX10_mend_57 t0 m = some res) (hI : Inv m) : TT InvS (Call 6) mX10_mend (57, [], [.int t0, .ref 0], S, m) (some (.int res.1)) (S, res.2) := by
  unfold fX10_mend_57 at hf
  obtain ⟨r25, m26, hc23, hf⟩ := cl2_some hf
  have qc24 := kX10_answer hS hc23 hI
  refine to_virtI (q := 60) mX10_answer [.int t0] dX10_mend_57 rfl rfl (Nat.le_of_ble_eq_true rfl) mo_X10_answer mv_X10_135 (Or.inl ⟨_, _, _, h_0 hS, rfl, rfl⟩) (Call_mono (by decide) qc24.1) ?_
  have hI := qc24.2
  cases hf
  exact to_iret dX10_mend_60 rfl rfl rfl rfl hI
def fX10_mend (x1 : Int32) (m : Me) : Option (Int32 × Me) := cl2 (fX10_noWish x1 m) fun r3 m4 => if r3 = (0 : Int32) then ck (inb x1 4) (cl2 (fX10_bestPlace (rr m4 0 3 + 19 + 2 * x1.toNatClampNeg) m4) fun r10 m11 => if r10 = (-2 : Int32) then fX10_mend_57 ((-2 : Int32)) m11 else ck (inb x1 4) (cl2 (fX7_strangeAt 88 (rr m11 0 3 + 19 + 2 * x1.toNatClampNeg) r10 m11) fun r17 m18 => fX10_mend_57 r17 m18)) else cl2 (fX10_refuse (1 : Int32) m4) fun r21 m22 => some (r21, m22)
set_option maxRecDepth 20000 in
theorem kX10_mend {S : Sh} (hS : ShOK S) {res : Int32 × Me} {x1 : Int32} {m : Me} (hf : fX10_mend x1 m = some res) (hI : Inv m) : Call 7 mX10_mend [.ref 0, .int x1] (S, m) (some (.int res.1)) (S, res.2) ∧ Inv res.2 := by
  refine call_of (P := InvS) (Nat.le_of_ble_eq_true rfl) (by simp [Value.category]) ?_
  show TT InvS (Call 6) mX10_mend (0, [(0, .ref 0), (1, .int x1)], [], S, m) _ _
  unfold fX10_mend at hf
  refine to_aload_n (q := 1) rfl (by decide) dX10_mend_0 rfl ?_
  refine to_iload_n (q := 2) rfl dX10_mend_1 rfl ?_
  obtain ⟨r3, m4, hc1, hf⟩ := cl2_some hf
  have qc2 := kX10_noWish hS hc1 hI
  refine to_virtI (q := 5) mX10_noWish [.int x1] dX10_mend_2 rfl rfl (Nat.le_of_ble_eq_true rfl) mo_X10_noWish mv_X10_230 (Or.inl ⟨_, _, _, h_0 hS, rfl, rfl⟩) (Call_mono (by decide) qc2.1) ?_
  have hI := qc2.2
  by_cases h5 : r3 = (0 : Int32)
  · have hf := ite_pos h5 hf
    refine to_ifT (q := 14) (op := .eq) h5 dX10_mend_5 rfl ?_
    refine to_aload_n (q := 15) rfl (by decide) dX10_mend_14 rfl ?_
    refine to_aload_n (q := 16) rfl (by decide) dX10_mend_15 rfl ?_
    have hk6 : kd (rr m4 0 3) = 2 := (ivT hI).2
    refine to_getR (q := 19) (b := rr m4 0 3) (k0 := 10) (C := RX10) (T := TX10) (N := 17) (j := 3) rfl fx_X10_26 (h_0 hS) rfl ((ivT hI).1) dX10_mend_16 rfl ?_
    refine to_getR (q := 22) (b := (rr m4 0 3) + 4) (k0 := 2) (C := RX2) (T := TX2) (N := 14) (j := 8) rfl fx_X10_242 (sh_kd hS hk6 (by decide)) rfl (iv2i hI (hk6)) dX10_mend_19 rfl ?_
    refine to_iload_n (q := 23) rfl dX10_mend_22 rfl ?_
    obtain ⟨hb7, hf⟩ := ck_some hf
    refine to_aald (q := 24) (b := rr m4 0 3 + 19 + 2 * x1.toNatClampNeg) (sh_ln hS (kd2i (hk6)) (by decide)) (by decide) hb7 (ivI hI (hk6) hb7) dX10_mend_23 rfl ?_
    obtain ⟨r10, m11, hc8, hf⟩ := cl2_some hf
    have qc9 := kX10_bestPlace hS hc8 (kdI (hk6) hb7) hI
    refine to_virtI (q := 27) mX10_bestPlace [.ref (rr m4 0 3 + 19 + 2 * x1.toNatClampNeg)] dX10_mend_24 rfl rfl (Nat.le_of_ble_eq_true rfl) mo_X10_bestPlace mv_X10_245 (Or.inl ⟨_, _, _, h_0 hS, rfl, rfl⟩) (Call_mono (by decide) qc9.1) ?_
    have hI := qc9.2
    refine to_istore_n (q := 28) [(2, .int r10), (0, .ref 0), (1, .int x1)] rfl (by decide) dX10_mend_27 rfl ?_
    refine to_aload_n (q := 29) rfl (by decide) dX10_mend_28 rfl ?_
    refine to_iload_n (q := 30) rfl dX10_mend_29 rfl ?_
    refine to_bipush (q := 32) bp_m2 dX10_mend_30 rfl ?_
    by_cases h12 : r10 = (-2 : Int32)
    · have hf := ite_pos h12 hf
      refine to_icF (q := 35) (op := .ne) 40 (fun z => z h12) dX10_mend_32 rfl rfl ?_
      refine to_bipush (q := 37) bp_m2 dX10_mend_35 rfl ?_
      refine to_goto (q := 57) dX10_mend_37 rfl ?_
      exact to_ext [] ext_nil (kX10_mend_57 hS hf hI)
    · have hf := ite_neg h12 hf
      refine to_icT (q := 40) (op := .ne) h12 dX10_mend_32 rfl ?_
      refine to_aload_n (q := 41) rfl (by decide) dX10_mend_40 rfl ?_
      refine to_getR (q := 44) (b := 88) (k0 := 10) (C := RX10) (T := TX10) (N := 17) (j := 9) rfl fx_X10_51 (h_0 hS) rfl (iv_0_9 hI) dX10_mend_41 rfl ?_
      refine to_aload_n (q := 45) rfl (by decide) dX10_mend_44 rfl ?_
      have hk13 : kd (rr m11 0 3) = 2 := (ivT hI).2
      refine to_getR (q := 48) (b := rr m11 0 3) (k0 := 10) (C := RX10) (T := TX10) (N := 17) (j := 3) rfl fx_X10_26 (h_0 hS) rfl ((ivT hI).1) dX10_mend_45 rfl ?_
      refine to_getR (q := 51) (b := (rr m11 0 3) + 4) (k0 := 2) (C := RX2) (T := TX2) (N := 14) (j := 8) rfl fx_X10_242 (sh_kd hS hk13 (by decide)) rfl (iv2i hI (hk13)) dX10_mend_48 rfl ?_
      refine to_iload_n (q := 52) rfl dX10_mend_51 rfl ?_
      obtain ⟨hb14, hf⟩ := ck_some hf
      refine to_aald (q := 53) (b := rr m11 0 3 + 19 + 2 * x1.toNatClampNeg) (sh_ln hS (kd2i (hk13)) (by decide)) (by decide) hb14 (ivI hI (hk13) hb14) dX10_mend_52 rfl ?_
      refine to_iload_n (q := 54) rfl dX10_mend_53 rfl ?_
      obtain ⟨r17, m18, hc15, hf⟩ := cl2_some hf
      have qc16 := kX7_strangeAt hS hc15 rfl (kdI (hk13) hb14) hI
      refine to_virtI (q := 57) mX7_strangeAt [.ref (rr m11 0 3 + 19 + 2 * x1.toNatClampNeg), .int r10] dX10_mend_54 rfl rfl (Nat.le_of_ble_eq_true rfl) mo_X7_strangeAt mv_X10_248 (Or.inl ⟨_, _, _, h_88 hS, rfl, rfl⟩) (Call_mono (by decide) qc16.1) ?_
      have hI := qc16.2
      exact to_ext [] ext_nil (kX10_mend_57 hS hf hI)
  · have hf := ite_neg h5 hf
    refine to_ifF (q := 8) (op := .eq) 14 h5 dX10_mend_5 rfl rfl ?_
    refine to_aload_n (q := 9) rfl (by decide) dX10_mend_8 rfl ?_
    refine to_iconst (q := 10) ic_1 dX10_mend_9 rfl ?_
    obtain ⟨r21, m22, hc19, hf⟩ := cl2_some hf
    have qc20 := kX10_refuse hS hc19 hI
    refine to_virtI (q := 13) mX10_refuse [.int (1 : Int32)] dX10_mend_10 rfl rfl (Nat.le_of_ble_eq_true rfl) mo_X10_refuse mv_X10_98 (Or.inl ⟨_, _, _, h_0 hS, rfl, rfl⟩) (Call_mono (by decide) qc20.1) ?_
    have hI := qc20.2
    cases hf
    exact to_iret dX10_mend_13 rfl rfl rfl rfl hI
def fX10_mendAt (x1 : Int32) (m : Me) : Option (Int32 × Me) := cl2 (fX10_noWish x1 m) fun r3 m4 => if r3 = (0 : Int32) then ck (inb x1 4) (cl2 (fX10_bestPlace (rr m4 0 3 + 19 + 2 * x1.toNatClampNeg) m4) fun r10 m11 => cl2 (fX10_answer r10 m11) fun r14 m15 => some (r14, m15)) else cl2 (fX10_refuse (1 : Int32) m4) fun r18 m19 => some (r18, m19)
set_option maxRecDepth 20000 in
theorem kX10_mendAt {S : Sh} (hS : ShOK S) {res : Int32 × Me} {x1 : Int32} {m : Me} (hf : fX10_mendAt x1 m = some res) (hI : Inv m) : Call 7 mX10_mendAt [.ref 0, .int x1] (S, m) (some (.int res.1)) (S, res.2) ∧ Inv res.2 := by
  refine call_of (P := InvS) (Nat.le_of_ble_eq_true rfl) (by simp [Value.category]) ?_
  show TT InvS (Call 6) mX10_mendAt (0, [(0, .ref 0), (1, .int x1)], [], S, m) _ _
  unfold fX10_mendAt at hf
  refine to_aload_n (q := 1) rfl (by decide) dX10_mendAt_0 rfl ?_
  refine to_iload_n (q := 2) rfl dX10_mendAt_1 rfl ?_
  obtain ⟨r3, m4, hc1, hf⟩ := cl2_some hf
  have qc2 := kX10_noWish hS hc1 hI
  refine to_virtI (q := 5) mX10_noWish [.int x1] dX10_mendAt_2 rfl rfl (Nat.le_of_ble_eq_true rfl) mo_X10_noWish mv_X10_230 (Or.inl ⟨_, _, _, h_0 hS, rfl, rfl⟩) (Call_mono (by decide) qc2.1) ?_
  have hI := qc2.2
  by_cases h5 : r3 = (0 : Int32)
  · have hf := ite_pos h5 hf
    refine to_ifT (q := 14) (op := .eq) h5 dX10_mendAt_5 rfl ?_
    refine to_aload_n (q := 15) rfl (by decide) dX10_mendAt_14 rfl ?_
    refine to_aload_n (q := 16) rfl (by decide) dX10_mendAt_15 rfl ?_
    refine to_aload_n (q := 17) rfl (by decide) dX10_mendAt_16 rfl ?_
    have hk6 : kd (rr m4 0 3) = 2 := (ivT hI).2
    refine to_getR (q := 20) (b := rr m4 0 3) (k0 := 10) (C := RX10) (T := TX10) (N := 17) (j := 3) rfl fx_X10_26 (h_0 hS) rfl ((ivT hI).1) dX10_mendAt_17 rfl ?_
    refine to_getR (q := 23) (b := (rr m4 0 3) + 4) (k0 := 2) (C := RX2) (T := TX2) (N := 14) (j := 8) rfl fx_X10_242 (sh_kd hS hk6 (by decide)) rfl (iv2i hI (hk6)) dX10_mendAt_20 rfl ?_
    refine to_iload_n (q := 24) rfl dX10_mendAt_23 rfl ?_
    obtain ⟨hb7, hf⟩ := ck_some hf
    refine to_aald (q := 25) (b := rr m4 0 3 + 19 + 2 * x1.toNatClampNeg) (sh_ln hS (kd2i (hk6)) (by decide)) (by decide) hb7 (ivI hI (hk6) hb7) dX10_mendAt_24 rfl ?_
    obtain ⟨r10, m11, hc8, hf⟩ := cl2_some hf
    have qc9 := kX10_bestPlace hS hc8 (kdI (hk6) hb7) hI
    refine to_virtI (q := 28) mX10_bestPlace [.ref (rr m4 0 3 + 19 + 2 * x1.toNatClampNeg)] dX10_mendAt_25 rfl rfl (Nat.le_of_ble_eq_true rfl) mo_X10_bestPlace mv_X10_245 (Or.inl ⟨_, _, _, h_0 hS, rfl, rfl⟩) (Call_mono (by decide) qc9.1) ?_
    have hI := qc9.2
    obtain ⟨r14, m15, hc12, hf⟩ := cl2_some hf
    have qc13 := kX10_answer hS hc12 hI
    refine to_virtI (q := 31) mX10_answer [.int r10] dX10_mendAt_28 rfl rfl (Nat.le_of_ble_eq_true rfl) mo_X10_answer mv_X10_135 (Or.inl ⟨_, _, _, h_0 hS, rfl, rfl⟩) (Call_mono (by decide) qc13.1) ?_
    have hI := qc13.2
    cases hf
    exact to_iret dX10_mendAt_31 rfl rfl rfl rfl hI
  · have hf := ite_neg h5 hf
    refine to_ifF (q := 8) (op := .eq) 14 h5 dX10_mendAt_5 rfl rfl ?_
    refine to_aload_n (q := 9) rfl (by decide) dX10_mendAt_8 rfl ?_
    refine to_iconst (q := 10) ic_1 dX10_mendAt_9 rfl ?_
    obtain ⟨r18, m19, hc16, hf⟩ := cl2_some hf
    have qc17 := kX10_refuse hS hc16 hI
    refine to_virtI (q := 13) mX10_refuse [.int (1 : Int32)] dX10_mendAt_10 rfl rfl (Nat.le_of_ble_eq_true rfl) mo_X10_refuse mv_X10_98 (Or.inl ⟨_, _, _, h_0 hS, rfl, rfl⟩) (Call_mono (by decide) qc17.1) ?_
    have hI := qc17.2
    cases hf
    exact to_iret dX10_mendAt_13 rfl rfl rfl rfl hI
def fX10_mendAll_34 (t0 : Int32) (m : Me) : Option (Int32 × Me) := some (t0, m)
set_option maxRecDepth 20000 in
theorem kX10_mendAll_34 {S : Sh} (hS : ShOK S) {res : Int32 × Me} {t0 : Int32} {m : Me} (hf : fX10_mendAll_34 t0 m = some res) (hI : Inv m) : TT InvS (Call 13) mX10_mendAll (34, [], [.int t0], S, m) (some (.int res.1)) (S, res.2) := by
  unfold fX10_mendAll_34 at hf
  cases hf
  exact to_iret dX10_mendAll_34 rfl rfl rfl rfl hI
def fX10_mendAll (m : Me) : Option (Int32 × Me) := if (m.1 0 4) = (0 : Int32) then cl2 (fX10_refuse (1 : Int32) m) fun r4 m5 => fX10_mendAll_34 r4 m5 else cl2 (fX3_fewestForAll (rr m 0 3) 81 m) fun r9 m10 => cl2 (fX10_answer r9 m10) fun r13 m14 => fX10_mendAll_34 r13 m14
set_option maxRecDepth 20000 in
theorem kX10_mendAll {S : Sh} (hS : ShOK S) {res : Int32 × Me} {m : Me} (hf : fX10_mendAll m = some res) (hI : Inv m) : Call 14 mX10_mendAll [.ref 0] (S, m) (some (.int res.1)) (S, res.2) ∧ Inv res.2 := by
  refine call_of (P := InvS) (Nat.le_of_ble_eq_true rfl) (by simp [Value.category]) ?_
  show TT InvS (Call 13) mX10_mendAll (0, [(0, .ref 0)], [], S, m) _ _
  unfold fX10_mendAll at hf
  refine to_aload_n (q := 1) rfl (by decide) dX10_mendAll_0 rfl ?_
  refine to_getI (q := 4) (k0 := 10) (C := RX10) (T := TX10) (N := 17) (j := 4) rfl fx_X10_110 (h_0 hS) rfl dX10_mendAll_1 rfl ?_
  by_cases h1 : (m.1 0 4) = (0 : Int32)
  · have hf := ite_pos h1 hf
    refine to_ifT (q := 29) (op := .eq) h1 dX10_mendAll_4 rfl ?_
    refine to_aload_n (q := 30) rfl (by decide) dX10_mendAll_29 rfl ?_
    refine to_iconst (q := 31) ic_1 dX10_mendAll_30 rfl ?_
    obtain ⟨r4, m5, hc2, hf⟩ := cl2_some hf
    have qc3 := kX10_refuse hS hc2 hI
    refine to_virtI (q := 34) mX10_refuse [.int (1 : Int32)] dX10_mendAll_31 rfl rfl (Nat.le_of_ble_eq_true rfl) mo_X10_refuse mv_X10_98 (Or.inl ⟨_, _, _, h_0 hS, rfl, rfl⟩) (Call_mono (by decide) qc3.1) ?_
    have hI := qc3.2
    exact to_ext [] ext_nil (kX10_mendAll_34 hS hf hI)
  · have hf := ite_neg h1 hf
    refine to_ifF (q := 7) (op := .eq) 29 h1 dX10_mendAll_4 rfl rfl ?_
    refine to_aload_n (q := 8) rfl (by decide) dX10_mendAll_7 rfl ?_
    refine to_aload_n (q := 9) rfl (by decide) dX10_mendAll_8 rfl ?_
    refine to_getR (q := 12) (b := 96) (k0 := 10) (C := RX10) (T := TX10) (N := 17) (j := 12) rfl fx_X10_68 (h_0 hS) rfl (iv_0_12 hI) dX10_mendAll_9 rfl ?_
    refine to_aload_n (q := 13) rfl (by decide) dX10_mendAll_12 rfl ?_
    have hk6 : kd (rr m 0 3) = 2 := (ivT hI).2
    refine to_getR (q := 16) (b := rr m 0 3) (k0 := 10) (C := RX10) (T := TX10) (N := 17) (j := 3) rfl fx_X10_26 (h_0 hS) rfl ((ivT hI).1) dX10_mendAll_13 rfl ?_
    refine to_aload_n (q := 17) rfl (by decide) dX10_mendAll_16 rfl ?_
    refine to_getR (q := 20) (b := 81) (k0 := 10) (C := RX10) (T := TX10) (N := 17) (j := 5) rfl fx_X10_33 (h_0 hS) rfl (iv_0_5 hI) dX10_mendAll_17 rfl ?_
    obtain ⟨r9, m10, hc7, hf⟩ := cl2_some hf
    have qc8 := kX3_fewestForAll hS hc7 (hk6) rfl hI
    refine to_virtI (q := 23) mX3_fewestForAll [.ref (rr m 0 3), .ref 81] dX10_mendAll_20 rfl rfl (Nat.le_of_ble_eq_true rfl) mo_X3_fewestForAll mv_X10_251 (Or.inl ⟨_, _, _, h_96 hS, rfl, rfl⟩) (Call_mono (by decide) qc8.1) ?_
    have hI := qc8.2
    obtain ⟨r13, m14, hc11, hf⟩ := cl2_some hf
    have qc12 := kX10_answer hS hc11 hI
    refine to_virtI (q := 26) mX10_answer [.int r9] dX10_mendAll_23 rfl rfl (Nat.le_of_ble_eq_true rfl) mo_X10_answer mv_X10_135 (Or.inl ⟨_, _, _, h_0 hS, rfl, rfl⟩) (Call_mono (by decide) qc12.1) ?_
    have hI := qc12.2
    refine to_goto (q := 34) dX10_mendAll_26 rfl ?_
    exact to_ext [] ext_nil (kX10_mendAll_34 hS hf hI)
def fX10_loses (x1 : Int32) (m : Me) : Option (Int32 × Me) := cl2 (fX10_noRib x1 m) fun r3 m4 => if r3 = (0 : Int32) then cl2 (fX5_lacksRib 81 x1 m4) fun r8 m9 => if r8 = (0 : Int32) then cl2 (fX10_keptBits (m9.1 81 1) m9) fun r13 m14 => cl2 (fX10_keptBits (((m14.1 81 1) ||| ((1 : Int32) <<< (x1 &&& 31)))) m14) fun r17 m18 => cl2 (fX10_answer ((r13 &&& (r17 ^^^ (-1 : Int32)))) m18) fun r21 m22 => some (r21, m22) else cl2 (fX10_refuse (5 : Int32) m9) fun r25 m26 => some (r25, m26) else cl2 (fX10_refuse (1 : Int32) m4) fun r29 m30 => some (r29, m30)
set_option maxRecDepth 20000 in
theorem kX10_loses {S : Sh} (hS : ShOK S) {res : Int32 × Me} {x1 : Int32} {m : Me} (hf : fX10_loses x1 m = some res) (hI : Inv m) : Call 7 mX10_loses [.ref 0, .int x1] (S, m) (some (.int res.1)) (S, res.2) ∧ Inv res.2 := by
  refine call_of (P := InvS) (Nat.le_of_ble_eq_true rfl) (by simp [Value.category]) ?_
  show TT InvS (Call 6) mX10_loses (0, [(0, .ref 0), (1, .int x1)], [], S, m) _ _
  unfold fX10_loses at hf
  refine to_aload_n (q := 1) rfl (by decide) dX10_loses_0 rfl ?_
  refine to_iload_n (q := 2) rfl dX10_loses_1 rfl ?_
  obtain ⟨r3, m4, hc1, hf⟩ := cl2_some hf
  have qc2 := kX10_noRib hS hc1 hI
  refine to_virtI (q := 5) mX10_noRib [.int x1] dX10_loses_2 rfl rfl (Nat.le_of_ble_eq_true rfl) mo_X10_noRib mv_X10_161 (Or.inl ⟨_, _, _, h_0 hS, rfl, rfl⟩) (Call_mono (by decide) qc2.1) ?_
  have hI := qc2.2
  by_cases h5 : r3 = (0 : Int32)
  · have hf := ite_pos h5 hf
    refine to_ifT (q := 14) (op := .eq) h5 dX10_loses_5 rfl ?_
    refine to_aload_n (q := 15) rfl (by decide) dX10_loses_14 rfl ?_
    refine to_getR (q := 18) (b := 81) (k0 := 10) (C := RX10) (T := TX10) (N := 17) (j := 5) rfl fx_X10_33 (h_0 hS) rfl (iv_0_5 hI) dX10_loses_15 rfl ?_
    refine to_iload_n (q := 19) rfl dX10_loses_18 rfl ?_
    obtain ⟨r8, m9, hc6, hf⟩ := cl2_some hf
    have qc7 := kX5_lacksRib hS hc6 rfl hI
    refine to_virtI (q := 22) mX5_lacksRib [.int x1] dX10_loses_19 rfl rfl (Nat.le_of_ble_eq_true rfl) mo_X5_lacksRib mv_X10_164 (Or.inl ⟨_, _, _, h_81 hS, rfl, rfl⟩) (Call_mono (by decide) qc7.1) ?_
    have hI := qc7.2
    by_cases h10 : r8 = (0 : Int32)
    · have hf := ite_pos h10 hf
      refine to_ifT (q := 31) (op := .eq) h10 dX10_loses_22 rfl ?_
      refine to_aload_n (q := 32) rfl (by decide) dX10_loses_31 rfl ?_
      refine to_aload_n (q := 33) rfl (by decide) dX10_loses_32 rfl ?_
      refine to_getR (q := 36) (b := 81) (k0 := 10) (C := RX10) (T := TX10) (N := 17) (j := 5) rfl fx_X10_33 (h_0 hS) rfl (iv_0_5 hI) dX10_loses_33 rfl ?_
      refine to_getI (q := 39) (k0 := 5) (C := RX5) (T := TX5) (N := 3) (j := 1) rfl fx_X10_233 (h_81 hS) rfl dX10_loses_36 rfl ?_
      obtain ⟨r13, m14, hc11, hf⟩ := cl2_some hf
      have qc12 := kX10_keptBits hS hc11 hI
      refine to_virtI (q := 42) mX10_keptBits [.int (m9.1 81 1)] dX10_loses_39 rfl rfl (Nat.le_of_ble_eq_true rfl) mo_X10_keptBits mv_X10_236 (Or.inl ⟨_, _, _, h_0 hS, rfl, rfl⟩) (Call_mono (by decide) qc12.1) ?_
      have hI := qc12.2
      refine to_istore_n (q := 43) [(2, .int r13), (0, .ref 0), (1, .int x1)] rfl (by decide) dX10_loses_42 rfl ?_
      refine to_aload_n (q := 44) rfl (by decide) dX10_loses_43 rfl ?_
      refine to_aload_n (q := 45) rfl (by decide) dX10_loses_44 rfl ?_
      refine to_getR (q := 48) (b := 81) (k0 := 10) (C := RX10) (T := TX10) (N := 17) (j := 5) rfl fx_X10_33 (h_0 hS) rfl (iv_0_5 hI) dX10_loses_45 rfl ?_
      refine to_getI (q := 51) (k0 := 5) (C := RX5) (T := TX5) (N := 3) (j := 1) rfl fx_X10_233 (h_81 hS) rfl dX10_loses_48 rfl ?_
      refine to_iconst (q := 52) ic_1 dX10_loses_51 rfl ?_
      refine to_iload_n (q := 53) rfl dX10_loses_52 rfl ?_
      refine to_ishl (q := 54) dX10_loses_53 rfl ?_
      refine to_ior (q := 55) dX10_loses_54 rfl ?_
      obtain ⟨r17, m18, hc15, hf⟩ := cl2_some hf
      have qc16 := kX10_keptBits hS hc15 hI
      refine to_virtI (q := 58) mX10_keptBits [.int ((m14.1 81 1) ||| ((1 : Int32) <<< (x1 &&& 31)))] dX10_loses_55 rfl rfl (Nat.le_of_ble_eq_true rfl) mo_X10_keptBits mv_X10_236 (Or.inl ⟨_, _, _, h_0 hS, rfl, rfl⟩) (Call_mono (by decide) qc16.1) ?_
      have hI := qc16.2
      refine to_istore_n (q := 59) [(3, .int r17), (2, .int r13), (0, .ref 0), (1, .int x1)] rfl (by decide) dX10_loses_58 rfl ?_
      refine to_aload_n (q := 60) rfl (by decide) dX10_loses_59 rfl ?_
      refine to_iload_n (q := 61) rfl dX10_loses_60 rfl ?_
      refine to_iload_n (q := 62) rfl dX10_loses_61 rfl ?_
      refine to_iconst (q := 63) ic_m1 dX10_loses_62 rfl ?_
      refine to_ixor (q := 64) dX10_loses_63 rfl ?_
      refine to_iand (q := 65) dX10_loses_64 rfl ?_
      obtain ⟨r21, m22, hc19, hf⟩ := cl2_some hf
      have qc20 := kX10_answer hS hc19 hI
      refine to_virtI (q := 68) mX10_answer [.int (r13 &&& (r17 ^^^ (-1 : Int32)))] dX10_loses_65 rfl rfl (Nat.le_of_ble_eq_true rfl) mo_X10_answer mv_X10_135 (Or.inl ⟨_, _, _, h_0 hS, rfl, rfl⟩) (Call_mono (by decide) qc20.1) ?_
      have hI := qc20.2
      cases hf
      exact to_iret dX10_loses_68 rfl rfl rfl rfl hI
    · have hf := ite_neg h10 hf
      refine to_ifF (q := 25) (op := .eq) 31 h10 dX10_loses_22 rfl rfl ?_
      refine to_aload_n (q := 26) rfl (by decide) dX10_loses_25 rfl ?_
      refine to_iconst (q := 27) ic_5 dX10_loses_26 rfl ?_
      obtain ⟨r25, m26, hc23, hf⟩ := cl2_some hf
      have qc24 := kX10_refuse hS hc23 hI
      refine to_virtI (q := 30) mX10_refuse [.int (5 : Int32)] dX10_loses_27 rfl rfl (Nat.le_of_ble_eq_true rfl) mo_X10_refuse mv_X10_98 (Or.inl ⟨_, _, _, h_0 hS, rfl, rfl⟩) (Call_mono (by decide) qc24.1) ?_
      have hI := qc24.2
      cases hf
      exact to_iret dX10_loses_30 rfl rfl rfl rfl hI
  · have hf := ite_neg h5 hf
    refine to_ifF (q := 8) (op := .eq) 14 h5 dX10_loses_5 rfl rfl ?_
    refine to_aload_n (q := 9) rfl (by decide) dX10_loses_8 rfl ?_
    refine to_iconst (q := 10) ic_1 dX10_loses_9 rfl ?_
    obtain ⟨r29, m30, hc27, hf⟩ := cl2_some hf
    have qc28 := kX10_refuse hS hc27 hI
    refine to_virtI (q := 13) mX10_refuse [.int (1 : Int32)] dX10_loses_10 rfl rfl (Nat.le_of_ble_eq_true rfl) mo_X10_refuse mv_X10_98 (Or.inl ⟨_, _, _, h_0 hS, rfl, rfl⟩) (Call_mono (by decide) qc28.1) ?_
    have hI := qc28.2
    cases hf
    exact to_iret dX10_loses_13 rfl rfl rfl rfl hI
def fX10_firstViewWithout_91 (k29 : Nat → Int32 → Int32 → Me → Option (Int32 × Me)) (k44 : Nat → Int32 → Int32 → Int32 → Me → Option (Int32 × Me)) (a2 : Nat) (x3 : Int32) (x4 : Int32) (x5 : Int32) (m : Me) : Option (Int32 × Me) := k44 a2 x3 x4 ((x5 + (1 : Int32))) m
set_option maxRecDepth 20000 in
theorem kX10_firstViewWithout_91 {S : Sh} (hS : ShOK S) {res : Int32 × Me} {k29 : Nat → Int32 → Int32 → Me → Option (Int32 × Me)} (hk29 : ∀ {a2 : Nat} {x3 : Int32} {x4 : Int32} {m : Me}, k29 a2 x3 x4 m = some res → kd a2 = 8 → Inv m → TT InvS (Call 5) mX10_firstViewWithout (29, [(0, .ref 0), (2, .ref a2), (3, .int x3), (4, .int x4)], [], S, m) (some (.int res.1)) (S, res.2)) {k44 : Nat → Int32 → Int32 → Int32 → Me → Option (Int32 × Me)} (hk44 : ∀ {a2 : Nat} {x3 : Int32} {x4 : Int32} {x5 : Int32} {m : Me}, k44 a2 x3 x4 x5 m = some res → kd a2 = 8 → Inv m → TT InvS (Call 5) mX10_firstViewWithout (44, [(0, .ref 0), (2, .ref a2), (3, .int x3), (4, .int x4), (5, .int x5)], [], S, m) (some (.int res.1)) (S, res.2)) {a2 : Nat} {x3 : Int32} {x4 : Int32} {x5 : Int32} {m : Me} (hf : fX10_firstViewWithout_91 k29 k44 a2 x3 x4 x5 m = some res) (ha2 : kd a2 = 8) (hI : Inv m) : TT InvS (Call 5) mX10_firstViewWithout (91, [(0, .ref 0), (2, .ref a2), (3, .int x3), (4, .int x4), (5, .int x5)], [], S, m) (some (.int res.1)) (S, res.2) := by
  unfold fX10_firstViewWithout_91 at hf
  refine to_iinc (q := 94) (v := (x5 + (1 : Int32))) rfl (congrArg (fun z => x5 + z) ic_1) [(5, .int (x5 + (1 : Int32))), (0, .ref 0), (2, .ref a2), (3, .int x3), (4, .int x4)] rfl (by decide) dX10_firstViewWithout_91 rfl ?_
  refine to_goto (q := 44) dX10_firstViewWithout_94 rfl ?_
  exact to_ext [(0, .ref 0), (2, .ref a2), (3, .int x3), (4, .int x4), (5, .int (x5 + (1 : Int32)))] (ext_cons rfl (ext_cons rfl (ext_cons rfl (ext_cons rfl (ext_cons rfl ext_nil))))) (hk44 hf (ha2) hI)
def fX10_firstViewWithout_44 (n : Nat) (k29 : Nat → Int32 → Int32 → Me → Option (Int32 × Me)) (a2 : Nat) (x3 : Int32) (x4 : Int32) (x5 : Int32) (m : Me) : Option (Int32 × Me) := match n with
  | 0 => none
  | n + 1 => if (1 : Int32) < x5 then k29 a2 x3 ((x4 + (1 : Int32))) m else cl2 (fX10_isReadIf x3 a2 x5 x4 m) fun r15 m16 => if r15 = (0 : Int32) then fX10_firstViewWithout_91 k29 (fX10_firstViewWithout_44 n k29) a2 x3 x4 x5 m16 else cl2 (fX10_isReadIf (m16.1 81 1) a2 x5 x4 m16) fun r20 m21 => if r20 = (0 : Int32) then some ((((50 : Int32) * x5) + x4), m21) else fX10_firstViewWithout_91 k29 (fX10_firstViewWithout_44 n k29) a2 x3 x4 x5 m21
set_option maxRecDepth 20000 in
theorem kX10_firstViewWithout_44 {S : Sh} (hS : ShOK S) {res : Int32 × Me} {k29 : Nat → Int32 → Int32 → Me → Option (Int32 × Me)} (hk29 : ∀ {a2 : Nat} {x3 : Int32} {x4 : Int32} {m : Me}, k29 a2 x3 x4 m = some res → kd a2 = 8 → Inv m → TT InvS (Call 5) mX10_firstViewWithout (29, [(0, .ref 0), (2, .ref a2), (3, .int x3), (4, .int x4)], [], S, m) (some (.int res.1)) (S, res.2)) (n : Nat) : ∀ {a2 : Nat} {x3 : Int32} {x4 : Int32} {x5 : Int32} {m : Me}, fX10_firstViewWithout_44 n k29 a2 x3 x4 x5 m = some res → kd a2 = 8 → Inv m → TT InvS (Call 5) mX10_firstViewWithout (44, [(0, .ref 0), (2, .ref a2), (3, .int x3), (4, .int x4), (5, .int x5)], [], S, m) (some (.int res.1)) (S, res.2) := by
  induction n with
  | zero => intro a2 x3 x4 x5 m hf; cases hf
  | succ n ih =>
    intro a2 x3 x4 x5 m hf ha2 hI
    unfold fX10_firstViewWithout_44 at hf
    refine to_iload (q := 46) rfl dX10_firstViewWithout_44 rfl ?_
    refine to_iconst (q := 47) ic_1 dX10_firstViewWithout_46 rfl ?_
    by_cases h12 : (1 : Int32) < x5
    · have hf := ite_pos h12 hf
      refine to_icT (q := 97) (op := .gt) h12 dX10_firstViewWithout_47 rfl ?_
      refine to_iinc (q := 100) (v := (x4 + (1 : Int32))) rfl (congrArg (fun z => x4 + z) ic_1) [(4, .int (x4 + (1 : Int32))), (0, .ref 0), (2, .ref a2), (3, .int x3), (5, .int x5)] rfl (by decide) dX10_firstViewWithout_97 rfl ?_
      refine to_goto (q := 29) dX10_firstViewWithout_100 rfl ?_
      exact to_ext [(0, .ref 0), (2, .ref a2), (3, .int x3), (4, .int (x4 + (1 : Int32)))] (ext_cons rfl (ext_cons rfl (ext_cons rfl (ext_cons rfl ext_nil)))) (hk29 hf (ha2) hI)
    · have hf := ite_neg h12 hf
      refine to_icF (q := 50) (op := .gt) 97 h12 dX10_firstViewWithout_47 rfl rfl ?_
      refine to_aload_n (q := 51) rfl (by decide) dX10_firstViewWithout_50 rfl ?_
      refine to_iload_n (q := 52) rfl dX10_firstViewWithout_51 rfl ?_
      refine to_aload_n (q := 53) rfl (kd_4 (ha2) (by decide)) dX10_firstViewWithout_52 rfl ?_
      refine to_iload (q := 55) rfl dX10_firstViewWithout_53 rfl ?_
      refine to_iload (q := 57) rfl dX10_firstViewWithout_55 rfl ?_
      obtain ⟨r15, m16, hc13, hf⟩ := cl2_some hf
      have qc14 := kX10_isReadIf hS hc13 (ha2) hI
      refine to_virtI (q := 60) mX10_isReadIf [.int x3, .ref a2, .int x5, .int x4] dX10_firstViewWithout_57 rfl rfl (Nat.le_of_ble_eq_true rfl) mo_X10_isReadIf mv_X10_377 (Or.inl ⟨_, _, _, h_0 hS, rfl, rfl⟩) (Call_mono (by decide) qc14.1) ?_
      have hI := qc14.2
      by_cases h17 : r15 = (0 : Int32)
      · have hf := ite_pos h17 hf
        refine to_ifT (q := 91) (op := .eq) h17 dX10_firstViewWithout_60 rfl ?_
        exact to_ext [(0, .ref 0), (2, .ref a2), (3, .int x3), (4, .int x4), (5, .int x5)] (ext_cons rfl (ext_cons rfl (ext_cons rfl (ext_cons rfl (ext_cons rfl ext_nil))))) (kX10_firstViewWithout_91 hS hk29 ih hf (ha2) hI)
      · have hf := ite_neg h17 hf
        refine to_ifF (q := 63) (op := .eq) 91 h17 dX10_firstViewWithout_60 rfl rfl ?_
        refine to_aload_n (q := 64) rfl (by decide) dX10_firstViewWithout_63 rfl ?_
        refine to_aload_n (q := 65) rfl (by decide) dX10_firstViewWithout_64 rfl ?_
        refine to_getR (q := 68) (b := 81) (k0 := 10) (C := RX10) (T := TX10) (N := 17) (j := 5) rfl fx_X10_33 (h_0 hS) rfl (iv_0_5 hI) dX10_firstViewWithout_65 rfl ?_
        refine to_getI (q := 71) (k0 := 5) (C := RX5) (T := TX5) (N := 3) (j := 1) rfl fx_X10_233 (h_81 hS) rfl dX10_firstViewWithout_68 rfl ?_
        refine to_aload_n (q := 72) rfl (kd_4 (ha2) (by decide)) dX10_firstViewWithout_71 rfl ?_
        refine to_iload (q := 74) rfl dX10_firstViewWithout_72 rfl ?_
        refine to_iload (q := 76) rfl dX10_firstViewWithout_74 rfl ?_
        obtain ⟨r20, m21, hc18, hf⟩ := cl2_some hf
        have qc19 := kX10_isReadIf hS hc18 (ha2) hI
        refine to_virtI (q := 79) mX10_isReadIf [.int (m16.1 81 1), .ref a2, .int x5, .int x4] dX10_firstViewWithout_76 rfl rfl (Nat.le_of_ble_eq_true rfl) mo_X10_isReadIf mv_X10_377 (Or.inl ⟨_, _, _, h_0 hS, rfl, rfl⟩) (Call_mono (by decide) qc19.1) ?_
        have hI := qc19.2
        by_cases h22 : r20 = (0 : Int32)
        · have hf := ite_pos h22 hf
          refine to_ifF (q := 82) (op := .ne) 91 (fun z => z h22) dX10_firstViewWithout_79 rfl rfl ?_
          refine to_bipush (q := 84) bp_50 dX10_firstViewWithout_82 rfl ?_
          refine to_iload (q := 86) rfl dX10_firstViewWithout_84 rfl ?_
          refine to_imul (q := 87) dX10_firstViewWithout_86 rfl ?_
          refine to_iload (q := 89) rfl dX10_firstViewWithout_87 rfl ?_
          refine to_iadd (q := 90) dX10_firstViewWithout_89 rfl ?_
          cases hf
          exact to_iret dX10_firstViewWithout_90 rfl rfl rfl rfl hI
        · have hf := ite_neg h22 hf
          refine to_ifT (q := 91) (op := .ne) h22 dX10_firstViewWithout_79 rfl ?_
          exact to_ext [(0, .ref 0), (2, .ref a2), (3, .int x3), (4, .int x4), (5, .int x5)] (ext_cons rfl (ext_cons rfl (ext_cons rfl (ext_cons rfl (ext_cons rfl ext_nil))))) (kX10_firstViewWithout_91 hS hk29 ih hf (ha2) hI)
def fX10_firstViewWithout_29 (n : Nat) (a2 : Nat) (x3 : Int32) (x4 : Int32) (m : Me) : Option (Int32 × Me) := match n with
  | 0 => none
  | n + 1 => cl2 (fX2_openings (rr m 0 3) m) fun r9 m10 => if r9 ≤ x4 then some ((-2 : Int32), m10) else fX10_firstViewWithout_44 FU (fX10_firstViewWithout_29 n) a2 x3 x4 ((0 : Int32)) m10
set_option maxRecDepth 20000 in
theorem kX10_firstViewWithout_29 {S : Sh} (hS : ShOK S) {res : Int32 × Me} (n : Nat) : ∀ {a2 : Nat} {x3 : Int32} {x4 : Int32} {m : Me}, fX10_firstViewWithout_29 n a2 x3 x4 m = some res → kd a2 = 8 → Inv m → TT InvS (Call 5) mX10_firstViewWithout (29, [(0, .ref 0), (2, .ref a2), (3, .int x3), (4, .int x4)], [], S, m) (some (.int res.1)) (S, res.2) := by
  induction n with
  | zero => intro a2 x3 x4 m hf; cases hf
  | succ n ih =>
    intro a2 x3 x4 m hf ha2 hI
    unfold fX10_firstViewWithout_29 at hf
    refine to_iload (q := 31) rfl dX10_firstViewWithout_29 rfl ?_
    refine to_aload_n (q := 32) rfl (by decide) dX10_firstViewWithout_31 rfl ?_
    have hk6 : kd (rr m 0 3) = 2 := (ivT hI).2
    refine to_getR (q := 35) (b := rr m 0 3) (k0 := 10) (C := RX10) (T := TX10) (N := 17) (j := 3) rfl fx_X10_26 (h_0 hS) rfl ((ivT hI).1) dX10_firstViewWithout_32 rfl ?_
    obtain ⟨r9, m10, hc7, hf⟩ := cl2_some hf
    have qc8 := kX2_openings hS hc7 (hk6) hI
    refine to_virtI (q := 38) mX2_openings [] dX10_firstViewWithout_35 rfl rfl (Nat.le_of_ble_eq_true rfl) mo_X2_openings mv_X10_131 (Or.inl ⟨_, _, _, sh_kd hS hk6 (by decide), rfl, rfl⟩) (Call_mono (by decide) qc8.1) ?_
    have hI := qc8.2
    by_cases h11 : r9 ≤ x4
    · have hf := ite_pos h11 hf
      refine to_icT (q := 103) (op := .ge) h11 dX10_firstViewWithout_38 rfl ?_
      refine to_bipush (q := 105) bp_m2 dX10_firstViewWithout_103 rfl ?_
      cases hf
      exact to_iret dX10_firstViewWithout_105 rfl rfl rfl rfl hI
    · have hf := ite_neg h11 hf
      refine to_icF (q := 41) (op := .ge) 103 h11 dX10_firstViewWithout_38 rfl rfl ?_
      refine to_iconst (q := 42) ic_0 dX10_firstViewWithout_41 rfl ?_
      refine to_istore (q := 44) [(5, .int (0 : Int32)), (0, .ref 0), (2, .ref a2), (3, .int x3), (4, .int x4)] rfl (by decide) dX10_firstViewWithout_42 rfl ?_
      exact to_ext [(0, .ref 0), (2, .ref a2), (3, .int x3), (4, .int x4), (5, .int (0 : Int32))] (ext_cons rfl (ext_cons rfl (ext_cons rfl (ext_cons rfl (ext_cons rfl ext_nil))))) (kX10_firstViewWithout_44 hS ih FU hf (ha2) hI)
def fX10_firstViewWithout (x1 : Int32) (a2 : Nat) (m : Me) : Option (Int32 × Me) := cl2 (fX5_lacksRib 81 x1 m) fun r3 m4 => if r3 = (0 : Int32) then fX10_firstViewWithout_29 FU a2 (((m4.1 81 1) ||| ((1 : Int32) <<< (x1 &&& 31)))) ((0 : Int32)) m4 else some ((-2 : Int32), m4)
set_option maxRecDepth 20000 in
theorem kX10_firstViewWithout {S : Sh} (hS : ShOK S) {res : Int32 × Me} {x1 : Int32} {a2 : Nat} {m : Me} (hf : fX10_firstViewWithout x1 a2 m = some res) (ha2 : kd a2 = 8) (hI : Inv m) : Call 6 mX10_firstViewWithout [.ref 0, .int x1, .ref a2] (S, m) (some (.int res.1)) (S, res.2) ∧ Inv res.2 := by
  refine call_of (P := InvS) (Nat.le_of_ble_eq_true rfl) (by simp [Value.category]) ?_
  show TT InvS (Call 5) mX10_firstViewWithout (0, [(0, .ref 0), (1, .int x1), (2, .ref a2)], [], S, m) _ _
  unfold fX10_firstViewWithout at hf
  refine to_aload_n (q := 1) rfl (by decide) dX10_firstViewWithout_0 rfl ?_
  refine to_getR (q := 4) (b := 81) (k0 := 10) (C := RX10) (T := TX10) (N := 17) (j := 5) rfl fx_X10_33 (h_0 hS) rfl (iv_0_5 hI) dX10_firstViewWithout_1 rfl ?_
  refine to_iload_n (q := 5) rfl dX10_firstViewWithout_4 rfl ?_
  obtain ⟨r3, m4, hc1, hf⟩ := cl2_some hf
  have qc2 := kX5_lacksRib hS hc1 rfl hI
  refine to_virtI (q := 8) mX5_lacksRib [.int x1] dX10_firstViewWithout_5 rfl rfl (Nat.le_of_ble_eq_true rfl) mo_X5_lacksRib mv_X10_164 (Or.inl ⟨_, _, _, h_81 hS, rfl, rfl⟩) (Call_mono (by decide) qc2.1) ?_
  have hI := qc2.2
  by_cases h5 : r3 = (0 : Int32)
  · have hf := ite_pos h5 hf
    refine to_ifT (q := 14) (op := .eq) h5 dX10_firstViewWithout_8 rfl ?_
    refine to_aload_n (q := 15) rfl (by decide) dX10_firstViewWithout_14 rfl ?_
    refine to_getR (q := 18) (b := 81) (k0 := 10) (C := RX10) (T := TX10) (N := 17) (j := 5) rfl fx_X10_33 (h_0 hS) rfl (iv_0_5 hI) dX10_firstViewWithout_15 rfl ?_
    refine to_getI (q := 21) (k0 := 5) (C := RX5) (T := TX5) (N := 3) (j := 1) rfl fx_X10_233 (h_81 hS) rfl dX10_firstViewWithout_18 rfl ?_
    refine to_iconst (q := 22) ic_1 dX10_firstViewWithout_21 rfl ?_
    refine to_iload_n (q := 23) rfl dX10_firstViewWithout_22 rfl ?_
    refine to_ishl (q := 24) dX10_firstViewWithout_23 rfl ?_
    refine to_ior (q := 25) dX10_firstViewWithout_24 rfl ?_
    refine to_istore_n (q := 26) [(3, .int ((m4.1 81 1) ||| ((1 : Int32) <<< (x1 &&& 31)))), (0, .ref 0), (1, .int x1), (2, .ref a2)] rfl (by decide) dX10_firstViewWithout_25 rfl ?_
    refine to_iconst (q := 27) ic_0 dX10_firstViewWithout_26 rfl ?_
    refine to_istore (q := 29) [(4, .int (0 : Int32)), (3, .int ((m4.1 81 1) ||| ((1 : Int32) <<< (x1 &&& 31)))), (0, .ref 0), (1, .int x1), (2, .ref a2)] rfl (by decide) dX10_firstViewWithout_27 rfl ?_
    exact to_ext [(0, .ref 0), (2, .ref a2), (3, .int ((m4.1 81 1) ||| ((1 : Int32) <<< (x1 &&& 31)))), (4, .int (0 : Int32))] (ext_cons rfl (ext_cons rfl (ext_cons rfl (ext_cons rfl ext_nil)))) (kX10_firstViewWithout_29 hS FU hf (ha2) hI)
  · have hf := ite_neg h5 hf
    refine to_ifF (q := 11) (op := .eq) 14 h5 dX10_firstViewWithout_8 rfl rfl ?_
    refine to_bipush (q := 13) bp_m2 dX10_firstViewWithout_11 rfl ?_
    cases hf
    exact to_iret dX10_firstViewWithout_13 rfl rfl rfl rfl hI
def fX10_treaty_61 (t0 : Int32) (m : Me) : Option (Int32 × Me) := cl2 (fX10_answer t0 m) fun r26 m27 => some (r26, m27)
set_option maxRecDepth 20000 in
theorem kX10_treaty_61 {S : Sh} (hS : ShOK S) {res : Int32 × Me} {t0 : Int32} {m : Me} (hf : fX10_treaty_61 t0 m = some res) (hI : Inv m) : TT InvS (Call 6) mX10_treaty (61, [], [.int t0, .ref 0], S, m) (some (.int res.1)) (S, res.2) := by
  unfold fX10_treaty_61 at hf
  obtain ⟨r26, m27, hc24, hf⟩ := cl2_some hf
  have qc25 := kX10_answer hS hc24 hI
  refine to_virtI (q := 64) mX10_answer [.int t0] dX10_treaty_61 rfl rfl (Nat.le_of_ble_eq_true rfl) mo_X10_answer mv_X10_135 (Or.inl ⟨_, _, _, h_0 hS, rfl, rfl⟩) (Call_mono (by decide) qc25.1) ?_
  have hI := qc25.2
  cases hf
  exact to_iret dX10_treaty_64 rfl rfl rfl rfl hI
def fX10_treaty_16 (n : Nat) (x1 : Int32) (x2 : Int32) (x3 : Int32) (m : Me) : Option (Int32 × Me) := match n with
  | 0 => none
  | n + 1 => if (m.1 (rr m 0 3) 0) ≤ x3 then cl2 (fX10_answer (-2 : Int32) m) fun r14 m15 => some (r14, m15) else ck (inb x1 6) (cl2 (fX10_firstViewWithout x3 (rr m 0 3 + 7 + 2 * x1.toNatClampNeg) m) fun r20 m21 => if r20 = (-2 : Int32) then fX10_treaty_16 n x1 x2 ((x3 + (1 : Int32))) m21 else if x2 = (0 : Int32) then fX10_treaty_61 x3 m21 else fX10_treaty_61 r20 m21)
set_option maxRecDepth 20000 in
theorem kX10_treaty_16 {S : Sh} (hS : ShOK S) {res : Int32 × Me} (n : Nat) : ∀ {x1 : Int32} {x2 : Int32} {x3 : Int32} {m : Me}, fX10_treaty_16 n x1 x2 x3 m = some res → Inv m → TT InvS (Call 6) mX10_treaty (16, [(0, .ref 0), (1, .int x1), (2, .int x2), (3, .int x3)], [], S, m) (some (.int res.1)) (S, res.2) := by
  induction n with
  | zero => intro x1 x2 x3 m hf; cases hf
  | succ n ih =>
    intro x1 x2 x3 m hf  hI
    unfold fX10_treaty_16 at hf
    refine to_iload_n (q := 17) rfl dX10_treaty_16 rfl ?_
    refine to_aload_n (q := 18) rfl (by decide) dX10_treaty_17 rfl ?_
    have hk10 : kd (rr m 0 3) = 2 := (ivT hI).2
    refine to_getR (q := 21) (b := rr m 0 3) (k0 := 10) (C := RX10) (T := TX10) (N := 17) (j := 3) rfl fx_X10_26 (h_0 hS) rfl ((ivT hI).1) dX10_treaty_18 rfl ?_
    refine to_getI (q := 24) (k0 := 2) (C := RX2) (T := TX2) (N := 14) (j := 0) rfl fx_X10_190 (sh_kd hS hk10 (by decide)) rfl dX10_treaty_21 rfl ?_
    by_cases h11 : (m.1 (rr m 0 3) 0) ≤ x3
    · have hf := ite_pos h11 hf
      refine to_icT (q := 71) (op := .ge) h11 dX10_treaty_24 rfl ?_
      refine to_aload_n (q := 72) rfl (by decide) dX10_treaty_71 rfl ?_
      refine to_bipush (q := 74) bp_m2 dX10_treaty_72 rfl ?_
      obtain ⟨r14, m15, hc12, hf⟩ := cl2_some hf
      have qc13 := kX10_answer hS hc12 hI
      refine to_virtI (q := 77) mX10_answer [.int (-2 : Int32)] dX10_treaty_74 rfl rfl (Nat.le_of_ble_eq_true rfl) mo_X10_answer mv_X10_135 (Or.inl ⟨_, _, _, h_0 hS, rfl, rfl⟩) (Call_mono (by decide) qc13.1) ?_
      have hI := qc13.2
      cases hf
      exact to_iret dX10_treaty_77 rfl rfl rfl rfl hI
    · have hf := ite_neg h11 hf
      refine to_icF (q := 27) (op := .ge) 71 h11 dX10_treaty_24 rfl rfl ?_
      refine to_aload_n (q := 28) rfl (by decide) dX10_treaty_27 rfl ?_
      refine to_iload_n (q := 29) rfl dX10_treaty_28 rfl ?_
      refine to_aload_n (q := 30) rfl (by decide) dX10_treaty_29 rfl ?_
      have hk16 : kd (rr m 0 3) = 2 := (ivT hI).2
      refine to_getR (q := 33) (b := rr m 0 3) (k0 := 10) (C := RX10) (T := TX10) (N := 17) (j := 3) rfl fx_X10_26 (h_0 hS) rfl ((ivT hI).1) dX10_treaty_30 rfl ?_
      refine to_getR (q := 36) (b := (rr m 0 3) + 3) (k0 := 2) (C := RX2) (T := TX2) (N := 14) (j := 6) rfl fx_X10_202 (sh_kd hS hk16 (by decide)) rfl (iv2w hI (hk16)) dX10_treaty_33 rfl ?_
      refine to_iload_n (q := 37) rfl dX10_treaty_36 rfl ?_
      obtain ⟨hb17, hf⟩ := ck_some hf
      refine to_aald (q := 38) (b := rr m 0 3 + 7 + 2 * x1.toNatClampNeg) (sh_ln hS (kd2w (hk16)) (by decide)) (by decide) hb17 (ivW hI (hk16) hb17) dX10_treaty_37 rfl ?_
      obtain ⟨r20, m21, hc18, hf⟩ := cl2_some hf
      have qc19 := kX10_firstViewWithout hS hc18 (kdW (hk16) hb17) hI
      refine to_virtI (q := 41) mX10_firstViewWithout [.int x3, .ref (rr m 0 3 + 7 + 2 * x1.toNatClampNeg)] dX10_treaty_38 rfl rfl (Nat.le_of_ble_eq_true rfl) mo_X10_firstViewWithout mv_X10_255 (Or.inl ⟨_, _, _, h_0 hS, rfl, rfl⟩) (Call_mono (by decide) qc19.1) ?_
      have hI := qc19.2
      refine to_istore (q := 43) [(4, .int r20), (0, .ref 0), (1, .int x1), (2, .int x2), (3, .int x3)] rfl (by decide) dX10_treaty_41 rfl ?_
      refine to_iload (q := 45) rfl dX10_treaty_43 rfl ?_
      refine to_bipush (q := 47) bp_m2 dX10_treaty_45 rfl ?_
      by_cases h22 : r20 = (-2 : Int32)
      · have hf := ite_pos h22 hf
        refine to_icT (q := 65) (op := .eq) h22 dX10_treaty_47 rfl ?_
        refine to_iinc (q := 68) (v := (x3 + (1 : Int32))) rfl (congrArg (fun z => x3 + z) ic_1) [(3, .int (x3 + (1 : Int32))), (4, .int r20), (0, .ref 0), (1, .int x1), (2, .int x2)] rfl (by decide) dX10_treaty_65 rfl ?_
        refine to_goto (q := 16) dX10_treaty_68 rfl ?_
        exact to_ext [(0, .ref 0), (1, .int x1), (2, .int x2), (3, .int (x3 + (1 : Int32)))] (ext_cons rfl (ext_cons rfl (ext_cons rfl (ext_cons rfl ext_nil)))) (ih hf hI)
      · have hf := ite_neg h22 hf
        refine to_icF (q := 50) (op := .eq) 65 h22 dX10_treaty_47 rfl rfl ?_
        refine to_aload_n (q := 51) rfl (by decide) dX10_treaty_50 rfl ?_
        refine to_iload_n (q := 52) rfl dX10_treaty_51 rfl ?_
        by_cases h23 : x2 = (0 : Int32)
        · have hf := ite_pos h23 hf
          refine to_ifT (q := 60) (op := .eq) h23 dX10_treaty_52 rfl ?_
          refine to_iload_n (q := 61) rfl dX10_treaty_60 rfl ?_
          exact to_ext [] ext_nil (kX10_treaty_61 hS hf hI)
        · have hf := ite_neg h23 hf
          refine to_ifF (q := 55) (op := .eq) 60 h23 dX10_treaty_52 rfl rfl ?_
          refine to_iload (q := 57) rfl dX10_treaty_55 rfl ?_
          refine to_goto (q := 61) dX10_treaty_57 rfl ?_
          exact to_ext [] ext_nil (kX10_treaty_61 hS hf hI)
def fX10_treaty (x1 : Int32) (x2 : Int32) (m : Me) : Option (Int32 × Me) := cl2 (fX10_noWord x1 m) fun r3 m4 => if r3 = (0 : Int32) then fX10_treaty_16 FU x1 x2 ((0 : Int32)) m4 else cl2 (fX10_refuse (1 : Int32) m4) fun r8 m9 => some (r8, m9)
set_option maxRecDepth 20000 in
theorem kX10_treaty {S : Sh} (hS : ShOK S) {res : Int32 × Me} {x1 : Int32} {x2 : Int32} {m : Me} (hf : fX10_treaty x1 x2 m = some res) (hI : Inv m) : Call 7 mX10_treaty [.ref 0, .int x1, .int x2] (S, m) (some (.int res.1)) (S, res.2) ∧ Inv res.2 := by
  refine call_of (P := InvS) (Nat.le_of_ble_eq_true rfl) (by simp [Value.category]) ?_
  show TT InvS (Call 6) mX10_treaty (0, [(0, .ref 0), (1, .int x1), (2, .int x2)], [], S, m) _ _
  unfold fX10_treaty at hf
  refine to_aload_n (q := 1) rfl (by decide) dX10_treaty_0 rfl ?_
  refine to_iload_n (q := 2) rfl dX10_treaty_1 rfl ?_
  obtain ⟨r3, m4, hc1, hf⟩ := cl2_some hf
  have qc2 := kX10_noWord hS hc1 hI
  refine to_virtI (q := 5) mX10_noWord [.int x1] dX10_treaty_2 rfl rfl (Nat.le_of_ble_eq_true rfl) mo_X10_noWord mv_X10_213 (Or.inl ⟨_, _, _, h_0 hS, rfl, rfl⟩) (Call_mono (by decide) qc2.1) ?_
  have hI := qc2.2
  by_cases h5 : r3 = (0 : Int32)
  · have hf := ite_pos h5 hf
    refine to_ifT (q := 14) (op := .eq) h5 dX10_treaty_5 rfl ?_
    refine to_iconst (q := 15) ic_0 dX10_treaty_14 rfl ?_
    refine to_istore_n (q := 16) [(3, .int (0 : Int32)), (0, .ref 0), (1, .int x1), (2, .int x2)] rfl (by decide) dX10_treaty_15 rfl ?_
    exact to_ext [(0, .ref 0), (1, .int x1), (2, .int x2), (3, .int (0 : Int32))] (ext_cons rfl (ext_cons rfl (ext_cons rfl (ext_cons rfl ext_nil)))) (kX10_treaty_16 hS FU hf hI)
  · have hf := ite_neg h5 hf
    refine to_ifF (q := 8) (op := .eq) 14 h5 dX10_treaty_5 rfl rfl ?_
    refine to_aload_n (q := 9) rfl (by decide) dX10_treaty_8 rfl ?_
    refine to_iconst (q := 10) ic_1 dX10_treaty_9 rfl ?_
    obtain ⟨r8, m9, hc6, hf⟩ := cl2_some hf
    have qc7 := kX10_refuse hS hc6 hI
    refine to_virtI (q := 13) mX10_refuse [.int (1 : Int32)] dX10_treaty_10 rfl rfl (Nat.le_of_ble_eq_true rfl) mo_X10_refuse mv_X10_98 (Or.inl ⟨_, _, _, h_0 hS, rfl, rfl⟩) (Call_mono (by decide) qc7.1) ?_
    have hI := qc7.2
    cases hf
    exact to_iret dX10_treaty_13 rfl rfl rfl rfl hI
def fX10_fewestToBreak_79 (k11 : Nat → Int32 → Int32 → Int32 → Int32 → Int32 → Me → Option (Int32 × Me)) (a1 : Nat) (x2 : Int32) (x3 : Int32) (x4 : Int32) (x5 : Int32) (x6 : Int32) (m : Me) : Option (Int32 × Me) := k11 a1 x2 x3 x4 x5 ((x6 + (1 : Int32))) m
