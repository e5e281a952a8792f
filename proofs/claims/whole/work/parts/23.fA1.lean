def fX0_forget (m : Me) : Option (Me) := some (setI m 84 3 (0 : Int32))
set_option maxRecDepth 20000 in
theorem kX0_forget {S : Sh} (hS : ShOK S) {res : Me} {m : Me} (hf : fX0_forget m = some res) (hI : Inv m) : Call 1 mX0_forget [.ref 84] (S, m) none (S, res) ∧ Inv res := by
  refine call_of (P := InvS) (Nat.le_of_ble_eq_true rfl) (by simp [Value.category]) ?_
  show TT InvS (Call 0) mX0_forget (0, [(0, .ref 84)], [], S, m) _ _
  unfold fX0_forget at hf
  refine to_aload_n (q := 1) rfl (by decide) dX0_forget_0 rfl ?_
  refine to_iconst (q := 2) ic_0 dX0_forget_1 rfl ?_
  refine to_putI (q := 5) (ty := .int) (k0 := 0) (C := RX0) (T := TX0) (N := 4) (j := 3) rfl fx_X0_21 (h_84 hS) rfl pD_I (Or.inl rfl) (nf_I _) dX0_forget_2 rfl ?_
  cases hf
  exact to_vret dX0_forget_5 rfl rfl rfl hI
def fX0_dropOldest_2 (n : Nat) (x1 : Int32) (m : Me) : Option (Me) := match n with
  | 0 => none
  | n + 1 => if (16 : Int32) ≤ x1 then some (setI m 84 3 (15 : Int32)) else ck (inb x1 16) (ck (inb (x1 - (1 : Int32)) 16) (ck (inb x1 16) (ck (inb (x1 - (1 : Int32)) 16) (ck (inb x1 16) (ck (inb (x1 - (1 : Int32)) 16) (fX0_dropOldest_2 n ((x1 + (1 : Int32))) (setI (setI (setI m 85 (x1 - (1 : Int32)).toNatClampNeg (m.1 85 x1.toNatClampNeg)) 86 (x1 - (1 : Int32)).toNatClampNeg ((setI m 85 (x1 - (1 : Int32)).toNatClampNeg (m.1 85 x1.toNatClampNeg)).1 86 x1.toNatClampNeg)) 87 (x1 - (1 : Int32)).toNatClampNeg ((setI (setI m 85 (x1 - (1 : Int32)).toNatClampNeg (m.1 85 x1.toNatClampNeg)) 86 (x1 - (1 : Int32)).toNatClampNeg ((setI m 85 (x1 - (1 : Int32)).toNatClampNeg (m.1 85 x1.toNatClampNeg)).1 86 x1.toNatClampNeg)).1 87 x1.toNatClampNeg))))))))
set_option maxRecDepth 20000 in
theorem kX0_dropOldest_2 {S : Sh} (hS : ShOK S) {res : Me} (n : Nat) : ∀ {x1 : Int32} {m : Me}, fX0_dropOldest_2 n x1 m = some res → Inv m → TT InvS (Call 0) mX0_dropOldest (2, [(0, .ref 84), (1, .int x1)], [], S, m) none (S, res) := by
  induction n with
  | zero => intro x1 m hf; cases hf
  | succ n ih =>
    intro x1 m hf  hI
    unfold fX0_dropOldest_2 at hf
    refine to_iload_n (q := 3) rfl dX0_dropOldest_2 rfl ?_
    refine to_bipush (q := 5) bp_16 dX0_dropOldest_3 rfl ?_
    by_cases h1 : (16 : Int32) ≤ x1
    · have hf := ite_pos h1 hf
      refine to_icT (q := 56) (op := .ge) h1 dX0_dropOldest_5 rfl ?_
      refine to_aload_n (q := 57) rfl (by decide) dX0_dropOldest_56 rfl ?_
      refine to_bipush (q := 59) bp_15 dX0_dropOldest_57 rfl ?_
      refine to_putI (q := 62) (ty := .int) (k0 := 0) (C := RX0) (T := TX0) (N := 4) (j := 3) rfl fx_X0_21 (h_84 hS) rfl pD_I (Or.inl rfl) (nf_I _) dX0_dropOldest_59 rfl ?_
      cases hf
      exact to_vret dX0_dropOldest_62 rfl rfl rfl hI
    · have hf := ite_neg h1 hf
      refine to_icF (q := 8) (op := .ge) 56 h1 dX0_dropOldest_5 rfl rfl ?_
      refine to_aload_n (q := 9) rfl (by decide) dX0_dropOldest_8 rfl ?_
      refine to_getR (q := 12) (b := 85) (k0 := 0) (C := RX0) (T := TX0) (N := 4) (j := 0) rfl fx_X0_9 (h_84 hS) rfl (iv_84_0 hI) dX0_dropOldest_9 rfl ?_
      refine to_iload_n (q := 13) rfl dX0_dropOldest_12 rfl ?_
      refine to_iconst (q := 14) ic_1 dX0_dropOldest_13 rfl ?_
      refine to_isub (q := 15) dX0_dropOldest_14 rfl ?_
      refine to_aload_n (q := 16) rfl (by decide) dX0_dropOldest_15 rfl ?_
      refine to_getR (q := 19) (b := 85) (k0 := 0) (C := RX0) (T := TX0) (N := 4) (j := 0) rfl fx_X0_9 (h_84 hS) rfl (iv_84_0 hI) dX0_dropOldest_16 rfl ?_
      refine to_iload_n (q := 20) rfl dX0_dropOldest_19 rfl ?_
      obtain ⟨hb2, hf⟩ := ck_some hf
      refine to_iaj (q := 21) (h_85 hS) hb2 (rfl) dX0_dropOldest_20 rfl ?_
      obtain ⟨hb3, hf⟩ := ck_some hf
      refine to_iasj (q := 22) (h_85 hS) hb3 (rfl) dX0_dropOldest_21 rfl ?_
      refine to_aload_n (q := 23) rfl (by decide) dX0_dropOldest_22 rfl ?_
      refine to_getR (q := 26) (b := 86) (k0 := 0) (C := RX0) (T := TX0) (N := 4) (j := 1) rfl fx_X0_15 (h_84 hS) rfl (iv_84_1 hI) dX0_dropOldest_23 rfl ?_
      refine to_iload_n (q := 27) rfl dX0_dropOldest_26 rfl ?_
      refine to_iconst (q := 28) ic_1 dX0_dropOldest_27 rfl ?_
      refine to_isub (q := 29) dX0_dropOldest_28 rfl ?_
      refine to_aload_n (q := 30) rfl (by decide) dX0_dropOldest_29 rfl ?_
      refine to_getR (q := 33) (b := 86) (k0 := 0) (C := RX0) (T := TX0) (N := 4) (j := 1) rfl fx_X0_15 (h_84 hS) rfl (iv_84_1 hI) dX0_dropOldest_30 rfl ?_
      refine to_iload_n (q := 34) rfl dX0_dropOldest_33 rfl ?_
      obtain ⟨hb4, hf⟩ := ck_some hf
      refine to_iaj (q := 35) (h_86 hS) hb4 (rfl) dX0_dropOldest_34 rfl ?_
      obtain ⟨hb5, hf⟩ := ck_some hf
      refine to_iasj (q := 36) (h_86 hS) hb5 (rfl) dX0_dropOldest_35 rfl ?_
      refine to_aload_n (q := 37) rfl (by decide) dX0_dropOldest_36 rfl ?_
      refine to_getR (q := 40) (b := 87) (k0 := 0) (C := RX0) (T := TX0) (N := 4) (j := 2) rfl fx_X0_18 (h_84 hS) rfl (iv_84_2 hI) dX0_dropOldest_37 rfl ?_
      refine to_iload_n (q := 41) rfl dX0_dropOldest_40 rfl ?_
      refine to_iconst (q := 42) ic_1 dX0_dropOldest_41 rfl ?_
      refine to_isub (q := 43) dX0_dropOldest_42 rfl ?_
      refine to_aload_n (q := 44) rfl (by decide) dX0_dropOldest_43 rfl ?_
      refine to_getR (q := 47) (b := 87) (k0 := 0) (C := RX0) (T := TX0) (N := 4) (j := 2) rfl fx_X0_18 (h_84 hS) rfl (iv_84_2 hI) dX0_dropOldest_44 rfl ?_
      refine to_iload_n (q := 48) rfl dX0_dropOldest_47 rfl ?_
      obtain ⟨hb6, hf⟩ := ck_some hf
      refine to_iaj (q := 49) (h_87 hS) hb6 (rfl) dX0_dropOldest_48 rfl ?_
      obtain ⟨hb7, hf⟩ := ck_some hf
      refine to_iasj (q := 50) (h_87 hS) hb7 (rfl) dX0_dropOldest_49 rfl ?_
      refine to_iinc (q := 53) (v := (x1 + (1 : Int32))) rfl (congrArg (fun z => x1 + z) ic_1) [(1, .int (x1 + (1 : Int32))), (0, .ref 84)] rfl (by decide) dX0_dropOldest_50 rfl ?_
      refine to_goto (q := 2) dX0_dropOldest_53 rfl ?_
      exact to_ext [(0, .ref 84), (1, .int (x1 + (1 : Int32)))] (ext_cons rfl (ext_cons rfl ext_nil)) (ih hf hI)
def fX0_dropOldest (m : Me) : Option (Me) := fX0_dropOldest_2 FU ((1 : Int32)) m
set_option maxRecDepth 20000 in
theorem kX0_dropOldest {S : Sh} (hS : ShOK S) {res : Me} {m : Me} (hf : fX0_dropOldest m = some res) (hI : Inv m) : Call 1 mX0_dropOldest [.ref 84] (S, m) none (S, res) ∧ Inv res := by
  refine call_of (P := InvS) (Nat.le_of_ble_eq_true rfl) (by simp [Value.category]) ?_
  show TT InvS (Call 0) mX0_dropOldest (0, [(0, .ref 84)], [], S, m) _ _
  unfold fX0_dropOldest at hf
  refine to_iconst (q := 1) ic_1 dX0_dropOldest_0 rfl ?_
  refine to_istore_n (q := 2) [(1, .int (1 : Int32)), (0, .ref 84)] rfl (by decide) dX0_dropOldest_1 rfl ?_
  exact to_ext [(0, .ref 84), (1, .int (1 : Int32))] (ext_cons rfl (ext_cons rfl ext_nil)) (kX0_dropOldest_2 hS FU hf hI)
def fX0_keep_13 (x1 : Int32) (x2 : Int32) (x3 : Int32) (m : Me) : Option (Me) := ck (inb (m.1 84 3) 16) (ck (inb ((setI m 85 (m.1 84 3).toNatClampNeg x1).1 84 3) 16) (ck (inb ((setI (setI m 85 (m.1 84 3).toNatClampNeg x1) 86 ((setI m 85 (m.1 84 3).toNatClampNeg x1).1 84 3).toNatClampNeg x2).1 84 3) 16) (some (setI (setI (setI (setI m 85 (m.1 84 3).toNatClampNeg x1) 86 ((setI m 85 (m.1 84 3).toNatClampNeg x1).1 84 3).toNatClampNeg x2) 87 ((setI (setI m 85 (m.1 84 3).toNatClampNeg x1) 86 ((setI m 85 (m.1 84 3).toNatClampNeg x1).1 84 3).toNatClampNeg x2).1 84 3).toNatClampNeg x3) 84 3 (((setI (setI (setI m 85 (m.1 84 3).toNatClampNeg x1) 86 ((setI m 85 (m.1 84 3).toNatClampNeg x1).1 84 3).toNatClampNeg x2) 87 ((setI (setI m 85 (m.1 84 3).toNatClampNeg x1) 86 ((setI m 85 (m.1 84 3).toNatClampNeg x1).1 84 3).toNatClampNeg x2).1 84 3).toNatClampNeg x3).1 84 3) + (1 : Int32))))))
set_option maxRecDepth 20000 in
theorem kX0_keep_13 {S : Sh} (hS : ShOK S) {res : Me} {x1 : Int32} {x2 : Int32} {x3 : Int32} {m : Me} (hf : fX0_keep_13 x1 x2 x3 m = some res) (hI : Inv m) : TT InvS (Call 1) mX0_keep (13, [(0, .ref 84), (1, .int x1), (2, .int x2), (3, .int x3)], [], S, m) none (S, res) := by
  unfold fX0_keep_13 at hf
  refine to_aload_n (q := 14) rfl (by decide) dX0_keep_13 rfl ?_
  refine to_getR (q := 17) (b := 85) (k0 := 0) (C := RX0) (T := TX0) (N := 4) (j := 0) rfl fx_X0_9 (h_84 hS) rfl (iv_84_0 hI) dX0_keep_14 rfl ?_
  refine to_aload_n (q := 18) rfl (by decide) dX0_keep_17 rfl ?_
  refine to_getI (q := 21) (k0 := 0) (C := RX0) (T := TX0) (N := 4) (j := 3) rfl fx_X0_21 (h_84 hS) rfl dX0_keep_18 rfl ?_
  refine to_iload_n (q := 22) rfl dX0_keep_21 rfl ?_
  obtain ⟨hb5, hf⟩ := ck_some hf
  refine to_iasj (q := 23) (h_85 hS) hb5 (rfl) dX0_keep_22 rfl ?_
  refine to_aload_n (q := 24) rfl (by decide) dX0_keep_23 rfl ?_
  refine to_getR (q := 27) (b := 86) (k0 := 0) (C := RX0) (T := TX0) (N := 4) (j := 1) rfl fx_X0_15 (h_84 hS) rfl (iv_84_1 hI) dX0_keep_24 rfl ?_
  refine to_aload_n (q := 28) rfl (by decide) dX0_keep_27 rfl ?_
  refine to_getI (q := 31) (k0 := 0) (C := RX0) (T := TX0) (N := 4) (j := 3) rfl fx_X0_21 (h_84 hS) rfl dX0_keep_28 rfl ?_
  refine to_iload_n (q := 32) rfl dX0_keep_31 rfl ?_
  obtain ⟨hb6, hf⟩ := ck_some hf
  refine to_iasj (q := 33) (h_86 hS) hb6 (rfl) dX0_keep_32 rfl ?_
  refine to_aload_n (q := 34) rfl (by decide) dX0_keep_33 rfl ?_
  refine to_getR (q := 37) (b := 87) (k0 := 0) (C := RX0) (T := TX0) (N := 4) (j := 2) rfl fx_X0_18 (h_84 hS) rfl (iv_84_2 hI) dX0_keep_34 rfl ?_
  refine to_aload_n (q := 38) rfl (by decide) dX0_keep_37 rfl ?_
  refine to_getI (q := 41) (k0 := 0) (C := RX0) (T := TX0) (N := 4) (j := 3) rfl fx_X0_21 (h_84 hS) rfl dX0_keep_38 rfl ?_
  refine to_iload_n (q := 42) rfl dX0_keep_41 rfl ?_
  obtain ⟨hb7, hf⟩ := ck_some hf
  refine to_iasj (q := 43) (h_87 hS) hb7 (rfl) dX0_keep_42 rfl ?_
  refine to_aload_n (q := 44) rfl (by decide) dX0_keep_43 rfl ?_
  refine to_dup (q := 45) rfl dX0_keep_44 rfl ?_
  refine to_getI (q := 48) (k0 := 0) (C := RX0) (T := TX0) (N := 4) (j := 3) rfl fx_X0_21 (h_84 hS) rfl dX0_keep_45 rfl ?_
  refine to_iconst (q := 49) ic_1 dX0_keep_48 rfl ?_
  refine to_iadd (q := 50) dX0_keep_49 rfl ?_
  refine to_putI (q := 53) (ty := .int) (k0 := 0) (C := RX0) (T := TX0) (N := 4) (j := 3) rfl fx_X0_21 (h_84 hS) rfl pD_I (Or.inl rfl) (nf_I _) dX0_keep_50 rfl ?_
  cases hf
  exact to_vret dX0_keep_53 rfl rfl rfl hI
def fX0_keep (x1 : Int32) (x2 : Int32) (x3 : Int32) (m : Me) : Option (Me) := if (m.1 84 3) < (16 : Int32) then fX0_keep_13 x1 x2 x3 m else cl1 (fX0_dropOldest m) fun m4 => fX0_keep_13 x1 x2 x3 m4
set_option maxRecDepth 20000 in
theorem kX0_keep {S : Sh} (hS : ShOK S) {res : Me} {x1 : Int32} {x2 : Int32} {x3 : Int32} {m : Me} (hf : fX0_keep x1 x2 x3 m = some res) (hI : Inv m) : Call 2 mX0_keep [.ref 84, .int x1, .int x2, .int x3] (S, m) none (S, res) ∧ Inv res := by
  refine call_of (P := InvS) (Nat.le_of_ble_eq_true rfl) (by simp [Value.category]) ?_
  show TT InvS (Call 1) mX0_keep (0, [(0, .ref 84), (1, .int x1), (2, .int x2), (3, .int x3)], [], S, m) _ _
  unfold fX0_keep at hf
  refine to_aload_n (q := 1) rfl (by decide) dX0_keep_0 rfl ?_
  refine to_getI (q := 4) (k0 := 0) (C := RX0) (T := TX0) (N := 4) (j := 3) rfl fx_X0_21 (h_84 hS) rfl dX0_keep_1 rfl ?_
  refine to_bipush (q := 6) bp_16 dX0_keep_4 rfl ?_
  by_cases h1 : (m.1 84 3) < (16 : Int32)
  · have hf := ite_pos h1 hf
    refine to_icT (q := 13) (op := .lt) h1 dX0_keep_6 rfl ?_
    exact to_ext [(0, .ref 84), (1, .int x1), (2, .int x2), (3, .int x3)] (ext_cons rfl (ext_cons rfl (ext_cons rfl (ext_cons rfl ext_nil)))) (kX0_keep_13 hS hf hI)
  · have hf := ite_neg h1 hf
    refine to_icF (q := 9) (op := .lt) 13 h1 dX0_keep_6 rfl rfl ?_
    refine to_aload_n (q := 10) rfl (by decide) dX0_keep_9 rfl ?_
    obtain ⟨m4, hc2, hf⟩ := cl1_some hf
    have qc3 := kX0_dropOldest hS hc2 hI
    refine to_virtV (q := 13) mX0_dropOldest [] dX0_keep_10 rfl rfl (Nat.le_of_ble_eq_true rfl) mo_X0_dropOldest mv_X0_25 (Or.inl ⟨_, _, _, h_84 hS, rfl, rfl⟩) (Call_mono (by decide) qc3.1) ?_
    have hI := qc3.2
    exact to_ext [(0, .ref 84), (1, .int x1), (2, .int x2), (3, .int x3)] (ext_cons rfl (ext_cons rfl (ext_cons rfl (ext_cons rfl ext_nil)))) (kX0_keep_13 hS hf hI)
def fX0_takeBack_115 (m : Me) : Option (Int32 × Me) := some ((1 : Int32), m)
set_option maxRecDepth 20000 in
theorem kX0_takeBack_115 {S : Sh} (hS : ShOK S) {res : Int32 × Me} {m : Me} (hf : fX0_takeBack_115 m = some res) (hI : Inv m) : TT InvS (Call 0) mX0_takeBack (115, [], [], S, m) (some (.int res.1)) (S, res.2) := by
  unfold fX0_takeBack_115 at hf
  refine to_iconst (q := 116) ic_1 dX0_takeBack_115 rfl ?_
  cases hf
  exact to_iret dX0_takeBack_116 rfl (by decide) rfl rfl hI
def fX0_takeBack (a1 : Nat) (m : Me) : Option (Int32 × Me) := if (0 : Int32) < (m.1 84 3) then ck (inb ((setI m 84 3 ((m.1 84 3) - (1 : Int32))).1 84 3) 16) (ck (inb ((setI m 84 3 ((m.1 84 3) - (1 : Int32))).1 84 3) 16) (if ((setI m 84 3 ((m.1 84 3) - (1 : Int32))).1 85 ((setI m 84 3 ((m.1 84 3) - (1 : Int32))).1 84 3).toNatClampNeg) = (1 : Int32) then ck (inb ((setI m 84 3 ((m.1 84 3) - (1 : Int32))).1 84 3) 16) (fX0_takeBack_115 (setI (setI m 84 3 ((m.1 84 3) - (1 : Int32))) a1 1 ((setI m 84 3 ((m.1 84 3) - (1 : Int32))).1 87 ((setI m 84 3 ((m.1 84 3) - (1 : Int32))).1 84 3).toNatClampNeg))) else ck (inb ((setI m 84 3 ((m.1 84 3) - (1 : Int32))).1 84 3) 16) (if ((setI m 84 3 ((m.1 84 3) - (1 : Int32))).1 85 ((setI m 84 3 ((m.1 84 3) - (1 : Int32))).1 84 3).toNatClampNeg) = (2 : Int32) then ck (inb ((setI m 84 3 ((m.1 84 3) - (1 : Int32))).1 84 3) 16) (fX0_takeBack_115 (setI (setI m 84 3 ((m.1 84 3) - (1 : Int32))) a1 2 ((setI m 84 3 ((m.1 84 3) - (1 : Int32))).1 87 ((setI m 84 3 ((m.1 84 3) - (1 : Int32))).1 84 3).toNatClampNeg))) else if ((setI m 84 3 ((m.1 84 3) - (1 : Int32))).1 86 ((setI m 84 3 ((m.1 84 3) - (1 : Int32))).1 84 3).toNatClampNeg) < (0 : Int32) then fX0_takeBack_115 (setI m 84 3 ((m.1 84 3) - (1 : Int32))) else if (60 : Int32) ≤ ((setI m 84 3 ((m.1 84 3) - (1 : Int32))).1 86 ((setI m 84 3 ((m.1 84 3) - (1 : Int32))).1 84 3).toNatClampNeg) then fX0_takeBack_115 (setI m 84 3 ((m.1 84 3) - (1 : Int32))) else ck (inb ((setI m 84 3 ((m.1 84 3) - (1 : Int32))).1 84 3) 16) (ck (inb ((setI m 84 3 ((m.1 84 3) - (1 : Int32))).1 86 ((setI m 84 3 ((m.1 84 3) - (1 : Int32))).1 84 3).toNatClampNeg) 60) (fX0_takeBack_115 (setI (setI m 84 3 ((m.1 84 3) - (1 : Int32))) (a1 + 1) ((setI m 84 3 ((m.1 84 3) - (1 : Int32))).1 86 ((setI m 84 3 ((m.1 84 3) - (1 : Int32))).1 84 3).toNatClampNeg).toNatClampNeg ((setI m 84 3 ((m.1 84 3) - (1 : Int32))).1 87 ((setI m 84 3 ((m.1 84 3) - (1 : Int32))).1 84 3).toNatClampNeg))))))) else some ((0 : Int32), m)
set_option maxRecDepth 20000 in
theorem kX0_takeBack {S : Sh} (hS : ShOK S) {res : Int32 × Me} {a1 : Nat} {m : Me} (hf : fX0_takeBack a1 m = some res) (ha1 : kd a1 = 5) (hI : Inv m) : Call 1 mX0_takeBack [.ref 84, .ref a1] (S, m) (some (.int res.1)) (S, res.2) ∧ Inv res.2 := by
  refine call_of (P := InvS) (Nat.le_of_ble_eq_true rfl) (by simp [Value.category]) ?_
  show TT InvS (Call 0) mX0_takeBack (0, [(0, .ref 84), (1, .ref a1)], [], S, m) _ _
  unfold fX0_takeBack at hf
  refine to_aload_n (q := 1) rfl (by decide) dX0_takeBack_0 rfl ?_
  refine to_getI (q := 4) (k0 := 0) (C := RX0) (T := TX0) (N := 4) (j := 3) rfl fx_X0_21 (h_84 hS) rfl dX0_takeBack_1 rfl ?_
  by_cases h1 : (0 : Int32) < (m.1 84 3)
  · have hf := ite_pos h1 hf
    refine to_ifT (q := 9) (op := .gt) h1 dX0_takeBack_4 rfl ?_
    refine to_aload_n (q := 10) rfl (by decide) dX0_takeBack_9 rfl ?_
    refine to_dup (q := 11) rfl dX0_takeBack_10 rfl ?_
    refine to_getI (q := 14) (k0 := 0) (C := RX0) (T := TX0) (N := 4) (j := 3) rfl fx_X0_21 (h_84 hS) rfl dX0_takeBack_11 rfl ?_
    refine to_iconst (q := 15) ic_1 dX0_takeBack_14 rfl ?_
    refine to_isub (q := 16) dX0_takeBack_15 rfl ?_
    refine to_putI (q := 19) (ty := .int) (k0 := 0) (C := RX0) (T := TX0) (N := 4) (j := 3) rfl fx_X0_21 (h_84 hS) rfl pD_I (Or.inl rfl) (nf_I _) dX0_takeBack_16 rfl ?_
    refine to_aload_n (q := 20) rfl (by decide) dX0_takeBack_19 rfl ?_
    refine to_getR (q := 23) (b := 86) (k0 := 0) (C := RX0) (T := TX0) (N := 4) (j := 1) rfl fx_X0_15 (h_84 hS) rfl (iv_84_1 hI) dX0_takeBack_20 rfl ?_
    refine to_aload_n (q := 24) rfl (by decide) dX0_takeBack_23 rfl ?_
    refine to_getI (q := 27) (k0 := 0) (C := RX0) (T := TX0) (N := 4) (j := 3) rfl fx_X0_21 (h_84 hS) rfl dX0_takeBack_24 rfl ?_
    obtain ⟨hb2, hf⟩ := ck_some hf
    refine to_iaj (q := 28) (h_86 hS) hb2 (rfl) dX0_takeBack_27 rfl ?_
    refine to_istore_n (q := 29) [(2, .int ((setI m 84 3 ((m.1 84 3) - (1 : Int32))).1 86 ((setI m 84 3 ((m.1 84 3) - (1 : Int32))).1 84 3).toNatClampNeg)), (0, .ref 84), (1, .ref a1)] rfl (by decide) dX0_takeBack_28 rfl ?_
    refine to_aload_n (q := 30) rfl (by decide) dX0_takeBack_29 rfl ?_
    refine to_getR (q := 33) (b := 85) (k0 := 0) (C := RX0) (T := TX0) (N := 4) (j := 0) rfl fx_X0_9 (h_84 hS) rfl (iv_84_0 hI) dX0_takeBack_30 rfl ?_
    refine to_aload_n (q := 34) rfl (by decide) dX0_takeBack_33 rfl ?_
    refine to_getI (q := 37) (k0 := 0) (C := RX0) (T := TX0) (N := 4) (j := 3) rfl fx_X0_21 (h_84 hS) rfl dX0_takeBack_34 rfl ?_
    obtain ⟨hb3, hf⟩ := ck_some hf
    refine to_iaj (q := 38) (h_85 hS) hb3 (rfl) dX0_takeBack_37 rfl ?_
    refine to_iconst (q := 39) ic_1 dX0_takeBack_38 rfl ?_
    by_cases h4 : ((setI m 84 3 ((m.1 84 3) - (1 : Int32))).1 85 ((setI m 84 3 ((m.1 84 3) - (1 : Int32))).1 84 3).toNatClampNeg) = (1 : Int32)
    · have hf := ite_pos h4 hf
      refine to_icF (q := 42) (op := .ne) 58 (fun z => z h4) dX0_takeBack_39 rfl rfl ?_
      refine to_aload_n (q := 43) rfl (kd_4 (ha1) (by decide)) dX0_takeBack_42 rfl ?_
      refine to_aload_n (q := 44) rfl (by decide) dX0_takeBack_43 rfl ?_
      refine to_getR (q := 47) (b := 87) (k0 := 0) (C := RX0) (T := TX0) (N := 4) (j := 2) rfl fx_X0_18 (h_84 hS) rfl (iv_84_2 hI) dX0_takeBack_44 rfl ?_
      refine to_aload_n (q := 48) rfl (by decide) dX0_takeBack_47 rfl ?_
      refine to_getI (q := 51) (k0 := 0) (C := RX0) (T := TX0) (N := 4) (j := 3) rfl fx_X0_21 (h_84 hS) rfl dX0_takeBack_48 rfl ?_
      obtain ⟨hb12, hf⟩ := ck_some hf
      refine to_iaj (q := 52) (h_87 hS) hb12 (rfl) dX0_takeBack_51 rfl ?_
      refine to_putI (q := 55) (ty := .int) (k0 := 5) (C := RX5) (T := TX5) (N := 3) (j := 1) rfl fx_X0_28 (sh_kd hS ha1 (by decide)) rfl pD_I (Or.inl rfl) (nf_I _) dX0_takeBack_52 rfl ?_
      refine to_goto (q := 115) dX0_takeBack_55 rfl ?_
      exact to_ext [] ext_nil (kX0_takeBack_115 hS hf hI)
    · have hf := ite_neg h4 hf
      refine to_icT (q := 58) (op := .ne) h4 dX0_takeBack_39 rfl ?_
      refine to_aload_n (q := 59) rfl (by decide) dX0_takeBack_58 rfl ?_
      refine to_getR (q := 62) (b := 85) (k0 := 0) (C := RX0) (T := TX0) (N := 4) (j := 0) rfl fx_X0_9 (h_84 hS) rfl (iv_84_0 hI) dX0_takeBack_59 rfl ?_
      refine to_aload_n (q := 63) rfl (by decide) dX0_takeBack_62 rfl ?_
      refine to_getI (q := 66) (k0 := 0) (C := RX0) (T := TX0) (N := 4) (j := 3) rfl fx_X0_21 (h_84 hS) rfl dX0_takeBack_63 rfl ?_
      obtain ⟨hb5, hf⟩ := ck_some hf
      refine to_iaj (q := 67) (h_85 hS) hb5 (rfl) dX0_takeBack_66 rfl ?_
      refine to_iconst (q := 68) ic_2 dX0_takeBack_67 rfl ?_
      by_cases h6 : ((setI m 84 3 ((m.1 84 3) - (1 : Int32))).1 85 ((setI m 84 3 ((m.1 84 3) - (1 : Int32))).1 84 3).toNatClampNeg) = (2 : Int32)
      · have hf := ite_pos h6 hf
        refine to_icF (q := 71) (op := .ne) 87 (fun z => z h6) dX0_takeBack_68 rfl rfl ?_
        refine to_aload_n (q := 72) rfl (kd_4 (ha1) (by decide)) dX0_takeBack_71 rfl ?_
        refine to_aload_n (q := 73) rfl (by decide) dX0_takeBack_72 rfl ?_
        refine to_getR (q := 76) (b := 87) (k0 := 0) (C := RX0) (T := TX0) (N := 4) (j := 2) rfl fx_X0_18 (h_84 hS) rfl (iv_84_2 hI) dX0_takeBack_73 rfl ?_
        refine to_aload_n (q := 77) rfl (by decide) dX0_takeBack_76 rfl ?_
        refine to_getI (q := 80) (k0 := 0) (C := RX0) (T := TX0) (N := 4) (j := 3) rfl fx_X0_21 (h_84 hS) rfl dX0_takeBack_77 rfl ?_
        obtain ⟨hb11, hf⟩ := ck_some hf
        refine to_iaj (q := 81) (h_87 hS) hb11 (rfl) dX0_takeBack_80 rfl ?_
        refine to_putI (q := 84) (ty := .int) (k0 := 5) (C := RX5) (T := TX5) (N := 3) (j := 2) rfl fx_X0_33 (sh_kd hS ha1 (by decide)) rfl pD_I (Or.inl rfl) (nf_I _) dX0_takeBack_81 rfl ?_
        refine to_goto (q := 115) dX0_takeBack_84 rfl ?_
        exact to_ext [] ext_nil (kX0_takeBack_115 hS hf hI)
      · have hf := ite_neg h6 hf
        refine to_icT (q := 87) (op := .ne) h6 dX0_takeBack_68 rfl ?_
        refine to_iload_n (q := 88) rfl dX0_takeBack_87 rfl ?_
        by_cases h7 : ((setI m 84 3 ((m.1 84 3) - (1 : Int32))).1 86 ((setI m 84 3 ((m.1 84 3) - (1 : Int32))).1 84 3).toNatClampNeg) < (0 : Int32)
        · have hf := ite_pos h7 hf
          refine to_ifT (q := 115) (op := .lt) h7 dX0_takeBack_88 rfl ?_
          exact to_ext [] ext_nil (kX0_takeBack_115 hS hf hI)
        · have hf := ite_neg h7 hf
          refine to_ifF (q := 91) (op := .lt) 115 h7 dX0_takeBack_88 rfl rfl ?_
          refine to_iload_n (q := 92) rfl dX0_takeBack_91 rfl ?_
          refine to_aload_n (q := 93) rfl (kd_4 (ha1) (by decide)) dX0_takeBack_92 rfl ?_
          refine to_getR (q := 96) (b := a1 + 1) (k0 := 5) (C := RX5) (T := TX5) (N := 3) (j := 0) rfl fx_X0_36 (sh_kd hS ha1 (by decide)) rfl (iv5 hI (ha1)) dX0_takeBack_93 rfl ?_
          refine to_alen (q := 97) (sh_ln hS (kd5 (ha1)) (by decide)) (by decide) on_60 dX0_takeBack_96 rfl ?_
          by_cases h8 : (60 : Int32) ≤ ((setI m 84 3 ((m.1 84 3) - (1 : Int32))).1 86 ((setI m 84 3 ((m.1 84 3) - (1 : Int32))).1 84 3).toNatClampNeg)
          · have hf := ite_pos h8 hf
            refine to_icT (q := 115) (op := .ge) h8 dX0_takeBack_97 rfl ?_
            exact to_ext [] ext_nil (kX0_takeBack_115 hS hf hI)
          · have hf := ite_neg h8 hf
            refine to_icF (q := 100) (op := .ge) 115 h8 dX0_takeBack_97 rfl rfl ?_
            refine to_aload_n (q := 101) rfl (kd_4 (ha1) (by decide)) dX0_takeBack_100 rfl ?_
            refine to_getR (q := 104) (b := a1 + 1) (k0 := 5) (C := RX5) (T := TX5) (N := 3) (j := 0) rfl fx_X0_36 (sh_kd hS ha1 (by decide)) rfl (iv5 hI (ha1)) dX0_takeBack_101 rfl ?_
            refine to_iload_n (q := 105) rfl dX0_takeBack_104 rfl ?_
            refine to_aload_n (q := 106) rfl (by decide) dX0_takeBack_105 rfl ?_
            refine to_getR (q := 109) (b := 87) (k0 := 0) (C := RX0) (T := TX0) (N := 4) (j := 2) rfl fx_X0_18 (h_84 hS) rfl (iv_84_2 hI) dX0_takeBack_106 rfl ?_
            refine to_aload_n (q := 110) rfl (by decide) dX0_takeBack_109 rfl ?_
            refine to_getI (q := 113) (k0 := 0) (C := RX0) (T := TX0) (N := 4) (j := 3) rfl fx_X0_21 (h_84 hS) rfl dX0_takeBack_110 rfl ?_
            obtain ⟨hb9, hf⟩ := ck_some hf
            refine to_iaj (q := 114) (h_87 hS) hb9 (rfl) dX0_takeBack_113 rfl ?_
            obtain ⟨hb10, hf⟩ := ck_some hf
            refine to_iasj (q := 115) (sh_ln hS (kd5 (ha1)) (by decide)) hb10 (rfl) dX0_takeBack_114 rfl ?_
            exact to_ext [] ext_nil (kX0_takeBack_115 hS hf hI)
  · have hf := ite_neg h1 hf
    refine to_ifF (q := 7) (op := .gt) 9 h1 dX0_takeBack_4 rfl rfl ?_
    refine to_iconst (q := 8) ic_0 dX0_takeBack_7 rfl ?_
    cases hf
    exact to_iret dX0_takeBack_8 rfl (by decide) rfl rfl hI
def fX5_wipe_2 (n : Nat) (a0 : Nat) (x1 : Int32) (m : Me) : Option (Me) := match n with
  | 0 => none
  | n + 1 => if (60 : Int32) ≤ x1 then some (setI (setI m a0 1 (0 : Int32)) a0 2 (0 : Int32)) else ck (inb x1 60) (fX5_wipe_2 n a0 ((x1 + (1 : Int32))) (setI m (a0 + 1) x1.toNatClampNeg (25 : Int32)))
set_option maxRecDepth 20000 in
theorem kX5_wipe_2 {S : Sh} (hS : ShOK S) {res : Me} (n : Nat) : ∀ {a0 : Nat} {x1 : Int32} {m : Me}, fX5_wipe_2 n a0 x1 m = some res → kd a0 = 5 → Inv m → TT InvS (Call 0) mX5_wipe (2, [(0, .ref a0), (1, .int x1)], [], S, m) none (S, res) := by
  induction n with
  | zero => intro a0 x1 m hf; cases hf
  | succ n ih =>
    intro a0 x1 m hf ha0 hI
    unfold fX5_wipe_2 at hf
    refine to_iload_n (q := 3) rfl dX5_wipe_2 rfl ?_
    refine to_aload_n (q := 4) rfl (kd_4 (ha0) (by decide)) dX5_wipe_3 rfl ?_
    refine to_getR (q := 7) (b := a0 + 1) (k0 := 5) (C := RX5) (T := TX5) (N := 3) (j := 0) rfl fx_X5_9 (sh_kd hS ha0 (by decide)) rfl (iv5 hI (ha0)) dX5_wipe_4 rfl ?_
    refine to_alen (q := 8) (sh_ln hS (kd5 (ha0)) (by decide)) (by decide) on_60 dX5_wipe_7 rfl ?_
    by_cases h1 : (60 : Int32) ≤ x1
    · have hf := ite_pos h1 hf
      refine to_icT (q := 25) (op := .ge) h1 dX5_wipe_8 rfl ?_
      refine to_aload_n (q := 26) rfl (kd_4 (ha0) (by decide)) dX5_wipe_25 rfl ?_
      refine to_iconst (q := 27) ic_0 dX5_wipe_26 rfl ?_
      refine to_putI (q := 30) (ty := .int) (k0 := 5) (C := RX5) (T := TX5) (N := 3) (j := 1) rfl fx_X5_15 (sh_kd hS ha0 (by decide)) rfl pD_I (Or.inl rfl) (nf_I _) dX5_wipe_27 rfl ?_
      refine to_aload_n (q := 31) rfl (kd_4 (ha0) (by decide)) dX5_wipe_30 rfl ?_
      refine to_iconst (q := 32) ic_0 dX5_wipe_31 rfl ?_
      refine to_putI (q := 35) (ty := .int) (k0 := 5) (C := RX5) (T := TX5) (N := 3) (j := 2) rfl fx_X5_19 (sh_kd hS ha0 (by decide)) rfl pD_I (Or.inl rfl) (nf_I _) dX5_wipe_32 rfl ?_
      cases hf
      exact to_vret dX5_wipe_35 rfl rfl rfl hI
    · have hf := ite_neg h1 hf
      refine to_icF (q := 11) (op := .ge) 25 h1 dX5_wipe_8 rfl rfl ?_
      refine to_aload_n (q := 12) rfl (kd_4 (ha0) (by decide)) dX5_wipe_11 rfl ?_
      refine to_getR (q := 15) (b := a0 + 1) (k0 := 5) (C := RX5) (T := TX5) (N := 3) (j := 0) rfl fx_X5_9 (sh_kd hS ha0 (by decide)) rfl (iv5 hI (ha0)) dX5_wipe_12 rfl ?_
      refine to_iload_n (q := 16) rfl dX5_wipe_15 rfl ?_
      refine to_bipush (q := 18) bp_25 dX5_wipe_16 rfl ?_
      obtain ⟨hb2, hf⟩ := ck_some hf
      refine to_iasj (q := 19) (sh_ln hS (kd5 (ha0)) (by decide)) hb2 (rfl) dX5_wipe_18 rfl ?_
      refine to_iinc (q := 22) (v := (x1 + (1 : Int32))) rfl (congrArg (fun z => x1 + z) ic_1) [(1, .int (x1 + (1 : Int32))), (0, .ref a0)] rfl (by decide) dX5_wipe_19 rfl ?_
      refine to_goto (q := 2) dX5_wipe_22 rfl ?_
      exact to_ext [(0, .ref a0), (1, .int (x1 + (1 : Int32)))] (ext_cons rfl (ext_cons rfl ext_nil)) (ih hf (ha0) hI)
def fX5_wipe (a0 : Nat) (m : Me) : Option (Me) := fX5_wipe_2 FU a0 ((0 : Int32)) m
set_option maxRecDepth 20000 in
theorem kX5_wipe {S : Sh} (hS : ShOK S) {res : Me} {a0 : Nat} {m : Me} (hf : fX5_wipe a0 m = some res) (ha0 : kd a0 = 5) (hI : Inv m) : Call 1 mX5_wipe [.ref a0] (S, m) none (S, res) ∧ Inv res := by
  refine call_of (P := InvS) (Nat.le_of_ble_eq_true rfl) (by simp [Value.category]) ?_
  show TT InvS (Call 0) mX5_wipe (0, [(0, .ref a0)], [], S, m) _ _
  unfold fX5_wipe at hf
  refine to_iconst (q := 1) ic_0 dX5_wipe_0 rfl ?_
  refine to_istore_n (q := 2) [(1, .int (0 : Int32)), (0, .ref a0)] rfl (by decide) dX5_wipe_1 rfl ?_
  exact to_ext [(0, .ref a0), (1, .int (0 : Int32))] (ext_cons rfl (ext_cons rfl ext_nil)) (kX5_wipe_2 hS FU hf (ha0) hI)
def fX2_forget (a0 : Nat) (m : Me) : Option (Me) := cl1 (fX5_wipe (a0 + 1) (setI (setI (setI (setI (setI m a0 0 (0 : Int32)) a0 1 (0 : Int32)) a0 2 (0 : Int32)) a0 3 (0 : Int32)) a0 4 (0 : Int32))) fun m3 => some (setI (setI (setI (setI m3 a0 7 (0 : Int32)) a0 9 (0 : Int32)) a0 11 (0 : Int32)) a0 13 (0 : Int32))
set_option maxRecDepth 20000 in
theorem kX2_forget {S : Sh} (hS : ShOK S) {res : Me} {a0 : Nat} {m : Me} (hf : fX2_forget a0 m = some res) (ha0 : kd a0 = 2) (hI : Inv m) : Call 2 mX2_forget [.ref a0] (S, m) none (S, res) ∧ Inv res := by
  refine call_of (P := InvS) (Nat.le_of_ble_eq_true rfl) (by simp [Value.category]) ?_
  show TT InvS (Call 1) mX2_forget (0, [(0, .ref a0)], [], S, m) _ _
  unfold fX2_forget at hf
  refine to_aload_n (q := 1) rfl (kd_4 (ha0) (by decide)) dX2_forget_0 rfl ?_
  refine to_iconst (q := 2) ic_0 dX2_forget_1 rfl ?_
  refine to_putI (q := 5) (ty := .int) (k0 := 2) (C := RX2) (T := TX2) (N := 14) (j := 0) rfl fx_X2_35 (sh_kd hS ha0 (by decide)) rfl pD_I (Or.inl rfl) (nf_I _) dX2_forget_2 rfl ?_
  refine to_aload_n (q := 6) rfl (kd_4 (ha0) (by decide)) dX2_forget_5 rfl ?_
  refine to_iconst (q := 7) ic_0 dX2_forget_6 rfl ?_
  refine to_putI (q := 10) (ty := .int) (k0 := 2) (C := RX2) (T := TX2) (N := 14) (j := 1) rfl fx_X2_39 (sh_kd hS ha0 (by decide)) rfl pD_I (Or.inl rfl) (nf_I _) dX2_forget_7 rfl ?_
  refine to_aload_n (q := 11) rfl (kd_4 (ha0) (by decide)) dX2_forget_10 rfl ?_
  refine to_iconst (q := 12) ic_0 dX2_forget_11 rfl ?_
  refine to_putI (q := 15) (ty := .int) (k0 := 2) (C := RX2) (T := TX2) (N := 14) (j := 2) rfl fx_X2_42 (sh_kd hS ha0 (by decide)) rfl pD_I (Or.inl rfl) (nf_I _) dX2_forget_12 rfl ?_
  refine to_aload_n (q := 16) rfl (kd_4 (ha0) (by decide)) dX2_forget_15 rfl ?_
  refine to_iconst (q := 17) ic_0 dX2_forget_16 rfl ?_
  refine to_putI (q := 20) (ty := .boolean) (k0 := 2) (C := RX2) (T := TX2) (N := 14) (j := 3) rfl fx_X2_45 (sh_kd hS ha0 (by decide)) rfl pD_Z (Or.inl rfl) (nf_Z (by decide)) dX2_forget_17 rfl ?_
  refine to_aload_n (q := 21) rfl (kd_4 (ha0) (by decide)) dX2_forget_20 rfl ?_
  refine to_iconst (q := 22) ic_0 dX2_forget_21 rfl ?_
  refine to_putI (q := 25) (ty := .int) (k0 := 2) (C := RX2) (T := TX2) (N := 14) (j := 4) rfl fx_X2_49 (sh_kd hS ha0 (by decide)) rfl pD_I (Or.inl rfl) (nf_I _) dX2_forget_22 rfl ?_
  refine to_aload_n (q := 26) rfl (kd_4 (ha0) (by decide)) dX2_forget_25 rfl ?_
  refine to_getR (q := 29) (b := a0 + 1) (k0 := 2) (C := RX2) (T := TX2) (N := 14) (j := 5) rfl fx_X2_12 (sh_kd hS ha0 (by decide)) rfl (iv2s hI (ha0)) dX2_forget_26 rfl ?_
  obtain ⟨m3, hc1, hf⟩ := cl1_some hf
  have qc2 := kX5_wipe hS hc1 ((kd2s (ha0))) hI
  refine to_virtV (q := 32) mX5_wipe [] dX2_forget_29 rfl rfl (Nat.le_of_ble_eq_true rfl) mo_X5_wipe mv_X2_52 (Or.inl ⟨_, _, _, sh_kd hS (kd2s (ha0)) (by decide), rfl, rfl⟩) (Call_mono (by decide) qc2.1) ?_
  have hI := qc2.2
  refine to_aload_n (q := 33) rfl (kd_4 (ha0) (by decide)) dX2_forget_32 rfl ?_
  refine to_iconst (q := 34) ic_0 dX2_forget_33 rfl ?_
  refine to_putI (q := 37) (ty := .int) (k0 := 2) (C := RX2) (T := TX2) (N := 14) (j := 7) rfl fx_X2_55 (sh_kd hS ha0 (by decide)) rfl pD_I (Or.inl rfl) (nf_I _) dX2_forget_34 rfl ?_
  refine to_aload_n (q := 38) rfl (kd_4 (ha0) (by decide)) dX2_forget_37 rfl ?_
  refine to_iconst (q := 39) ic_0 dX2_forget_38 rfl ?_
  refine to_putI (q := 42) (ty := .int) (k0 := 2) (C := RX2) (T := TX2) (N := 14) (j := 9) rfl fx_X2_58 (sh_kd hS ha0 (by decide)) rfl pD_I (Or.inl rfl) (nf_I _) dX2_forget_39 rfl ?_
  refine to_aload_n (q := 43) rfl (kd_4 (ha0) (by decide)) dX2_forget_42 rfl ?_
  refine to_iconst (q := 44) ic_0 dX2_forget_43 rfl ?_
  refine to_putI (q := 47) (ty := .int) (k0 := 2) (C := RX2) (T := TX2) (N := 14) (j := 11) rfl fx_X2_61 (sh_kd hS ha0 (by decide)) rfl pD_I (Or.inl rfl) (nf_I _) dX2_forget_44 rfl ?_
  refine to_aload_n (q := 48) rfl (kd_4 (ha0) (by decide)) dX2_forget_47 rfl ?_
  refine to_iconst (q := 49) ic_0 dX2_forget_48 rfl ?_
  refine to_putI (q := 52) (ty := .int) (k0 := 2) (C := RX2) (T := TX2) (N := 14) (j := 13) rfl fx_X2_64 (sh_kd hS ha0 (by decide)) rfl pD_I (Or.inl rfl) (nf_I _) dX2_forget_49 rfl ?_
  cases hf
  exact to_vret dX2_forget_52 rfl rfl rfl hI
def fX2_openings_25 (t0 : Int32) (m : Me) : Option (Int32 × Me) := some ((t0 + (1 : Int32)), m)
set_option maxRecDepth 20000 in
theorem kX2_openings_25 {S : Sh} (hS : ShOK S) {res : Int32 × Me} {t0 : Int32} {m : Me} (hf : fX2_openings_25 t0 m = some res) (hI : Inv m) : TT InvS (Call 0) mX2_openings (25, [], [.int t0], S, m) (some (.int res.1)) (S, res.2) := by
  unfold fX2_openings_25 at hf
  refine to_iconst (q := 26) ic_1 dX2_openings_25 rfl ?_
  refine to_iadd (q := 27) dX2_openings_26 rfl ?_
  cases hf
  exact to_iret dX2_openings_27 rfl rfl rfl rfl hI
def fX2_openings (a0 : Nat) (m : Me) : Option (Int32 × Me) := if (m.1 a0 3) = (0 : Int32) then fX2_openings_25 ((m.1 a0 1)) m else fX2_openings_25 (((m.1 a0 1) * ((m.1 a0 0) - (1 : Int32)))) m
set_option maxRecDepth 20000 in
theorem kX2_openings {S : Sh} (hS : ShOK S) {res : Int32 × Me} {a0 : Nat} {m : Me} (hf : fX2_openings a0 m = some res) (ha0 : kd a0 = 2) (hI : Inv m) : Call 1 mX2_openings [.ref a0] (S, m) (some (.int res.1)) (S, res.2) ∧ Inv res.2 := by
  refine call_of (P := InvS) (Nat.le_of_ble_eq_true rfl) (by simp [Value.category]) ?_
  show TT InvS (Call 0) mX2_openings (0, [(0, .ref a0)], [], S, m) _ _
  unfold fX2_openings at hf
  refine to_aload_n (q := 1) rfl (kd_4 (ha0) (by decide)) dX2_openings_0 rfl ?_
  refine to_getI (q := 4) (k0 := 2) (C := RX2) (T := TX2) (N := 14) (j := 3) rfl fx_X2_45 (sh_kd hS ha0 (by decide)) rfl dX2_openings_1 rfl ?_
  by_cases h1 : (m.1 a0 3) = (0 : Int32)
  · have hf := ite_pos h1 hf
    refine to_ifT (q := 21) (op := .eq) h1 dX2_openings_4 rfl ?_
    refine to_aload_n (q := 22) rfl (kd_4 (ha0) (by decide)) dX2_openings_21 rfl ?_
    refine to_getI (q := 25) (k0 := 2) (C := RX2) (T := TX2) (N := 14) (j := 1) rfl fx_X2_39 (sh_kd hS ha0 (by decide)) rfl dX2_openings_22 rfl ?_
    exact to_ext [] ext_nil (kX2_openings_25 hS hf hI)
  · have hf := ite_neg h1 hf
    refine to_ifF (q := 7) (op := .eq) 21 h1 dX2_openings_4 rfl rfl ?_
    refine to_aload_n (q := 8) rfl (kd_4 (ha0) (by decide)) dX2_openings_7 rfl ?_
    refine to_getI (q := 11) (k0 := 2) (C := RX2) (T := TX2) (N := 14) (j := 1) rfl fx_X2_39 (sh_kd hS ha0 (by decide)) rfl dX2_openings_8 rfl ?_
    refine to_aload_n (q := 12) rfl (kd_4 (ha0) (by decide)) dX2_openings_11 rfl ?_
    refine to_getI (q := 15) (k0 := 2) (C := RX2) (T := TX2) (N := 14) (j := 0) rfl fx_X2_35 (sh_kd hS ha0 (by decide)) rfl dX2_openings_12 rfl ?_
    refine to_iconst (q := 16) ic_1 dX2_openings_15 rfl ?_
    refine to_isub (q := 17) dX2_openings_16 rfl ?_
    refine to_imul (q := 18) dX2_openings_17 rfl ?_
    refine to_goto (q := 25) dX2_openings_18 rfl ?_
    exact to_ext [] ext_nil (kX2_openings_25 hS hf hI)
def fX2_openCells_57 (t0 : Int32) (m : Me) : Option (Int32 × Me) := some (t0, m)
set_option maxRecDepth 20000 in
theorem kX2_openCells_57 {S : Sh} (hS : ShOK S) {res : Int32 × Me} {t0 : Int32} {m : Me} (hf : fX2_openCells_57 t0 m = some res) (hI : Inv m) : TT InvS (Call 0) mX2_openCells (57, [], [.int t0], S, m) (some (.int res.1)) (S, res.2) := by
  unfold fX2_openCells_57 at hf
  cases hf
  exact to_iret dX2_openCells_57 rfl rfl rfl rfl hI
def fX2_openCells_14 (a0 : Nat) (x2 : Int32) (x3 : Int32) (t0 : Int32) (m : Me) : Option (Int32 × Me) := if x2 = t0 then some ((m.1 a0 1), m) else if (m.1 a0 3) = (0 : Int32) then fX2_openCells_57 x3 m else fX2_openCells_57 ((if (0 : Int32) < (if (x3 - ((m.1 a0 1) * x2)) < (m.1 a0 1) then (x3 - ((m.1 a0 1) * x2)) else (m.1 a0 1)) then (if (x3 - ((m.1 a0 1) * x2)) < (m.1 a0 1) then (x3 - ((m.1 a0 1) * x2)) else (m.1 a0 1)) else (0 : Int32))) m
set_option maxRecDepth 20000 in
theorem kX2_openCells_14 {S : Sh} (hS : ShOK S) {res : Int32 × Me} {a0 : Nat} {x2 : Int32} {x3 : Int32} {t0 : Int32} {m : Me} (hf : fX2_openCells_14 a0 x2 x3 t0 m = some res) (ha0 : kd a0 = 2) (hI : Inv m) : TT InvS (Call 0) mX2_openCells (14, [(0, .ref a0), (2, .int x2), (3, .int x3)], [.int t0], S, m) (some (.int res.1)) (S, res.2) := by
  unfold fX2_openCells_14 at hf
  refine to_istore (q := 16) [(4, .int t0), (0, .ref a0), (2, .int x2), (3, .int x3)] rfl (by decide) dX2_openCells_14 rfl ?_
  refine to_iload_n (q := 17) rfl dX2_openCells_16 rfl ?_
  refine to_iload (q := 19) rfl dX2_openCells_17 rfl ?_
  by_cases h2 : x2 = t0
  · have hf := ite_pos h2 hf
    refine to_icF (q := 22) (op := .ne) 27 (fun z => z h2) dX2_openCells_19 rfl rfl ?_
    refine to_aload_n (q := 23) rfl (kd_4 (ha0) (by decide)) dX2_openCells_22 rfl ?_
    refine to_getI (q := 26) (k0 := 2) (C := RX2) (T := TX2) (N := 14) (j := 1) rfl fx_X2_39 (sh_kd hS ha0 (by decide)) rfl dX2_openCells_23 rfl ?_
    cases hf
    exact to_iret dX2_openCells_26 rfl rfl rfl rfl hI
  · have hf := ite_neg h2 hf
    refine to_icT (q := 27) (op := .ne) h2 dX2_openCells_19 rfl ?_
    refine to_aload_n (q := 28) rfl (kd_4 (ha0) (by decide)) dX2_openCells_27 rfl ?_
    refine to_getI (q := 31) (k0 := 2) (C := RX2) (T := TX2) (N := 14) (j := 3) rfl fx_X2_45 (sh_kd hS ha0 (by decide)) rfl dX2_openCells_28 rfl ?_
    by_cases h3 : (m.1 a0 3) = (0 : Int32)
    · have hf := ite_pos h3 hf
      refine to_ifT (q := 56) (op := .eq) h3 dX2_openCells_31 rfl ?_
      refine to_iload_n (q := 57) rfl dX2_openCells_56 rfl ?_
      exact to_ext [] ext_nil (kX2_openCells_57 hS hf hI)
    · have hf := ite_neg h3 hf
      refine to_ifF (q := 34) (op := .eq) 56 h3 dX2_openCells_31 rfl rfl ?_
      refine to_iconst (q := 35) ic_0 dX2_openCells_34 rfl ?_
      refine to_aload_n (q := 36) rfl (kd_4 (ha0) (by decide)) dX2_openCells_35 rfl ?_
      refine to_getI (q := 39) (k0 := 2) (C := RX2) (T := TX2) (N := 14) (j := 1) rfl fx_X2_39 (sh_kd hS ha0 (by decide)) rfl dX2_openCells_36 rfl ?_
      refine to_iload_n (q := 40) rfl dX2_openCells_39 rfl ?_
      refine to_aload_n (q := 41) rfl (kd_4 (ha0) (by decide)) dX2_openCells_40 rfl ?_
      refine to_getI (q := 44) (k0 := 2) (C := RX2) (T := TX2) (N := 14) (j := 1) rfl fx_X2_39 (sh_kd hS ha0 (by decide)) rfl dX2_openCells_41 rfl ?_
      refine to_iload_n (q := 45) rfl dX2_openCells_44 rfl ?_
      refine to_imul (q := 46) dX2_openCells_45 rfl ?_
      refine to_isub (q := 47) dX2_openCells_46 rfl ?_
      refine to_min (q := 50) dX2_openCells_47 rfl (Nat.le_of_ble_eq_true rfl) (lc_min lm_X2_67) ?_
      refine to_max (q := 53) dX2_openCells_50 rfl (Nat.le_of_ble_eq_true rfl) (lc_max lm_X2_73) ?_
      refine to_goto (q := 57) dX2_openCells_53 rfl ?_
      exact to_ext [] ext_nil (kX2_openCells_57 hS hf hI)
def fX2_openCells (a0 : Nat) (x1 : Int32) (x2 : Int32) (x3 : Int32) (m : Me) : Option (Int32 × Me) := if x1 = (0 : Int32) then fX2_openCells_14 a0 x2 x3 (((m.1 a0 0) - (1 : Int32))) m else fX2_openCells_14 a0 x2 x3 ((0 : Int32)) m
set_option maxRecDepth 20000 in
theorem kX2_openCells {S : Sh} (hS : ShOK S) {res : Int32 × Me} {a0 : Nat} {x1 : Int32} {x2 : Int32} {x3 : Int32} {m : Me} (hf : fX2_openCells a0 x1 x2 x3 m = some res) (ha0 : kd a0 = 2) (hI : Inv m) : Call 1 mX2_openCells [.ref a0, .int x1, .int x2, .int x3] (S, m) (some (.int res.1)) (S, res.2) ∧ Inv res.2 := by
  refine call_of (P := InvS) (Nat.le_of_ble_eq_true rfl) (by simp [Value.category]) ?_
  show TT InvS (Call 0) mX2_openCells (0, [(0, .ref a0), (1, .int x1), (2, .int x2), (3, .int x3)], [], S, m) _ _
  unfold fX2_openCells at hf
  refine to_iload_n (q := 1) rfl dX2_openCells_0 rfl ?_
  by_cases h1 : x1 = (0 : Int32)
  · have hf := ite_pos h1 hf
    refine to_ifF (q := 4) (op := .ne) 13 (fun z => z h1) dX2_openCells_1 rfl rfl ?_
    refine to_aload_n (q := 5) rfl (kd_4 (ha0) (by decide)) dX2_openCells_4 rfl ?_
    refine to_getI (q := 8) (k0 := 2) (C := RX2) (T := TX2) (N := 14) (j := 0) rfl fx_X2_35 (sh_kd hS ha0 (by decide)) rfl dX2_openCells_5 rfl ?_
    refine to_iconst (q := 9) ic_1 dX2_openCells_8 rfl ?_
    refine to_isub (q := 10) dX2_openCells_9 rfl ?_
    refine to_goto (q := 14) dX2_openCells_10 rfl ?_
    exact to_ext [(0, .ref a0), (2, .int x2), (3, .int x3)] (ext_cons rfl (ext_cons rfl (ext_cons rfl ext_nil))) (kX2_openCells_14 hS hf (ha0) hI)
  · have hf := ite_neg h1 hf
    refine to_ifT (q := 13) (op := .ne) h1 dX2_openCells_1 rfl ?_
    refine to_iconst (q := 14) ic_0 dX2_openCells_13 rfl ?_
    exact to_ext [(0, .ref a0), (2, .int x2), (3, .int x3)] (ext_cons rfl (ext_cons rfl (ext_cons rfl ext_nil))) (kX2_openCells_14 hS hf (ha0) hI)
def fX2_wholeLength_5 (n : Nat) (a0 : Nat) (x1 : Int32) (x2 : Int32) (x3 : Int32) (x4 : Int32) (m : Me) : Option (Int32 × Me) := match n with
  | 0 => none
  | n + 1 => if (m.1 a0 0) ≤ x4 then some (x3, m) else cl2 (fX2_openCells a0 x1 x4 x2 m) fun r4 m5 => fX2_wholeLength_5 n a0 x1 x2 ((x3 + r4)) ((x4 + (1 : Int32))) m5
set_option maxRecDepth 20000 in
theorem kX2_wholeLength_5 {S : Sh} (hS : ShOK S) {res : Int32 × Me} (n : Nat) : ∀ {a0 : Nat} {x1 : Int32} {x2 : Int32} {x3 : Int32} {x4 : Int32} {m : Me}, fX2_wholeLength_5 n a0 x1 x2 x3 x4 m = some res → kd a0 = 2 → Inv m → TT InvS (Call 1) mX2_wholeLength (5, [(0, .ref a0), (1, .int x1), (2, .int x2), (3, .int x3), (4, .int x4)], [], S, m) (some (.int res.1)) (S, res.2) := by
  induction n with
  | zero => intro a0 x1 x2 x3 x4 m hf; cases hf
  | succ n ih =>
    intro a0 x1 x2 x3 x4 m hf ha0 hI
    unfold fX2_wholeLength_5 at hf
    refine to_iload (q := 7) rfl dX2_wholeLength_5 rfl ?_
    refine to_aload_n (q := 8) rfl (kd_4 (ha0) (by decide)) dX2_wholeLength_7 rfl ?_
    refine to_getI (q := 11) (k0 := 2) (C := RX2) (T := TX2) (N := 14) (j := 0) rfl fx_X2_35 (sh_kd hS ha0 (by decide)) rfl dX2_wholeLength_8 rfl ?_
    by_cases h1 : (m.1 a0 0) ≤ x4
    · have hf := ite_pos h1 hf
      refine to_icT (q := 31) (op := .ge) h1 dX2_wholeLength_11 rfl ?_
      refine to_iload_n (q := 32) rfl dX2_wholeLength_31 rfl ?_
      cases hf
      exact to_iret dX2_wholeLength_32 rfl rfl rfl rfl hI
    · have hf := ite_neg h1 hf
      refine to_icF (q := 14) (op := .ge) 31 h1 dX2_wholeLength_11 rfl rfl ?_
      refine to_iload_n (q := 15) rfl dX2_wholeLength_14 rfl ?_
      refine to_aload_n (q := 16) rfl (kd_4 (ha0) (by decide)) dX2_wholeLength_15 rfl ?_
      refine to_iload_n (q := 17) rfl dX2_wholeLength_16 rfl ?_
      refine to_iload (q := 19) rfl dX2_wholeLength_17 rfl ?_
      refine to_iload_n (q := 20) rfl dX2_wholeLength_19 rfl ?_
      obtain ⟨r4, m5, hc2, hf⟩ := cl2_some hf
      have qc3 := kX2_openCells hS hc2 (ha0) hI
      refine to_virtI (q := 23) mX2_openCells [.int x1, .int x4, .int x2] dX2_wholeLength_20 rfl rfl (Nat.le_of_ble_eq_true rfl) mo_X2_openCells mv_X2_76 (Or.inl ⟨_, _, _, sh_kd hS ha0 (by decide), rfl, rfl⟩) (Call_mono (by decide) qc3.1) ?_
      have hI := qc3.2
      refine to_iadd (q := 24) dX2_wholeLength_23 rfl ?_
      refine to_istore_n (q := 25) [(3, .int (x3 + r4)), (0, .ref a0), (1, .int x1), (2, .int x2), (4, .int x4)] rfl (by decide) dX2_wholeLength_24 rfl ?_
      refine to_iinc (q := 28) (v := (x4 + (1 : Int32))) rfl (congrArg (fun z => x4 + z) ic_1) [(4, .int (x4 + (1 : Int32))), (3, .int (x3 + r4)), (0, .ref a0), (1, .int x1), (2, .int x2)] rfl (by decide) dX2_wholeLength_25 rfl ?_
      refine to_goto (q := 5) dX2_wholeLength_28 rfl ?_
      exact to_ext [(0, .ref a0), (1, .int x1), (2, .int x2), (3, .int (x3 + r4)), (4, .int (x4 + (1 : Int32)))] (ext_cons rfl (ext_cons rfl (ext_cons rfl (ext_cons rfl (ext_cons rfl ext_nil))))) (ih hf (ha0) hI)
def fX2_wholeLength (a0 : Nat) (x1 : Int32) (x2 : Int32) (m : Me) : Option (Int32 × Me) := fX2_wholeLength_5 FU a0 x1 x2 ((0 : Int32)) ((0 : Int32)) m
set_option maxRecDepth 20000 in
theorem kX2_wholeLength {S : Sh} (hS : ShOK S) {res : Int32 × Me} {a0 : Nat} {x1 : Int32} {x2 : Int32} {m : Me} (hf : fX2_wholeLength a0 x1 x2 m = some res) (ha0 : kd a0 = 2) (hI : Inv m) : Call 2 mX2_wholeLength [.ref a0, .int x1, .int x2] (S, m) (some (.int res.1)) (S, res.2) ∧ Inv res.2 := by
  refine call_of (P := InvS) (Nat.le_of_ble_eq_true rfl) (by simp [Value.category]) ?_
  show TT InvS (Call 1) mX2_wholeLength (0, [(0, .ref a0), (1, .int x1), (2, .int x2)], [], S, m) _ _
  unfold fX2_wholeLength at hf
  refine to_iconst (q := 1) ic_0 dX2_wholeLength_0 rfl ?_
  refine to_istore_n (q := 2) [(3, .int (0 : Int32)), (0, .ref a0), (1, .int x1), (2, .int x2)] rfl (by decide) dX2_wholeLength_1 rfl ?_
  refine to_iconst (q := 3) ic_0 dX2_wholeLength_2 rfl ?_
  refine to_istore (q := 5) [(4, .int (0 : Int32)), (3, .int (0 : Int32)), (0, .ref a0), (1, .int x1), (2, .int x2)] rfl (by decide) dX2_wholeLength_3 rfl ?_
  exact to_ext [(0, .ref a0), (1, .int x1), (2, .int x2), (3, .int (0 : Int32)), (4, .int (0 : Int32))] (ext_cons rfl (ext_cons rfl (ext_cons rfl (ext_cons rfl (ext_cons rfl ext_nil))))) (kX2_wholeLength_5 hS FU hf (ha0) hI)
def fX8_standsIn_21 (n : Nat) (a0 : Nat) (a1 : Nat) (x2 : Int32) (x3 : Int32) (m : Me) : Option (Int32 × Me) := match n with
  | 0 => none
  | n + 1 => if (m.1 a0 1) ≤ x3 then some ((1 : Int32), m) else ck (inb x3 8) (ck (inb (x2 + x3) 8) (if (m.1 (a0 + 1) x3.toNatClampNeg) = (m.1 (a1 + 1) (x2 + x3).toNatClampNeg) then fX8_standsIn_21 n a0 a1 x2 ((x3 + (1 : Int32))) m else some ((0 : Int32), m)))
set_option maxRecDepth 20000 in
theorem kX8_standsIn_21 {S : Sh} (hS : ShOK S) {res : Int32 × Me} (n : Nat) : ∀ {a0 : Nat} {a1 : Nat} {x2 : Int32} {x3 : Int32} {m : Me}, fX8_standsIn_21 n a0 a1 x2 x3 m = some res → kd a0 = 8 → kd a1 = 8 → Inv m → TT InvS (Call 0) mX8_standsIn (21, [(0, .ref a0), (1, .ref a1), (2, .int x2), (3, .int x3)], [], S, m) (some (.int res.1)) (S, res.2) := by
  induction n with
  | zero => intro a0 a1 x2 x3 m hf; cases hf
  | succ n ih =>
    intro a0 a1 x2 x3 m hf ha0 ha1 hI
    unfold fX8_standsIn_21 at hf
    refine to_iload_n (q := 22) rfl dX8_standsIn_21 rfl ?_
    refine to_aload_n (q := 23) rfl (kd_4 (ha0) (by decide)) dX8_standsIn_22 rfl ?_
    refine to_getI (q := 26) (k0 := 8) (C := RX8) (T := TX8) (N := 5) (j := 1) rfl fx_X8_15 (sh_kd hS ha0 (by decide)) rfl dX8_standsIn_23 rfl ?_
    by_cases h3 : (m.1 a0 1) ≤ x3
    · have hf := ite_pos h3 hf
      refine to_icT (q := 54) (op := .ge) h3 dX8_standsIn_26 rfl ?_
      refine to_iconst (q := 55) ic_1 dX8_standsIn_54 rfl ?_
      cases hf
      exact to_iret dX8_standsIn_55 rfl (by decide) rfl rfl hI
    · have hf := ite_neg h3 hf
      refine to_icF (q := 29) (op := .ge) 54 h3 dX8_standsIn_26 rfl rfl ?_
      refine to_aload_n (q := 30) rfl (kd_4 (ha0) (by decide)) dX8_standsIn_29 rfl ?_
      refine to_getR (q := 33) (b := a0 + 1) (k0 := 8) (C := RX8) (T := TX8) (N := 5) (j := 0) rfl fx_X8_9 (sh_kd hS ha0 (by decide)) rfl (iv8 hI (ha0)) dX8_standsIn_30 rfl ?_
      refine to_iload_n (q := 34) rfl dX8_standsIn_33 rfl ?_
      obtain ⟨hb4, hf⟩ := ck_some hf
      refine to_iaj (q := 35) (sh_ln hS (kd8 (ha0)) (by decide)) hb4 (rfl) dX8_standsIn_34 rfl ?_
      refine to_aload_n (q := 36) rfl (kd_4 (ha1) (by decide)) dX8_standsIn_35 rfl ?_
      refine to_getR (q := 39) (b := a1 + 1) (k0 := 8) (C := RX8) (T := TX8) (N := 5) (j := 0) rfl fx_X8_9 (sh_kd hS ha1 (by decide)) rfl (iv8 hI (ha1)) dX8_standsIn_36 rfl ?_
      refine to_iload_n (q := 40) rfl dX8_standsIn_39 rfl ?_
      refine to_iload_n (q := 41) rfl dX8_standsIn_40 rfl ?_
      refine to_iadd (q := 42) dX8_standsIn_41 rfl ?_
      obtain ⟨hb5, hf⟩ := ck_some hf
      refine to_iaj (q := 43) (sh_ln hS (kd8 (ha1)) (by decide)) hb5 (rfl) dX8_standsIn_42 rfl ?_
      by_cases h6 : (m.1 (a0 + 1) x3.toNatClampNeg) = (m.1 (a1 + 1) (x2 + x3).toNatClampNeg)
      · have hf := ite_pos h6 hf
        refine to_icT (q := 48) (op := .eq) h6 dX8_standsIn_43 rfl ?_
        refine to_iinc (q := 51) (v := (x3 + (1 : Int32))) rfl (congrArg (fun z => x3 + z) ic_1) [(3, .int (x3 + (1 : Int32))), (0, .ref a0), (1, .ref a1), (2, .int x2)] rfl (by decide) dX8_standsIn_48 rfl ?_
        refine to_goto (q := 21) dX8_standsIn_51 rfl ?_
        exact to_ext [(0, .ref a0), (1, .ref a1), (2, .int x2), (3, .int (x3 + (1 : Int32)))] (ext_cons rfl (ext_cons rfl (ext_cons rfl (ext_cons rfl ext_nil)))) (ih hf (ha0) (ha1) hI)
      · have hf := ite_neg h6 hf
        refine to_icF (q := 46) (op := .eq) 48 h6 dX8_standsIn_43 rfl rfl ?_
        refine to_iconst (q := 47) ic_0 dX8_standsIn_46 rfl ?_
        cases hf
        exact to_iret dX8_standsIn_47 rfl (by decide) rfl rfl hI
def fX8_standsIn_17 (m : Me) : Option (Int32 × Me) := some ((0 : Int32), m)
set_option maxRecDepth 20000 in
theorem kX8_standsIn_17 {S : Sh} (hS : ShOK S) {res : Int32 × Me} {m : Me} (hf : fX8_standsIn_17 m = some res) (hI : Inv m) : TT InvS (Call 0) mX8_standsIn (17, [], [], S, m) (some (.int res.1)) (S, res.2) := by
  unfold fX8_standsIn_17 at hf
  refine to_iconst (q := 18) ic_0 dX8_standsIn_17 rfl ?_
  cases hf
  exact to_iret dX8_standsIn_18 rfl (by decide) rfl rfl hI
def fX8_standsIn (a0 : Nat) (a1 : Nat) (x2 : Int32) (m : Me) : Option (Int32 × Me) := if x2 < (0 : Int32) then fX8_standsIn_17 m else if (x2 + (m.1 a0 1)) ≤ (m.1 a1 1) then fX8_standsIn_21 FU a0 a1 x2 ((0 : Int32)) m else fX8_standsIn_17 m
set_option maxRecDepth 20000 in
theorem kX8_standsIn {S : Sh} (hS : ShOK S) {res : Int32 × Me} {a0 : Nat} {a1 : Nat} {x2 : Int32} {m : Me} (hf : fX8_standsIn a0 a1 x2 m = some res) (ha0 : kd a0 = 8) (ha1 : kd a1 = 8) (hI : Inv m) : Call 1 mX8_standsIn [.ref a0, .ref a1, .int x2] (S, m) (some (.int res.1)) (S, res.2) ∧ Inv res.2 := by
  refine call_of (P := InvS) (Nat.le_of_ble_eq_true rfl) (by simp [Value.category]) ?_
  show TT InvS (Call 0) mX8_standsIn (0, [(0, .ref a0), (1, .ref a1), (2, .int x2)], [], S, m) _ _
  unfold fX8_standsIn at hf
  refine to_iload_n (q := 1) rfl dX8_standsIn_0 rfl ?_
  by_cases h1 : x2 < (0 : Int32)
  · have hf := ite_pos h1 hf
    refine to_ifT (q := 17) (op := .lt) h1 dX8_standsIn_1 rfl ?_
    exact to_ext [] ext_nil (kX8_standsIn_17 hS hf hI)
  · have hf := ite_neg h1 hf
    refine to_ifF (q := 4) (op := .lt) 17 h1 dX8_standsIn_1 rfl rfl ?_
    refine to_iload_n (q := 5) rfl dX8_standsIn_4 rfl ?_
    refine to_aload_n (q := 6) rfl (kd_4 (ha0) (by decide)) dX8_standsIn_5 rfl ?_
    refine to_getI (q := 9) (k0 := 8) (C := RX8) (T := TX8) (N := 5) (j := 1) rfl fx_X8_15 (sh_kd hS ha0 (by decide)) rfl dX8_standsIn_6 rfl ?_
    refine to_iadd (q := 10) dX8_standsIn_9 rfl ?_
    refine to_aload_n (q := 11) rfl (kd_4 (ha1) (by decide)) dX8_standsIn_10 rfl ?_
    refine to_getI (q := 14) (k0 := 8) (C := RX8) (T := TX8) (N := 5) (j := 1) rfl fx_X8_15 (sh_kd hS ha1 (by decide)) rfl dX8_standsIn_11 rfl ?_
    by_cases h2 : (x2 + (m.1 a0 1)) ≤ (m.1 a1 1)
    · have hf := ite_pos h2 hf
      refine to_icT (q := 19) (op := .le) h2 dX8_standsIn_14 rfl ?_
      refine to_iconst (q := 20) ic_0 dX8_standsIn_19 rfl ?_
      refine to_istore_n (q := 21) [(3, .int (0 : Int32)), (0, .ref a0), (1, .ref a1), (2, .int x2)] rfl (by decide) dX8_standsIn_20 rfl ?_
      exact to_ext [(0, .ref a0), (1, .ref a1), (2, .int x2), (3, .int (0 : Int32))] (ext_cons rfl (ext_cons rfl (ext_cons rfl (ext_cons rfl ext_nil)))) (kX8_standsIn_21 hS FU hf (ha0) (ha1) hI)
    · have hf := ite_neg h2 hf
      refine to_icF (q := 17) (op := .le) 19 h2 dX8_standsIn_14 rfl rfl ?_
      exact to_ext [] ext_nil (kX8_standsIn_17 hS hf hI)
def fX8_sameLetters_25 (t0 : Int32) (m : Me) : Option (Int32 × Me) := ck (t0 = 0 ∨ t0 = 1) (some (t0, m))
set_option maxRecDepth 20000 in
theorem kX8_sameLetters_25 {S : Sh} (hS : ShOK S) {res : Int32 × Me} {t0 : Int32} {m : Me} (hf : fX8_sameLetters_25 t0 m = some res) (hI : Inv m) : TT InvS (Call 1) mX8_sameLetters (25, [], [.int t0], S, m) (some (.int res.1)) (S, res.2) := by
  unfold fX8_sameLetters_25 at hf
  obtain ⟨hz7, hf⟩ := ck_some hf
  cases hf
  exact to_iret dX8_sameLetters_25 rfl (nf_Z hz7).1 rfl rfl hI
def fX8_sameLetters_24 (m : Me) : Option (Int32 × Me) := fX8_sameLetters_25 ((0 : Int32)) m
set_option maxRecDepth 20000 in
theorem kX8_sameLetters_24 {S : Sh} (hS : ShOK S) {res : Int32 × Me} {m : Me} (hf : fX8_sameLetters_24 m = some res) (hI : Inv m) : TT InvS (Call 1) mX8_sameLetters (24, [], [], S, m) (some (.int res.1)) (S, res.2) := by
  unfold fX8_sameLetters_24 at hf
  refine to_iconst (q := 25) ic_0 dX8_sameLetters_24 rfl ?_
  exact to_ext [] ext_nil (kX8_sameLetters_25 hS hf hI)
def fX8_sameLetters (a0 : Nat) (a1 : Nat) (m : Me) : Option (Int32 × Me) := if (m.1 a0 1) = (m.1 a1 1) then cl2 (fX8_standsIn a0 a1 (0 : Int32) m) fun r4 m5 => if r4 = (0 : Int32) then fX8_sameLetters_24 m5 else fX8_sameLetters_25 ((1 : Int32)) m5 else fX8_sameLetters_24 m
set_option maxRecDepth 20000 in
theorem kX8_sameLetters {S : Sh} (hS : ShOK S) {res : Int32 × Me} {a0 : Nat} {a1 : Nat} {m : Me} (hf : fX8_sameLetters a0 a1 m = some res) (ha0 : kd a0 = 8) (ha1 : kd a1 = 8) (hI : Inv m) : Call 2 mX8_sameLetters [.ref a0, .ref a1] (S, m) (some (.int res.1)) (S, res.2) ∧ Inv res.2 := by
  refine call_of (P := InvS) (Nat.le_of_ble_eq_true rfl) (by simp [Value.category]) ?_
  show TT InvS (Call 1) mX8_sameLetters (0, [(0, .ref a0), (1, .ref a1)], [], S, m) _ _
  unfold fX8_sameLetters at hf
  refine to_aload_n (q := 1) rfl (kd_4 (ha0) (by decide)) dX8_sameLetters_0 rfl ?_
  refine to_getI (q := 4) (k0 := 8) (C := RX8) (T := TX8) (N := 5) (j := 1) rfl fx_X8_15 (sh_kd hS ha0 (by decide)) rfl dX8_sameLetters_1 rfl ?_
  refine to_aload_n (q := 5) rfl (kd_4 (ha1) (by decide)) dX8_sameLetters_4 rfl ?_
  refine to_getI (q := 8) (k0 := 8) (C := RX8) (T := TX8) (N := 5) (j := 1) rfl fx_X8_15 (sh_kd hS ha1 (by decide)) rfl dX8_sameLetters_5 rfl ?_
  by_cases h1 : (m.1 a0 1) = (m.1 a1 1)
  · have hf := ite_pos h1 hf
    refine to_icF (q := 11) (op := .ne) 24 (fun z => z h1) dX8_sameLetters_8 rfl rfl ?_
    refine to_aload_n (q := 12) rfl (kd_4 (ha0) (by decide)) dX8_sameLetters_11 rfl ?_
    refine to_aload_n (q := 13) rfl (kd_4 (ha1) (by decide)) dX8_sameLetters_12 rfl ?_
    refine to_iconst (q := 14) ic_0 dX8_sameLetters_13 rfl ?_
    obtain ⟨r4, m5, hc2, hf⟩ := cl2_some hf
    have qc3 := kX8_standsIn hS hc2 (ha0) (ha1) hI
    refine to_virtI (q := 17) mX8_standsIn [.ref a1, .int (0 : Int32)] dX8_sameLetters_14 rfl rfl (Nat.le_of_ble_eq_true rfl) mo_X8_standsIn mv_X8_19 (Or.inl ⟨_, _, _, sh_kd hS ha0 (by decide), rfl, rfl⟩) (Call_mono (by decide) qc3.1) ?_
    have hI := qc3.2
    by_cases h6 : r4 = (0 : Int32)
    · have hf := ite_pos h6 hf
      refine to_ifT (q := 24) (op := .eq) h6 dX8_sameLetters_17 rfl ?_
      exact to_ext [] ext_nil (kX8_sameLetters_24 hS hf hI)
    · have hf := ite_neg h6 hf
      refine to_ifF (q := 20) (op := .eq) 24 h6 dX8_sameLetters_17 rfl rfl ?_
      refine to_iconst (q := 21) ic_1 dX8_sameLetters_20 rfl ?_
      refine to_goto (q := 25) dX8_sameLetters_21 rfl ?_
      exact to_ext [] ext_nil (kX8_sameLetters_25 hS hf hI)
  · have hf := ite_neg h1 hf
    refine to_icT (q := 24) (op := .ne) h1 dX8_sameLetters_8 rfl ?_
    exact to_ext [] ext_nil (kX8_sameLetters_24 hS hf hI)
def fX2_isWished_50 (k3 : Nat → Nat → Int32 → Int32 → Int32 → Me → Option (Int32 × Me)) (a0 : Nat) (a1 : Nat) (x2 : Int32) (x3 : Int32) (x4 : Int32) (m : Me) : Option (Int32 × Me) := k3 a0 a1 x2 x3 ((x4 + (1 : Int32))) m
set_option maxRecDepth 20000 in
theorem kX2_isWished_50 {S : Sh} (hS : ShOK S) {res : Int32 × Me} {k3 : Nat → Nat → Int32 → Int32 → Int32 → Me → Option (Int32 × Me)} (hk3 : ∀ {a0 : Nat} {a1 : Nat} {x2 : Int32} {x3 : Int32} {x4 : Int32} {m : Me}, k3 a0 a1 x2 x3 x4 m = some res → kd a0 = 2 → kd a1 = 8 → Inv m → TT InvS (Call 2) mX2_isWished (3, [(0, .ref a0), (1, .ref a1), (2, .int x2), (3, .int x3), (4, .int x4)], [], S, m) (some (.int res.1)) (S, res.2)) {a0 : Nat} {a1 : Nat} {x2 : Int32} {x3 : Int32} {x4 : Int32} {m : Me} (hf : fX2_isWished_50 k3 a0 a1 x2 x3 x4 m = some res) (ha0 : kd a0 = 2) (ha1 : kd a1 = 8) (hI : Inv m) : TT InvS (Call 2) mX2_isWished (50, [(0, .ref a0), (1, .ref a1), (2, .int x2), (3, .int x3), (4, .int x4)], [], S, m) (some (.int res.1)) (S, res.2) := by
  unfold fX2_isWished_50 at hf
  refine to_iinc (q := 53) (v := (x4 + (1 : Int32))) rfl (congrArg (fun z => x4 + z) ic_1) [(4, .int (x4 + (1 : Int32))), (0, .ref a0), (1, .ref a1), (2, .int x2), (3, .int x3)] rfl (by decide) dX2_isWished_50 rfl ?_
  refine to_goto (q := 3) dX2_isWished_53 rfl ?_
  exact to_ext [(0, .ref a0), (1, .ref a1), (2, .int x2), (3, .int x3), (4, .int (x4 + (1 : Int32)))] (ext_cons rfl (ext_cons rfl (ext_cons rfl (ext_cons rfl (ext_cons rfl ext_nil))))) (hk3 hf (ha0) (ha1) hI)
def fX2_isWished_3 (n : Nat) (a0 : Nat) (a1 : Nat) (x2 : Int32) (x3 : Int32) (x4 : Int32) (m : Me) : Option (Int32 × Me) := match n with
  | 0 => none
  | n + 1 => if (m.1 a0 9) ≤ x4 then some ((0 : Int32), m) else ck (inb x4 4) (if (m.1 (a0 + 19 + 2 * x4.toNatClampNeg) 2) = x2 then if (m.1 (a0 + 19 + 2 * x4.toNatClampNeg) 3) = x3 then cl2 (fX8_sameLetters (a0 + 19 + 2 * x4.toNatClampNeg) a1 m) fun r7 m8 => if r7 = (0 : Int32) then fX2_isWished_50 (fX2_isWished_3 n) a0 a1 x2 x3 x4 m8 else some ((1 : Int32), m8) else fX2_isWished_50 (fX2_isWished_3 n) a0 a1 x2 x3 x4 m else fX2_isWished_50 (fX2_isWished_3 n) a0 a1 x2 x3 x4 m)
set_option maxRecDepth 20000 in
theorem kX2_isWished_3 {S : Sh} (hS : ShOK S) {res : Int32 × Me} (n : Nat) : ∀ {a0 : Nat} {a1 : Nat} {x2 : Int32} {x3 : Int32} {x4 : Int32} {m : Me}, fX2_isWished_3 n a0 a1 x2 x3 x4 m = some res → kd a0 = 2 → kd a1 = 8 → Inv m → TT InvS (Call 2) mX2_isWished (3, [(0, .ref a0), (1, .ref a1), (2, .int x2), (3, .int x3), (4, .int x4)], [], S, m) (some (.int res.1)) (S, res.2) := by
  induction n with
  | zero => intro a0 a1 x2 x3 x4 m hf; cases hf
  | succ n ih =>
    intro a0 a1 x2 x3 x4 m hf ha0 ha1 hI
    unfold fX2_isWished_3 at hf
    refine to_iload (q := 5) rfl dX2_isWished_3 rfl ?_
    refine to_aload_n (q := 6) rfl (kd_4 (ha0) (by decide)) dX2_isWished_5 rfl ?_
    refine to_getI (q := 9) (k0 := 2) (C := RX2) (T := TX2) (N := 14) (j := 9) rfl fx_X2_58 (sh_kd hS ha0 (by decide)) rfl dX2_isWished_6 rfl ?_
    by_cases h1 : (m.1 a0 9) ≤ x4
    · have hf := ite_pos h1 hf
      refine to_icT (q := 56) (op := .ge) h1 dX2_isWished_9 rfl ?_
      refine to_iconst (q := 57) ic_0 dX2_isWished_56 rfl ?_
      cases hf
      exact to_iret dX2_isWished_57 rfl (by decide) rfl rfl hI
    · have hf := ite_neg h1 hf
      refine to_icF (q := 12) (op := .ge) 56 h1 dX2_isWished_9 rfl rfl ?_
      refine to_aload_n (q := 13) rfl (kd_4 (ha0) (by decide)) dX2_isWished_12 rfl ?_
      refine to_getR (q := 16) (b := a0 + 4) (k0 := 2) (C := RX2) (T := TX2) (N := 14) (j := 8) rfl fx_X2_24 (sh_kd hS ha0 (by decide)) rfl (iv2i hI (ha0)) dX2_isWished_13 rfl ?_
      refine to_iload (q := 18) rfl dX2_isWished_16 rfl ?_
      obtain ⟨hb2, hf⟩ := ck_some hf
      refine to_aald (q := 19) (b := a0 + 19 + 2 * x4.toNatClampNeg) (sh_ln hS (kd2i (ha0)) (by decide)) (by decide) hb2 (ivI hI (ha0) hb2) dX2_isWished_18 rfl ?_
      refine to_astore (q := 21) [(5, .ref (a0 + 19 + 2 * x4.toNatClampNeg)), (0, .ref a0), (1, .ref a1), (2, .int x2), (3, .int x3), (4, .int x4)] rfl (kd_4 (kdI (ha0) hb2) (by decide)) (by decide) dX2_isWished_19 rfl ?_
      refine to_aload (q := 23) rfl (kd_4 (kdI (ha0) hb2) (by decide)) dX2_isWished_21 rfl ?_
      refine to_getI (q := 26) (k0 := 8) (C := RX8) (T := TX8) (N := 5) (j := 2) rfl fx_X2_80 (sh_kd hS (kdI (ha0) hb2) (by decide)) rfl dX2_isWished_23 rfl ?_
      refine to_iload_n (q := 27) rfl dX2_isWished_26 rfl ?_
      by_cases h3 : (m.1 (a0 + 19 + 2 * x4.toNatClampNeg) 2) = x2
      · have hf := ite_pos h3 hf
        refine to_icF (q := 30) (op := .ne) 50 (fun z => z h3) dX2_isWished_27 rfl rfl ?_
        refine to_aload (q := 32) rfl (kd_4 (kdI (ha0) hb2) (by decide)) dX2_isWished_30 rfl ?_
        refine to_getI (q := 35) (k0 := 8) (C := RX8) (T := TX8) (N := 5) (j := 3) rfl fx_X2_83 (sh_kd hS (kdI (ha0) hb2) (by decide)) rfl dX2_isWished_32 rfl ?_
        refine to_iload_n (q := 36) rfl dX2_isWished_35 rfl ?_
        by_cases h4 : (m.1 (a0 + 19 + 2 * x4.toNatClampNeg) 3) = x3
        · have hf := ite_pos h4 hf
          refine to_icF (q := 39) (op := .ne) 50 (fun z => z h4) dX2_isWished_36 rfl rfl ?_
          refine to_aload (q := 41) rfl (kd_4 (kdI (ha0) hb2) (by decide)) dX2_isWished_39 rfl ?_
          refine to_aload_n (q := 42) rfl (kd_4 (ha1) (by decide)) dX2_isWished_41 rfl ?_
          obtain ⟨r7, m8, hc5, hf⟩ := cl2_some hf
          have qc6 := kX8_sameLetters hS hc5 (kdI (ha0) hb2) (ha1) hI
          refine to_virtI (q := 45) mX8_sameLetters [.ref a1] dX2_isWished_42 rfl rfl (Nat.le_of_ble_eq_true rfl) mo_X8_sameLetters mv_X2_86 (Or.inl ⟨_, _, _, sh_kd hS (kdI (ha0) hb2) (by decide), rfl, rfl⟩) (Call_mono (by decide) qc6.1) ?_
          have hI := qc6.2
          by_cases h9 : r7 = (0 : Int32)
          · have hf := ite_pos h9 hf
            refine to_ifT (q := 50) (op := .eq) h9 dX2_isWished_45 rfl ?_
            exact to_ext [(0, .ref a0), (1, .ref a1), (2, .int x2), (3, .int x3), (4, .int x4)] (ext_cons rfl (ext_cons rfl (ext_cons rfl (ext_cons rfl (ext_cons rfl ext_nil))))) (kX2_isWished_50 hS ih hf (ha0) (ha1) hI)
          · have hf := ite_neg h9 hf
            refine to_ifF (q := 48) (op := .eq) 50 h9 dX2_isWished_45 rfl rfl ?_
            refine to_iconst (q := 49) ic_1 dX2_isWished_48 rfl ?_
            cases hf
            exact to_iret dX2_isWished_49 rfl (by decide) rfl rfl hI
        · have hf := ite_neg h4 hf
          refine to_icT (q := 50) (op := .ne) h4 dX2_isWished_36 rfl ?_
          exact to_ext [(0, .ref a0), (1, .ref a1), (2, .int x2), (3, .int x3), (4, .int x4)] (ext_cons rfl (ext_cons rfl (ext_cons rfl (ext_cons rfl (ext_cons rfl ext_nil))))) (kX2_isWished_50 hS ih hf (ha0) (ha1) hI)
      · have hf := ite_neg h3 hf
        refine to_icT (q := 50) (op := .ne) h3 dX2_isWished_27 rfl ?_
        exact to_ext [(0, .ref a0), (1, .ref a1), (2, .int x2), (3, .int x3), (4, .int x4)] (ext_cons rfl (ext_cons rfl (ext_cons rfl (ext_cons rfl (ext_cons rfl ext_nil))))) (kX2_isWished_50 hS ih hf (ha0) (ha1) hI)
def fX2_isWished (a0 : Nat) (a1 : Nat) (x2 : Int32) (x3 : Int32) (m : Me) : Option (Int32 × Me) := fX2_isWished_3 FU a0 a1 x2 x3 ((0 : Int32)) m
set_option maxRecDepth 20000 in
theorem kX2_isWished {S : Sh} (hS : ShOK S) {res : Int32 × Me} {a0 : Nat} {a1 : Nat} {x2 : Int32} {x3 : Int32} {m : Me} (hf : fX2_isWished a0 a1 x2 x3 m = some res) (ha0 : kd a0 = 2) (ha1 : kd a1 = 8) (hI : Inv m) : Call 3 mX2_isWished [.ref a0, .ref a1, .int x2, .int x3] (S, m) (some (.int res.1)) (S, res.2) ∧ Inv res.2 := by
  refine call_of (P := InvS) (Nat.le_of_ble_eq_true rfl) (by simp [Value.category]) ?_
  show TT InvS (Call 2) mX2_isWished (0, [(0, .ref a0), (1, .ref a1), (2, .int x2), (3, .int x3)], [], S, m) _ _
  unfold fX2_isWished at hf
  refine to_iconst (q := 1) ic_0 dX2_isWished_0 rfl ?_
  refine to_istore (q := 3) [(4, .int (0 : Int32)), (0, .ref a0), (1, .ref a1), (2, .int x2), (3, .int x3)] rfl (by decide) dX2_isWished_1 rfl ?_
  exact to_ext [(0, .ref a0), (1, .ref a1), (2, .int x2), (3, .int x3), (4, .int (0 : Int32))] (ext_cons rfl (ext_cons rfl (ext_cons rfl (ext_cons rfl (ext_cons rfl ext_nil))))) (kX2_isWished_3 hS FU hf (ha0) (ha1) hI)
def fX10_cellIndex (x0 : Int32) (x1 : Int32) (m : Me) : Option (Int32 × Me) := some (((x0 * (30 : Int32)) + x1), m)
set_option maxRecDepth 20000 in
theorem kX10_cellIndex {S : Sh} (hS : ShOK S) {res : Int32 × Me} {x0 : Int32} {x1 : Int32} {m : Me} (hf : fX10_cellIndex x0 x1 m = some res) (hI : Inv m) : Call 1 mX10_cellIndex [.int x0, .int x1] (S, m) (some (.int res.1)) (S, res.2) ∧ Inv res.2 := by
  refine call_of (P := InvS) (Nat.le_of_ble_eq_true rfl) (by simp [Value.category]) ?_
  show TT InvS (Call 0) mX10_cellIndex (0, [(0, .int x0), (1, .int x1)], [], S, m) _ _
  unfold fX10_cellIndex at hf
  refine to_iload_n (q := 1) rfl dX10_cellIndex_0 rfl ?_
  refine to_bipush (q := 3) bp_30 dX10_cellIndex_1 rfl ?_
  refine to_imul (q := 4) dX10_cellIndex_3 rfl ?_
  refine to_iload_n (q := 5) rfl dX10_cellIndex_4 rfl ?_
  refine to_iadd (q := 6) dX10_cellIndex_5 rfl ?_
  cases hf
  exact to_iret dX10_cellIndex_6 rfl rfl rfl rfl hI
def fX5_letterOf_30 (t0 : Int32) (m : Me) : Option (Int32 × Me) := some (t0, m)
set_option maxRecDepth 20000 in
theorem kX5_letterOf_30 {S : Sh} (hS : ShOK S) {res : Int32 × Me} {t0 : Int32} {m : Me} (hf : fX5_letterOf_30 t0 m = some res) (hI : Inv m) : TT InvS (Call 1) mX5_letterOf (30, [], [.int t0], S, m) (some (.int res.1)) (S, res.2) := by
  unfold fX5_letterOf_30 at hf
  cases hf
  exact to_iret dX5_letterOf_30 rfl rfl rfl rfl hI
def fX5_letterOf_19 (m : Me) : Option (Int32 × Me) := fX5_letterOf_30 ((25 : Int32)) m
set_option maxRecDepth 20000 in
theorem kX5_letterOf_19 {S : Sh} (hS : ShOK S) {res : Int32 × Me} {m : Me} (hf : fX5_letterOf_19 m = some res) (hI : Inv m) : TT InvS (Call 1) mX5_letterOf (19, [], [], S, m) (some (.int res.1)) (S, res.2) := by
  unfold fX5_letterOf_19 at hf
  refine to_bipush (q := 21) bp_25 dX5_letterOf_19 rfl ?_
  refine to_goto (q := 30) dX5_letterOf_21 rfl ?_
  exact to_ext [] ext_nil (kX5_letterOf_30 hS hf hI)
def fX5_letterOf (a0 : Nat) (x1 : Int32) (x2 : Int32) (m : Me) : Option (Int32 × Me) := cl2 (fX10_cellIndex x1 x2 m) fun r3 m4 => if r3 < (0 : Int32) then fX5_letterOf_19 m4 else if r3 < (60 : Int32) then ck (inb r3 60) (fX5_letterOf_30 ((m4.1 (a0 + 1) r3.toNatClampNeg)) m4) else fX5_letterOf_19 m4
set_option maxRecDepth 20000 in
theorem kX5_letterOf {S : Sh} (hS : ShOK S) {res : Int32 × Me} {a0 : Nat} {x1 : Int32} {x2 : Int32} {m : Me} (hf : fX5_letterOf a0 x1 x2 m = some res) (ha0 : kd a0 = 5) (hI : Inv m) : Call 2 mX5_letterOf [.ref a0, .int x1, .int x2] (S, m) (some (.int res.1)) (S, res.2) ∧ Inv res.2 := by
  refine call_of (P := InvS) (Nat.le_of_ble_eq_true rfl) (by simp [Value.category]) ?_
  show TT InvS (Call 1) mX5_letterOf (0, [(0, .ref a0), (1, .int x1), (2, .int x2)], [], S, m) _ _
  unfold fX5_letterOf at hf
  refine to_iload_n (q := 1) rfl dX5_letterOf_0 rfl ?_
  refine to_iload_n (q := 2) rfl dX5_letterOf_1 rfl ?_
  obtain ⟨r3, m4, hc1, hf⟩ := cl2_some hf
  have qc2 := kX10_cellIndex hS hc1 hI
  refine to_statI (q := 5) mX10_cellIndex [.int x1, .int x2] dX5_letterOf_2 rfl rfl (Nat.le_of_ble_eq_true rfl) mo_X10_cellIndex (Or.inr (by decide)) sa_X10_cellIndex (Call_mono (by decide) qc2.1) ?_
  have hI := qc2.2
  refine to_istore_n (q := 6) [(3, .int r3), (0, .ref a0), (1, .int x1), (2, .int x2)] rfl (by decide) dX5_letterOf_5 rfl ?_
  refine to_iload_n (q := 7) rfl dX5_letterOf_6 rfl ?_
  by_cases h5 : r3 < (0 : Int32)
  · have hf := ite_pos h5 hf
    refine to_ifT (q := 19) (op := .lt) h5 dX5_letterOf_7 rfl ?_
    exact to_ext [] ext_nil (kX5_letterOf_19 hS hf hI)
  · have hf := ite_neg h5 hf
    refine to_ifF (q := 10) (op := .lt) 19 h5 dX5_letterOf_7 rfl rfl ?_
    refine to_iload_n (q := 11) rfl dX5_letterOf_10 rfl ?_
    refine to_aload_n (q := 12) rfl (kd_4 (ha0) (by decide)) dX5_letterOf_11 rfl ?_
    refine to_getR (q := 15) (b := a0 + 1) (k0 := 5) (C := RX5) (T := TX5) (N := 3) (j := 0) rfl fx_X5_9 (sh_kd hS ha0 (by decide)) rfl (iv5 hI (ha0)) dX5_letterOf_12 rfl ?_
    refine to_alen (q := 16) (sh_ln hS (kd5 (ha0)) (by decide)) (by decide) on_60 dX5_letterOf_15 rfl ?_
    by_cases h6 : r3 < (60 : Int32)
    · have hf := ite_pos h6 hf
      refine to_icT (q := 24) (op := .lt) h6 dX5_letterOf_16 rfl ?_
      refine to_aload_n (q := 25) rfl (kd_4 (ha0) (by decide)) dX5_letterOf_24 rfl ?_
      refine to_getR (q := 28) (b := a0 + 1) (k0 := 5) (C := RX5) (T := TX5) (N := 3) (j := 0) rfl fx_X5_9 (sh_kd hS ha0 (by decide)) rfl (iv5 hI (ha0)) dX5_letterOf_25 rfl ?_
      refine to_iload_n (q := 29) rfl dX5_letterOf_28 rfl ?_
      obtain ⟨hb7, hf⟩ := ck_some hf
      refine to_iaj (q := 30) (sh_ln hS (kd5 (ha0)) (by decide)) hb7 (rfl) dX5_letterOf_29 rfl ?_
      exact to_ext [] ext_nil (kX5_letterOf_30 hS hf hI)
    · have hf := ite_neg h6 hf
      refine to_icF (q := 19) (op := .lt) 24 h6 dX5_letterOf_16 rfl rfl ?_
      exact to_ext [] ext_nil (kX5_letterOf_19 hS hf hI)
def fX7_addCells_65 (m : Me) : Option (Me) := some m
set_option maxRecDepth 20000 in
theorem kX7_addCells_65 {S : Sh} (hS : ShOK S) {res : Me} {m : Me} (hf : fX7_addCells_65 m = some res) (hI : Inv m) : TT InvS (Call 2) mX7_addCells (65, [], [], S, m) none (S, res) := by
  unfold fX7_addCells_65 at hf
  cases hf
  exact to_vret dX7_addCells_65 rfl rfl rfl hI
def fX7_addCells_3 (n : Nat) (a0 : Nat) (a1 : Nat) (x2 : Int32) (x4 : Int32) (x5 : Int32) (m : Me) : Option (Me) := match n with
  | 0 => none
  | n + 1 => if x4 ≤ x5 then fX7_addCells_65 m else if (30 : Int32) ≤ (m.1 a0 2) then fX7_addCells_65 m else ck (inb (m.1 a0 2) 30) (cl2 (fX5_letterOf a1 x2 x5 (setI m (a0 + 1) (m.1 a0 2).toNatClampNeg x5)) fun r6 m7 => ck (inb ((setI m (a0 + 1) (m.1 a0 2).toNatClampNeg x5).1 a0 2) 30) (fX7_addCells_3 n a0 a1 x2 x4 ((x5 + (1 : Int32))) (setI (setI m7 (a0 + 2) ((setI m (a0 + 1) (m.1 a0 2).toNatClampNeg x5).1 a0 2).toNatClampNeg r6) a0 2 (((setI m7 (a0 + 2) ((setI m (a0 + 1) (m.1 a0 2).toNatClampNeg x5).1 a0 2).toNatClampNeg r6).1 a0 2) + (1 : Int32)))))
set_option maxRecDepth 20000 in
theorem kX7_addCells_3 {S : Sh} (hS : ShOK S) {res : Me} (n : Nat) : ∀ {a0 : Nat} {a1 : Nat} {x2 : Int32} {x4 : Int32} {x5 : Int32} {m : Me}, fX7_addCells_3 n a0 a1 x2 x4 x5 m = some res → kd a0 = 7 → kd a1 = 5 → Inv m → TT InvS (Call 2) mX7_addCells (3, [(0, .ref a0), (1, .ref a1), (2, .int x2), (4, .int x4), (5, .int x5)], [], S, m) none (S, res) := by
  induction n with
  | zero => intro a0 a1 x2 x4 x5 m hf; cases hf
  | succ n ih =>
    intro a0 a1 x2 x4 x5 m hf ha0 ha1 hI
    unfold fX7_addCells_3 at hf
    refine to_iload (q := 5) rfl dX7_addCells_3 rfl ?_
    refine to_iload (q := 7) rfl dX7_addCells_5 rfl ?_
    by_cases h1 : x4 ≤ x5
    · have hf := ite_pos h1 hf
      refine to_icT (q := 65) (op := .ge) h1 dX7_addCells_7 rfl ?_
      exact to_ext [] ext_nil (kX7_addCells_65 hS hf hI)
    · have hf := ite_neg h1 hf
      refine to_icF (q := 10) (op := .ge) 65 h1 dX7_addCells_7 rfl rfl ?_
      refine to_aload_n (q := 11) rfl (kd_4 (ha0) (by decide)) dX7_addCells_10 rfl ?_
      refine to_getI (q := 14) (k0 := 7) (C := RX7) (T := TX7) (N := 3) (j := 2) rfl fx_X7_18 (sh_kd hS ha0 (by decide)) rfl dX7_addCells_11 rfl ?_
      refine to_aload_n (q := 15) rfl (kd_4 (ha0) (by decide)) dX7_addCells_14 rfl ?_
      refine to_getR (q := 18) (b := a0 + 1) (k0 := 7) (C := RX7) (T := TX7) (N := 3) (j := 0) rfl fx_X7_9 (sh_kd hS ha0 (by decide)) rfl (iv7a hI (ha0)) dX7_addCells_15 rfl ?_
      refine to_alen (q := 19) (sh_ln hS (kd7a (ha0)) (by decide)) (by decide) on_30 dX7_addCells_18 rfl ?_
      by_cases h2 : (30 : Int32) ≤ (m.1 a0 2)
      · have hf := ite_pos h2 hf
        refine to_icT (q := 65) (op := .ge) h2 dX7_addCells_19 rfl ?_
        exact to_ext [] ext_nil (kX7_addCells_65 hS hf hI)
      · have hf := ite_neg h2 hf
        refine to_icF (q := 22) (op := .ge) 65 h2 dX7_addCells_19 rfl rfl ?_
        refine to_aload_n (q := 23) rfl (kd_4 (ha0) (by decide)) dX7_addCells_22 rfl ?_
        refine to_getR (q := 26) (b := a0 + 1) (k0 := 7) (C := RX7) (T := TX7) (N := 3) (j := 0) rfl fx_X7_9 (sh_kd hS ha0 (by decide)) rfl (iv7a hI (ha0)) dX7_addCells_23 rfl ?_
        refine to_aload_n (q := 27) rfl (kd_4 (ha0) (by decide)) dX7_addCells_26 rfl ?_
        refine to_getI (q := 30) (k0 := 7) (C := RX7) (T := TX7) (N := 3) (j := 2) rfl fx_X7_18 (sh_kd hS ha0 (by decide)) rfl dX7_addCells_27 rfl ?_
        refine to_iload (q := 32) rfl dX7_addCells_30 rfl ?_
        obtain ⟨hb3, hf⟩ := ck_some hf
        refine to_iasj (q := 33) (sh_ln hS (kd7a (ha0)) (by decide)) hb3 (rfl) dX7_addCells_32 rfl ?_
        refine to_aload_n (q := 34) rfl (kd_4 (ha0) (by decide)) dX7_addCells_33 rfl ?_
        refine to_getR (q := 37) (b := a0 + 2) (k0 := 7) (C := RX7) (T := TX7) (N := 3) (j := 1) rfl fx_X7_15 (sh_kd hS ha0 (by decide)) rfl (iv7b hI (ha0)) dX7_addCells_34 rfl ?_
        refine to_aload_n (q := 38) rfl (kd_4 (ha0) (by decide)) dX7_addCells_37 rfl ?_
        refine to_getI (q := 41) (k0 := 7) (C := RX7) (T := TX7) (N := 3) (j := 2) rfl fx_X7_18 (sh_kd hS ha0 (by decide)) rfl dX7_addCells_38 rfl ?_
        refine to_aload_n (q := 42) rfl (kd_4 (ha1) (by decide)) dX7_addCells_41 rfl ?_
        refine to_iload_n (q := 43) rfl dX7_addCells_42 rfl ?_
        refine to_iload (q := 45) rfl dX7_addCells_43 rfl ?_
        obtain ⟨r6, m7, hc4, hf⟩ := cl2_some hf
        have qc5 := kX5_letterOf hS hc4 (ha1) hI
        refine to_virtI (q := 48) mX5_letterOf [.int x2, .int x5] dX7_addCells_45 rfl rfl (Nat.le_of_ble_eq_true rfl) mo_X5_letterOf mv_X7_38 (Or.inl ⟨_, _, _, sh_kd hS ha1 (by decide), rfl, rfl⟩) (Call_mono (by decide) qc5.1) ?_
        have hI := qc5.2
        obtain ⟨hb8, hf⟩ := ck_some hf
        refine to_iasj (q := 49) (sh_ln hS (kd7b (ha0)) (by decide)) hb8 (rfl) dX7_addCells_48 rfl ?_
        refine to_aload_n (q := 50) rfl (kd_4 (ha0) (by decide)) dX7_addCells_49 rfl ?_
        refine to_dup (q := 51) rfl dX7_addCells_50 rfl ?_
        refine to_getI (q := 54) (k0 := 7) (C := RX7) (T := TX7) (N := 3) (j := 2) rfl fx_X7_18 (sh_kd hS ha0 (by decide)) rfl dX7_addCells_51 rfl ?_
        refine to_iconst (q := 55) ic_1 dX7_addCells_54 rfl ?_
        refine to_iadd (q := 56) dX7_addCells_55 rfl ?_
        refine to_putI (q := 59) (ty := .int) (k0 := 7) (C := RX7) (T := TX7) (N := 3) (j := 2) rfl fx_X7_18 (sh_kd hS ha0 (by decide)) rfl pD_I (Or.inl rfl) (nf_I _) dX7_addCells_56 rfl ?_
        refine to_iinc (q := 62) (v := (x5 + (1 : Int32))) rfl (congrArg (fun z => x5 + z) ic_1) [(5, .int (x5 + (1 : Int32))), (0, .ref a0), (1, .ref a1), (2, .int x2), (4, .int x4)] rfl (by decide) dX7_addCells_59 rfl ?_
        refine to_goto (q := 3) dX7_addCells_62 rfl ?_
        exact to_ext [(0, .ref a0), (1, .ref a1), (2, .int x2), (4, .int x4), (5, .int (x5 + (1 : Int32)))] (ext_cons rfl (ext_cons rfl (ext_cons rfl (ext_cons rfl (ext_cons rfl ext_nil))))) (ih hf (ha0) (ha1) hI)
def fX7_addCells (a0 : Nat) (a1 : Nat) (x2 : Int32) (x3 : Int32) (x4 : Int32) (m : Me) : Option (Me) := fX7_addCells_3 FU a0 a1 x2 x4 x3 m
set_option maxRecDepth 20000 in
theorem kX7_addCells {S : Sh} (hS : ShOK S) {res : Me} {a0 : Nat} {a1 : Nat} {x2 : Int32} {x3 : Int32} {x4 : Int32} {m : Me} (hf : fX7_addCells a0 a1 x2 x3 x4 m = some res) (ha0 : kd a0 = 7) (ha1 : kd a1 = 5) (hI : Inv m) : Call 3 mX7_addCells [.ref a0, .ref a1, .int x2, .int x3, .int x4] (S, m) none (S, res) ∧ Inv res := by
  refine call_of (P := InvS) (Nat.le_of_ble_eq_true rfl) (by simp [Value.category]) ?_
  show TT InvS (Call 2) mX7_addCells (0, [(0, .ref a0), (1, .ref a1), (2, .int x2), (3, .int x3), (4, .int x4)], [], S, m) _ _
  unfold fX7_addCells at hf
  refine to_iload_n (q := 1) rfl dX7_addCells_0 rfl ?_
  refine to_istore (q := 3) [(5, .int x3), (0, .ref a0), (1, .ref a1), (2, .int x2), (3, .int x3), (4, .int x4)] rfl (by decide) dX7_addCells_1 rfl ?_
  exact to_ext [(0, .ref a0), (1, .ref a1), (2, .int x2), (4, .int x4), (5, .int x3)] (ext_cons rfl (ext_cons rfl (ext_cons rfl (ext_cons rfl (ext_cons rfl ext_nil))))) (kX7_addCells_3 hS FU hf (ha0) (ha1) hI)
def fX7_look_78 (k8 : Nat → Nat → Nat → Int32 → Int32 → Int32 → Int32 → Me → Option (Me)) (a0 : Nat) (a1 : Nat) (a2 : Nat) (x3 : Int32) (x4 : Int32) (x5 : Int32) (x6 : Int32) (m : Me) : Option (Me) := k8 a0 a1 a2 x3 x4 x5 ((x6 + (1 : Int32))) m
set_option maxRecDepth 20000 in
theorem kX7_look_78 {S : Sh} (hS : ShOK S) {res : Me} {k8 : Nat → Nat → Nat → Int32 → Int32 → Int32 → Int32 → Me → Option (Me)} (hk8 : ∀ {a0 : Nat} {a1 : Nat} {a2 : Nat} {x3 : Int32} {x4 : Int32} {x5 : Int32} {x6 : Int32} {m : Me}, k8 a0 a1 a2 x3 x4 x5 x6 m = some res → kd a0 = 7 → kd a1 = 2 → kd a2 = 5 → Inv m → TT InvS (Call 3) mX7_look (8, [(0, .ref a0), (1, .ref a1), (2, .ref a2), (3, .int x3), (4, .int x4), (5, .int x5), (6, .int x6)], [], S, m) none (S, res)) {a0 : Nat} {a1 : Nat} {a2 : Nat} {x3 : Int32} {x4 : Int32} {x5 : Int32} {x6 : Int32} {m : Me} (hf : fX7_look_78 k8 a0 a1 a2 x3 x4 x5 x6 m = some res) (ha0 : kd a0 = 7) (ha1 : kd a1 = 2) (ha2 : kd a2 = 5) (hI : Inv m) : TT InvS (Call 3) mX7_look (78, [(0, .ref a0), (1, .ref a1), (2, .ref a2), (3, .int x3), (4, .int x4), (5, .int x5), (6, .int x6)], [], S, m) none (S, res) := by
  unfold fX7_look_78 at hf
  refine to_iinc (q := 81) (v := (x6 + (1 : Int32))) rfl (congrArg (fun z => x6 + z) ic_1) [(6, .int (x6 + (1 : Int32))), (0, .ref a0), (1, .ref a1), (2, .ref a2), (3, .int x3), (4, .int x4), (5, .int x5)] rfl (by decide) dX7_look_78 rfl ?_
  refine to_goto (q := 8) dX7_look_81 rfl ?_
  exact to_ext [(0, .ref a0), (1, .ref a1), (2, .ref a2), (3, .int x3), (4, .int x4), (5, .int x5), (6, .int (x6 + (1 : Int32)))] (ext_cons rfl (ext_cons rfl (ext_cons rfl (ext_cons rfl (ext_cons rfl (ext_cons rfl (ext_cons rfl ext_nil))))))) (hk8 hf (ha0) (ha1) (ha2) hI)
def fX7_look_36 (k8 : Nat → Nat → Nat → Int32 → Int32 → Int32 → Int32 → Me → Option (Me)) (a0 : Nat) (a1 : Nat) (a2 : Nat) (x3 : Int32) (x4 : Int32) (x5 : Int32) (x6 : Int32) (t0 : Int32) (m : Me) : Option (Me) := if ((x3 >>> (t0 &&& 31)) &&& (1 : Int32)) = (0 : Int32) then cl2 (fX2_openCells a1 x4 t0 x5 m) fun r6 m7 => cl1 (fX7_addCells a0 a2 x4 (((m.1 a1 1) * t0)) ((((m.1 a1 1) * t0) + r6)) m7) fun m10 => fX7_look_78 k8 a0 a1 a2 x3 x4 x5 x6 m10 else fX7_look_78 k8 a0 a1 a2 x3 x4 x5 x6 m
set_option maxRecDepth 20000 in
theorem kX7_look_36 {S : Sh} (hS : ShOK S) {res : Me} {k8 : Nat → Nat → Nat → Int32 → Int32 → Int32 → Int32 → Me → Option (Me)} (hk8 : ∀ {a0 : Nat} {a1 : Nat} {a2 : Nat} {x3 : Int32} {x4 : Int32} {x5 : Int32} {x6 : Int32} {m : Me}, k8 a0 a1 a2 x3 x4 x5 x6 m = some res → kd a0 = 7 → kd a1 = 2 → kd a2 = 5 → Inv m → TT InvS (Call 3) mX7_look (8, [(0, .ref a0), (1, .ref a1), (2, .ref a2), (3, .int x3), (4, .int x4), (5, .int x5), (6, .int x6)], [], S, m) none (S, res)) {a0 : Nat} {a1 : Nat} {a2 : Nat} {x3 : Int32} {x4 : Int32} {x5 : Int32} {x6 : Int32} {t0 : Int32} {m : Me} (hf : fX7_look_36 k8 a0 a1 a2 x3 x4 x5 x6 t0 m = some res) (ha0 : kd a0 = 7) (ha1 : kd a1 = 2) (ha2 : kd a2 = 5) (hI : Inv m) : TT InvS (Call 3) mX7_look (36, [(0, .ref a0), (1, .ref a1), (2, .ref a2), (3, .int x3), (4, .int x4), (5, .int x5), (6, .int x6)], [.int t0], S, m) none (S, res) := by
  unfold fX7_look_36 at hf
  refine to_istore (q := 38) [(7, .int t0), (0, .ref a0), (1, .ref a1), (2, .ref a2), (3, .int x3), (4, .int x4), (5, .int x5), (6, .int x6)] rfl (by decide) dX7_look_36 rfl ?_
  refine to_iload_n (q := 39) rfl dX7_look_38 rfl ?_
  refine to_iload (q := 41) rfl dX7_look_39 rfl ?_
  refine to_ishr (q := 42) dX7_look_41 rfl ?_
  refine to_iconst (q := 43) ic_1 dX7_look_42 rfl ?_
  refine to_iand (q := 44) dX7_look_43 rfl ?_
  by_cases h3 : ((x3 >>> (t0 &&& 31)) &&& (1 : Int32)) = (0 : Int32)
  · have hf := ite_pos h3 hf
    refine to_ifF (q := 47) (op := .ne) 78 (fun z => z h3) dX7_look_44 rfl rfl ?_
    refine to_aload_n (q := 48) rfl (kd_4 (ha1) (by decide)) dX7_look_47 rfl ?_
    refine to_getI (q := 51) (k0 := 2) (C := RX2) (T := TX2) (N := 14) (j := 1) rfl fx_X7_27 (sh_kd hS ha1 (by decide)) rfl dX7_look_48 rfl ?_
    refine to_iload (q := 53) rfl dX7_look_51 rfl ?_
    refine to_imul (q := 54) dX7_look_53 rfl ?_
    refine to_istore (q := 56) [(8, .int ((m.1 a1 1) * t0)), (7, .int t0), (0, .ref a0), (1, .ref a1), (2, .ref a2), (3, .int x3), (4, .int x4), (5, .int x5), (6, .int x6)] rfl (by decide) dX7_look_54 rfl ?_
    refine to_aload_n (q := 57) rfl (kd_4 (ha0) (by decide)) dX7_look_56 rfl ?_
    refine to_aload_n (q := 58) rfl (kd_4 (ha2) (by decide)) dX7_look_57 rfl ?_
    refine to_iload (q := 60) rfl dX7_look_58 rfl ?_
    refine to_iload (q := 62) rfl dX7_look_60 rfl ?_
    refine to_iload (q := 64) rfl dX7_look_62 rfl ?_
    refine to_aload_n (q := 65) rfl (kd_4 (ha1) (by decide)) dX7_look_64 rfl ?_
    refine to_iload (q := 67) rfl dX7_look_65 rfl ?_
    refine to_iload (q := 69) rfl dX7_look_67 rfl ?_
    refine to_iload (q := 71) rfl dX7_look_69 rfl ?_
    obtain ⟨r6, m7, hc4, hf⟩ := cl2_some hf
    have qc5 := kX2_openCells hS hc4 (ha1) hI
    refine to_virtI (q := 74) mX2_openCells [.int x4, .int t0, .int x5] dX7_look_71 rfl rfl (Nat.le_of_ble_eq_true rfl) mo_X2_openCells mv_X7_30 (Or.inl ⟨_, _, _, sh_kd hS ha1 (by decide), rfl, rfl⟩) (Call_mono (by decide) qc5.1) ?_
    have hI := qc5.2
    refine to_iadd (q := 75) dX7_look_74 rfl ?_
    obtain ⟨m10, hc8, hf⟩ := cl1_some hf
    have qc9 := kX7_addCells hS hc8 (ha0) (ha2) hI
    refine to_virtV (q := 78) mX7_addCells [.ref a2, .int x4, .int ((m.1 a1 1) * t0), .int (((m.1 a1 1) * t0) + r6)] dX7_look_75 rfl rfl (Nat.le_of_ble_eq_true rfl) mo_X7_addCells mv_X7_34 (Or.inl ⟨_, _, _, sh_kd hS ha0 (by decide), rfl, rfl⟩) (Call_mono (by decide) qc9.1) ?_
    have hI := qc9.2
    exact to_ext [(0, .ref a0), (1, .ref a1), (2, .ref a2), (3, .int x3), (4, .int x4), (5, .int x5), (6, .int x6)] (ext_cons rfl (ext_cons rfl (ext_cons rfl (ext_cons rfl (ext_cons rfl (ext_cons rfl (ext_cons rfl ext_nil))))))) (kX7_look_78 hS hk8 hf (ha0) (ha1) (ha2) hI)
  · have hf := ite_neg h3 hf
    refine to_ifT (q := 78) (op := .ne) h3 dX7_look_44 rfl ?_
    exact to_ext [(0, .ref a0), (1, .ref a1), (2, .ref a2), (3, .int x3), (4, .int x4), (5, .int x5), (6, .int x6)] (ext_cons rfl (ext_cons rfl (ext_cons rfl (ext_cons rfl (ext_cons rfl (ext_cons rfl (ext_cons rfl ext_nil))))))) (kX7_look_78 hS hk8 hf (ha0) (ha1) (ha2) hI)
def fX7_look_8 (n : Nat) (a0 : Nat) (a1 : Nat) (a2 : Nat) (x3 : Int32) (x4 : Int32) (x5 : Int32) (x6 : Int32) (m : Me) : Option (Me) := match n with
  | 0 => none
  | n + 1 => if (m.1 a1 0) ≤ x6 then some m else if x4 = (0 : Int32) then fX7_look_36 (fX7_look_8 n) a0 a1 a2 x3 x4 x5 x6 x6 m else fX7_look_36 (fX7_look_8 n) a0 a1 a2 x3 x4 x5 x6 ((((m.1 a1 0) - (1 : Int32)) - x6)) m
set_option maxRecDepth 20000 in
theorem kX7_look_8 {S : Sh} (hS : ShOK S) {res : Me} (n : Nat) : ∀ {a0 : Nat} {a1 : Nat} {a2 : Nat} {x3 : Int32} {x4 : Int32} {x5 : Int32} {x6 : Int32} {m : Me}, fX7_look_8 n a0 a1 a2 x3 x4 x5 x6 m = some res → kd a0 = 7 → kd a1 = 2 → kd a2 = 5 → Inv m → TT InvS (Call 3) mX7_look (8, [(0, .ref a0), (1, .ref a1), (2, .ref a2), (3, .int x3), (4, .int x4), (5, .int x5), (6, .int x6)], [], S, m) none (S, res) := by
  induction n with
  | zero => intro a0 a1 a2 x3 x4 x5 x6 m hf; cases hf
  | succ n ih =>
    intro a0 a1 a2 x3 x4 x5 x6 m hf ha0 ha1 ha2 hI
    unfold fX7_look_8 at hf
    refine to_iload (q := 10) rfl dX7_look_8 rfl ?_
    refine to_aload_n (q := 11) rfl (kd_4 (ha1) (by decide)) dX7_look_10 rfl ?_
    refine to_getI (q := 14) (k0 := 2) (C := RX2) (T := TX2) (N := 14) (j := 0) rfl fx_X7_22 (sh_kd hS ha1 (by decide)) rfl dX7_look_11 rfl ?_
    by_cases h1 : (m.1 a1 0) ≤ x6
    · have hf := ite_pos h1 hf
      refine to_icT (q := 84) (op := .ge) h1 dX7_look_14 rfl ?_
      cases hf
      exact to_vret dX7_look_84 rfl rfl rfl hI
    · have hf := ite_neg h1 hf
      refine to_icF (q := 17) (op := .ge) 84 h1 dX7_look_14 rfl rfl ?_
      refine to_iload (q := 19) rfl dX7_look_17 rfl ?_
      by_cases h2 : x4 = (0 : Int32)
      · have hf := ite_pos h2 hf
        refine to_ifF (q := 22) (op := .ne) 27 (fun z => z h2) dX7_look_19 rfl rfl ?_
        refine to_iload (q := 24) rfl dX7_look_22 rfl ?_
        refine to_goto (q := 36) dX7_look_24 rfl ?_
        exact to_ext [(0, .ref a0), (1, .ref a1), (2, .ref a2), (3, .int x3), (4, .int x4), (5, .int x5), (6, .int x6)] (ext_cons rfl (ext_cons rfl (ext_cons rfl (ext_cons rfl (ext_cons rfl (ext_cons rfl (ext_cons rfl ext_nil))))))) (kX7_look_36 hS ih hf (ha0) (ha1) (ha2) hI)
      · have hf := ite_neg h2 hf
        refine to_ifT (q := 27) (op := .ne) h2 dX7_look_19 rfl ?_
        refine to_aload_n (q := 28) rfl (kd_4 (ha1) (by decide)) dX7_look_27 rfl ?_
        refine to_getI (q := 31) (k0 := 2) (C := RX2) (T := TX2) (N := 14) (j := 0) rfl fx_X7_22 (sh_kd hS ha1 (by decide)) rfl dX7_look_28 rfl ?_
        refine to_iconst (q := 32) ic_1 dX7_look_31 rfl ?_
        refine to_isub (q := 33) dX7_look_32 rfl ?_
        refine to_iload (q := 35) rfl dX7_look_33 rfl ?_
        refine to_isub (q := 36) dX7_look_35 rfl ?_
        exact to_ext [(0, .ref a0), (1, .ref a1), (2, .ref a2), (3, .int x3), (4, .int x4), (5, .int x5), (6, .int x6)] (ext_cons rfl (ext_cons rfl (ext_cons rfl (ext_cons rfl (ext_cons rfl (ext_cons rfl (ext_cons rfl ext_nil))))))) (kX7_look_36 hS ih hf (ha0) (ha1) (ha2) hI)
def fX7_look (a0 : Nat) (a1 : Nat) (a2 : Nat) (x3 : Int32) (x4 : Int32) (x5 : Int32) (m : Me) : Option (Me) := fX7_look_8 FU a0 a1 a2 x3 x4 x5 ((0 : Int32)) (setI m a0 2 (0 : Int32))
set_option maxRecDepth 20000 in
theorem kX7_look {S : Sh} (hS : ShOK S) {res : Me} {a0 : Nat} {a1 : Nat} {a2 : Nat} {x3 : Int32} {x4 : Int32} {x5 : Int32} {m : Me} (hf : fX7_look a0 a1 a2 x3 x4 x5 m = some res) (ha0 : kd a0 = 7) (ha1 : kd a1 = 2) (ha2 : kd a2 = 5) (hI : Inv m) : Call 4 mX7_look [.ref a0, .ref a1, .ref a2, .int x3, .int x4, .int x5] (S, m) none (S, res) ∧ Inv res := by
  refine call_of (P := InvS) (Nat.le_of_ble_eq_true rfl) (by simp [Value.category]) ?_
  show TT InvS (Call 3) mX7_look (0, [(0, .ref a0), (1, .ref a1), (2, .ref a2), (3, .int x3), (4, .int x4), (5, .int x5)], [], S, m) _ _
  unfold fX7_look at hf
  refine to_aload_n (q := 1) rfl (kd_4 (ha0) (by decide)) dX7_look_0 rfl ?_
  refine to_iconst (q := 2) ic_0 dX7_look_1 rfl ?_
  refine to_putI (q := 5) (ty := .int) (k0 := 7) (C := RX7) (T := TX7) (N := 3) (j := 2) rfl fx_X7_18 (sh_kd hS ha0 (by decide)) rfl pD_I (Or.inl rfl) (nf_I _) dX7_look_2 rfl ?_
  refine to_iconst (q := 6) ic_0 dX7_look_5 rfl ?_
  refine to_istore (q := 8) [(6, .int (0 : Int32)), (0, .ref a0), (1, .ref a1), (2, .ref a2), (3, .int x3), (4, .int x4), (5, .int x5)] rfl (by decide) dX7_look_6 rfl ?_
  exact to_ext [(0, .ref a0), (1, .ref a1), (2, .ref a2), (3, .int x3), (4, .int x4), (5, .int x5), (6, .int (0 : Int32))] (ext_cons rfl (ext_cons rfl (ext_cons rfl (ext_cons rfl (ext_cons rfl (ext_cons rfl (ext_cons rfl ext_nil))))))) (kX7_look_8 hS FU hf (ha0) (ha1) (ha2) hI)
def fX8_hasBare_2 (n : Nat) (a0 : Nat) (x1 : Int32) (m : Me) : Option (Int32 × Me) := match n with
  | 0 => none
  | n + 1 => if (m.1 a0 1) ≤ x1 then some ((0 : Int32), m) else ck (inb x1 8) (if (m.1 (a0 + 1) x1.toNatClampNeg) = (25 : Int32) then some ((1 : Int32), m) else fX8_hasBare_2 n a0 ((x1 + (1 : Int32))) m)
set_option maxRecDepth 20000 in
theorem kX8_hasBare_2 {S : Sh} (hS : ShOK S) {res : Int32 × Me} (n : Nat) : ∀ {a0 : Nat} {x1 : Int32} {m : Me}, fX8_hasBare_2 n a0 x1 m = some res → kd a0 = 8 → Inv m → TT InvS (Call 0) mX8_hasBare (2, [(0, .ref a0), (1, .int x1)], [], S, m) (some (.int res.1)) (S, res.2) := by
  induction n with
  | zero => intro a0 x1 m hf; cases hf
  | succ n ih =>
    intro a0 x1 m hf ha0 hI
    unfold fX8_hasBare_2 at hf
    refine to_iload_n (q := 3) rfl dX8_hasBare_2 rfl ?_
    refine to_aload_n (q := 4) rfl (kd_4 (ha0) (by decide)) dX8_hasBare_3 rfl ?_
    refine to_getI (q := 7) (k0 := 8) (C := RX8) (T := TX8) (N := 5) (j := 1) rfl fx_X8_15 (sh_kd hS ha0 (by decide)) rfl dX8_hasBare_4 rfl ?_
    by_cases h1 : (m.1 a0 1) ≤ x1
    · have hf := ite_pos h1 hf
      refine to_icT (q := 29) (op := .ge) h1 dX8_hasBare_7 rfl ?_
      refine to_iconst (q := 30) ic_0 dX8_hasBare_29 rfl ?_
      cases hf
      exact to_iret dX8_hasBare_30 rfl (by decide) rfl rfl hI
    · have hf := ite_neg h1 hf
      refine to_icF (q := 10) (op := .ge) 29 h1 dX8_hasBare_7 rfl rfl ?_
      refine to_aload_n (q := 11) rfl (kd_4 (ha0) (by decide)) dX8_hasBare_10 rfl ?_
      refine to_getR (q := 14) (b := a0 + 1) (k0 := 8) (C := RX8) (T := TX8) (N := 5) (j := 0) rfl fx_X8_9 (sh_kd hS ha0 (by decide)) rfl (iv8 hI (ha0)) dX8_hasBare_11 rfl ?_
      refine to_iload_n (q := 15) rfl dX8_hasBare_14 rfl ?_
      obtain ⟨hb2, hf⟩ := ck_some hf
      refine to_iaj (q := 16) (sh_ln hS (kd8 (ha0)) (by decide)) hb2 (rfl) dX8_hasBare_15 rfl ?_
      refine to_bipush (q := 18) bp_25 dX8_hasBare_16 rfl ?_
      by_cases h3 : (m.1 (a0 + 1) x1.toNatClampNeg) = (25 : Int32)
      · have hf := ite_pos h3 hf
        refine to_icF (q := 21) (op := .ne) 23 (fun z => z h3) dX8_hasBare_18 rfl rfl ?_
        refine to_iconst (q := 22) ic_1 dX8_hasBare_21 rfl ?_
        cases hf
        exact to_iret dX8_hasBare_22 rfl (by decide) rfl rfl hI
      · have hf := ite_neg h3 hf
        refine to_icT (q := 23) (op := .ne) h3 dX8_hasBare_18 rfl ?_
        refine to_iinc (q := 26) (v := (x1 + (1 : Int32))) rfl (congrArg (fun z => x1 + z) ic_1) [(1, .int (x1 + (1 : Int32))), (0, .ref a0)] rfl (by decide) dX8_hasBare_23 rfl ?_
        refine to_goto (q := 2) dX8_hasBare_26 rfl ?_
        exact to_ext [(0, .ref a0), (1, .int (x1 + (1 : Int32)))] (ext_cons rfl (ext_cons rfl ext_nil)) (ih hf (ha0) hI)
def fX8_hasBare (a0 : Nat) (m : Me) : Option (Int32 × Me) := fX8_hasBare_2 FU a0 ((0 : Int32)) m
set_option maxRecDepth 20000 in
theorem kX8_hasBare {S : Sh} (hS : ShOK S) {res : Int32 × Me} {a0 : Nat} {m : Me} (hf : fX8_hasBare a0 m = some res) (ha0 : kd a0 = 8) (hI : Inv m) : Call 1 mX8_hasBare [.ref a0] (S, m) (some (.int res.1)) (S, res.2) ∧ Inv res.2 := by
  refine call_of (P := InvS) (Nat.le_of_ble_eq_true rfl) (by simp [Value.category]) ?_
  show TT InvS (Call 0) mX8_hasBare (0, [(0, .ref a0)], [], S, m) _ _
  unfold fX8_hasBare at hf
  refine to_iconst (q := 1) ic_0 dX8_hasBare_0 rfl ?_
  refine to_istore_n (q := 2) [(1, .int (0 : Int32)), (0, .ref a0)] rfl (by decide) dX8_hasBare_1 rfl ?_
  exact to_ext [(0, .ref a0), (1, .int (0 : Int32))] (ext_cons rfl (ext_cons rfl ext_nil)) (kX8_hasBare_2 hS FU hf (ha0) hI)
def fX7_strangeAt_56 (k25 : Nat → Nat → Int32 → Int32 → Int32 → Me → Option (Int32 × Me)) (a0 : Nat) (a1 : Nat) (x2 : Int32) (x3 : Int32) (x4 : Int32) (m : Me) : Option (Int32 × Me) := k25 a0 a1 x2 x3 ((x4 + (1 : Int32))) m
set_option maxRecDepth 20000 in
theorem kX7_strangeAt_56 {S : Sh} (hS : ShOK S) {res : Int32 × Me} {k25 : Nat → Nat → Int32 → Int32 → Int32 → Me → Option (Int32 × Me)} (hk25 : ∀ {a0 : Nat} {a1 : Nat} {x2 : Int32} {x3 : Int32} {x4 : Int32} {m : Me}, k25 a0 a1 x2 x3 x4 m = some res → kd a0 = 7 → kd a1 = 8 → Inv m → TT InvS (Call 0) mX7_strangeAt (25, [(0, .ref a0), (1, .ref a1), (2, .int x2), (3, .int x3), (4, .int x4)], [], S, m) (some (.int res.1)) (S, res.2)) {a0 : Nat} {a1 : Nat} {x2 : Int32} {x3 : Int32} {x4 : Int32} {m : Me} (hf : fX7_strangeAt_56 k25 a0 a1 x2 x3 x4 m = some res) (ha0 : kd a0 = 7) (ha1 : kd a1 = 8) (hI : Inv m) : TT InvS (Call 0) mX7_strangeAt (56, [(0, .ref a0), (1, .ref a1), (2, .int x2), (3, .int x3), (4, .int x4)], [], S, m) (some (.int res.1)) (S, res.2) := by
  unfold fX7_strangeAt_56 at hf
  refine to_iinc (q := 59) (v := (x4 + (1 : Int32))) rfl (congrArg (fun z => x4 + z) ic_1) [(4, .int (x4 + (1 : Int32))), (0, .ref a0), (1, .ref a1), (2, .int x2), (3, .int x3)] rfl (by decide) dX7_strangeAt_56 rfl ?_
  refine to_goto (q := 25) dX7_strangeAt_59 rfl ?_
  exact to_ext [(0, .ref a0), (1, .ref a1), (2, .int x2), (3, .int x3), (4, .int (x4 + (1 : Int32)))] (ext_cons rfl (ext_cons rfl (ext_cons rfl (ext_cons rfl (ext_cons rfl ext_nil))))) (hk25 hf (ha0) (ha1) hI)
def fX7_strangeAt_25 (n : Nat) (a0 : Nat) (a1 : Nat) (x2 : Int32) (x3 : Int32) (x4 : Int32) (m : Me) : Option (Int32 × Me) := match n with
  | 0 => none
  | n + 1 => if (m.1 a1 1) ≤ x4 then some (x3, m) else ck (inb (x2 + x4) 30) (ck (inb x4 8) (if (m.1 (a0 + 2) (x2 + x4).toNatClampNeg) = (m.1 (a1 + 1) x4.toNatClampNeg) then fX7_strangeAt_56 (fX7_strangeAt_25 n) a0 a1 x2 x3 x4 m else fX7_strangeAt_56 (fX7_strangeAt_25 n) a0 a1 x2 ((x3 + (1 : Int32))) x4 m))
set_option maxRecDepth 20000 in
theorem kX7_strangeAt_25 {S : Sh} (hS : ShOK S) {res : Int32 × Me} (n : Nat) : ∀ {a0 : Nat} {a1 : Nat} {x2 : Int32} {x3 : Int32} {x4 : Int32} {m : Me}, fX7_strangeAt_25 n a0 a1 x2 x3 x4 m = some res → kd a0 = 7 → kd a1 = 8 → Inv m → TT InvS (Call 0) mX7_strangeAt (25, [(0, .ref a0), (1, .ref a1), (2, .int x2), (3, .int x3), (4, .int x4)], [], S, m) (some (.int res.1)) (S, res.2) := by
  induction n with
  | zero => intro a0 a1 x2 x3 x4 m hf; cases hf
  | succ n ih =>
    intro a0 a1 x2 x3 x4 m hf ha0 ha1 hI
    unfold fX7_strangeAt_25 at hf
    refine to_iload (q := 27) rfl dX7_strangeAt_25 rfl ?_
    refine to_aload_n (q := 28) rfl (kd_4 (ha1) (by decide)) dX7_strangeAt_27 rfl ?_
    refine to_getI (q := 31) (k0 := 8) (C := RX8) (T := TX8) (N := 5) (j := 1) rfl fx_X7_44 (sh_kd hS ha1 (by decide)) rfl dX7_strangeAt_28 rfl ?_
    by_cases h3 : (m.1 a1 1) ≤ x4
    · have hf := ite_pos h3 hf
      refine to_icT (q := 62) (op := .ge) h3 dX7_strangeAt_31 rfl ?_
      refine to_iload_n (q := 63) rfl dX7_strangeAt_62 rfl ?_
      cases hf
      exact to_iret dX7_strangeAt_63 rfl rfl rfl rfl hI
    · have hf := ite_neg h3 hf
      refine to_icF (q := 34) (op := .ge) 62 h3 dX7_strangeAt_31 rfl rfl ?_
      refine to_aload_n (q := 35) rfl (kd_4 (ha0) (by decide)) dX7_strangeAt_34 rfl ?_
      refine to_getR (q := 38) (b := a0 + 2) (k0 := 7) (C := RX7) (T := TX7) (N := 3) (j := 1) rfl fx_X7_15 (sh_kd hS ha0 (by decide)) rfl (iv7b hI (ha0)) dX7_strangeAt_35 rfl ?_
      refine to_iload_n (q := 39) rfl dX7_strangeAt_38 rfl ?_
      refine to_iload (q := 41) rfl dX7_strangeAt_39 rfl ?_
      refine to_iadd (q := 42) dX7_strangeAt_41 rfl ?_
      obtain ⟨hb4, hf⟩ := ck_some hf
      refine to_iaj (q := 43) (sh_ln hS (kd7b (ha0)) (by decide)) hb4 (rfl) dX7_strangeAt_42 rfl ?_
      refine to_aload_n (q := 44) rfl (kd_4 (ha1) (by decide)) dX7_strangeAt_43 rfl ?_
      refine to_getR (q := 47) (b := a1 + 1) (k0 := 8) (C := RX8) (T := TX8) (N := 5) (j := 0) rfl fx_X7_47 (sh_kd hS ha1 (by decide)) rfl (iv8 hI (ha1)) dX7_strangeAt_44 rfl ?_
      refine to_iload (q := 49) rfl dX7_strangeAt_47 rfl ?_
      obtain ⟨hb5, hf⟩ := ck_some hf
      refine to_iaj (q := 50) (sh_ln hS (kd8 (ha1)) (by decide)) hb5 (rfl) dX7_strangeAt_49 rfl ?_
      by_cases h6 : (m.1 (a0 + 2) (x2 + x4).toNatClampNeg) = (m.1 (a1 + 1) x4.toNatClampNeg)
      · have hf := ite_pos h6 hf
        refine to_icT (q := 56) (op := .eq) h6 dX7_strangeAt_50 rfl ?_
        exact to_ext [(0, .ref a0), (1, .ref a1), (2, .int x2), (3, .int x3), (4, .int x4)] (ext_cons rfl (ext_cons rfl (ext_cons rfl (ext_cons rfl (ext_cons rfl ext_nil))))) (kX7_strangeAt_56 hS ih hf (ha0) (ha1) hI)
      · have hf := ite_neg h6 hf
        refine to_icF (q := 53) (op := .eq) 56 h6 dX7_strangeAt_50 rfl rfl ?_
        refine to_iinc (q := 56) (v := (x3 + (1 : Int32))) rfl (congrArg (fun z => x3 + z) ic_1) [(3, .int (x3 + (1 : Int32))), (0, .ref a0), (1, .ref a1), (2, .int x2), (4, .int x4)] rfl (by decide) dX7_strangeAt_53 rfl ?_
        exact to_ext [(0, .ref a0), (1, .ref a1), (2, .int x2), (3, .int (x3 + (1 : Int32))), (4, .int x4)] (ext_cons rfl (ext_cons rfl (ext_cons rfl (ext_cons rfl (ext_cons rfl ext_nil))))) (kX7_strangeAt_56 hS ih hf (ha0) (ha1) hI)
def fX7_strangeAt_17 (m : Me) : Option (Int32 × Me) := some ((9 : Int32), m)
set_option maxRecDepth 20000 in
theorem kX7_strangeAt_17 {S : Sh} (hS : ShOK S) {res : Int32 × Me} {m : Me} (hf : fX7_strangeAt_17 m = some res) (hI : Inv m) : TT InvS (Call 0) mX7_strangeAt (17, [], [], S, m) (some (.int res.1)) (S, res.2) := by
  unfold fX7_strangeAt_17 at hf
  refine to_bipush (q := 19) bp_9 dX7_strangeAt_17 rfl ?_
  cases hf
  exact to_iret dX7_strangeAt_19 rfl rfl rfl rfl hI
def fX7_strangeAt (a0 : Nat) (a1 : Nat) (x2 : Int32) (m : Me) : Option (Int32 × Me) := if x2 < (0 : Int32) then fX7_strangeAt_17 m else if (x2 + (m.1 a1 1)) ≤ (m.1 a0 2) then fX7_strangeAt_25 FU a0 a1 x2 ((0 : Int32)) ((0 : Int32)) m else fX7_strangeAt_17 m
set_option maxRecDepth 20000 in
theorem kX7_strangeAt {S : Sh} (hS : ShOK S) {res : Int32 × Me} {a0 : Nat} {a1 : Nat} {x2 : Int32} {m : Me} (hf : fX7_strangeAt a0 a1 x2 m = some res) (ha0 : kd a0 = 7) (ha1 : kd a1 = 8) (hI : Inv m) : Call 1 mX7_strangeAt [.ref a0, .ref a1, .int x2] (S, m) (some (.int res.1)) (S, res.2) ∧ Inv res.2 := by
  refine call_of (P := InvS) (Nat.le_of_ble_eq_true rfl) (by simp [Value.category]) ?_
  show TT InvS (Call 0) mX7_strangeAt (0, [(0, .ref a0), (1, .ref a1), (2, .int x2)], [], S, m) _ _
  unfold fX7_strangeAt at hf
  refine to_iload_n (q := 1) rfl dX7_strangeAt_0 rfl ?_
  by_cases h1 : x2 < (0 : Int32)
  · have hf := ite_pos h1 hf
    refine to_ifT (q := 17) (op := .lt) h1 dX7_strangeAt_1 rfl ?_
    exact to_ext [] ext_nil (kX7_strangeAt_17 hS hf hI)
  · have hf := ite_neg h1 hf
    refine to_ifF (q := 4) (op := .lt) 17 h1 dX7_strangeAt_1 rfl rfl ?_
    refine to_iload_n (q := 5) rfl dX7_strangeAt_4 rfl ?_
    refine to_aload_n (q := 6) rfl (kd_4 (ha1) (by decide)) dX7_strangeAt_5 rfl ?_
    refine to_getI (q := 9) (k0 := 8) (C := RX8) (T := TX8) (N := 5) (j := 1) rfl fx_X7_44 (sh_kd hS ha1 (by decide)) rfl dX7_strangeAt_6 rfl ?_
    refine to_iadd (q := 10) dX7_strangeAt_9 rfl ?_
    refine to_aload_n (q := 11) rfl (kd_4 (ha0) (by decide)) dX7_strangeAt_10 rfl ?_
    refine to_getI (q := 14) (k0 := 7) (C := RX7) (T := TX7) (N := 3) (j := 2) rfl fx_X7_18 (sh_kd hS ha0 (by decide)) rfl dX7_strangeAt_11 rfl ?_
    by_cases h2 : (x2 + (m.1 a1 1)) ≤ (m.1 a0 2)
    · have hf := ite_pos h2 hf
      refine to_icT (q := 20) (op := .le) h2 dX7_strangeAt_14 rfl ?_
      refine to_iconst (q := 21) ic_0 dX7_strangeAt_20 rfl ?_
      refine to_istore_n (q := 22) [(3, .int (0 : Int32)), (0, .ref a0), (1, .ref a1), (2, .int x2)] rfl (by decide) dX7_strangeAt_21 rfl ?_
      refine to_iconst (q := 23) ic_0 dX7_strangeAt_22 rfl ?_
      refine to_istore (q := 25) [(4, .int (0 : Int32)), (3, .int (0 : Int32)), (0, .ref a0), (1, .ref a1), (2, .int x2)] rfl (by decide) dX7_strangeAt_23 rfl ?_
      exact to_ext [(0, .ref a0), (1, .ref a1), (2, .int x2), (3, .int (0 : Int32)), (4, .int (0 : Int32))] (ext_cons rfl (ext_cons rfl (ext_cons rfl (ext_cons rfl (ext_cons rfl ext_nil))))) (kX7_strangeAt_25 hS FU hf (ha0) (ha1) hI)
    · have hf := ite_neg h2 hf
      refine to_icF (q := 17) (op := .le) 20 h2 dX7_strangeAt_14 rfl rfl ?_
      exact to_ext [] ext_nil (kX7_strangeAt_17 hS hf hI)
def fX8_endsAsBegins_24 (n : Nat) (a0 : Nat) (a1 : Nat) (x2 : Int32) (x3 : Int32) (m : Me) : Option (Int32 × Me) := match n with
  | 0 => none
  | n + 1 => if x2 ≤ x3 then some ((1 : Int32), m) else ck (inb (((m.1 a0 1) - x2) + x3) 8) (ck (inb x3 8) (if (m.1 (a0 + 1) (((m.1 a0 1) - x2) + x3).toNatClampNeg) = (m.1 (a1 + 1) x3.toNatClampNeg) then fX8_endsAsBegins_24 n a0 a1 x2 ((x3 + (1 : Int32))) m else some ((0 : Int32), m)))
set_option maxRecDepth 20000 in
theorem kX8_endsAsBegins_24 {S : Sh} (hS : ShOK S) {res : Int32 × Me} (n : Nat) : ∀ {a0 : Nat} {a1 : Nat} {x2 : Int32} {x3 : Int32} {m : Me}, fX8_endsAsBegins_24 n a0 a1 x2 x3 m = some res → kd a0 = 8 → kd a1 = 8 → Inv m → TT InvS (Call 0) mX8_endsAsBegins (24, [(0, .ref a0), (1, .ref a1), (2, .int x2), (3, .int x3)], [], S, m) (some (.int res.1)) (S, res.2) := by
  induction n with
  | zero => intro a0 a1 x2 x3 m hf; cases hf
  | succ n ih =>
    intro a0 a1 x2 x3 m hf ha0 ha1 hI
    unfold fX8_endsAsBegins_24 at hf
    refine to_iload_n (q := 25) rfl dX8_endsAsBegins_24 rfl ?_
    refine to_iload_n (q := 26) rfl dX8_endsAsBegins_25 rfl ?_
    by_cases h4 : x2 ≤ x3
    · have hf := ite_pos h4 hf
      refine to_icT (q := 59) (op := .ge) h4 dX8_endsAsBegins_26 rfl ?_
      refine to_iconst (q := 60) ic_1 dX8_endsAsBegins_59 rfl ?_
      cases hf
      exact to_iret dX8_endsAsBegins_60 rfl (by decide) rfl rfl hI
    · have hf := ite_neg h4 hf
      refine to_icF (q := 29) (op := .ge) 59 h4 dX8_endsAsBegins_26 rfl rfl ?_
      refine to_aload_n (q := 30) rfl (kd_4 (ha0) (by decide)) dX8_endsAsBegins_29 rfl ?_
      refine to_getR (q := 33) (b := a0 + 1) (k0 := 8) (C := RX8) (T := TX8) (N := 5) (j := 0) rfl fx_X8_9 (sh_kd hS ha0 (by decide)) rfl (iv8 hI (ha0)) dX8_endsAsBegins_30 rfl ?_
      refine to_aload_n (q := 34) rfl (kd_4 (ha0) (by decide)) dX8_endsAsBegins_33 rfl ?_
      refine to_getI (q := 37) (k0 := 8) (C := RX8) (T := TX8) (N := 5) (j := 1) rfl fx_X8_15 (sh_kd hS ha0 (by decide)) rfl dX8_endsAsBegins_34 rfl ?_
      refine to_iload_n (q := 38) rfl dX8_endsAsBegins_37 rfl ?_
      refine to_isub (q := 39) dX8_endsAsBegins_38 rfl ?_
      refine to_iload_n (q := 40) rfl dX8_endsAsBegins_39 rfl ?_
      refine to_iadd (q := 41) dX8_endsAsBegins_40 rfl ?_
      obtain ⟨hb5, hf⟩ := ck_some hf
      refine to_iaj (q := 42) (sh_ln hS (kd8 (ha0)) (by decide)) hb5 (rfl) dX8_endsAsBegins_41 rfl ?_
      refine to_aload_n (q := 43) rfl (kd_4 (ha1) (by decide)) dX8_endsAsBegins_42 rfl ?_
      refine to_getR (q := 46) (b := a1 + 1) (k0 := 8) (C := RX8) (T := TX8) (N := 5) (j := 0) rfl fx_X8_9 (sh_kd hS ha1 (by decide)) rfl (iv8 hI (ha1)) dX8_endsAsBegins_43 rfl ?_
      refine to_iload_n (q := 47) rfl dX8_endsAsBegins_46 rfl ?_
      obtain ⟨hb6, hf⟩ := ck_some hf
      refine to_iaj (q := 48) (sh_ln hS (kd8 (ha1)) (by decide)) hb6 (rfl) dX8_endsAsBegins_47 rfl ?_
      by_cases h7 : (m.1 (a0 + 1) (((m.1 a0 1) - x2) + x3).toNatClampNeg) = (m.1 (a1 + 1) x3.toNatClampNeg)
      · have hf := ite_pos h7 hf
        refine to_icT (q := 53) (op := .eq) h7 dX8_endsAsBegins_48 rfl ?_
        refine to_iinc (q := 56) (v := (x3 + (1 : Int32))) rfl (congrArg (fun z => x3 + z) ic_1) [(3, .int (x3 + (1 : Int32))), (0, .ref a0), (1, .ref a1), (2, .int x2)] rfl (by decide) dX8_endsAsBegins_53 rfl ?_
        refine to_goto (q := 24) dX8_endsAsBegins_56 rfl ?_
        exact to_ext [(0, .ref a0), (1, .ref a1), (2, .int x2), (3, .int (x3 + (1 : Int32)))] (ext_cons rfl (ext_cons rfl (ext_cons rfl (ext_cons rfl ext_nil)))) (ih hf (ha0) (ha1) hI)
      · have hf := ite_neg h7 hf
        refine to_icF (q := 51) (op := .eq) 53 h7 dX8_endsAsBegins_48 rfl rfl ?_
        refine to_iconst (q := 52) ic_0 dX8_endsAsBegins_51 rfl ?_
        cases hf
        exact to_iret dX8_endsAsBegins_52 rfl (by decide) rfl rfl hI
def fX8_endsAsBegins_20 (m : Me) : Option (Int32 × Me) := some ((0 : Int32), m)
set_option maxRecDepth 20000 in
theorem kX8_endsAsBegins_20 {S : Sh} (hS : ShOK S) {res : Int32 × Me} {m : Me} (hf : fX8_endsAsBegins_20 m = some res) (hI : Inv m) : TT InvS (Call 0) mX8_endsAsBegins (20, [], [], S, m) (some (.int res.1)) (S, res.2) := by
  unfold fX8_endsAsBegins_20 at hf
  refine to_iconst (q := 21) ic_0 dX8_endsAsBegins_20 rfl ?_
  cases hf
  exact to_iret dX8_endsAsBegins_21 rfl (by decide) rfl rfl hI
def fX8_endsAsBegins (a0 : Nat) (a1 : Nat) (x2 : Int32) (m : Me) : Option (Int32 × Me) := if x2 < (0 : Int32) then fX8_endsAsBegins_20 m else if (m.1 a0 1) < x2 then fX8_endsAsBegins_20 m else if x2 ≤ (m.1 a1 1) then fX8_endsAsBegins_24 FU a0 a1 x2 ((0 : Int32)) m else fX8_endsAsBegins_20 m
set_option maxRecDepth 20000 in
theorem kX8_endsAsBegins {S : Sh} (hS : ShOK S) {res : Int32 × Me} {a0 : Nat} {a1 : Nat} {x2 : Int32} {m : Me} (hf : fX8_endsAsBegins a0 a1 x2 m = some res) (ha0 : kd a0 = 8) (ha1 : kd a1 = 8) (hI : Inv m) : Call 1 mX8_endsAsBegins [.ref a0, .ref a1, .int x2] (S, m) (some (.int res.1)) (S, res.2) ∧ Inv res.2 := by
  refine call_of (P := InvS) (Nat.le_of_ble_eq_true rfl) (by simp [Value.category]) ?_
  show TT InvS (Call 0) mX8_endsAsBegins (0, [(0, .ref a0), (1, .ref a1), (2, .int x2)], [], S, m) _ _
  unfold fX8_endsAsBegins at hf
  refine to_iload_n (q := 1) rfl dX8_endsAsBegins_0 rfl ?_
  by_cases h1 : x2 < (0 : Int32)
  · have hf := ite_pos h1 hf
    refine to_ifT (q := 20) (op := .lt) h1 dX8_endsAsBegins_1 rfl ?_
    exact to_ext [] ext_nil (kX8_endsAsBegins_20 hS hf hI)
  · have hf := ite_neg h1 hf
    refine to_ifF (q := 4) (op := .lt) 20 h1 dX8_endsAsBegins_1 rfl rfl ?_
    refine to_iload_n (q := 5) rfl dX8_endsAsBegins_4 rfl ?_
    refine to_aload_n (q := 6) rfl (kd_4 (ha0) (by decide)) dX8_endsAsBegins_5 rfl ?_
    refine to_getI (q := 9) (k0 := 8) (C := RX8) (T := TX8) (N := 5) (j := 1) rfl fx_X8_15 (sh_kd hS ha0 (by decide)) rfl dX8_endsAsBegins_6 rfl ?_
    by_cases h2 : (m.1 a0 1) < x2
    · have hf := ite_pos h2 hf
      refine to_icT (q := 20) (op := .gt) h2 dX8_endsAsBegins_9 rfl ?_
      exact to_ext [] ext_nil (kX8_endsAsBegins_20 hS hf hI)
    · have hf := ite_neg h2 hf
      refine to_icF (q := 12) (op := .gt) 20 h2 dX8_endsAsBegins_9 rfl rfl ?_
      refine to_iload_n (q := 13) rfl dX8_endsAsBegins_12 rfl ?_
      refine to_aload_n (q := 14) rfl (kd_4 (ha1) (by decide)) dX8_endsAsBegins_13 rfl ?_
      refine to_getI (q := 17) (k0 := 8) (C := RX8) (T := TX8) (N := 5) (j := 1) rfl fx_X8_15 (sh_kd hS ha1 (by decide)) rfl dX8_endsAsBegins_14 rfl ?_
      by_cases h3 : x2 ≤ (m.1 a1 1)
      · have hf := ite_pos h3 hf
        refine to_icT (q := 22) (op := .le) h3 dX8_endsAsBegins_17 rfl ?_
        refine to_iconst (q := 23) ic_0 dX8_endsAsBegins_22 rfl ?_
        refine to_istore_n (q := 24) [(3, .int (0 : Int32)), (0, .ref a0), (1, .ref a1), (2, .int x2)] rfl (by decide) dX8_endsAsBegins_23 rfl ?_
        exact to_ext [(0, .ref a0), (1, .ref a1), (2, .int x2), (3, .int (0 : Int32))] (ext_cons rfl (ext_cons rfl (ext_cons rfl (ext_cons rfl ext_nil)))) (kX8_endsAsBegins_24 hS FU hf (ha0) (ha1) hI)
      · have hf := ite_neg h3 hf
        refine to_icF (q := 20) (op := .le) 22 h3 dX8_endsAsBegins_17 rfl rfl ?_
        exact to_ext [] ext_nil (kX8_endsAsBegins_20 hS hf hI)
def fX8_liesIn_2 (n : Nat) (a0 : Nat) (a1 : Nat) (x2 : Int32) (m : Me) : Option (Int32 × Me) := match n with
  | 0 => none
  | n + 1 => if (m.1 a1 1) < (x2 + (m.1 a0 1)) then some ((0 : Int32), m) else cl2 (fX8_standsIn a0 a1 x2 m) fun r4 m5 => if r4 = (0 : Int32) then fX8_liesIn_2 n a0 a1 ((x2 + (1 : Int32))) m5 else some ((1 : Int32), m5)
set_option maxRecDepth 20000 in
theorem kX8_liesIn_2 {S : Sh} (hS : ShOK S) {res : Int32 × Me} (n : Nat) : ∀ {a0 : Nat} {a1 : Nat} {x2 : Int32} {m : Me}, fX8_liesIn_2 n a0 a1 x2 m = some res → kd a0 = 8 → kd a1 = 8 → Inv m → TT InvS (Call 1) mX8_liesIn (2, [(0, .ref a0), (1, .ref a1), (2, .int x2)], [], S, m) (some (.int res.1)) (S, res.2) := by
  induction n with
  | zero => intro a0 a1 x2 m hf; cases hf
  | succ n ih =>
    intro a0 a1 x2 m hf ha0 ha1 hI
    unfold fX8_liesIn_2 at hf
    refine to_iload_n (q := 3) rfl dX8_liesIn_2 rfl ?_
    refine to_aload_n (q := 4) rfl (kd_4 (ha0) (by decide)) dX8_liesIn_3 rfl ?_
    refine to_getI (q := 7) (k0 := 8) (C := RX8) (T := TX8) (N := 5) (j := 1) rfl fx_X8_15 (sh_kd hS ha0 (by decide)) rfl dX8_liesIn_4 rfl ?_
    refine to_iadd (q := 8) dX8_liesIn_7 rfl ?_
    refine to_aload_n (q := 9) rfl (kd_4 (ha1) (by decide)) dX8_liesIn_8 rfl ?_
    refine to_getI (q := 12) (k0 := 8) (C := RX8) (T := TX8) (N := 5) (j := 1) rfl fx_X8_15 (sh_kd hS ha1 (by decide)) rfl dX8_liesIn_9 rfl ?_
    by_cases h1 : (m.1 a1 1) < (x2 + (m.1 a0 1))
    · have hf := ite_pos h1 hf
      refine to_icT (q := 32) (op := .gt) h1 dX8_liesIn_12 rfl ?_
      refine to_iconst (q := 33) ic_0 dX8_liesIn_32 rfl ?_
      cases hf
      exact to_iret dX8_liesIn_33 rfl (by decide) rfl rfl hI
    · have hf := ite_neg h1 hf
      refine to_icF (q := 15) (op := .gt) 32 h1 dX8_liesIn_12 rfl rfl ?_
      refine to_aload_n (q := 16) rfl (kd_4 (ha0) (by decide)) dX8_liesIn_15 rfl ?_
      refine to_aload_n (q := 17) rfl (kd_4 (ha1) (by decide)) dX8_liesIn_16 rfl ?_
      refine to_iload_n (q := 18) rfl dX8_liesIn_17 rfl ?_
      obtain ⟨r4, m5, hc2, hf⟩ := cl2_some hf
      have qc3 := kX8_standsIn hS hc2 (ha0) (ha1) hI
      refine to_virtI (q := 21) mX8_standsIn [.ref a1, .int x2] dX8_liesIn_18 rfl rfl (Nat.le_of_ble_eq_true rfl) mo_X8_standsIn mv_X8_19 (Or.inl ⟨_, _, _, sh_kd hS ha0 (by decide), rfl, rfl⟩) (Call_mono (by decide) qc3.1) ?_
      have hI := qc3.2
      by_cases h6 : r4 = (0 : Int32)
      · have hf := ite_pos h6 hf
        refine to_ifT (q := 26) (op := .eq) h6 dX8_liesIn_21 rfl ?_
        refine to_iinc (q := 29) (v := (x2 + (1 : Int32))) rfl (congrArg (fun z => x2 + z) ic_1) [(2, .int (x2 + (1 : Int32))), (0, .ref a0), (1, .ref a1)] rfl (by decide) dX8_liesIn_26 rfl ?_
        refine to_goto (q := 2) dX8_liesIn_29 rfl ?_
        exact to_ext [(0, .ref a0), (1, .ref a1), (2, .int (x2 + (1 : Int32)))] (ext_cons rfl (ext_cons rfl (ext_cons rfl ext_nil))) (ih hf (ha0) (ha1) hI)
      · have hf := ite_neg h6 hf
        refine to_ifF (q := 24) (op := .eq) 26 h6 dX8_liesIn_21 rfl rfl ?_
        refine to_iconst (q := 25) ic_1 dX8_liesIn_24 rfl ?_
        cases hf
        exact to_iret dX8_liesIn_25 rfl (by decide) rfl rfl hI
def fX8_liesIn (a0 : Nat) (a1 : Nat) (m : Me) : Option (Int32 × Me) := fX8_liesIn_2 FU a0 a1 ((0 : Int32)) m
set_option maxRecDepth 20000 in
theorem kX8_liesIn {S : Sh} (hS : ShOK S) {res : Int32 × Me} {a0 : Nat} {a1 : Nat} {m : Me} (hf : fX8_liesIn a0 a1 m = some res) (ha0 : kd a0 = 8) (ha1 : kd a1 = 8) (hI : Inv m) : Call 2 mX8_liesIn [.ref a0, .ref a1] (S, m) (some (.int res.1)) (S, res.2) ∧ Inv res.2 := by
  refine call_of (P := InvS) (Nat.le_of_ble_eq_true rfl) (by simp [Value.category]) ?_
  show TT InvS (Call 1) mX8_liesIn (0, [(0, .ref a0), (1, .ref a1)], [], S, m) _ _
  unfold fX8_liesIn at hf
  refine to_iconst (q := 1) ic_0 dX8_liesIn_0 rfl ?_
  refine to_istore_n (q := 2) [(2, .int (0 : Int32)), (0, .ref a0), (1, .ref a1)] rfl (by decide) dX8_liesIn_1 rfl ?_
  exact to_ext [(0, .ref a0), (1, .ref a1), (2, .int (0 : Int32))] (ext_cons rfl (ext_cons rfl (ext_cons rfl ext_nil))) (kX8_liesIn_2 hS FU hf (ha0) (ha1) hI)
def fJ6_bitCount_0f7a4 (x0 : Int32) (m : Me) : Option (Int32 × Me) := some (((((((((x0 - ((x0.toUInt32 >>> ((1 : Int32).toUInt32 &&& Int32.toUInt32 31)).toInt32 &&& (1431655765 : Int32))) &&& (858993459 : Int32)) + (((x0 - ((x0.toUInt32 >>> ((1 : Int32).toUInt32 &&& Int32.toUInt32 31)).toInt32 &&& (1431655765 : Int32))).toUInt32 >>> ((2 : Int32).toUInt32 &&& Int32.toUInt32 31)).toInt32 &&& (858993459 : Int32))) + ((((x0 - ((x0.toUInt32 >>> ((1 : Int32).toUInt32 &&& Int32.toUInt32 31)).toInt32 &&& (1431655765 : Int32))) &&& (858993459 : Int32)) + (((x0 - ((x0.toUInt32 >>> ((1 : Int32).toUInt32 &&& Int32.toUInt32 31)).toInt32 &&& (1431655765 : Int32))).toUInt32 >>> ((2 : Int32).toUInt32 &&& Int32.toUInt32 31)).toInt32 &&& (858993459 : Int32))).toUInt32 >>> ((4 : Int32).toUInt32 &&& Int32.toUInt32 31)).toInt32) &&& (252645135 : Int32)) + ((((((x0 - ((x0.toUInt32 >>> ((1 : Int32).toUInt32 &&& Int32.toUInt32 31)).toInt32 &&& (1431655765 : Int32))) &&& (858993459 : Int32)) + (((x0 - ((x0.toUInt32 >>> ((1 : Int32).toUInt32 &&& Int32.toUInt32 31)).toInt32 &&& (1431655765 : Int32))).toUInt32 >>> ((2 : Int32).toUInt32 &&& Int32.toUInt32 31)).toInt32 &&& (858993459 : Int32))) + ((((x0 - ((x0.toUInt32 >>> ((1 : Int32).toUInt32 &&& Int32.toUInt32 31)).toInt32 &&& (1431655765 : Int32))) &&& (858993459 : Int32)) + (((x0 - ((x0.toUInt32 >>> ((1 : Int32).toUInt32 &&& Int32.toUInt32 31)).toInt32 &&& (1431655765 : Int32))).toUInt32 >>> ((2 : Int32).toUInt32 &&& Int32.toUInt32 31)).toInt32 &&& (858993459 : Int32))).toUInt32 >>> ((4 : Int32).toUInt32 &&& Int32.toUInt32 31)).toInt32) &&& (252645135 : Int32)).toUInt32 >>> ((8 : Int32).toUInt32 &&& Int32.toUInt32 31)).toInt32) + (((((((x0 - ((x0.toUInt32 >>> ((1 : Int32).toUInt32 &&& Int32.toUInt32 31)).toInt32 &&& (1431655765 : Int32))) &&& (858993459 : Int32)) + (((x0 - ((x0.toUInt32 >>> ((1 : Int32).toUInt32 &&& Int32.toUInt32 31)).toInt32 &&& (1431655765 : Int32))).toUInt32 >>> ((2 : Int32).toUInt32 &&& Int32.toUInt32 31)).toInt32 &&& (858993459 : Int32))) + ((((x0 - ((x0.toUInt32 >>> ((1 : Int32).toUInt32 &&& Int32.toUInt32 31)).toInt32 &&& (1431655765 : Int32))) &&& (858993459 : Int32)) + (((x0 - ((x0.toUInt32 >>> ((1 : Int32).toUInt32 &&& Int32.toUInt32 31)).toInt32 &&& (1431655765 : Int32))).toUInt32 >>> ((2 : Int32).toUInt32 &&& Int32.toUInt32 31)).toInt32 &&& (858993459 : Int32))).toUInt32 >>> ((4 : Int32).toUInt32 &&& Int32.toUInt32 31)).toInt32) &&& (252645135 : Int32)) + ((((((x0 - ((x0.toUInt32 >>> ((1 : Int32).toUInt32 &&& Int32.toUInt32 31)).toInt32 &&& (1431655765 : Int32))) &&& (858993459 : Int32)) + (((x0 - ((x0.toUInt32 >>> ((1 : Int32).toUInt32 &&& Int32.toUInt32 31)).toInt32 &&& (1431655765 : Int32))).toUInt32 >>> ((2 : Int32).toUInt32 &&& Int32.toUInt32 31)).toInt32 &&& (858993459 : Int32))) + ((((x0 - ((x0.toUInt32 >>> ((1 : Int32).toUInt32 &&& Int32.toUInt32 31)).toInt32 &&& (1431655765 : Int32))) &&& (858993459 : Int32)) + (((x0 - ((x0.toUInt32 >>> ((1 : Int32).toUInt32 &&& Int32.toUInt32 31)).toInt32 &&& (1431655765 : Int32))).toUInt32 >>> ((2 : Int32).toUInt32 &&& Int32.toUInt32 31)).toInt32 &&& (858993459 : Int32))).toUInt32 >>> ((4 : Int32).toUInt32 &&& Int32.toUInt32 31)).toInt32) &&& (252645135 : Int32)).toUInt32 >>> ((8 : Int32).toUInt32 &&& Int32.toUInt32 31)).toInt32).toUInt32 >>> ((16 : Int32).toUInt32 &&& Int32.toUInt32 31)).toInt32) &&& (63 : Int32)), m)
set_option maxRecDepth 20000 in
theorem kJ6_bitCount_0f7a4 {S : Sh} (hS : ShOK S) {res : Int32 × Me} {x0 : Int32} {m : Me} (hf : fJ6_bitCount_0f7a4 x0 m = some res) (hI : Inv m) : Call 1 mJ6_bitCount_0f7a4 [.int x0] (S, m) (some (.int res.1)) (S, res.2) ∧ Inv res.2 := by
  refine call_of (P := InvS) (Nat.le_of_ble_eq_true rfl) (by simp [Value.category]) ?_
  show TT InvS (Call 0) mJ6_bitCount_0f7a4 (0, [(0, .int x0)], [], S, m) _ _
  unfold fJ6_bitCount_0f7a4 at hf
  refine to_iload_n (q := 1) rfl dJ6_bitCount_0f7a4_0 rfl ?_
  refine to_iload_n (q := 2) rfl dJ6_bitCount_0f7a4_1 rfl ?_
  refine to_iconst (q := 3) ic_1 dJ6_bitCount_0f7a4_2 rfl ?_
  refine to_iushr (q := 4) dJ6_bitCount_0f7a4_3 rfl ?_
  refine to_ldcw (q := 7) con_J6_265 dJ6_bitCount_0f7a4_4 rfl ?_
  refine to_iand (q := 8) dJ6_bitCount_0f7a4_7 rfl ?_
  refine to_isub (q := 9) dJ6_bitCount_0f7a4_8 rfl ?_
  refine to_istore_n (q := 10) [(0, .int (x0 - ((x0.toUInt32 >>> ((1 : Int32).toUInt32 &&& Int32.toUInt32 31)).toInt32 &&& (1431655765 : Int32))))] rfl (by decide) dJ6_bitCount_0f7a4_9 rfl ?_
  refine to_iload_n (q := 11) rfl dJ6_bitCount_0f7a4_10 rfl ?_
  refine to_ldcw (q := 14) con_J6_266 dJ6_bitCount_0f7a4_11 rfl ?_
  refine to_iand (q := 15) dJ6_bitCount_0f7a4_14 rfl ?_
  refine to_iload_n (q := 16) rfl dJ6_bitCount_0f7a4_15 rfl ?_
  refine to_iconst (q := 17) ic_2 dJ6_bitCount_0f7a4_16 rfl ?_
  refine to_iushr (q := 18) dJ6_bitCount_0f7a4_17 rfl ?_
  refine to_ldcw (q := 21) con_J6_266 dJ6_bitCount_0f7a4_18 rfl ?_
  refine to_iand (q := 22) dJ6_bitCount_0f7a4_21 rfl ?_
  refine to_iadd (q := 23) dJ6_bitCount_0f7a4_22 rfl ?_
  refine to_istore_n (q := 24) [(0, .int (((x0 - ((x0.toUInt32 >>> ((1 : Int32).toUInt32 &&& Int32.toUInt32 31)).toInt32 &&& (1431655765 : Int32))) &&& (858993459 : Int32)) + (((x0 - ((x0.toUInt32 >>> ((1 : Int32).toUInt32 &&& Int32.toUInt32 31)).toInt32 &&& (1431655765 : Int32))).toUInt32 >>> ((2 : Int32).toUInt32 &&& Int32.toUInt32 31)).toInt32 &&& (858993459 : Int32))))] rfl (by decide) dJ6_bitCount_0f7a4_23 rfl ?_
  refine to_iload_n (q := 25) rfl dJ6_bitCount_0f7a4_24 rfl ?_
  refine to_iload_n (q := 26) rfl dJ6_bitCount_0f7a4_25 rfl ?_
  refine to_iconst (q := 27) ic_4 dJ6_bitCount_0f7a4_26 rfl ?_
  refine to_iushr (q := 28) dJ6_bitCount_0f7a4_27 rfl ?_
  refine to_iadd (q := 29) dJ6_bitCount_0f7a4_28 rfl ?_
  refine to_ldcw (q := 32) con_J6_267 dJ6_bitCount_0f7a4_29 rfl ?_
  refine to_iand (q := 33) dJ6_bitCount_0f7a4_32 rfl ?_
  refine to_istore_n (q := 34) [(0, .int (((((x0 - ((x0.toUInt32 >>> ((1 : Int32).toUInt32 &&& Int32.toUInt32 31)).toInt32 &&& (1431655765 : Int32))) &&& (858993459 : Int32)) + (((x0 - ((x0.toUInt32 >>> ((1 : Int32).toUInt32 &&& Int32.toUInt32 31)).toInt32 &&& (1431655765 : Int32))).toUInt32 >>> ((2 : Int32).toUInt32 &&& Int32.toUInt32 31)).toInt32 &&& (858993459 : Int32))) + ((((x0 - ((x0.toUInt32 >>> ((1 : Int32).toUInt32 &&& Int32.toUInt32 31)).toInt32 &&& (1431655765 : Int32))) &&& (858993459 : Int32)) + (((x0 - ((x0.toUInt32 >>> ((1 : Int32).toUInt32 &&& Int32.toUInt32 31)).toInt32 &&& (1431655765 : Int32))).toUInt32 >>> ((2 : Int32).toUInt32 &&& Int32.toUInt32 31)).toInt32 &&& (858993459 : Int32))).toUInt32 >>> ((4 : Int32).toUInt32 &&& Int32.toUInt32 31)).toInt32) &&& (252645135 : Int32)))] rfl (by decide) dJ6_bitCount_0f7a4_33 rfl ?_
  refine to_iload_n (q := 35) rfl dJ6_bitCount_0f7a4_34 rfl ?_
  refine to_iload_n (q := 36) rfl dJ6_bitCount_0f7a4_35 rfl ?_
  refine to_bipush (q := 38) bp_8 dJ6_bitCount_0f7a4_36 rfl ?_
  refine to_iushr (q := 39) dJ6_bitCount_0f7a4_38 rfl ?_
  refine to_iadd (q := 40) dJ6_bitCount_0f7a4_39 rfl ?_
  refine to_istore_n (q := 41) [(0, .int ((((((x0 - ((x0.toUInt32 >>> ((1 : Int32).toUInt32 &&& Int32.toUInt32 31)).toInt32 &&& (1431655765 : Int32))) &&& (858993459 : Int32)) + (((x0 - ((x0.toUInt32 >>> ((1 : Int32).toUInt32 &&& Int32.toUInt32 31)).toInt32 &&& (1431655765 : Int32))).toUInt32 >>> ((2 : Int32).toUInt32 &&& Int32.toUInt32 31)).toInt32 &&& (858993459 : Int32))) + ((((x0 - ((x0.toUInt32 >>> ((1 : Int32).toUInt32 &&& Int32.toUInt32 31)).toInt32 &&& (1431655765 : Int32))) &&& (858993459 : Int32)) + (((x0 - ((x0.toUInt32 >>> ((1 : Int32).toUInt32 &&& Int32.toUInt32 31)).toInt32 &&& (1431655765 : Int32))).toUInt32 >>> ((2 : Int32).toUInt32 &&& Int32.toUInt32 31)).toInt32 &&& (858993459 : Int32))).toUInt32 >>> ((4 : Int32).toUInt32 &&& Int32.toUInt32 31)).toInt32) &&& (252645135 : Int32)) + ((((((x0 - ((x0.toUInt32 >>> ((1 : Int32).toUInt32 &&& Int32.toUInt32 31)).toInt32 &&& (1431655765 : Int32))) &&& (858993459 : Int32)) + (((x0 - ((x0.toUInt32 >>> ((1 : Int32).toUInt32 &&& Int32.toUInt32 31)).toInt32 &&& (1431655765 : Int32))).toUInt32 >>> ((2 : Int32).toUInt32 &&& Int32.toUInt32 31)).toInt32 &&& (858993459 : Int32))) + ((((x0 - ((x0.toUInt32 >>> ((1 : Int32).toUInt32 &&& Int32.toUInt32 31)).toInt32 &&& (1431655765 : Int32))) &&& (858993459 : Int32)) + (((x0 - ((x0.toUInt32 >>> ((1 : Int32).toUInt32 &&& Int32.toUInt32 31)).toInt32 &&& (1431655765 : Int32))).toUInt32 >>> ((2 : Int32).toUInt32 &&& Int32.toUInt32 31)).toInt32 &&& (858993459 : Int32))).toUInt32 >>> ((4 : Int32).toUInt32 &&& Int32.toUInt32 31)).toInt32) &&& (252645135 : Int32)).toUInt32 >>> ((8 : Int32).toUInt32 &&& Int32.toUInt32 31)).toInt32))] rfl (by decide) dJ6_bitCount_0f7a4_40 rfl ?_
  refine to_iload_n (q := 42) rfl dJ6_bitCount_0f7a4_41 rfl ?_
  refine to_iload_n (q := 43) rfl dJ6_bitCount_0f7a4_42 rfl ?_
  refine to_bipush (q := 45) bp_16 dJ6_bitCount_0f7a4_43 rfl ?_
  refine to_iushr (q := 46) dJ6_bitCount_0f7a4_45 rfl ?_
  refine to_iadd (q := 47) dJ6_bitCount_0f7a4_46 rfl ?_
  refine to_istore_n (q := 48) [(0, .int (((((((x0 - ((x0.toUInt32 >>> ((1 : Int32).toUInt32 &&& Int32.toUInt32 31)).toInt32 &&& (1431655765 : Int32))) &&& (858993459 : Int32)) + (((x0 - ((x0.toUInt32 >>> ((1 : Int32).toUInt32 &&& Int32.toUInt32 31)).toInt32 &&& (1431655765 : Int32))).toUInt32 >>> ((2 : Int32).toUInt32 &&& Int32.toUInt32 31)).toInt32 &&& (858993459 : Int32))) + ((((x0 - ((x0.toUInt32 >>> ((1 : Int32).toUInt32 &&& Int32.toUInt32 31)).toInt32 &&& (1431655765 : Int32))) &&& (858993459 : Int32)) + (((x0 - ((x0.toUInt32 >>> ((1 : Int32).toUInt32 &&& Int32.toUInt32 31)).toInt32 &&& (1431655765 : Int32))).toUInt32 >>> ((2 : Int32).toUInt32 &&& Int32.toUInt32 31)).toInt32 &&& (858993459 : Int32))).toUInt32 >>> ((4 : Int32).toUInt32 &&& Int32.toUInt32 31)).toInt32) &&& (252645135 : Int32)) + ((((((x0 - ((x0.toUInt32 >>> ((1 : Int32).toUInt32 &&& Int32.toUInt32 31)).toInt32 &&& (1431655765 : Int32))) &&& (858993459 : Int32)) + (((x0 - ((x0.toUInt32 >>> ((1 : Int32).toUInt32 &&& Int32.toUInt32 31)).toInt32 &&& (1431655765 : Int32))).toUInt32 >>> ((2 : Int32).toUInt32 &&& Int32.toUInt32 31)).toInt32 &&& (858993459 : Int32))) + ((((x0 - ((x0.toUInt32 >>> ((1 : Int32).toUInt32 &&& Int32.toUInt32 31)).toInt32 &&& (1431655765 : Int32))) &&& (858993459 : Int32)) + (((x0 - ((x0.toUInt32 >>> ((1 : Int32).toUInt32 &&& Int32.toUInt32 31)).toInt32 &&& (1431655765 : Int32))).toUInt32 >>> ((2 : Int32).toUInt32 &&& Int32.toUInt32 31)).toInt32 &&& (858993459 : Int32))).toUInt32 >>> ((4 : Int32).toUInt32 &&& Int32.toUInt32 31)).toInt32) &&& (252645135 : Int32)).toUInt32 >>> ((8 : Int32).toUInt32 &&& Int32.toUInt32 31)).toInt32) + (((((((x0 - ((x0.toUInt32 >>> ((1 : Int32).toUInt32 &&& Int32.toUInt32 31)).toInt32 &&& (1431655765 : Int32))) &&& (858993459 : Int32)) + (((x0 - ((x0.toUInt32 >>> ((1 : Int32).toUInt32 &&& Int32.toUInt32 31)).toInt32 &&& (1431655765 : Int32))).toUInt32 >>> ((2 : Int32).toUInt32 &&& Int32.toUInt32 31)).toInt32 &&& (858993459 : Int32))) + ((((x0 - ((x0.toUInt32 >>> ((1 : Int32).toUInt32 &&& Int32.toUInt32 31)).toInt32 &&& (1431655765 : Int32))) &&& (858993459 : Int32)) + (((x0 - ((x0.toUInt32 >>> ((1 : Int32).toUInt32 &&& Int32.toUInt32 31)).toInt32 &&& (1431655765 : Int32))).toUInt32 >>> ((2 : Int32).toUInt32 &&& Int32.toUInt32 31)).toInt32 &&& (858993459 : Int32))).toUInt32 >>> ((4 : Int32).toUInt32 &&& Int32.toUInt32 31)).toInt32) &&& (252645135 : Int32)) + ((((((x0 - ((x0.toUInt32 >>> ((1 : Int32).toUInt32 &&& Int32.toUInt32 31)).toInt32 &&& (1431655765 : Int32))) &&& (858993459 : Int32)) + (((x0 - ((x0.toUInt32 >>> ((1 : Int32).toUInt32 &&& Int32.toUInt32 31)).toInt32 &&& (1431655765 : Int32))).toUInt32 >>> ((2 : Int32).toUInt32 &&& Int32.toUInt32 31)).toInt32 &&& (858993459 : Int32))) + ((((x0 - ((x0.toUInt32 >>> ((1 : Int32).toUInt32 &&& Int32.toUInt32 31)).toInt32 &&& (1431655765 : Int32))) &&& (858993459 : Int32)) + (((x0 - ((x0.toUInt32 >>> ((1 : Int32).toUInt32 &&& Int32.toUInt32 31)).toInt32 &&& (1431655765 : Int32))).toUInt32 >>> ((2 : Int32).toUInt32 &&& Int32.toUInt32 31)).toInt32 &&& (858993459 : Int32))).toUInt32 >>> ((4 : Int32).toUInt32 &&& Int32.toUInt32 31)).toInt32) &&& (252645135 : Int32)).toUInt32 >>> ((8 : Int32).toUInt32 &&& Int32.toUInt32 31)).toInt32).toUInt32 >>> ((16 : Int32).toUInt32 &&& Int32.toUInt32 31)).toInt32))] rfl (by decide) dJ6_bitCount_0f7a4_47 rfl ?_
  refine to_iload_n (q := 49) rfl dJ6_bitCount_0f7a4_48 rfl ?_
  refine to_bipush (q := 51) bp_63 dJ6_bitCount_0f7a4_49 rfl ?_
  refine to_iand (q := 52) dJ6_bitCount_0f7a4_51 rfl ?_
  cases hf
  exact to_iret dJ6_bitCount_0f7a4_52 rfl rfl rfl rfl hI
def fX5_copyFrom (a0 : Nat) (a1 : Nat) (m : Me) : Option (Me) := some (setI (setI (cpyI m (a1 + 1) (a0 + 1) 0 0 60) a0 1 ((cpyI m (a1 + 1) (a0 + 1) 0 0 60).1 a1 1)) a0 2 ((setI (cpyI m (a1 + 1) (a0 + 1) 0 0 60) a0 1 ((cpyI m (a1 + 1) (a0 + 1) 0 0 60).1 a1 1)).1 a1 2))
set_option maxRecDepth 20000 in
theorem kX5_copyFrom {S : Sh} (hS : ShOK S) {res : Me} {a0 : Nat} {a1 : Nat} {m : Me} (hf : fX5_copyFrom a0 a1 m = some res) (ha0 : kd a0 = 5) (ha1 : kd a1 = 5) (hI : Inv m) : Call 1 mX5_copyFrom [.ref a0, .ref a1] (S, m) none (S, res) ∧ Inv res := by
  refine call_of (P := InvS) (Nat.le_of_ble_eq_true rfl) (by simp [Value.category]) ?_
  show TT InvS (Call 0) mX5_copyFrom (0, [(0, .ref a0), (1, .ref a1)], [], S, m) _ _
  unfold fX5_copyFrom at hf
  refine to_aload_n (q := 1) rfl (kd_4 (ha1) (by decide)) dX5_copyFrom_0 rfl ?_
  refine to_getR (q := 4) (b := a1 + 1) (k0 := 5) (C := RX5) (T := TX5) (N := 3) (j := 0) rfl fx_X5_9 (sh_kd hS ha1 (by decide)) rfl (iv5 hI (ha1)) dX5_copyFrom_1 rfl ?_
  refine to_iconst (q := 5) ic_0 dX5_copyFrom_4 rfl ?_
  refine to_aload_n (q := 6) rfl (kd_4 (ha0) (by decide)) dX5_copyFrom_5 rfl ?_
  refine to_getR (q := 9) (b := a0 + 1) (k0 := 5) (C := RX5) (T := TX5) (N := 3) (j := 0) rfl fx_X5_9 (sh_kd hS ha0 (by decide)) rfl (iv5 hI (ha0)) dX5_copyFrom_6 rfl ?_
  refine to_iconst (q := 10) ic_0 dX5_copyFrom_9 rfl ?_
  refine to_aload_n (q := 11) rfl (kd_4 (ha0) (by decide)) dX5_copyFrom_10 rfl ?_
  refine to_getR (q := 14) (b := a0 + 1) (k0 := 5) (C := RX5) (T := TX5) (N := 3) (j := 0) rfl fx_X5_9 (sh_kd hS ha0 (by decide)) rfl (iv5 hI (ha0)) dX5_copyFrom_11 rfl ?_
  refine to_alen (q := 15) (sh_ln hS (kd5 (ha0)) (by decide)) (by decide) on_60 dX5_copyFrom_14 rfl ?_
  refine to_cpj (q := 18) dX5_copyFrom_15 rfl (Nat.le_of_ble_eq_true rfl) (lc_copy ml_X5_22) (sh_ln hS (kd5 (ha1)) (by decide)) (sh_ln hS (kd5 (ha0)) (by decide)) (by decide) (by decide) (by decide) tn_0 tn_0 tn_60 (by decide) (by decide) ?_
  refine to_aload_n (q := 19) rfl (kd_4 (ha0) (by decide)) dX5_copyFrom_18 rfl ?_
  refine to_aload_n (q := 20) rfl (kd_4 (ha1) (by decide)) dX5_copyFrom_19 rfl ?_
  refine to_getI (q := 23) (k0 := 5) (C := RX5) (T := TX5) (N := 3) (j := 1) rfl fx_X5_15 (sh_kd hS ha1 (by decide)) rfl dX5_copyFrom_20 rfl ?_
  refine to_putI (q := 26) (ty := .int) (k0 := 5) (C := RX5) (T := TX5) (N := 3) (j := 1) rfl fx_X5_15 (sh_kd hS ha0 (by decide)) rfl pD_I (Or.inl rfl) (nf_I _) dX5_copyFrom_23 rfl ?_
  refine to_aload_n (q := 27) rfl (kd_4 (ha0) (by decide)) dX5_copyFrom_26 rfl ?_
  refine to_aload_n (q := 28) rfl (kd_4 (ha1) (by decide)) dX5_copyFrom_27 rfl ?_
  refine to_getI (q := 31) (k0 := 5) (C := RX5) (T := TX5) (N := 3) (j := 2) rfl fx_X5_19 (sh_kd hS ha1 (by decide)) rfl dX5_copyFrom_28 rfl ?_
  refine to_putI (q := 34) (ty := .int) (k0 := 5) (C := RX5) (T := TX5) (N := 3) (j := 2) rfl fx_X5_19 (sh_kd hS ha0 (by decide)) rfl pD_I (Or.inl rfl) (nf_I _) dX5_copyFrom_31 rfl ?_
  cases hf
  exact to_vret dX5_copyFrom_34 rfl rfl rfl hI
def fX5_lacksRib_16 (t0 : Int32) (m : Me) : Option (Int32 × Me) := ck (t0 = 0 ∨ t0 = 1) (some (t0, m))
set_option maxRecDepth 20000 in
theorem kX5_lacksRib_16 {S : Sh} (hS : ShOK S) {res : Int32 × Me} {t0 : Int32} {m : Me} (hf : fX5_lacksRib_16 t0 m = some res) (hI : Inv m) : TT InvS (Call 0) mX5_lacksRib (16, [], [.int t0], S, m) (some (.int res.1)) (S, res.2) := by
  unfold fX5_lacksRib_16 at hf
  obtain ⟨hz2, hf⟩ := ck_some hf
  cases hf
  exact to_iret dX5_lacksRib_16 rfl (nf_Z hz2).1 rfl rfl hI
def fX5_lacksRib (a0 : Nat) (x1 : Int32) (m : Me) : Option (Int32 × Me) := if (((m.1 a0 1) >>> (x1 &&& 31)) &&& (1 : Int32)) = (0 : Int32) then fX5_lacksRib_16 ((0 : Int32)) m else fX5_lacksRib_16 ((1 : Int32)) m
set_option maxRecDepth 20000 in
theorem kX5_lacksRib {S : Sh} (hS : ShOK S) {res : Int32 × Me} {a0 : Nat} {x1 : Int32} {m : Me} (hf : fX5_lacksRib a0 x1 m = some res) (ha0 : kd a0 = 5) (hI : Inv m) : Call 1 mX5_lacksRib [.ref a0, .int x1] (S, m) (some (.int res.1)) (S, res.2) ∧ Inv res.2 := by
  refine call_of (P := InvS) (Nat.le_of_ble_eq_true rfl) (by simp [Value.category]) ?_
  show TT InvS (Call 0) mX5_lacksRib (0, [(0, .ref a0), (1, .int x1)], [], S, m) _ _
  unfold fX5_lacksRib at hf
  refine to_aload_n (q := 1) rfl (kd_4 (ha0) (by decide)) dX5_lacksRib_0 rfl ?_
  refine to_getI (q := 4) (k0 := 5) (C := RX5) (T := TX5) (N := 3) (j := 1) rfl fx_X5_15 (sh_kd hS ha0 (by decide)) rfl dX5_lacksRib_1 rfl ?_
  refine to_iload_n (q := 5) rfl dX5_lacksRib_4 rfl ?_
  refine to_ishr (q := 6) dX5_lacksRib_5 rfl ?_
  refine to_iconst (q := 7) ic_1 dX5_lacksRib_6 rfl ?_
  refine to_iand (q := 8) dX5_lacksRib_7 rfl ?_
  by_cases h1 : (((m.1 a0 1) >>> (x1 &&& 31)) &&& (1 : Int32)) = (0 : Int32)
  · have hf := ite_pos h1 hf
    refine to_ifT (q := 15) (op := .eq) h1 dX5_lacksRib_8 rfl ?_
    refine to_iconst (q := 16) ic_0 dX5_lacksRib_15 rfl ?_
    exact to_ext [] ext_nil (kX5_lacksRib_16 hS hf hI)
  · have hf := ite_neg h1 hf
    refine to_ifF (q := 11) (op := .eq) 15 h1 dX5_lacksRib_8 rfl rfl ?_
    refine to_iconst (q := 12) ic_1 dX5_lacksRib_11 rfl ?_
    refine to_goto (q := 16) dX5_lacksRib_12 rfl ?_
    exact to_ext [] ext_nil (kX5_lacksRib_16 hS hf hI)
def fX5_countPainted_27 (k4 : Nat → Int32 → Int32 → Me → Option (Int32 × Me)) (a0 : Nat) (x1 : Int32) (x2 : Int32) (m : Me) : Option (Int32 × Me) := k4 a0 x1 ((x2 + (1 : Int32))) m
set_option maxRecDepth 20000 in
theorem kX5_countPainted_27 {S : Sh} (hS : ShOK S) {res : Int32 × Me} {k4 : Nat → Int32 → Int32 → Me → Option (Int32 × Me)} (hk4 : ∀ {a0 : Nat} {x1 : Int32} {x2 : Int32} {m : Me}, k4 a0 x1 x2 m = some res → kd a0 = 5 → Inv m → TT InvS (Call 0) mX5_countPainted (4, [(0, .ref a0), (1, .int x1), (2, .int x2)], [], S, m) (some (.int res.1)) (S, res.2)) {a0 : Nat} {x1 : Int32} {x2 : Int32} {m : Me} (hf : fX5_countPainted_27 k4 a0 x1 x2 m = some res) (ha0 : kd a0 = 5) (hI : Inv m) : TT InvS (Call 0) mX5_countPainted (27, [(0, .ref a0), (1, .int x1), (2, .int x2)], [], S, m) (some (.int res.1)) (S, res.2) := by
  unfold fX5_countPainted_27 at hf
  refine to_iinc (q := 30) (v := (x2 + (1 : Int32))) rfl (congrArg (fun z => x2 + z) ic_1) [(2, .int (x2 + (1 : Int32))), (0, .ref a0), (1, .int x1)] rfl (by decide) dX5_countPainted_27 rfl ?_
  refine to_goto (q := 4) dX5_countPainted_30 rfl ?_
  exact to_ext [(0, .ref a0), (1, .int x1), (2, .int (x2 + (1 : Int32)))] (ext_cons rfl (ext_cons rfl (ext_cons rfl ext_nil))) (hk4 hf (ha0) hI)
def fX5_countPainted_4 (n : Nat) (a0 : Nat) (x1 : Int32) (x2 : Int32) (m : Me) : Option (Int32 × Me) := match n with
  | 0 => none
  | n + 1 => if (60 : Int32) ≤ x2 then some (x1, m) else ck (inb x2 60) (if (m.1 (a0 + 1) x2.toNatClampNeg) = (25 : Int32) then fX5_countPainted_27 (fX5_countPainted_4 n) a0 x1 x2 m else fX5_countPainted_27 (fX5_countPainted_4 n) a0 ((x1 + (1 : Int32))) x2 m)
set_option maxRecDepth 20000 in
theorem kX5_countPainted_4 {S : Sh} (hS : ShOK S) {res : Int32 × Me} (n : Nat) : ∀ {a0 : Nat} {x1 : Int32} {x2 : Int32} {m : Me}, fX5_countPainted_4 n a0 x1 x2 m = some res → kd a0 = 5 → Inv m → TT InvS (Call 0) mX5_countPainted (4, [(0, .ref a0), (1, .int x1), (2, .int x2)], [], S, m) (some (.int res.1)) (S, res.2) := by
  induction n with
  | zero => intro a0 x1 x2 m hf; cases hf
  | succ n ih =>
    intro a0 x1 x2 m hf ha0 hI
    unfold fX5_countPainted_4 at hf
    refine to_iload_n (q := 5) rfl dX5_countPainted_4 rfl ?_
    refine to_aload_n (q := 6) rfl (kd_4 (ha0) (by decide)) dX5_countPainted_5 rfl ?_
    refine to_getR (q := 9) (b := a0 + 1) (k0 := 5) (C := RX5) (T := TX5) (N := 3) (j := 0) rfl fx_X5_9 (sh_kd hS ha0 (by decide)) rfl (iv5 hI (ha0)) dX5_countPainted_6 rfl ?_
    refine to_alen (q := 10) (sh_ln hS (kd5 (ha0)) (by decide)) (by decide) on_60 dX5_countPainted_9 rfl ?_
    by_cases h1 : (60 : Int32) ≤ x2
    · have hf := ite_pos h1 hf
      refine to_icT (q := 33) (op := .ge) h1 dX5_countPainted_10 rfl ?_
      refine to_iload_n (q := 34) rfl dX5_countPainted_33 rfl ?_
      cases hf
      exact to_iret dX5_countPainted_34 rfl rfl rfl rfl hI
    · have hf := ite_neg h1 hf
      refine to_icF (q := 13) (op := .ge) 33 h1 dX5_countPainted_10 rfl rfl ?_
      refine to_aload_n (q := 14) rfl (kd_4 (ha0) (by decide)) dX5_countPainted_13 rfl ?_
      refine to_getR (q := 17) (b := a0 + 1) (k0 := 5) (C := RX5) (T := TX5) (N := 3) (j := 0) rfl fx_X5_9 (sh_kd hS ha0 (by decide)) rfl (iv5 hI (ha0)) dX5_countPainted_14 rfl ?_
      refine to_iload_n (q := 18) rfl dX5_countPainted_17 rfl ?_
      obtain ⟨hb2, hf⟩ := ck_some hf
      refine to_iaj (q := 19) (sh_ln hS (kd5 (ha0)) (by decide)) hb2 (rfl) dX5_countPainted_18 rfl ?_
      refine to_bipush (q := 21) bp_25 dX5_countPainted_19 rfl ?_
      by_cases h3 : (m.1 (a0 + 1) x2.toNatClampNeg) = (25 : Int32)
      · have hf := ite_pos h3 hf
        refine to_icT (q := 27) (op := .eq) h3 dX5_countPainted_21 rfl ?_
        exact to_ext [(0, .ref a0), (1, .int x1), (2, .int x2)] (ext_cons rfl (ext_cons rfl (ext_cons rfl ext_nil))) (kX5_countPainted_27 hS ih hf (ha0) hI)
      · have hf := ite_neg h3 hf
        refine to_icF (q := 24) (op := .eq) 27 h3 dX5_countPainted_21 rfl rfl ?_
        refine to_iinc (q := 27) (v := (x1 + (1 : Int32))) rfl (congrArg (fun z => x1 + z) ic_1) [(1, .int (x1 + (1 : Int32))), (0, .ref a0), (2, .int x2)] rfl (by decide) dX5_countPainted_24 rfl ?_
        exact to_ext [(0, .ref a0), (1, .int (x1 + (1 : Int32))), (2, .int x2)] (ext_cons rfl (ext_cons rfl (ext_cons rfl ext_nil))) (kX5_countPainted_27 hS ih hf (ha0) hI)
def fX5_countPainted (a0 : Nat) (m : Me) : Option (Int32 × Me) := fX5_countPainted_4 FU a0 ((0 : Int32)) ((0 : Int32)) m
set_option maxRecDepth 20000 in
theorem kX5_countPainted {S : Sh} (hS : ShOK S) {res : Int32 × Me} {a0 : Nat} {m : Me} (hf : fX5_countPainted a0 m = some res) (ha0 : kd a0 = 5) (hI : Inv m) : Call 1 mX5_countPainted [.ref a0] (S, m) (some (.int res.1)) (S, res.2) ∧ Inv res.2 := by
  refine call_of (P := InvS) (Nat.le_of_ble_eq_true rfl) (by simp [Value.category]) ?_
  show TT InvS (Call 0) mX5_countPainted (0, [(0, .ref a0)], [], S, m) _ _
  unfold fX5_countPainted at hf
  refine to_iconst (q := 1) ic_0 dX5_countPainted_0 rfl ?_
  refine to_istore_n (q := 2) [(1, .int (0 : Int32)), (0, .ref a0)] rfl (by decide) dX5_countPainted_1 rfl ?_
  refine to_iconst (q := 3) ic_0 dX5_countPainted_2 rfl ?_
  refine to_istore_n (q := 4) [(2, .int (0 : Int32)), (1, .int (0 : Int32)), (0, .ref a0)] rfl (by decide) dX5_countPainted_3 rfl ?_
  exact to_ext [(0, .ref a0), (1, .int (0 : Int32)), (2, .int (0 : Int32))] (ext_cons rfl (ext_cons rfl (ext_cons rfl ext_nil))) (kX5_countPainted_4 hS FU hf (ha0) hI)
def fX7_timesRead_38 (k13 : Nat → Nat → Int32 → Int32 → Me → Option (Int32 × Me)) (a0 : Nat) (a1 : Nat) (x2 : Int32) (x3 : Int32) (m : Me) : Option (Int32 × Me) := k13 a0 a1 x2 ((x3 + (1 : Int32))) m
set_option maxRecDepth 20000 in
theorem kX7_timesRead_38 {S : Sh} (hS : ShOK S) {res : Int32 × Me} {k13 : Nat → Nat → Int32 → Int32 → Me → Option (Int32 × Me)} (hk13 : ∀ {a0 : Nat} {a1 : Nat} {x2 : Int32} {x3 : Int32} {m : Me}, k13 a0 a1 x2 x3 m = some res → kd a0 = 7 → kd a1 = 8 → Inv m → TT InvS (Call 1) mX7_timesRead (13, [(0, .ref a0), (1, .ref a1), (2, .int x2), (3, .int x3)], [], S, m) (some (.int res.1)) (S, res.2)) {a0 : Nat} {a1 : Nat} {x2 : Int32} {x3 : Int32} {m : Me} (hf : fX7_timesRead_38 k13 a0 a1 x2 x3 m = some res) (ha0 : kd a0 = 7) (ha1 : kd a1 = 8) (hI : Inv m) : TT InvS (Call 1) mX7_timesRead (38, [(0, .ref a0), (1, .ref a1), (2, .int x2), (3, .int x3)], [], S, m) (some (.int res.1)) (S, res.2) := by
  unfold fX7_timesRead_38 at hf
  refine to_iinc (q := 41) (v := (x3 + (1 : Int32))) rfl (congrArg (fun z => x3 + z) ic_1) [(3, .int (x3 + (1 : Int32))), (0, .ref a0), (1, .ref a1), (2, .int x2)] rfl (by decide) dX7_timesRead_38 rfl ?_
  refine to_goto (q := 13) dX7_timesRead_41 rfl ?_
  exact to_ext [(0, .ref a0), (1, .ref a1), (2, .int x2), (3, .int (x3 + (1 : Int32)))] (ext_cons rfl (ext_cons rfl (ext_cons rfl (ext_cons rfl ext_nil)))) (hk13 hf (ha0) (ha1) hI)
def fX7_timesRead_13 (n : Nat) (a0 : Nat) (a1 : Nat) (x2 : Int32) (x3 : Int32) (m : Me) : Option (Int32 × Me) := match n with
  | 0 => none
  | n + 1 => if (m.1 a0 2) < (x3 + (m.1 a1 1)) then some (x2, m) else cl2 (fX7_strangeAt a0 a1 x3 m) fun r9 m10 => if r9 = (0 : Int32) then fX7_timesRead_38 (fX7_timesRead_13 n) a0 a1 ((x2 + (1 : Int32))) x3 m10 else fX7_timesRead_38 (fX7_timesRead_13 n) a0 a1 x2 x3 m10
set_option maxRecDepth 20000 in
theorem kX7_timesRead_13 {S : Sh} (hS : ShOK S) {res : Int32 × Me} (n : Nat) : ∀ {a0 : Nat} {a1 : Nat} {x2 : Int32} {x3 : Int32} {m : Me}, fX7_timesRead_13 n a0 a1 x2 x3 m = some res → kd a0 = 7 → kd a1 = 8 → Inv m → TT InvS (Call 1) mX7_timesRead (13, [(0, .ref a0), (1, .ref a1), (2, .int x2), (3, .int x3)], [], S, m) (some (.int res.1)) (S, res.2) := by
  induction n with
  | zero => intro a0 a1 x2 x3 m hf; cases hf
  | succ n ih =>
    intro a0 a1 x2 x3 m hf ha0 ha1 hI
    unfold fX7_timesRead_13 at hf
    refine to_iload_n (q := 14) rfl dX7_timesRead_13 rfl ?_
    refine to_aload_n (q := 15) rfl (kd_4 (ha1) (by decide)) dX7_timesRead_14 rfl ?_
    refine to_getI (q := 18) (k0 := 8) (C := RX8) (T := TX8) (N := 5) (j := 1) rfl fx_X7_44 (sh_kd hS ha1 (by decide)) rfl dX7_timesRead_15 rfl ?_
    refine to_iadd (q := 19) dX7_timesRead_18 rfl ?_
    refine to_aload_n (q := 20) rfl (kd_4 (ha0) (by decide)) dX7_timesRead_19 rfl ?_
    refine to_getI (q := 23) (k0 := 7) (C := RX7) (T := TX7) (N := 3) (j := 2) rfl fx_X7_18 (sh_kd hS ha0 (by decide)) rfl dX7_timesRead_20 rfl ?_
    by_cases h6 : (m.1 a0 2) < (x3 + (m.1 a1 1))
    · have hf := ite_pos h6 hf
      refine to_icT (q := 44) (op := .gt) h6 dX7_timesRead_23 rfl ?_
      refine to_iload_n (q := 45) rfl dX7_timesRead_44 rfl ?_
      cases hf
      exact to_iret dX7_timesRead_45 rfl rfl rfl rfl hI
    · have hf := ite_neg h6 hf
      refine to_icF (q := 26) (op := .gt) 44 h6 dX7_timesRead_23 rfl rfl ?_
      refine to_aload_n (q := 27) rfl (kd_4 (ha0) (by decide)) dX7_timesRead_26 rfl ?_
      refine to_aload_n (q := 28) rfl (kd_4 (ha1) (by decide)) dX7_timesRead_27 rfl ?_
      refine to_iload_n (q := 29) rfl dX7_timesRead_28 rfl ?_
      obtain ⟨r9, m10, hc7, hf⟩ := cl2_some hf
      have qc8 := kX7_strangeAt hS hc7 (ha0) (ha1) hI
      refine to_virtI (q := 32) mX7_strangeAt [.ref a1, .int x3] dX7_timesRead_29 rfl rfl (Nat.le_of_ble_eq_true rfl) mo_X7_strangeAt mv_X7_52 (Or.inl ⟨_, _, _, sh_kd hS ha0 (by decide), rfl, rfl⟩) (Call_mono (by decide) qc8.1) ?_
      have hI := qc8.2
      by_cases h11 : r9 = (0 : Int32)
      · have hf := ite_pos h11 hf
        refine to_ifF (q := 35) (op := .ne) 38 (fun z => z h11) dX7_timesRead_32 rfl rfl ?_
        refine to_iinc (q := 38) (v := (x2 + (1 : Int32))) rfl (congrArg (fun z => x2 + z) ic_1) [(2, .int (x2 + (1 : Int32))), (0, .ref a0), (1, .ref a1), (3, .int x3)] rfl (by decide) dX7_timesRead_35 rfl ?_
        exact to_ext [(0, .ref a0), (1, .ref a1), (2, .int (x2 + (1 : Int32))), (3, .int x3)] (ext_cons rfl (ext_cons rfl (ext_cons rfl (ext_cons rfl ext_nil)))) (kX7_timesRead_38 hS ih hf (ha0) (ha1) hI)
      · have hf := ite_neg h11 hf
        refine to_ifT (q := 38) (op := .ne) h11 dX7_timesRead_32 rfl ?_
        exact to_ext [(0, .ref a0), (1, .ref a1), (2, .int x2), (3, .int x3)] (ext_cons rfl (ext_cons rfl (ext_cons rfl (ext_cons rfl ext_nil)))) (kX7_timesRead_38 hS ih hf (ha0) (ha1) hI)
def fX7_timesRead (a0 : Nat) (a1 : Nat) (m : Me) : Option (Int32 × Me) := cl2 (fX8_hasBare a1 m) fun r3 m4 => if r3 = (0 : Int32) then fX7_timesRead_13 FU a0 a1 ((0 : Int32)) ((0 : Int32)) m4 else some ((0 : Int32), m4)
set_option maxRecDepth 20000 in
theorem kX7_timesRead {S : Sh} (hS : ShOK S) {res : Int32 × Me} {a0 : Nat} {a1 : Nat} {m : Me} (hf : fX7_timesRead a0 a1 m = some res) (ha0 : kd a0 = 7) (ha1 : kd a1 = 8) (hI : Inv m) : Call 2 mX7_timesRead [.ref a0, .ref a1] (S, m) (some (.int res.1)) (S, res.2) ∧ Inv res.2 := by
  refine call_of (P := InvS) (Nat.le_of_ble_eq_true rfl) (by simp [Value.category]) ?_
  show TT InvS (Call 1) mX7_timesRead (0, [(0, .ref a0), (1, .ref a1)], [], S, m) _ _
  unfold fX7_timesRead at hf
  refine to_aload_n (q := 1) rfl (kd_4 (ha1) (by decide)) dX7_timesRead_0 rfl ?_
  obtain ⟨r3, m4, hc1, hf⟩ := cl2_some hf
  have qc2 := kX8_hasBare hS hc1 (ha1) hI
  refine to_virtI (q := 4) mX8_hasBare [] dX7_timesRead_1 rfl rfl (Nat.le_of_ble_eq_true rfl) mo_X8_hasBare mv_X7_48 (Or.inl ⟨_, _, _, sh_kd hS ha1 (by decide), rfl, rfl⟩) (Call_mono (by decide) qc2.1) ?_
  have hI := qc2.2
  by_cases h5 : r3 = (0 : Int32)
  · have hf := ite_pos h5 hf
    refine to_ifT (q := 9) (op := .eq) h5 dX7_timesRead_4 rfl ?_
    refine to_iconst (q := 10) ic_0 dX7_timesRead_9 rfl ?_
    refine to_istore_n (q := 11) [(2, .int (0 : Int32)), (0, .ref a0), (1, .ref a1)] rfl (by decide) dX7_timesRead_10 rfl ?_
    refine to_iconst (q := 12) ic_0 dX7_timesRead_11 rfl ?_
    refine to_istore_n (q := 13) [(3, .int (0 : Int32)), (2, .int (0 : Int32)), (0, .ref a0), (1, .ref a1)] rfl (by decide) dX7_timesRead_12 rfl ?_
    exact to_ext [(0, .ref a0), (1, .ref a1), (2, .int (0 : Int32)), (3, .int (0 : Int32))] (ext_cons rfl (ext_cons rfl (ext_cons rfl (ext_cons rfl ext_nil)))) (kX7_timesRead_13 hS FU hf (ha0) (ha1) hI)
  · have hf := ite_neg h5 hf
    refine to_ifF (q := 7) (op := .eq) 9 h5 dX7_timesRead_4 rfl rfl ?_
    refine to_iconst (q := 8) ic_0 dX7_timesRead_7 rfl ?_
    cases hf
    exact to_iret dX7_timesRead_8 rfl rfl rfl rfl hI
def fX7_firstRead_12 (n : Nat) (a0 : Nat) (a1 : Nat) (x2 : Int32) (m : Me) : Option (Int32 × Me) := match n with
  | 0 => none
  | n + 1 => if (m.1 a0 2) < (x2 + (m.1 a1 1)) then some ((-2 : Int32), m) else cl2 (fX7_strangeAt a0 a1 x2 m) fun r9 m10 => if r9 = (0 : Int32) then some (x2, m10) else fX7_firstRead_12 n a0 a1 ((x2 + (1 : Int32))) m10
set_option maxRecDepth 20000 in
theorem kX7_firstRead_12 {S : Sh} (hS : ShOK S) {res : Int32 × Me} (n : Nat) : ∀ {a0 : Nat} {a1 : Nat} {x2 : Int32} {m : Me}, fX7_firstRead_12 n a0 a1 x2 m = some res → kd a0 = 7 → kd a1 = 8 → Inv m → TT InvS (Call 1) mX7_firstRead (12, [(0, .ref a0), (1, .ref a1), (2, .int x2)], [], S, m) (some (.int res.1)) (S, res.2) := by
  induction n with
  | zero => intro a0 a1 x2 m hf; cases hf
  | succ n ih =>
    intro a0 a1 x2 m hf ha0 ha1 hI
    unfold fX7_firstRead_12 at hf
    refine to_iload_n (q := 13) rfl dX7_firstRead_12 rfl ?_
    refine to_aload_n (q := 14) rfl (kd_4 (ha1) (by decide)) dX7_firstRead_13 rfl ?_
    refine to_getI (q := 17) (k0 := 8) (C := RX8) (T := TX8) (N := 5) (j := 1) rfl fx_X7_44 (sh_kd hS ha1 (by decide)) rfl dX7_firstRead_14 rfl ?_
    refine to_iadd (q := 18) dX7_firstRead_17 rfl ?_
    refine to_aload_n (q := 19) rfl (kd_4 (ha0) (by decide)) dX7_firstRead_18 rfl ?_
    refine to_getI (q := 22) (k0 := 7) (C := RX7) (T := TX7) (N := 3) (j := 2) rfl fx_X7_18 (sh_kd hS ha0 (by decide)) rfl dX7_firstRead_19 rfl ?_
    by_cases h6 : (m.1 a0 2) < (x2 + (m.1 a1 1))
    · have hf := ite_pos h6 hf
      refine to_icT (q := 42) (op := .gt) h6 dX7_firstRead_22 rfl ?_
      refine to_bipush (q := 44) bp_m2 dX7_firstRead_42 rfl ?_
      cases hf
      exact to_iret dX7_firstRead_44 rfl rfl rfl rfl hI
    · have hf := ite_neg h6 hf
      refine to_icF (q := 25) (op := .gt) 42 h6 dX7_firstRead_22 rfl rfl ?_
      refine to_aload_n (q := 26) rfl (kd_4 (ha0) (by decide)) dX7_firstRead_25 rfl ?_
      refine to_aload_n (q := 27) rfl (kd_4 (ha1) (by decide)) dX7_firstRead_26 rfl ?_
      refine to_iload_n (q := 28) rfl dX7_firstRead_27 rfl ?_
      obtain ⟨r9, m10, hc7, hf⟩ := cl2_some hf
      have qc8 := kX7_strangeAt hS hc7 (ha0) (ha1) hI
      refine to_virtI (q := 31) mX7_strangeAt [.ref a1, .int x2] dX7_firstRead_28 rfl rfl (Nat.le_of_ble_eq_true rfl) mo_X7_strangeAt mv_X7_52 (Or.inl ⟨_, _, _, sh_kd hS ha0 (by decide), rfl, rfl⟩) (Call_mono (by decide) qc8.1) ?_
      have hI := qc8.2
      by_cases h11 : r9 = (0 : Int32)
      · have hf := ite_pos h11 hf
        refine to_ifF (q := 34) (op := .ne) 36 (fun z => z h11) dX7_firstRead_31 rfl rfl ?_
        refine to_iload_n (q := 35) rfl dX7_firstRead_34 rfl ?_
        cases hf
        exact to_iret dX7_firstRead_35 rfl rfl rfl rfl hI
      · have hf := ite_neg h11 hf
        refine to_ifT (q := 36) (op := .ne) h11 dX7_firstRead_31 rfl ?_
        refine to_iinc (q := 39) (v := (x2 + (1 : Int32))) rfl (congrArg (fun z => x2 + z) ic_1) [(2, .int (x2 + (1 : Int32))), (0, .ref a0), (1, .ref a1)] rfl (by decide) dX7_firstRead_36 rfl ?_
        refine to_goto (q := 12) dX7_firstRead_39 rfl ?_
        exact to_ext [(0, .ref a0), (1, .ref a1), (2, .int (x2 + (1 : Int32)))] (ext_cons rfl (ext_cons rfl (ext_cons rfl ext_nil))) (ih hf (ha0) (ha1) hI)
def fX7_firstRead (a0 : Nat) (a1 : Nat) (m : Me) : Option (Int32 × Me) := cl2 (fX8_hasBare a1 m) fun r3 m4 => if r3 = (0 : Int32) then fX7_firstRead_12 FU a0 a1 ((0 : Int32)) m4 else some ((-2 : Int32), m4)
set_option maxRecDepth 20000 in
theorem kX7_firstRead {S : Sh} (hS : ShOK S) {res : Int32 × Me} {a0 : Nat} {a1 : Nat} {m : Me} (hf : fX7_firstRead a0 a1 m = some res) (ha0 : kd a0 = 7) (ha1 : kd a1 = 8) (hI : Inv m) : Call 2 mX7_firstRead [.ref a0, .ref a1] (S, m) (some (.int res.1)) (S, res.2) ∧ Inv res.2 := by
  refine call_of (P := InvS) (Nat.le_of_ble_eq_true rfl) (by simp [Value.category]) ?_
  show TT InvS (Call 1) mX7_firstRead (0, [(0, .ref a0), (1, .ref a1)], [], S, m) _ _
  unfold fX7_firstRead at hf
  refine to_aload_n (q := 1) rfl (kd_4 (ha1) (by decide)) dX7_firstRead_0 rfl ?_
  obtain ⟨r3, m4, hc1, hf⟩ := cl2_some hf
  have qc2 := kX8_hasBare hS hc1 (ha1) hI
  refine to_virtI (q := 4) mX8_hasBare [] dX7_firstRead_1 rfl rfl (Nat.le_of_ble_eq_true rfl) mo_X8_hasBare mv_X7_48 (Or.inl ⟨_, _, _, sh_kd hS ha1 (by decide), rfl, rfl⟩) (Call_mono (by decide) qc2.1) ?_
  have hI := qc2.2
  by_cases h5 : r3 = (0 : Int32)
  · have hf := ite_pos h5 hf
    refine to_ifT (q := 10) (op := .eq) h5 dX7_firstRead_4 rfl ?_
    refine to_iconst (q := 11) ic_0 dX7_firstRead_10 rfl ?_
    refine to_istore_n (q := 12) [(2, .int (0 : Int32)), (0, .ref a0), (1, .ref a1)] rfl (by decide) dX7_firstRead_11 rfl ?_
    exact to_ext [(0, .ref a0), (1, .ref a1), (2, .int (0 : Int32))] (ext_cons rfl (ext_cons rfl (ext_cons rfl ext_nil))) (kX7_firstRead_12 hS FU hf (ha0) (ha1) hI)
  · have hf := ite_neg h5 hf
    refine to_ifF (q := 7) (op := .eq) 10 h5 dX7_firstRead_4 rfl rfl ?_
    refine to_bipush (q := 9) bp_m2 dX7_firstRead_7 rfl ?_
    cases hf
    exact to_iret dX7_firstRead_9 rfl rfl rfl rfl hI
def fX7_isRead_15 (t0 : Int32) (m : Me) : Option (Int32 × Me) := ck (t0 = 0 ∨ t0 = 1) (some (t0, m))
set_option maxRecDepth 20000 in
theorem kX7_isRead_15 {S : Sh} (hS : ShOK S) {res : Int32 × Me} {t0 : Int32} {m : Me} (hf : fX7_isRead_15 t0 m = some res) (hI : Inv m) : TT InvS (Call 2) mX7_isRead (15, [], [.int t0], S, m) (some (.int res.1)) (S, res.2) := by
  unfold fX7_isRead_15 at hf
  obtain ⟨hz6, hf⟩ := ck_some hf
  cases hf
  exact to_iret dX7_isRead_15 rfl (nf_Z hz6).1 rfl rfl hI
def fX7_isRead (a0 : Nat) (a1 : Nat) (m : Me) : Option (Int32 × Me) := cl2 (fX7_firstRead a0 a1 m) fun r3 m4 => if r3 = (-2 : Int32) then fX7_isRead_15 ((0 : Int32)) m4 else fX7_isRead_15 ((1 : Int32)) m4
set_option maxRecDepth 20000 in
theorem kX7_isRead {S : Sh} (hS : ShOK S) {res : Int32 × Me} {a0 : Nat} {a1 : Nat} {m : Me} (hf : fX7_isRead a0 a1 m = some res) (ha0 : kd a0 = 7) (ha1 : kd a1 = 8) (hI : Inv m) : Call 3 mX7_isRead [.ref a0, .ref a1] (S, m) (some (.int res.1)) (S, res.2) ∧ Inv res.2 := by
  refine call_of (P := InvS) (Nat.le_of_ble_eq_true rfl) (by simp [Value.category]) ?_
  show TT InvS (Call 2) mX7_isRead (0, [(0, .ref a0), (1, .ref a1)], [], S, m) _ _
  unfold fX7_isRead at hf
  refine to_aload_n (q := 1) rfl (kd_4 (ha0) (by decide)) dX7_isRead_0 rfl ?_
  refine to_aload_n (q := 2) rfl (kd_4 (ha1) (by decide)) dX7_isRead_1 rfl ?_
  obtain ⟨r3, m4, hc1, hf⟩ := cl2_some hf
  have qc2 := kX7_firstRead hS hc1 (ha0) (ha1) hI
  refine to_virtI (q := 5) mX7_firstRead [.ref a1] dX7_isRead_2 rfl rfl (Nat.le_of_ble_eq_true rfl) mo_X7_firstRead mv_X7_56 (Or.inl ⟨_, _, _, sh_kd hS ha0 (by decide), rfl, rfl⟩) (Call_mono (by decide) qc2.1) ?_
  have hI := qc2.2
  refine to_bipush (q := 7) bp_m2 dX7_isRead_5 rfl ?_
  by_cases h5 : r3 = (-2 : Int32)
  · have hf := ite_pos h5 hf
    refine to_icT (q := 14) (op := .eq) h5 dX7_isRead_7 rfl ?_
    refine to_iconst (q := 15) ic_0 dX7_isRead_14 rfl ?_
    exact to_ext [] ext_nil (kX7_isRead_15 hS hf hI)
  · have hf := ite_neg h5 hf
    refine to_icF (q := 10) (op := .eq) 14 h5 dX7_isRead_7 rfl rfl ?_
    refine to_iconst (q := 11) ic_1 dX7_isRead_10 rfl ?_
    refine to_goto (q := 15) dX7_isRead_11 rfl ?_
    exact to_ext [] ext_nil (kX7_isRead_15 hS hf hI)
def fX7_cheapestPlace_54 (k19 : Nat → Nat → Int32 → Int32 → Int32 → Me → Option (Int32 × Me)) (a0 : Nat) (a1 : Nat) (x2 : Int32) (x3 : Int32) (x4 : Int32) (m : Me) : Option (Int32 × Me) := k19 a0 a1 x2 x3 ((x4 + (1 : Int32))) m
set_option maxRecDepth 20000 in
theorem kX7_cheapestPlace_54 {S : Sh} (hS : ShOK S) {res : Int32 × Me} {k19 : Nat → Nat → Int32 → Int32 → Int32 → Me → Option (Int32 × Me)} (hk19 : ∀ {a0 : Nat} {a1 : Nat} {x2 : Int32} {x3 : Int32} {x4 : Int32} {m : Me}, k19 a0 a1 x2 x3 x4 m = some res → kd a0 = 7 → kd a1 = 8 → Inv m → TT InvS (Call 1) mX7_cheapestPlace (19, [(0, .ref a0), (1, .ref a1), (2, .int x2), (3, .int x3), (4, .int x4)], [], S, m) (some (.int res.1)) (S, res.2)) {a0 : Nat} {a1 : Nat} {x2 : Int32} {x3 : Int32} {x4 : Int32} {m : Me} (hf : fX7_cheapestPlace_54 k19 a0 a1 x2 x3 x4 m = some res) (ha0 : kd a0 = 7) (ha1 : kd a1 = 8) (hI : Inv m) : TT InvS (Call 1) mX7_cheapestPlace (54, [(0, .ref a0), (1, .ref a1), (2, .int x2), (3, .int x3), (4, .int x4)], [], S, m) (some (.int res.1)) (S, res.2) := by
  unfold fX7_cheapestPlace_54 at hf
  refine to_iinc (q := 57) (v := (x4 + (1 : Int32))) rfl (congrArg (fun z => x4 + z) ic_1) [(4, .int (x4 + (1 : Int32))), (0, .ref a0), (1, .ref a1), (2, .int x2), (3, .int x3)] rfl (by decide) dX7_cheapestPlace_54 rfl ?_
  refine to_goto (q := 19) dX7_cheapestPlace_57 rfl ?_
  exact to_ext [(0, .ref a0), (1, .ref a1), (2, .int x2), (3, .int x3), (4, .int (x4 + (1 : Int32)))] (ext_cons rfl (ext_cons rfl (ext_cons rfl (ext_cons rfl (ext_cons rfl ext_nil))))) (hk19 hf (ha0) (ha1) hI)
def fX7_cheapestPlace_19 (n : Nat) (a0 : Nat) (a1 : Nat) (x2 : Int32) (x3 : Int32) (x4 : Int32) (m : Me) : Option (Int32 × Me) := match n with
  | 0 => none
  | n + 1 => if (m.1 a0 2) < (x4 + (m.1 a1 1)) then some (x2, m) else cl2 (fX7_strangeAt a0 a1 x4 m) fun r9 m10 => if x3 ≤ r9 then fX7_cheapestPlace_54 (fX7_cheapestPlace_19 n) a0 a1 x2 x3 x4 m10 else fX7_cheapestPlace_54 (fX7_cheapestPlace_19 n) a0 a1 x4 r9 x4 m10
set_option maxRecDepth 20000 in
theorem kX7_cheapestPlace_19 {S : Sh} (hS : ShOK S) {res : Int32 × Me} (n : Nat) : ∀ {a0 : Nat} {a1 : Nat} {x2 : Int32} {x3 : Int32} {x4 : Int32} {m : Me}, fX7_cheapestPlace_19 n a0 a1 x2 x3 x4 m = some res → kd a0 = 7 → kd a1 = 8 → Inv m → TT InvS (Call 1) mX7_cheapestPlace (19, [(0, .ref a0), (1, .ref a1), (2, .int x2), (3, .int x3), (4, .int x4)], [], S, m) (some (.int res.1)) (S, res.2) := by
  induction n with
  | zero => intro a0 a1 x2 x3 x4 m hf; cases hf
  | succ n ih =>
    intro a0 a1 x2 x3 x4 m hf ha0 ha1 hI
    unfold fX7_cheapestPlace_19 at hf
    refine to_iload (q := 21) rfl dX7_cheapestPlace_19 rfl ?_
    refine to_aload_n (q := 22) rfl (kd_4 (ha1) (by decide)) dX7_cheapestPlace_21 rfl ?_
    refine to_getI (q := 25) (k0 := 8) (C := RX8) (T := TX8) (N := 5) (j := 1) rfl fx_X7_44 (sh_kd hS ha1 (by decide)) rfl dX7_cheapestPlace_22 rfl ?_
    refine to_iadd (q := 26) dX7_cheapestPlace_25 rfl ?_
    refine to_aload_n (q := 27) rfl (kd_4 (ha0) (by decide)) dX7_cheapestPlace_26 rfl ?_
    refine to_getI (q := 30) (k0 := 7) (C := RX7) (T := TX7) (N := 3) (j := 2) rfl fx_X7_18 (sh_kd hS ha0 (by decide)) rfl dX7_cheapestPlace_27 rfl ?_
    by_cases h6 : (m.1 a0 2) < (x4 + (m.1 a1 1))
    · have hf := ite_pos h6 hf
      refine to_icT (q := 60) (op := .gt) h6 dX7_cheapestPlace_30 rfl ?_
      refine to_iload_n (q := 61) rfl dX7_cheapestPlace_60 rfl ?_
      cases hf
      exact to_iret dX7_cheapestPlace_61 rfl rfl rfl rfl hI
    · have hf := ite_neg h6 hf
      refine to_icF (q := 33) (op := .gt) 60 h6 dX7_cheapestPlace_30 rfl rfl ?_
      refine to_aload_n (q := 34) rfl (kd_4 (ha0) (by decide)) dX7_cheapestPlace_33 rfl ?_
      refine to_aload_n (q := 35) rfl (kd_4 (ha1) (by decide)) dX7_cheapestPlace_34 rfl ?_
      refine to_iload (q := 37) rfl dX7_cheapestPlace_35 rfl ?_
      obtain ⟨r9, m10, hc7, hf⟩ := cl2_some hf
      have qc8 := kX7_strangeAt hS hc7 (ha0) (ha1) hI
      refine to_virtI (q := 40) mX7_strangeAt [.ref a1, .int x4] dX7_cheapestPlace_37 rfl rfl (Nat.le_of_ble_eq_true rfl) mo_X7_strangeAt mv_X7_52 (Or.inl ⟨_, _, _, sh_kd hS ha0 (by decide), rfl, rfl⟩) (Call_mono (by decide) qc8.1) ?_
      have hI := qc8.2
      refine to_istore (q := 42) [(5, .int r9), (0, .ref a0), (1, .ref a1), (2, .int x2), (3, .int x3), (4, .int x4)] rfl (by decide) dX7_cheapestPlace_40 rfl ?_
      refine to_iload (q := 44) rfl dX7_cheapestPlace_42 rfl ?_
      refine to_iload_n (q := 45) rfl dX7_cheapestPlace_44 rfl ?_
      by_cases h11 : x3 ≤ r9
      · have hf := ite_pos h11 hf
        refine to_icT (q := 54) (op := .ge) h11 dX7_cheapestPlace_45 rfl ?_
        exact to_ext [(0, .ref a0), (1, .ref a1), (2, .int x2), (3, .int x3), (4, .int x4)] (ext_cons rfl (ext_cons rfl (ext_cons rfl (ext_cons rfl (ext_cons rfl ext_nil))))) (kX7_cheapestPlace_54 hS ih hf (ha0) (ha1) hI)
      · have hf := ite_neg h11 hf
        refine to_icF (q := 48) (op := .ge) 54 h11 dX7_cheapestPlace_45 rfl rfl ?_
        refine to_iload (q := 50) rfl dX7_cheapestPlace_48 rfl ?_
        refine to_istore_n (q := 51) [(3, .int r9), (5, .int r9), (0, .ref a0), (1, .ref a1), (2, .int x2), (4, .int x4)] rfl (by decide) dX7_cheapestPlace_50 rfl ?_
        refine to_iload (q := 53) rfl dX7_cheapestPlace_51 rfl ?_
        refine to_istore_n (q := 54) [(2, .int x4), (3, .int r9), (5, .int r9), (0, .ref a0), (1, .ref a1), (4, .int x4)] rfl (by decide) dX7_cheapestPlace_53 rfl ?_
        exact to_ext [(0, .ref a0), (1, .ref a1), (2, .int x4), (3, .int r9), (4, .int x4)] (ext_cons rfl (ext_cons rfl (ext_cons rfl (ext_cons rfl (ext_cons rfl ext_nil))))) (kX7_cheapestPlace_54 hS ih hf (ha0) (ha1) hI)
def fX7_cheapestPlace (a0 : Nat) (a1 : Nat) (m : Me) : Option (Int32 × Me) := cl2 (fX8_hasBare a1 m) fun r3 m4 => if r3 = (0 : Int32) then fX7_cheapestPlace_19 FU a0 a1 ((-2 : Int32)) ((9 : Int32)) ((0 : Int32)) m4 else some ((-2 : Int32), m4)
set_option maxRecDepth 20000 in
theorem kX7_cheapestPlace {S : Sh} (hS : ShOK S) {res : Int32 × Me} {a0 : Nat} {a1 : Nat} {m : Me} (hf : fX7_cheapestPlace a0 a1 m = some res) (ha0 : kd a0 = 7) (ha1 : kd a1 = 8) (hI : Inv m) : Call 2 mX7_cheapestPlace [.ref a0, .ref a1] (S, m) (some (.int res.1)) (S, res.2) ∧ Inv res.2 := by
  refine call_of (P := InvS) (Nat.le_of_ble_eq_true rfl) (by simp [Value.category]) ?_
  show TT InvS (Call 1) mX7_cheapestPlace (0, [(0, .ref a0), (1, .ref a1)], [], S, m) _ _
  unfold fX7_cheapestPlace at hf
  refine to_aload_n (q := 1) rfl (kd_4 (ha1) (by decide)) dX7_cheapestPlace_0 rfl ?_
  obtain ⟨r3, m4, hc1, hf⟩ := cl2_some hf
  have qc2 := kX8_hasBare hS hc1 (ha1) hI
  refine to_virtI (q := 4) mX8_hasBare [] dX7_cheapestPlace_1 rfl rfl (Nat.le_of_ble_eq_true rfl) mo_X8_hasBare mv_X7_48 (Or.inl ⟨_, _, _, sh_kd hS ha1 (by decide), rfl, rfl⟩) (Call_mono (by decide) qc2.1) ?_
  have hI := qc2.2
  by_cases h5 : r3 = (0 : Int32)
  · have hf := ite_pos h5 hf
    refine to_ifT (q := 10) (op := .eq) h5 dX7_cheapestPlace_4 rfl ?_
    refine to_bipush (q := 12) bp_m2 dX7_cheapestPlace_10 rfl ?_
    refine to_istore_n (q := 13) [(2, .int (-2 : Int32)), (0, .ref a0), (1, .ref a1)] rfl (by decide) dX7_cheapestPlace_12 rfl ?_
    refine to_bipush (q := 15) bp_9 dX7_cheapestPlace_13 rfl ?_
    refine to_istore_n (q := 16) [(3, .int (9 : Int32)), (2, .int (-2 : Int32)), (0, .ref a0), (1, .ref a1)] rfl (by decide) dX7_cheapestPlace_15 rfl ?_
    refine to_iconst (q := 17) ic_0 dX7_cheapestPlace_16 rfl ?_
    refine to_istore (q := 19) [(4, .int (0 : Int32)), (3, .int (9 : Int32)), (2, .int (-2 : Int32)), (0, .ref a0), (1, .ref a1)] rfl (by decide) dX7_cheapestPlace_17 rfl ?_
    exact to_ext [(0, .ref a0), (1, .ref a1), (2, .int (-2 : Int32)), (3, .int (9 : Int32)), (4, .int (0 : Int32))] (ext_cons rfl (ext_cons rfl (ext_cons rfl (ext_cons rfl (ext_cons rfl ext_nil))))) (kX7_cheapestPlace_19 hS FU hf (ha0) (ha1) hI)
  · have hf := ite_neg h5 hf
    refine to_ifF (q := 7) (op := .eq) 10 h5 dX7_cheapestPlace_4 rfl rfl ?_
    refine to_bipush (q := 9) bp_m2 dX7_cheapestPlace_7 rfl ?_
    cases hf
    exact to_iret dX7_cheapestPlace_9 rfl rfl rfl rfl hI
def fX7_countUnlike_55 (k29 : Nat → Nat → Int32 → Int32 → Int32 → Me → Option (Int32 × Me)) (a0 : Nat) (a1 : Nat) (x2 : Int32) (x3 : Int32) (x4 : Int32) (m : Me) : Option (Int32 × Me) := k29 a0 a1 x2 x3 ((x4 + (1 : Int32))) m
set_option maxRecDepth 20000 in
theorem kX7_countUnlike_55 {S : Sh} (hS : ShOK S) {res : Int32 × Me} {k29 : Nat → Nat → Int32 → Int32 → Int32 → Me → Option (Int32 × Me)} (hk29 : ∀ {a0 : Nat} {a1 : Nat} {x2 : Int32} {x3 : Int32} {x4 : Int32} {m : Me}, k29 a0 a1 x2 x3 x4 m = some res → kd a0 = 7 → kd a1 = 7 → Inv m → TT InvS (Call 0) mX7_countUnlike (29, [(0, .ref a0), (1, .ref a1), (2, .int x2), (3, .int x3), (4, .int x4)], [], S, m) (some (.int res.1)) (S, res.2)) {a0 : Nat} {a1 : Nat} {x2 : Int32} {x3 : Int32} {x4 : Int32} {m : Me} (hf : fX7_countUnlike_55 k29 a0 a1 x2 x3 x4 m = some res) (ha0 : kd a0 = 7) (ha1 : kd a1 = 7) (hI : Inv m) : TT InvS (Call 0) mX7_countUnlike (55, [(0, .ref a0), (1, .ref a1), (2, .int x2), (3, .int x3), (4, .int x4)], [], S, m) (some (.int res.1)) (S, res.2) := by
  unfold fX7_countUnlike_55 at hf
  refine to_iinc (q := 58) (v := (x4 + (1 : Int32))) rfl (congrArg (fun z => x4 + z) ic_1) [(4, .int (x4 + (1 : Int32))), (0, .ref a0), (1, .ref a1), (2, .int x2), (3, .int x3)] rfl (by decide) dX7_countUnlike_55 rfl ?_
  refine to_goto (q := 29) dX7_countUnlike_58 rfl ?_
  exact to_ext [(0, .ref a0), (1, .ref a1), (2, .int x2), (3, .int x3), (4, .int (x4 + (1 : Int32)))] (ext_cons rfl (ext_cons rfl (ext_cons rfl (ext_cons rfl (ext_cons rfl ext_nil))))) (hk29 hf (ha0) (ha1) hI)
def fX7_countUnlike_29 (n : Nat) (a0 : Nat) (a1 : Nat) (x2 : Int32) (x3 : Int32) (x4 : Int32) (m : Me) : Option (Int32 × Me) := match n with
  | 0 => none
  | n + 1 => if x2 ≤ x4 then some (x3, m) else ck (inb x4 30) (ck (inb x4 30) (if (m.1 (a0 + 2) x4.toNatClampNeg) = (m.1 (a1 + 2) x4.toNatClampNeg) then fX7_countUnlike_55 (fX7_countUnlike_29 n) a0 a1 x2 x3 x4 m else fX7_countUnlike_55 (fX7_countUnlike_29 n) a0 a1 x2 ((x3 + (1 : Int32))) x4 m))
set_option maxRecDepth 20000 in
theorem kX7_countUnlike_29 {S : Sh} (hS : ShOK S) {res : Int32 × Me} (n : Nat) : ∀ {a0 : Nat} {a1 : Nat} {x2 : Int32} {x3 : Int32} {x4 : Int32} {m : Me}, fX7_countUnlike_29 n a0 a1 x2 x3 x4 m = some res → kd a0 = 7 → kd a1 = 7 → Inv m → TT InvS (Call 0) mX7_countUnlike (29, [(0, .ref a0), (1, .ref a1), (2, .int x2), (3, .int x3), (4, .int x4)], [], S, m) (some (.int res.1)) (S, res.2) := by
  induction n with
  | zero => intro a0 a1 x2 x3 x4 m hf; cases hf
  | succ n ih =>
    intro a0 a1 x2 x3 x4 m hf ha0 ha1 hI
    unfold fX7_countUnlike_29 at hf
    refine to_iload (q := 31) rfl dX7_countUnlike_29 rfl ?_
    refine to_iload_n (q := 32) rfl dX7_countUnlike_31 rfl ?_
    by_cases h1 : x2 ≤ x4
    · have hf := ite_pos h1 hf
      refine to_icT (q := 61) (op := .ge) h1 dX7_countUnlike_32 rfl ?_
      refine to_iload_n (q := 62) rfl dX7_countUnlike_61 rfl ?_
      cases hf
      exact to_iret dX7_countUnlike_62 rfl rfl rfl rfl hI
    · have hf := ite_neg h1 hf
      refine to_icF (q := 35) (op := .ge) 61 h1 dX7_countUnlike_32 rfl rfl ?_
      refine to_aload_n (q := 36) rfl (kd_4 (ha0) (by decide)) dX7_countUnlike_35 rfl ?_
      refine to_getR (q := 39) (b := a0 + 2) (k0 := 7) (C := RX7) (T := TX7) (N := 3) (j := 1) rfl fx_X7_15 (sh_kd hS ha0 (by decide)) rfl (iv7b hI (ha0)) dX7_countUnlike_36 rfl ?_
      refine to_iload (q := 41) rfl dX7_countUnlike_39 rfl ?_
      obtain ⟨hb2, hf⟩ := ck_some hf
      refine to_iaj (q := 42) (sh_ln hS (kd7b (ha0)) (by decide)) hb2 (rfl) dX7_countUnlike_41 rfl ?_
      refine to_aload_n (q := 43) rfl (kd_4 (ha1) (by decide)) dX7_countUnlike_42 rfl ?_
      refine to_getR (q := 46) (b := a1 + 2) (k0 := 7) (C := RX7) (T := TX7) (N := 3) (j := 1) rfl fx_X7_15 (sh_kd hS ha1 (by decide)) rfl (iv7b hI (ha1)) dX7_countUnlike_43 rfl ?_
      refine to_iload (q := 48) rfl dX7_countUnlike_46 rfl ?_
      obtain ⟨hb3, hf⟩ := ck_some hf
      refine to_iaj (q := 49) (sh_ln hS (kd7b (ha1)) (by decide)) hb3 (rfl) dX7_countUnlike_48 rfl ?_
      by_cases h4 : (m.1 (a0 + 2) x4.toNatClampNeg) = (m.1 (a1 + 2) x4.toNatClampNeg)
      · have hf := ite_pos h4 hf
        refine to_icT (q := 55) (op := .eq) h4 dX7_countUnlike_49 rfl ?_
        exact to_ext [(0, .ref a0), (1, .ref a1), (2, .int x2), (3, .int x3), (4, .int x4)] (ext_cons rfl (ext_cons rfl (ext_cons rfl (ext_cons rfl (ext_cons rfl ext_nil))))) (kX7_countUnlike_55 hS ih hf (ha0) (ha1) hI)
      · have hf := ite_neg h4 hf
        refine to_icF (q := 52) (op := .eq) 55 h4 dX7_countUnlike_49 rfl rfl ?_
        refine to_iinc (q := 55) (v := (x3 + (1 : Int32))) rfl (congrArg (fun z => x3 + z) ic_1) [(3, .int (x3 + (1 : Int32))), (0, .ref a0), (1, .ref a1), (2, .int x2), (4, .int x4)] rfl (by decide) dX7_countUnlike_52 rfl ?_
        exact to_ext [(0, .ref a0), (1, .ref a1), (2, .int x2), (3, .int (x3 + (1 : Int32))), (4, .int x4)] (ext_cons rfl (ext_cons rfl (ext_cons rfl (ext_cons rfl (ext_cons rfl ext_nil))))) (kX7_countUnlike_55 hS ih hf (ha0) (ha1) hI)
def fX7_countUnlike (a0 : Nat) (a1 : Nat) (m : Me) : Option (Int32 × Me) := fX7_countUnlike_29 FU a0 a1 ((if (m.1 a1 2) < (m.1 a0 2) then (m.1 a1 2) else (m.1 a0 2))) (((if (m.1 a0 2) < (m.1 a1 2) then (m.1 a1 2) else (m.1 a0 2)) - (if (m.1 a1 2) < (m.1 a0 2) then (m.1 a1 2) else (m.1 a0 2)))) ((0 : Int32)) m
set_option maxRecDepth 20000 in
theorem kX7_countUnlike {S : Sh} (hS : ShOK S) {res : Int32 × Me} {a0 : Nat} {a1 : Nat} {m : Me} (hf : fX7_countUnlike a0 a1 m = some res) (ha0 : kd a0 = 7) (ha1 : kd a1 = 7) (hI : Inv m) : Call 1 mX7_countUnlike [.ref a0, .ref a1] (S, m) (some (.int res.1)) (S, res.2) ∧ Inv res.2 := by
  refine call_of (P := InvS) (Nat.le_of_ble_eq_true rfl) (by simp [Value.category]) ?_
  show TT InvS (Call 0) mX7_countUnlike (0, [(0, .ref a0), (1, .ref a1)], [], S, m) _ _
  unfold fX7_countUnlike at hf
  refine to_aload_n (q := 1) rfl (kd_4 (ha0) (by decide)) dX7_countUnlike_0 rfl ?_
  refine to_getI (q := 4) (k0 := 7) (C := RX7) (T := TX7) (N := 3) (j := 2) rfl fx_X7_18 (sh_kd hS ha0 (by decide)) rfl dX7_countUnlike_1 rfl ?_
  refine to_aload_n (q := 5) rfl (kd_4 (ha1) (by decide)) dX7_countUnlike_4 rfl ?_
  refine to_getI (q := 8) (k0 := 7) (C := RX7) (T := TX7) (N := 3) (j := 2) rfl fx_X7_18 (sh_kd hS ha1 (by decide)) rfl dX7_countUnlike_5 rfl ?_
  refine to_min (q := 11) dX7_countUnlike_8 rfl (Nat.le_of_ble_eq_true rfl) (lc_min lm_X7_60) ?_
  refine to_istore_n (q := 12) [(2, .int (if (m.1 a1 2) < (m.1 a0 2) then (m.1 a1 2) else (m.1 a0 2))), (0, .ref a0), (1, .ref a1)] rfl (by decide) dX7_countUnlike_11 rfl ?_
  refine to_aload_n (q := 13) rfl (kd_4 (ha0) (by decide)) dX7_countUnlike_12 rfl ?_
  refine to_getI (q := 16) (k0 := 7) (C := RX7) (T := TX7) (N := 3) (j := 2) rfl fx_X7_18 (sh_kd hS ha0 (by decide)) rfl dX7_countUnlike_13 rfl ?_
  refine to_aload_n (q := 17) rfl (kd_4 (ha1) (by decide)) dX7_countUnlike_16 rfl ?_
  refine to_getI (q := 20) (k0 := 7) (C := RX7) (T := TX7) (N := 3) (j := 2) rfl fx_X7_18 (sh_kd hS ha1 (by decide)) rfl dX7_countUnlike_17 rfl ?_
  refine to_max (q := 23) dX7_countUnlike_20 rfl (Nat.le_of_ble_eq_true rfl) (lc_max lm_X7_65) ?_
  refine to_iload_n (q := 24) rfl dX7_countUnlike_23 rfl ?_
  refine to_isub (q := 25) dX7_countUnlike_24 rfl ?_
  refine to_istore_n (q := 26) [(3, .int ((if (m.1 a0 2) < (m.1 a1 2) then (m.1 a1 2) else (m.1 a0 2)) - (if (m.1 a1 2) < (m.1 a0 2) then (m.1 a1 2) else (m.1 a0 2)))), (2, .int (if (m.1 a1 2) < (m.1 a0 2) then (m.1 a1 2) else (m.1 a0 2))), (0, .ref a0), (1, .ref a1)] rfl (by decide) dX7_countUnlike_25 rfl ?_
  refine to_iconst (q := 27) ic_0 dX7_countUnlike_26 rfl ?_
  refine to_istore (q := 29) [(4, .int (0 : Int32)), (3, .int ((if (m.1 a0 2) < (m.1 a1 2) then (m.1 a1 2) else (m.1 a0 2)) - (if (m.1 a1 2) < (m.1 a0 2) then (m.1 a1 2) else (m.1 a0 2)))), (2, .int (if (m.1 a1 2) < (m.1 a0 2) then (m.1 a1 2) else (m.1 a0 2))), (0, .ref a0), (1, .ref a1)] rfl (by decide) dX7_countUnlike_27 rfl ?_
  exact to_ext [(0, .ref a0), (1, .ref a1), (2, .int (if (m.1 a1 2) < (m.1 a0 2) then (m.1 a1 2) else (m.1 a0 2))), (3, .int ((if (m.1 a0 2) < (m.1 a1 2) then (m.1 a1 2) else (m.1 a0 2)) - (if (m.1 a1 2) < (m.1 a0 2) then (m.1 a1 2) else (m.1 a0 2)))), (4, .int (0 : Int32))] (ext_cons rfl (ext_cons rfl (ext_cons rfl (ext_cons rfl (ext_cons rfl ext_nil))))) (kX7_countUnlike_29 hS FU hf (ha0) (ha1) hI)
def fX10_letterOrBare_12 (t0 : Int32) (m : Me) : Option (Int32 × Me) := some (t0, m)
set_option maxRecDepth 20000 in
theorem kX10_letterOrBare_12 {S : Sh} (hS : ShOK S) {res : Int32 × Me} {t0 : Int32} {m : Me} (hf : fX10_letterOrBare_12 t0 m = some res) (hI : Inv m) : TT InvS (Call 0) mX10_letterOrBare (12, [], [.int t0], S, m) (some (.int res.1)) (S, res.2) := by
  unfold fX10_letterOrBare_12 at hf
  cases hf
  exact to_iret dX10_letterOrBare_12 rfl rfl rfl rfl hI
def fX10_letterOrBare (x0 : Int32) (m : Me) : Option (Int32 × Me) := if x0 = (25 : Int32) then fX10_letterOrBare_12 ((-2 : Int32)) m else fX10_letterOrBare_12 x0 m
set_option maxRecDepth 20000 in
theorem kX10_letterOrBare {S : Sh} (hS : ShOK S) {res : Int32 × Me} {x0 : Int32} {m : Me} (hf : fX10_letterOrBare x0 m = some res) (hI : Inv m) : Call 1 mX10_letterOrBare [.int x0] (S, m) (some (.int res.1)) (S, res.2) ∧ Inv res.2 := by
  refine call_of (P := InvS) (Nat.le_of_ble_eq_true rfl) (by simp [Value.category]) ?_
  show TT InvS (Call 0) mX10_letterOrBare (0, [(0, .int x0)], [], S, m) _ _
  unfold fX10_letterOrBare at hf
  refine to_iload_n (q := 1) rfl dX10_letterOrBare_0 rfl ?_
  refine to_bipush (q := 3) bp_25 dX10_letterOrBare_1 rfl ?_
  by_cases h1 : x0 = (25 : Int32)
  · have hf := ite_pos h1 hf
    refine to_icF (q := 6) (op := .ne) 11 (fun z => z h1) dX10_letterOrBare_3 rfl rfl ?_
    refine to_bipush (q := 8) bp_m2 dX10_letterOrBare_6 rfl ?_
    refine to_goto (q := 12) dX10_letterOrBare_8 rfl ?_
    exact to_ext [] ext_nil (kX10_letterOrBare_12 hS hf hI)
  · have hf := ite_neg h1 hf
    refine to_icT (q := 11) (op := .ne) h1 dX10_letterOrBare_3 rfl ?_
    refine to_iload_n (q := 12) rfl dX10_letterOrBare_11 rfl ?_
    exact to_ext [] ext_nil (kX10_letterOrBare_12 hS hf hI)
