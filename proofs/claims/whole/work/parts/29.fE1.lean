def fX11_thrown (m : Me) : Option (Int32 × Me) := some ((m.1 138 0), m)
set_option maxRecDepth 20000 in
theorem kX11_thrown {S : Sh} (hS : ShOK S) {res : Int32 × Me} {m : Me} (hf : fX11_thrown m = some res) (hI : Inv m) : Call 1 mX11_thrown [.ref 138] (S, m) (some (.int res.1)) (S, res.2) ∧ Inv res.2 := by
  refine call_of (P := InvS) (Nat.le_of_ble_eq_true rfl) (by simp [Value.category]) ?_
  show TT InvS (Call 0) mX11_thrown (0, [(0, .ref 138)], [], S, m) _ _
  unfold fX11_thrown at hf
  refine to_aload_n (q := 1) rfl (by decide) dX11_thrown_0 rfl ?_
  refine to_getI (q := 4) (k0 := 11) (C := RX11) (T := TX11) (N := 37) (j := 0) rfl fx_X11_71 (h_138 hS) rfl dX11_thrown_1 rfl ?_
  cases hf
  exact to_iret dX11_thrown_4 rfl rfl rfl rfl hI
def fX11_good (m : Me) : Option (Me) := some (setI (setI m 138 0 (0 : Int32)) 138 11 (0 : Int32))
set_option maxRecDepth 20000 in
theorem kX11_good {S : Sh} (hS : ShOK S) {res : Me} {m : Me} (hf : fX11_good m = some res) (hI : Inv m) : Call 1 mX11_good [.ref 138] (S, m) none (S, res) ∧ Inv res := by
  refine call_of (P := InvS) (Nat.le_of_ble_eq_true rfl) (by simp [Value.category]) ?_
  show TT InvS (Call 0) mX11_good (0, [(0, .ref 138)], [], S, m) _ _
  unfold fX11_good at hf
  refine to_aload_n (q := 1) rfl (by decide) dX11_good_0 rfl ?_
  refine to_iconst (q := 2) ic_0 dX11_good_1 rfl ?_
  refine to_putI (q := 5) (ty := .int) (k0 := 11) (C := RX11) (T := TX11) (N := 37) (j := 0) rfl fx_X11_71 (h_138 hS) rfl pD_I (Or.inl rfl) (nf_I _) dX11_good_2 rfl ?_
  refine to_aload_n (q := 6) rfl (by decide) dX11_good_5 rfl ?_
  refine to_iconst (q := 7) ic_0 dX11_good_6 rfl ?_
  refine to_putI (q := 10) (ty := .int) (k0 := 11) (C := RX11) (T := TX11) (N := 37) (j := 11) rfl fx_X11_74 (h_138 hS) rfl pD_I (Or.inl rfl) (nf_I _) dX11_good_7 rfl ?_
  cases hf
  exact to_vret dX11_good_10 rfl rfl rfl hI
def fX11_no (x1 : Int32) (m : Me) : Option (Int32 × Me) := some ((-1 : Int32), (setI m 138 11 x1))
set_option maxRecDepth 20000 in
theorem kX11_no {S : Sh} (hS : ShOK S) {res : Int32 × Me} {x1 : Int32} {m : Me} (hf : fX11_no x1 m = some res) (hI : Inv m) : Call 1 mX11_no [.ref 138, .int x1] (S, m) (some (.int res.1)) (S, res.2) ∧ Inv res.2 := by
  refine call_of (P := InvS) (Nat.le_of_ble_eq_true rfl) (by simp [Value.category]) ?_
  show TT InvS (Call 0) mX11_no (0, [(0, .ref 138), (1, .int x1)], [], S, m) _ _
  unfold fX11_no at hf
  refine to_aload_n (q := 1) rfl (by decide) dX11_no_0 rfl ?_
  refine to_iload_n (q := 2) rfl dX11_no_1 rfl ?_
  refine to_putI (q := 5) (ty := .int) (k0 := 11) (C := RX11) (T := TX11) (N := 37) (j := 11) rfl fx_X11_74 (h_138 hS) rfl pD_I (Or.inl rfl) (nf_I _) dX11_no_2 rfl ?_
  refine to_iconst (q := 6) ic_m1 dX11_no_5 rfl ?_
  cases hf
  exact to_iret dX11_no_6 rfl rfl rfl rfl hI
def fX11_isNot (x1 : Int32) (m : Me) : Option (Int32 × Me) := some ((0 : Int32), (setI m 138 11 x1))
set_option maxRecDepth 20000 in
theorem kX11_isNot {S : Sh} (hS : ShOK S) {res : Int32 × Me} {x1 : Int32} {m : Me} (hf : fX11_isNot x1 m = some res) (hI : Inv m) : Call 1 mX11_isNot [.ref 138, .int x1] (S, m) (some (.int res.1)) (S, res.2) ∧ Inv res.2 := by
  refine call_of (P := InvS) (Nat.le_of_ble_eq_true rfl) (by simp [Value.category]) ?_
  show TT InvS (Call 0) mX11_isNot (0, [(0, .ref 138), (1, .int x1)], [], S, m) _ _
  unfold fX11_isNot at hf
  refine to_aload_n (q := 1) rfl (by decide) dX11_isNot_0 rfl ?_
  refine to_iload_n (q := 2) rfl dX11_isNot_1 rfl ?_
  refine to_putI (q := 5) (ty := .int) (k0 := 11) (C := RX11) (T := TX11) (N := 37) (j := 11) rfl fx_X11_74 (h_138 hS) rfl pD_I (Or.inl rfl) (nf_I _) dX11_isNot_2 rfl ?_
  refine to_iconst (q := 6) ic_0 dX11_isNot_5 rfl ?_
  cases hf
  exact to_iret dX11_isNot_6 rfl (by decide) rfl rfl hI
def fX11_within_15 (t0 : Int32) (m : Me) : Option (Int32 × Me) := ck (t0 = 0 ∨ t0 = 1) (some (t0, m))
set_option maxRecDepth 20000 in
theorem kX11_within_15 {S : Sh} (hS : ShOK S) {res : Int32 × Me} {t0 : Int32} {m : Me} (hf : fX11_within_15 t0 m = some res) (hI : Inv m) : TT InvS (Call 0) mX11_within (15, [], [.int t0], S, m) (some (.int res.1)) (S, res.2) := by
  unfold fX11_within_15 at hf
  obtain ⟨hz3, hf⟩ := ck_some hf
  cases hf
  exact to_iret dX11_within_15 rfl (nf_Z hz3).1 rfl rfl hI
def fX11_within_14 (m : Me) : Option (Int32 × Me) := fX11_within_15 ((0 : Int32)) m
set_option maxRecDepth 20000 in
theorem kX11_within_14 {S : Sh} (hS : ShOK S) {res : Int32 × Me} {m : Me} (hf : fX11_within_14 m = some res) (hI : Inv m) : TT InvS (Call 0) mX11_within (14, [], [], S, m) (some (.int res.1)) (S, res.2) := by
  unfold fX11_within_14 at hf
  refine to_iconst (q := 15) ic_0 dX11_within_14 rfl ?_
  exact to_ext [] ext_nil (kX11_within_15 hS hf hI)
def fX11_within (x0 : Int32) (x1 : Int32) (x2 : Int32) (m : Me) : Option (Int32 × Me) := if x0 < x1 then fX11_within_14 m else if x2 < x0 then fX11_within_14 m else fX11_within_15 ((1 : Int32)) m
set_option maxRecDepth 20000 in
theorem kX11_within {S : Sh} (hS : ShOK S) {res : Int32 × Me} {x0 : Int32} {x1 : Int32} {x2 : Int32} {m : Me} (hf : fX11_within x0 x1 x2 m = some res) (hI : Inv m) : Call 1 mX11_within [.int x0, .int x1, .int x2] (S, m) (some (.int res.1)) (S, res.2) ∧ Inv res.2 := by
  refine call_of (P := InvS) (Nat.le_of_ble_eq_true rfl) (by simp [Value.category]) ?_
  show TT InvS (Call 0) mX11_within (0, [(0, .int x0), (1, .int x1), (2, .int x2)], [], S, m) _ _
  unfold fX11_within at hf
  refine to_iload_n (q := 1) rfl dX11_within_0 rfl ?_
  refine to_iload_n (q := 2) rfl dX11_within_1 rfl ?_
  by_cases h1 : x0 < x1
  · have hf := ite_pos h1 hf
    refine to_icT (q := 14) (op := .lt) h1 dX11_within_2 rfl ?_
    exact to_ext [] ext_nil (kX11_within_14 hS hf hI)
  · have hf := ite_neg h1 hf
    refine to_icF (q := 5) (op := .lt) 14 h1 dX11_within_2 rfl rfl ?_
    refine to_iload_n (q := 6) rfl dX11_within_5 rfl ?_
    refine to_iload_n (q := 7) rfl dX11_within_6 rfl ?_
    by_cases h2 : x2 < x0
    · have hf := ite_pos h2 hf
      refine to_icT (q := 14) (op := .gt) h2 dX11_within_7 rfl ?_
      exact to_ext [] ext_nil (kX11_within_14 hS hf hI)
    · have hf := ite_neg h2 hf
      refine to_icF (q := 10) (op := .gt) 14 h2 dX11_within_7 rfl rfl ?_
      refine to_iconst (q := 11) ic_1 dX11_within_10 rfl ?_
      refine to_goto (q := 15) dX11_within_11 rfl ?_
      exact to_ext [] ext_nil (kX11_within_15 hS hf hI)
def fX11_has_14 (t0 : Int32) (m : Me) : Option (Int32 × Me) := ck (t0 = 0 ∨ t0 = 1) (some (t0, m))
set_option maxRecDepth 20000 in
theorem kX11_has_14 {S : Sh} (hS : ShOK S) {res : Int32 × Me} {t0 : Int32} {m : Me} (hf : fX11_has_14 t0 m = some res) (hI : Inv m) : TT InvS (Call 0) mX11_has (14, [], [.int t0], S, m) (some (.int res.1)) (S, res.2) := by
  unfold fX11_has_14 at hf
  obtain ⟨hz2, hf⟩ := ck_some hf
  cases hf
  exact to_iret dX11_has_14 rfl (nf_Z hz2).1 rfl rfl hI
def fX11_has (x0 : Int32) (x1 : Int32) (m : Me) : Option (Int32 × Me) := if ((x0 >>> (x1 &&& 31)) &&& (1 : Int32)) = (1 : Int32) then fX11_has_14 ((1 : Int32)) m else fX11_has_14 ((0 : Int32)) m
set_option maxRecDepth 20000 in
theorem kX11_has {S : Sh} (hS : ShOK S) {res : Int32 × Me} {x0 : Int32} {x1 : Int32} {m : Me} (hf : fX11_has x0 x1 m = some res) (hI : Inv m) : Call 1 mX11_has [.int x0, .int x1] (S, m) (some (.int res.1)) (S, res.2) ∧ Inv res.2 := by
  refine call_of (P := InvS) (Nat.le_of_ble_eq_true rfl) (by simp [Value.category]) ?_
  show TT InvS (Call 0) mX11_has (0, [(0, .int x0), (1, .int x1)], [], S, m) _ _
  unfold fX11_has at hf
  refine to_iload_n (q := 1) rfl dX11_has_0 rfl ?_
  refine to_iload_n (q := 2) rfl dX11_has_1 rfl ?_
  refine to_ishr (q := 3) dX11_has_2 rfl ?_
  refine to_iconst (q := 4) ic_1 dX11_has_3 rfl ?_
  refine to_iand (q := 5) dX11_has_4 rfl ?_
  refine to_iconst (q := 6) ic_1 dX11_has_5 rfl ?_
  by_cases h1 : ((x0 >>> (x1 &&& 31)) &&& (1 : Int32)) = (1 : Int32)
  · have hf := ite_pos h1 hf
    refine to_icF (q := 9) (op := .ne) 13 (fun z => z h1) dX11_has_6 rfl rfl ?_
    refine to_iconst (q := 10) ic_1 dX11_has_9 rfl ?_
    refine to_goto (q := 14) dX11_has_10 rfl ?_
    exact to_ext [] ext_nil (kX11_has_14 hS hf hI)
  · have hf := ite_neg h1 hf
    refine to_icT (q := 13) (op := .ne) h1 dX11_has_6 rfl ?_
    refine to_iconst (q := 14) ic_0 dX11_has_13 rfl ?_
    exact to_ext [] ext_nil (kX11_has_14 hS hf hI)
def fX11_copy_3 (n : Nat) (a0 : Nat) (x1 : Int32) (a2 : Nat) (x3 : Int32) (x4 : Int32) (x5 : Int32) (m : Me) : Option (Me) := match n with
  | 0 => none
  | n + 1 => if x4 ≤ x5 then some m else ck (inb (x1 + x5) (ln a0)) (ck (inb (x3 + x5) (ln a2)) (fX11_copy_3 n a0 x1 a2 x3 x4 ((x5 + (1 : Int32))) (setI m a2 (x3 + x5).toNatClampNeg (m.1 a0 (x1 + x5).toNatClampNeg))))
set_option maxRecDepth 20000 in
theorem kX11_copy_3 {S : Sh} (hS : ShOK S) {res : Me} (n : Nat) : ∀ {a0 : Nat} {x1 : Int32} {a2 : Nat} {x3 : Int32} {x4 : Int32} {x5 : Int32} {m : Me}, fX11_copy_3 n a0 x1 a2 x3 x4 x5 m = some res → kd a0 = 13 → kd a2 = 13 → Inv m → TT InvS (Call 0) mX11_copy (3, [(0, .ref a0), (1, .int x1), (2, .ref a2), (3, .int x3), (4, .int x4), (5, .int x5)], [], S, m) none (S, res) := by
  induction n with
  | zero => intro a0 x1 a2 x3 x4 x5 m hf; cases hf
  | succ n ih =>
    intro a0 x1 a2 x3 x4 x5 m hf ha0 ha2 hI
    unfold fX11_copy_3 at hf
    refine to_iload (q := 5) rfl dX11_copy_3 rfl ?_
    refine to_iload (q := 7) rfl dX11_copy_5 rfl ?_
    by_cases h1 : x4 ≤ x5
    · have hf := ite_pos h1 hf
      refine to_icT (q := 28) (op := .ge) h1 dX11_copy_7 rfl ?_
      cases hf
      exact to_vret dX11_copy_28 rfl rfl rfl hI
    · have hf := ite_neg h1 hf
      refine to_icF (q := 10) (op := .ge) 28 h1 dX11_copy_7 rfl rfl ?_
      refine to_aload_n (q := 11) rfl (kd_4 (ha2) (by decide)) dX11_copy_10 rfl ?_
      refine to_iload_n (q := 12) rfl dX11_copy_11 rfl ?_
      refine to_iload (q := 14) rfl dX11_copy_12 rfl ?_
      refine to_iadd (q := 15) dX11_copy_14 rfl ?_
      refine to_aload_n (q := 16) rfl (kd_4 (ha0) (by decide)) dX11_copy_15 rfl ?_
      refine to_iload_n (q := 17) rfl dX11_copy_16 rfl ?_
      refine to_iload (q := 19) rfl dX11_copy_17 rfl ?_
      refine to_iadd (q := 20) dX11_copy_19 rfl ?_
      obtain ⟨hb2, hf⟩ := ck_some hf
      refine to_iaj (q := 21) (sh_kd hS ha0 (by decide)) hb2 (rfl) dX11_copy_20 rfl ?_
      obtain ⟨hb3, hf⟩ := ck_some hf
      refine to_iasj (q := 22) (sh_kd hS ha2 (by decide)) hb3 (rfl) dX11_copy_21 rfl ?_
      refine to_iinc (q := 25) (v := (x5 + (1 : Int32))) rfl (congrArg (fun z => x5 + z) ic_1) [(5, .int (x5 + (1 : Int32))), (0, .ref a0), (1, .int x1), (2, .ref a2), (3, .int x3), (4, .int x4)] rfl (by decide) dX11_copy_22 rfl ?_
      refine to_goto (q := 3) dX11_copy_25 rfl ?_
      exact to_ext [(0, .ref a0), (1, .int x1), (2, .ref a2), (3, .int x3), (4, .int x4), (5, .int (x5 + (1 : Int32)))] (ext_cons rfl (ext_cons rfl (ext_cons rfl (ext_cons rfl (ext_cons rfl (ext_cons rfl ext_nil)))))) (ih hf (ha0) (ha2) hI)
def fX11_copy (a0 : Nat) (x1 : Int32) (a2 : Nat) (x3 : Int32) (x4 : Int32) (m : Me) : Option (Me) := fX11_copy_3 FU a0 x1 a2 x3 x4 ((0 : Int32)) m
set_option maxRecDepth 20000 in
theorem kX11_copy {S : Sh} (hS : ShOK S) {res : Me} {a0 : Nat} {x1 : Int32} {a2 : Nat} {x3 : Int32} {x4 : Int32} {m : Me} (hf : fX11_copy a0 x1 a2 x3 x4 m = some res) (ha0 : kd a0 = 13) (ha2 : kd a2 = 13) (hI : Inv m) : Call 1 mX11_copy [.ref a0, .int x1, .ref a2, .int x3, .int x4] (S, m) none (S, res) ∧ Inv res := by
  refine call_of (P := InvS) (Nat.le_of_ble_eq_true rfl) (by simp [Value.category]) ?_
  show TT InvS (Call 0) mX11_copy (0, [(0, .ref a0), (1, .int x1), (2, .ref a2), (3, .int x3), (4, .int x4)], [], S, m) _ _
  unfold fX11_copy at hf
  refine to_iconst (q := 1) ic_0 dX11_copy_0 rfl ?_
  refine to_istore (q := 3) [(5, .int (0 : Int32)), (0, .ref a0), (1, .int x1), (2, .ref a2), (3, .int x3), (4, .int x4)] rfl (by decide) dX11_copy_1 rfl ?_
  exact to_ext [(0, .ref a0), (1, .int x1), (2, .ref a2), (3, .int x3), (4, .int x4), (5, .int (0 : Int32))] (ext_cons rfl (ext_cons rfl (ext_cons rfl (ext_cons rfl (ext_cons rfl (ext_cons rfl ext_nil)))))) (kX11_copy_3 hS FU hf (ha0) (ha2) hI)
def fX11_feed_76 (k23 : Int32 → Int32 → Int32 → Int32 → Int32 → Int32 → Me → Option (Int32 × Me)) (x1 : Int32) (x2 : Int32) (x3 : Int32) (x4 : Int32) (x5 : Int32) (x6 : Int32) (t0 : Int32) (m : Me) : Option (Int32 × Me) := ck (inb (m.1 138 2) 900) (k23 x1 x2 x3 x4 x5 ((x6 + (1 : Int32))) (setI (setI m 139 (m.1 138 2).toNatClampNeg ((t0 >>> (((24 : Int32) - ((8 : Int32) * (x6 - x6 / (4 : Int32) * (4 : Int32)))) &&& 31)) &&& (255 : Int32))) 138 2 (((setI m 139 (m.1 138 2).toNatClampNeg ((t0 >>> (((24 : Int32) - ((8 : Int32) * (x6 - x6 / (4 : Int32) * (4 : Int32)))) &&& 31)) &&& (255 : Int32))).1 138 2) + (1 : Int32))))
set_option maxRecDepth 20000 in
theorem kX11_feed_76 {S : Sh} (hS : ShOK S) {res : Int32 × Me} {k23 : Int32 → Int32 → Int32 → Int32 → Int32 → Int32 → Me → Option (Int32 × Me)} (hk23 : ∀ {x1 : Int32} {x2 : Int32} {x3 : Int32} {x4 : Int32} {x5 : Int32} {x6 : Int32} {m : Me}, k23 x1 x2 x3 x4 x5 x6 m = some res → Inv m → TT InvS (Call 0) mX11_feed (23, [(0, .ref 138), (1, .int x1), (2, .int x2), (3, .int x3), (4, .int x4), (5, .int x5), (6, .int x6)], [], S, m) (some (.int res.1)) (S, res.2)) {x1 : Int32} {x2 : Int32} {x3 : Int32} {x4 : Int32} {x5 : Int32} {x6 : Int32} {t0 : Int32} {m : Me} (hf : fX11_feed_76 k23 x1 x2 x3 x4 x5 x6 t0 m = some res) (hI : Inv m) : TT InvS (Call 0) mX11_feed (76, [(0, .ref 138), (1, .int x1), (2, .int x2), (3, .int x3), (4, .int x4), (5, .int x5), (6, .int x6)], [.int t0], S, m) (some (.int res.1)) (S, res.2) := by
  unfold fX11_feed_76 at hf
  refine to_istore (q := 78) [(7, .int t0), (0, .ref 138), (1, .int x1), (2, .int x2), (3, .int x3), (4, .int x4), (5, .int x5), (6, .int x6)] rfl (by decide) dX11_feed_76 rfl ?_
  refine to_aload_n (q := 79) rfl (by decide) dX11_feed_78 rfl ?_
  refine to_getR (q := 82) (b := 139) (k0 := 11) (C := RX11) (T := TX11) (N := 37) (j := 1) rfl fx_X11_7 (h_138 hS) rfl (iv_138_1 hI) dX11_feed_79 rfl ?_
  refine to_aload_n (q := 83) rfl (by decide) dX11_feed_82 rfl ?_
  refine to_getI (q := 86) (k0 := 11) (C := RX11) (T := TX11) (N := 37) (j := 2) rfl fx_X11_77 (h_138 hS) rfl dX11_feed_83 rfl ?_
  refine to_iload (q := 88) rfl dX11_feed_86 rfl ?_
  refine to_bipush (q := 90) bp_24 dX11_feed_88 rfl ?_
  refine to_bipush (q := 92) bp_8 dX11_feed_90 rfl ?_
  refine to_iload (q := 94) rfl dX11_feed_92 rfl ?_
  refine to_iconst (q := 95) ic_4 dX11_feed_94 rfl ?_
  refine to_irem (q := 96) (by decide) dX11_feed_95 rfl ?_
  refine to_imul (q := 97) dX11_feed_96 rfl ?_
  refine to_isub (q := 98) dX11_feed_97 rfl ?_
  refine to_ishr (q := 99) dX11_feed_98 rfl ?_
  refine to_sipush (q := 102) sp_255 dX11_feed_99 rfl ?_
  refine to_iand (q := 103) dX11_feed_102 rfl ?_
  obtain ⟨hb7, hf⟩ := ck_some hf
  refine to_iasj (q := 104) (h_139 hS) hb7 (rfl) dX11_feed_103 rfl ?_
  refine to_aload_n (q := 105) rfl (by decide) dX11_feed_104 rfl ?_
  refine to_dup (q := 106) rfl dX11_feed_105 rfl ?_
  refine to_getI (q := 109) (k0 := 11) (C := RX11) (T := TX11) (N := 37) (j := 2) rfl fx_X11_77 (h_138 hS) rfl dX11_feed_106 rfl ?_
  refine to_iconst (q := 110) ic_1 dX11_feed_109 rfl ?_
  refine to_iadd (q := 111) dX11_feed_110 rfl ?_
  refine to_putI (q := 114) (ty := .int) (k0 := 11) (C := RX11) (T := TX11) (N := 37) (j := 2) rfl fx_X11_77 (h_138 hS) rfl pD_I (Or.inl rfl) (nf_I _) dX11_feed_111 rfl ?_
  refine to_iinc (q := 117) (v := (x6 + (1 : Int32))) rfl (congrArg (fun z => x6 + z) ic_1) [(6, .int (x6 + (1 : Int32))), (7, .int t0), (0, .ref 138), (1, .int x1), (2, .int x2), (3, .int x3), (4, .int x4), (5, .int x5)] rfl (by decide) dX11_feed_114 rfl ?_
  refine to_goto (q := 23) dX11_feed_117 rfl ?_
  exact to_ext [(0, .ref 138), (1, .int x1), (2, .int x2), (3, .int x3), (4, .int x4), (5, .int x5), (6, .int (x6 + (1 : Int32)))] (ext_cons rfl (ext_cons rfl (ext_cons rfl (ext_cons rfl (ext_cons rfl (ext_cons rfl (ext_cons rfl ext_nil))))))) (hk23 hf hI)
def fX11_feed_23 (n : Nat) (x1 : Int32) (x2 : Int32) (x3 : Int32) (x4 : Int32) (x5 : Int32) (x6 : Int32) (m : Me) : Option (Int32 × Me) := match n with
  | 0 => none
  | n + 1 => if (20 : Int32) ≤ x6 then some ((m.1 138 2), m) else if (4 : Int32) ≤ x6 then if (8 : Int32) ≤ x6 then if (12 : Int32) ≤ x6 then if (16 : Int32) ≤ x6 then fX11_feed_76 (fX11_feed_23 n) x1 x2 x3 x4 x5 x6 x5 m else fX11_feed_76 (fX11_feed_23 n) x1 x2 x3 x4 x5 x6 x4 m else fX11_feed_76 (fX11_feed_23 n) x1 x2 x3 x4 x5 x6 x3 m else fX11_feed_76 (fX11_feed_23 n) x1 x2 x3 x4 x5 x6 x2 m else fX11_feed_76 (fX11_feed_23 n) x1 x2 x3 x4 x5 x6 x1 m
set_option maxRecDepth 20000 in
theorem kX11_feed_23 {S : Sh} (hS : ShOK S) {res : Int32 × Me} (n : Nat) : ∀ {x1 : Int32} {x2 : Int32} {x3 : Int32} {x4 : Int32} {x5 : Int32} {x6 : Int32} {m : Me}, fX11_feed_23 n x1 x2 x3 x4 x5 x6 m = some res → Inv m → TT InvS (Call 0) mX11_feed (23, [(0, .ref 138), (1, .int x1), (2, .int x2), (3, .int x3), (4, .int x4), (5, .int x5), (6, .int x6)], [], S, m) (some (.int res.1)) (S, res.2) := by
  induction n with
  | zero => intro x1 x2 x3 x4 x5 x6 m hf; cases hf
  | succ n ih =>
    intro x1 x2 x3 x4 x5 x6 m hf  hI
    unfold fX11_feed_23 at hf
    refine to_iload (q := 25) rfl dX11_feed_23 rfl ?_
    refine to_bipush (q := 27) bp_20 dX11_feed_25 rfl ?_
    by_cases h2 : (20 : Int32) ≤ x6
    · have hf := ite_pos h2 hf
      refine to_icT (q := 120) (op := .ge) h2 dX11_feed_27 rfl ?_
      refine to_aload_n (q := 121) rfl (by decide) dX11_feed_120 rfl ?_
      refine to_getI (q := 124) (k0 := 11) (C := RX11) (T := TX11) (N := 37) (j := 2) rfl fx_X11_77 (h_138 hS) rfl dX11_feed_121 rfl ?_
      cases hf
      exact to_iret dX11_feed_124 rfl rfl rfl rfl hI
    · have hf := ite_neg h2 hf
      refine to_icF (q := 30) (op := .ge) 120 h2 dX11_feed_27 rfl rfl ?_
      refine to_iload (q := 32) rfl dX11_feed_30 rfl ?_
      refine to_iconst (q := 33) ic_4 dX11_feed_32 rfl ?_
      by_cases h3 : (4 : Int32) ≤ x6
      · have hf := ite_pos h3 hf
        refine to_icT (q := 40) (op := .ge) h3 dX11_feed_33 rfl ?_
        refine to_iload (q := 42) rfl dX11_feed_40 rfl ?_
        refine to_bipush (q := 44) bp_8 dX11_feed_42 rfl ?_
        by_cases h4 : (8 : Int32) ≤ x6
        · have hf := ite_pos h4 hf
          refine to_icT (q := 51) (op := .ge) h4 dX11_feed_44 rfl ?_
          refine to_iload (q := 53) rfl dX11_feed_51 rfl ?_
          refine to_bipush (q := 55) bp_12 dX11_feed_53 rfl ?_
          by_cases h5 : (12 : Int32) ≤ x6
          · have hf := ite_pos h5 hf
            refine to_icT (q := 62) (op := .ge) h5 dX11_feed_55 rfl ?_
            refine to_iload (q := 64) rfl dX11_feed_62 rfl ?_
            refine to_bipush (q := 66) bp_16 dX11_feed_64 rfl ?_
            by_cases h6 : (16 : Int32) ≤ x6
            · have hf := ite_pos h6 hf
              refine to_icT (q := 74) (op := .ge) h6 dX11_feed_66 rfl ?_
              refine to_iload (q := 76) rfl dX11_feed_74 rfl ?_
              exact to_ext [(0, .ref 138), (1, .int x1), (2, .int x2), (3, .int x3), (4, .int x4), (5, .int x5), (6, .int x6)] (ext_cons rfl (ext_cons rfl (ext_cons rfl (ext_cons rfl (ext_cons rfl (ext_cons rfl (ext_cons rfl ext_nil))))))) (kX11_feed_76 hS ih hf hI)
            · have hf := ite_neg h6 hf
              refine to_icF (q := 69) (op := .ge) 74 h6 dX11_feed_66 rfl rfl ?_
              refine to_iload (q := 71) rfl dX11_feed_69 rfl ?_
              refine to_goto (q := 76) dX11_feed_71 rfl ?_
              exact to_ext [(0, .ref 138), (1, .int x1), (2, .int x2), (3, .int x3), (4, .int x4), (5, .int x5), (6, .int x6)] (ext_cons rfl (ext_cons rfl (ext_cons rfl (ext_cons rfl (ext_cons rfl (ext_cons rfl (ext_cons rfl ext_nil))))))) (kX11_feed_76 hS ih hf hI)
          · have hf := ite_neg h5 hf
            refine to_icF (q := 58) (op := .ge) 62 h5 dX11_feed_55 rfl rfl ?_
            refine to_iload_n (q := 59) rfl dX11_feed_58 rfl ?_
            refine to_goto (q := 76) dX11_feed_59 rfl ?_
            exact to_ext [(0, .ref 138), (1, .int x1), (2, .int x2), (3, .int x3), (4, .int x4), (5, .int x5), (6, .int x6)] (ext_cons rfl (ext_cons rfl (ext_cons rfl (ext_cons rfl (ext_cons rfl (ext_cons rfl (ext_cons rfl ext_nil))))))) (kX11_feed_76 hS ih hf hI)
        · have hf := ite_neg h4 hf
          refine to_icF (q := 47) (op := .ge) 51 h4 dX11_feed_44 rfl rfl ?_
          refine to_iload_n (q := 48) rfl dX11_feed_47 rfl ?_
          refine to_goto (q := 76) dX11_feed_48 rfl ?_
          exact to_ext [(0, .ref 138), (1, .int x1), (2, .int x2), (3, .int x3), (4, .int x4), (5, .int x5), (6, .int x6)] (ext_cons rfl (ext_cons rfl (ext_cons rfl (ext_cons rfl (ext_cons rfl (ext_cons rfl (ext_cons rfl ext_nil))))))) (kX11_feed_76 hS ih hf hI)
      · have hf := ite_neg h3 hf
        refine to_icF (q := 36) (op := .ge) 40 h3 dX11_feed_33 rfl rfl ?_
        refine to_iload_n (q := 37) rfl dX11_feed_36 rfl ?_
        refine to_goto (q := 76) dX11_feed_37 rfl ?_
        exact to_ext [(0, .ref 138), (1, .int x1), (2, .int x2), (3, .int x3), (4, .int x4), (5, .int x5), (6, .int x6)] (ext_cons rfl (ext_cons rfl (ext_cons rfl (ext_cons rfl (ext_cons rfl (ext_cons rfl (ext_cons rfl ext_nil))))))) (kX11_feed_76 hS ih hf hI)
def fX11_feed (x1 : Int32) (x2 : Int32) (x3 : Int32) (x4 : Int32) (x5 : Int32) (m : Me) : Option (Int32 × Me) := if (((setI m 138 0 (0 : Int32)).1 138 2) + (20 : Int32)) ≤ (900 : Int32) then fX11_feed_23 FU x1 x2 x3 x4 x5 ((0 : Int32)) (setI m 138 0 (0 : Int32)) else some ((-1 : Int32), (setI m 138 0 (0 : Int32)))
set_option maxRecDepth 20000 in
theorem kX11_feed {S : Sh} (hS : ShOK S) {res : Int32 × Me} {x1 : Int32} {x2 : Int32} {x3 : Int32} {x4 : Int32} {x5 : Int32} {m : Me} (hf : fX11_feed x1 x2 x3 x4 x5 m = some res) (hI : Inv m) : Call 1 mX11_feed [.ref 138, .int x1, .int x2, .int x3, .int x4, .int x5] (S, m) (some (.int res.1)) (S, res.2) ∧ Inv res.2 := by
  refine call_of (P := InvS) (Nat.le_of_ble_eq_true rfl) (by simp [Value.category]) ?_
  show TT InvS (Call 0) mX11_feed (0, [(0, .ref 138), (1, .int x1), (2, .int x2), (3, .int x3), (4, .int x4), (5, .int x5)], [], S, m) _ _
  unfold fX11_feed at hf
  refine to_aload_n (q := 1) rfl (by decide) dX11_feed_0 rfl ?_
  refine to_iconst (q := 2) ic_0 dX11_feed_1 rfl ?_
  refine to_putI (q := 5) (ty := .int) (k0 := 11) (C := RX11) (T := TX11) (N := 37) (j := 0) rfl fx_X11_71 (h_138 hS) rfl pD_I (Or.inl rfl) (nf_I _) dX11_feed_2 rfl ?_
  refine to_aload_n (q := 6) rfl (by decide) dX11_feed_5 rfl ?_
  refine to_getI (q := 9) (k0 := 11) (C := RX11) (T := TX11) (N := 37) (j := 2) rfl fx_X11_77 (h_138 hS) rfl dX11_feed_6 rfl ?_
  refine to_bipush (q := 11) bp_20 dX11_feed_9 rfl ?_
  refine to_iadd (q := 12) dX11_feed_11 rfl ?_
  refine to_sipush (q := 15) sp_900 dX11_feed_12 rfl ?_
  by_cases h1 : (((setI m 138 0 (0 : Int32)).1 138 2) + (20 : Int32)) ≤ (900 : Int32)
  · have hf := ite_pos h1 hf
    refine to_icT (q := 20) (op := .le) h1 dX11_feed_15 rfl ?_
    refine to_iconst (q := 21) ic_0 dX11_feed_20 rfl ?_
    refine to_istore (q := 23) [(6, .int (0 : Int32)), (0, .ref 138), (1, .int x1), (2, .int x2), (3, .int x3), (4, .int x4), (5, .int x5)] rfl (by decide) dX11_feed_21 rfl ?_
    exact to_ext [(0, .ref 138), (1, .int x1), (2, .int x2), (3, .int x3), (4, .int x4), (5, .int x5), (6, .int (0 : Int32))] (ext_cons rfl (ext_cons rfl (ext_cons rfl (ext_cons rfl (ext_cons rfl (ext_cons rfl (ext_cons rfl ext_nil))))))) (kX11_feed_23 hS FU hf hI)
  · have hf := ite_neg h1 hf
    refine to_icF (q := 18) (op := .le) 20 h1 dX11_feed_15 rfl rfl ?_
    refine to_iconst (q := 19) ic_m1 dX11_feed_18 rfl ?_
    cases hf
    exact to_iret dX11_feed_19 rfl rfl rfl rfl hI
def fX11_look_18 (t0 : Int32) (m : Me) : Option (Int32 × Me) := some (t0, m)
set_option maxRecDepth 20000 in
theorem kX11_look_18 {S : Sh} (hS : ShOK S) {res : Int32 × Me} {t0 : Int32} {m : Me} (hf : fX11_look_18 t0 m = some res) (hI : Inv m) : TT InvS (Call 0) mX11_look (18, [], [.int t0], S, m) (some (.int res.1)) (S, res.2) := by
  unfold fX11_look_18 at hf
  cases hf
  exact to_iret dX11_look_18 rfl rfl rfl rfl hI
def fX11_look (x1 : Int32) (m : Me) : Option (Int32 × Me) := if (m.1 138 3) ≤ x1 then fX11_look_18 ((-1 : Int32)) m else ck (inb x1 900) (fX11_look_18 ((m.1 139 x1.toNatClampNeg)) m)
set_option maxRecDepth 20000 in
theorem kX11_look {S : Sh} (hS : ShOK S) {res : Int32 × Me} {x1 : Int32} {m : Me} (hf : fX11_look x1 m = some res) (hI : Inv m) : Call 1 mX11_look [.ref 138, .int x1] (S, m) (some (.int res.1)) (S, res.2) ∧ Inv res.2 := by
  refine call_of (P := InvS) (Nat.le_of_ble_eq_true rfl) (by simp [Value.category]) ?_
  show TT InvS (Call 0) mX11_look (0, [(0, .ref 138), (1, .int x1)], [], S, m) _ _
  unfold fX11_look at hf
  refine to_iload_n (q := 1) rfl dX11_look_0 rfl ?_
  refine to_aload_n (q := 2) rfl (by decide) dX11_look_1 rfl ?_
  refine to_getI (q := 5) (k0 := 11) (C := RX11) (T := TX11) (N := 37) (j := 3) rfl fx_X11_80 (h_138 hS) rfl dX11_look_2 rfl ?_
  by_cases h1 : (m.1 138 3) ≤ x1
  · have hf := ite_pos h1 hf
    refine to_icT (q := 17) (op := .ge) h1 dX11_look_5 rfl ?_
    refine to_iconst (q := 18) ic_m1 dX11_look_17 rfl ?_
    exact to_ext [] ext_nil (kX11_look_18 hS hf hI)
  · have hf := ite_neg h1 hf
    refine to_icF (q := 8) (op := .ge) 17 h1 dX11_look_5 rfl rfl ?_
    refine to_aload_n (q := 9) rfl (by decide) dX11_look_8 rfl ?_
    refine to_getR (q := 12) (b := 139) (k0 := 11) (C := RX11) (T := TX11) (N := 37) (j := 1) rfl fx_X11_7 (h_138 hS) rfl (iv_138_1 hI) dX11_look_9 rfl ?_
    refine to_iload_n (q := 13) rfl dX11_look_12 rfl ?_
    obtain ⟨hb2, hf⟩ := ck_some hf
    refine to_iaj (q := 14) (h_139 hS) hb2 (rfl) dX11_look_13 rfl ?_
    refine to_goto (q := 18) dX11_look_14 rfl ?_
    exact to_ext [] ext_nil (kX11_look_18 hS hf hI)
def fX11_isSmall_17 (t0 : Int32) (m : Me) : Option (Int32 × Me) := ck (t0 = 0 ∨ t0 = 1) (some (t0, m))
set_option maxRecDepth 20000 in
theorem kX11_isSmall_17 {S : Sh} (hS : ShOK S) {res : Int32 × Me} {t0 : Int32} {m : Me} (hf : fX11_isSmall_17 t0 m = some res) (hI : Inv m) : TT InvS (Call 0) mX11_isSmall (17, [], [.int t0], S, m) (some (.int res.1)) (S, res.2) := by
  unfold fX11_isSmall_17 at hf
  obtain ⟨hz3, hf⟩ := ck_some hf
  cases hf
  exact to_iret dX11_isSmall_17 rfl (nf_Z hz3).1 rfl rfl hI
def fX11_isSmall_16 (m : Me) : Option (Int32 × Me) := fX11_isSmall_17 ((0 : Int32)) m
set_option maxRecDepth 20000 in
theorem kX11_isSmall_16 {S : Sh} (hS : ShOK S) {res : Int32 × Me} {m : Me} (hf : fX11_isSmall_16 m = some res) (hI : Inv m) : TT InvS (Call 0) mX11_isSmall (16, [], [], S, m) (some (.int res.1)) (S, res.2) := by
  unfold fX11_isSmall_16 at hf
  refine to_iconst (q := 17) ic_0 dX11_isSmall_16 rfl ?_
  exact to_ext [] ext_nil (kX11_isSmall_17 hS hf hI)
def fX11_isSmall (x0 : Int32) (m : Me) : Option (Int32 × Me) := if x0 < (97 : Int32) then fX11_isSmall_16 m else if (122 : Int32) < x0 then fX11_isSmall_16 m else fX11_isSmall_17 ((1 : Int32)) m
set_option maxRecDepth 20000 in
theorem kX11_isSmall {S : Sh} (hS : ShOK S) {res : Int32 × Me} {x0 : Int32} {m : Me} (hf : fX11_isSmall x0 m = some res) (hI : Inv m) : Call 1 mX11_isSmall [.int x0] (S, m) (some (.int res.1)) (S, res.2) ∧ Inv res.2 := by
  refine call_of (P := InvS) (Nat.le_of_ble_eq_true rfl) (by simp [Value.category]) ?_
  show TT InvS (Call 0) mX11_isSmall (0, [(0, .int x0)], [], S, m) _ _
  unfold fX11_isSmall at hf
  refine to_iload_n (q := 1) rfl dX11_isSmall_0 rfl ?_
  refine to_bipush (q := 3) bp_97 dX11_isSmall_1 rfl ?_
  by_cases h1 : x0 < (97 : Int32)
  · have hf := ite_pos h1 hf
    refine to_icT (q := 16) (op := .lt) h1 dX11_isSmall_3 rfl ?_
    exact to_ext [] ext_nil (kX11_isSmall_16 hS hf hI)
  · have hf := ite_neg h1 hf
    refine to_icF (q := 6) (op := .lt) 16 h1 dX11_isSmall_3 rfl rfl ?_
    refine to_iload_n (q := 7) rfl dX11_isSmall_6 rfl ?_
    refine to_bipush (q := 9) bp_122 dX11_isSmall_7 rfl ?_
    by_cases h2 : (122 : Int32) < x0
    · have hf := ite_pos h2 hf
      refine to_icT (q := 16) (op := .gt) h2 dX11_isSmall_9 rfl ?_
      exact to_ext [] ext_nil (kX11_isSmall_16 hS hf hI)
    · have hf := ite_neg h2 hf
      refine to_icF (q := 12) (op := .gt) 16 h2 dX11_isSmall_9 rfl rfl ?_
      refine to_iconst (q := 13) ic_1 dX11_isSmall_12 rfl ?_
      refine to_goto (q := 17) dX11_isSmall_13 rfl ?_
      exact to_ext [] ext_nil (kX11_isSmall_17 hS hf hI)
def fX11_isDigit_17 (t0 : Int32) (m : Me) : Option (Int32 × Me) := ck (t0 = 0 ∨ t0 = 1) (some (t0, m))
set_option maxRecDepth 20000 in
theorem kX11_isDigit_17 {S : Sh} (hS : ShOK S) {res : Int32 × Me} {t0 : Int32} {m : Me} (hf : fX11_isDigit_17 t0 m = some res) (hI : Inv m) : TT InvS (Call 0) mX11_isDigit (17, [], [.int t0], S, m) (some (.int res.1)) (S, res.2) := by
  unfold fX11_isDigit_17 at hf
  obtain ⟨hz3, hf⟩ := ck_some hf
  cases hf
  exact to_iret dX11_isDigit_17 rfl (nf_Z hz3).1 rfl rfl hI
def fX11_isDigit_16 (m : Me) : Option (Int32 × Me) := fX11_isDigit_17 ((0 : Int32)) m
set_option maxRecDepth 20000 in
theorem kX11_isDigit_16 {S : Sh} (hS : ShOK S) {res : Int32 × Me} {m : Me} (hf : fX11_isDigit_16 m = some res) (hI : Inv m) : TT InvS (Call 0) mX11_isDigit (16, [], [], S, m) (some (.int res.1)) (S, res.2) := by
  unfold fX11_isDigit_16 at hf
  refine to_iconst (q := 17) ic_0 dX11_isDigit_16 rfl ?_
  exact to_ext [] ext_nil (kX11_isDigit_17 hS hf hI)
def fX11_isDigit (x0 : Int32) (m : Me) : Option (Int32 × Me) := if x0 < (48 : Int32) then fX11_isDigit_16 m else if (57 : Int32) < x0 then fX11_isDigit_16 m else fX11_isDigit_17 ((1 : Int32)) m
set_option maxRecDepth 20000 in
theorem kX11_isDigit {S : Sh} (hS : ShOK S) {res : Int32 × Me} {x0 : Int32} {m : Me} (hf : fX11_isDigit x0 m = some res) (hI : Inv m) : Call 1 mX11_isDigit [.int x0] (S, m) (some (.int res.1)) (S, res.2) ∧ Inv res.2 := by
  refine call_of (P := InvS) (Nat.le_of_ble_eq_true rfl) (by simp [Value.category]) ?_
  show TT InvS (Call 0) mX11_isDigit (0, [(0, .int x0)], [], S, m) _ _
  unfold fX11_isDigit at hf
  refine to_iload_n (q := 1) rfl dX11_isDigit_0 rfl ?_
  refine to_bipush (q := 3) bp_48 dX11_isDigit_1 rfl ?_
  by_cases h1 : x0 < (48 : Int32)
  · have hf := ite_pos h1 hf
    refine to_icT (q := 16) (op := .lt) h1 dX11_isDigit_3 rfl ?_
    exact to_ext [] ext_nil (kX11_isDigit_16 hS hf hI)
  · have hf := ite_neg h1 hf
    refine to_icF (q := 6) (op := .lt) 16 h1 dX11_isDigit_3 rfl rfl ?_
    refine to_iload_n (q := 7) rfl dX11_isDigit_6 rfl ?_
    refine to_bipush (q := 9) bp_57 dX11_isDigit_7 rfl ?_
    by_cases h2 : (57 : Int32) < x0
    · have hf := ite_pos h2 hf
      refine to_icT (q := 16) (op := .gt) h2 dX11_isDigit_9 rfl ?_
      exact to_ext [] ext_nil (kX11_isDigit_16 hS hf hI)
    · have hf := ite_neg h2 hf
      refine to_icF (q := 12) (op := .gt) 16 h2 dX11_isDigit_9 rfl rfl ?_
      refine to_iconst (q := 13) ic_1 dX11_isDigit_12 rfl ?_
      refine to_goto (q := 17) dX11_isDigit_13 rfl ?_
      exact to_ext [] ext_nil (kX11_isDigit_17 hS hf hI)
def fX11_next_247 (m : Me) : Option (Me) := some m
set_option maxRecDepth 20000 in
theorem kX11_next_247 {S : Sh} (hS : ShOK S) {res : Me} {m : Me} (hf : fX11_next_247 m = some res) (hI : Inv m) : TT InvS (Call 1) mX11_next (247, [], [], S, m) none (S, res) := by
  unfold fX11_next_247 at hf
  cases hf
  exact to_vret dX11_next_247 rfl rfl rfl hI
def fX11_next_244 (t0 : Int32) (m : Me) : Option (Me) := fX11_next_247 (setI m 138 6 t0)
set_option maxRecDepth 20000 in
theorem kX11_next_244 {S : Sh} (hS : ShOK S) {res : Me} {t0 : Int32} {m : Me} (hf : fX11_next_244 t0 m = some res) (hI : Inv m) : TT InvS (Call 1) mX11_next (244, [], [.int t0, .ref 138], S, m) none (S, res) := by
  unfold fX11_next_244 at hf
  refine to_putI (q := 247) (ty := .int) (k0 := 11) (C := RX11) (T := TX11) (N := 37) (j := 6) rfl fx_X11_99 (h_138 hS) rfl pD_I (Or.inl rfl) (nf_I _) dX11_next_244 rfl ?_
  exact to_ext [] ext_nil (kX11_next_247 hS hf hI)
def fX11_next_239 (x2 : Int32) (m : Me) : Option (Me) := fX11_next_244 x2 m
set_option maxRecDepth 20000 in
theorem kX11_next_239 {S : Sh} (hS : ShOK S) {res : Me} {x2 : Int32} {m : Me} (hf : fX11_next_239 x2 m = some res) (hI : Inv m) : TT InvS (Call 1) mX11_next (239, [(2, .int x2)], [.ref 138], S, m) none (S, res) := by
  unfold fX11_next_239 at hf
  refine to_iload_n (q := 240) rfl dX11_next_239 rfl ?_
  refine to_goto (q := 244) dX11_next_240 rfl ?_
  exact to_ext [] ext_nil (kX11_next_244 hS hf hI)
def fX11_next_213 (t0 : Int32) (m : Me) : Option (Me) := fX11_next_247 (setI m 138 6 t0)
set_option maxRecDepth 20000 in
theorem kX11_next_213 {S : Sh} (hS : ShOK S) {res : Me} {t0 : Int32} {m : Me} (hf : fX11_next_213 t0 m = some res) (hI : Inv m) : TT InvS (Call 1) mX11_next (213, [], [.int t0, .ref 138], S, m) none (S, res) := by
  unfold fX11_next_213 at hf
  refine to_putI (q := 216) (ty := .int) (k0 := 11) (C := RX11) (T := TX11) (N := 37) (j := 6) rfl fx_X11_99 (h_138 hS) rfl pD_I (Or.inl rfl) (nf_I _) dX11_next_213 rfl ?_
  refine to_goto (q := 247) dX11_next_216 rfl ?_
  exact to_ext [] ext_nil (kX11_next_247 hS hf hI)
def fX11_next_188 (k152 : Int32 → Int32 → Me → Option (Me)) (x1 : Int32) (x3 : Int32) (m : Me) : Option (Me) := k152 ((x1 + (1 : Int32))) ((x3 + (1 : Int32))) m
set_option maxRecDepth 20000 in
theorem kX11_next_188 {S : Sh} (hS : ShOK S) {res : Me} {k152 : Int32 → Int32 → Me → Option (Me)} (hk152 : ∀ {x1 : Int32} {x3 : Int32} {m : Me}, k152 x1 x3 m = some res → Inv m → TT InvS (Call 1) mX11_next (152, [(0, .ref 138), (1, .int x1), (3, .int x3)], [], S, m) none (S, res)) {x1 : Int32} {x3 : Int32} {m : Me} (hf : fX11_next_188 k152 x1 x3 m = some res) (hI : Inv m) : TT InvS (Call 1) mX11_next (188, [(0, .ref 138), (1, .int x1), (3, .int x3)], [], S, m) none (S, res) := by
  unfold fX11_next_188 at hf
  refine to_iinc (q := 191) (v := (x3 + (1 : Int32))) rfl (congrArg (fun z => x3 + z) ic_1) [(3, .int (x3 + (1 : Int32))), (0, .ref 138), (1, .int x1)] rfl (by decide) dX11_next_188 rfl ?_
  refine to_iinc (q := 194) (v := (x1 + (1 : Int32))) rfl (congrArg (fun z => x1 + z) ic_1) [(1, .int (x1 + (1 : Int32))), (3, .int (x3 + (1 : Int32))), (0, .ref 138)] rfl (by decide) dX11_next_191 rfl ?_
  refine to_goto (q := 152) dX11_next_194 rfl ?_
  exact to_ext [(0, .ref 138), (1, .int (x1 + (1 : Int32))), (3, .int (x3 + (1 : Int32)))] (ext_cons rfl (ext_cons rfl (ext_cons rfl ext_nil))) (hk152 hf hI)
def fX11_next_152 (n : Nat) (x1 : Int32) (x3 : Int32) (m : Me) : Option (Me) := match n with
  | 0 => none
  | n + 1 => cl2 (fX11_look x1 m) fun r25 m26 => cl2 (fX11_isDigit r25 m26) fun r29 m30 => if r29 = (0 : Int32) then if x3 ≤ (3 : Int32) then fX11_next_213 ((3 : Int32)) (setI m30 138 5 x1) else fX11_next_213 ((1 : Int32)) (setI m30 138 5 x1) else if (3 : Int32) ≤ x3 then fX11_next_188 (fX11_next_152 n) x1 x3 m30 else cl2 (fX11_look x1 m30) fun r36 m37 => fX11_next_188 (fX11_next_152 n) x1 x3 (setI m37 138 7 ((((10 : Int32) * (m30.1 138 7)) + r36) - (48 : Int32)))
set_option maxRecDepth 20000 in
theorem kX11_next_152 {S : Sh} (hS : ShOK S) {res : Me} (n : Nat) : ∀ {x1 : Int32} {x3 : Int32} {m : Me}, fX11_next_152 n x1 x3 m = some res → Inv m → TT InvS (Call 1) mX11_next (152, [(0, .ref 138), (1, .int x1), (3, .int x3)], [], S, m) none (S, res) := by
  induction n with
  | zero => intro x1 x3 m hf; cases hf
  | succ n ih =>
    intro x1 x3 m hf  hI
    unfold fX11_next_152 at hf
    refine to_aload_n (q := 153) rfl (by decide) dX11_next_152 rfl ?_
    refine to_iload_n (q := 154) rfl dX11_next_153 rfl ?_
    obtain ⟨r25, m26, hc23, hf⟩ := cl2_some hf
    have qc24 := kX11_look hS hc23 hI
    refine to_virtI (q := 157) mX11_look [.int x1] dX11_next_154 rfl rfl (Nat.le_of_ble_eq_true rfl) mo_X11_look mv_X11_86 (Or.inl ⟨_, _, _, h_138 hS, rfl, rfl⟩) (Call_mono (by decide) qc24.1) ?_
    have hI := qc24.2
    obtain ⟨r29, m30, hc27, hf⟩ := cl2_some hf
    have qc28 := kX11_isDigit hS hc27 hI
    refine to_statI (q := 160) mX11_isDigit [.int r25] dX11_next_157 rfl rfl (Nat.le_of_ble_eq_true rfl) mo_X11_isDigit (Or.inl ml_X11_106) sa_X11_isDigit (Call_mono (by decide) qc28.1) ?_
    have hI := qc28.2
    by_cases h31 : r29 = (0 : Int32)
    · have hf := ite_pos h31 hf
      refine to_ifT (q := 197) (op := .eq) h31 dX11_next_160 rfl ?_
      refine to_aload_n (q := 198) rfl (by decide) dX11_next_197 rfl ?_
      refine to_iload_n (q := 199) rfl dX11_next_198 rfl ?_
      refine to_putI (q := 202) (ty := .int) (k0 := 11) (C := RX11) (T := TX11) (N := 37) (j := 5) rfl fx_X11_83 (h_138 hS) rfl pD_I (Or.inl rfl) (nf_I _) dX11_next_199 rfl ?_
      refine to_aload_n (q := 203) rfl (by decide) dX11_next_202 rfl ?_
      refine to_iload_n (q := 204) rfl dX11_next_203 rfl ?_
      refine to_iconst (q := 205) ic_3 dX11_next_204 rfl ?_
      by_cases h32 : x3 ≤ (3 : Int32)
      · have hf := ite_pos h32 hf
        refine to_icT (q := 212) (op := .le) h32 dX11_next_205 rfl ?_
        refine to_iconst (q := 213) ic_3 dX11_next_212 rfl ?_
        exact to_ext [] ext_nil (kX11_next_213 hS hf hI)
      · have hf := ite_neg h32 hf
        refine to_icF (q := 208) (op := .le) 212 h32 dX11_next_205 rfl rfl ?_
        refine to_iconst (q := 209) ic_1 dX11_next_208 rfl ?_
        refine to_goto (q := 213) dX11_next_209 rfl ?_
        exact to_ext [] ext_nil (kX11_next_213 hS hf hI)
    · have hf := ite_neg h31 hf
      refine to_ifF (q := 163) (op := .eq) 197 h31 dX11_next_160 rfl rfl ?_
      refine to_iload_n (q := 164) rfl dX11_next_163 rfl ?_
      refine to_iconst (q := 165) ic_3 dX11_next_164 rfl ?_
      by_cases h33 : (3 : Int32) ≤ x3
      · have hf := ite_pos h33 hf
        refine to_icT (q := 188) (op := .ge) h33 dX11_next_165 rfl ?_
        exact to_ext [(0, .ref 138), (1, .int x1), (3, .int x3)] (ext_cons rfl (ext_cons rfl (ext_cons rfl ext_nil))) (kX11_next_188 hS ih hf hI)
      · have hf := ite_neg h33 hf
        refine to_icF (q := 168) (op := .ge) 188 h33 dX11_next_165 rfl rfl ?_
        refine to_aload_n (q := 169) rfl (by decide) dX11_next_168 rfl ?_
        refine to_bipush (q := 171) bp_10 dX11_next_169 rfl ?_
        refine to_aload_n (q := 172) rfl (by decide) dX11_next_171 rfl ?_
        refine to_getI (q := 175) (k0 := 11) (C := RX11) (T := TX11) (N := 37) (j := 7) rfl fx_X11_96 (h_138 hS) rfl dX11_next_172 rfl ?_
        refine to_imul (q := 176) dX11_next_175 rfl ?_
        refine to_aload_n (q := 177) rfl (by decide) dX11_next_176 rfl ?_
        refine to_iload_n (q := 178) rfl dX11_next_177 rfl ?_
        obtain ⟨r36, m37, hc34, hf⟩ := cl2_some hf
        have qc35 := kX11_look hS hc34 hI
        refine to_virtI (q := 181) mX11_look [.int x1] dX11_next_178 rfl rfl (Nat.le_of_ble_eq_true rfl) mo_X11_look mv_X11_86 (Or.inl ⟨_, _, _, h_138 hS, rfl, rfl⟩) (Call_mono (by decide) qc35.1) ?_
        have hI := qc35.2
        refine to_iadd (q := 182) dX11_next_181 rfl ?_
        refine to_bipush (q := 184) bp_48 dX11_next_182 rfl ?_
        refine to_isub (q := 185) dX11_next_184 rfl ?_
        refine to_putI (q := 188) (ty := .int) (k0 := 11) (C := RX11) (T := TX11) (N := 37) (j := 7) rfl fx_X11_96 (h_138 hS) rfl pD_I (Or.inl rfl) (nf_I _) dX11_next_185 rfl ?_
        exact to_ext [(0, .ref 138), (1, .int x1), (3, .int x3)] (ext_cons rfl (ext_cons rfl (ext_cons rfl ext_nil))) (kX11_next_188 hS ih hf hI)
def fX11_next_137 (t0 : Int32) (m : Me) : Option (Me) := fX11_next_247 (setI m 138 6 t0)
set_option maxRecDepth 20000 in
theorem kX11_next_137 {S : Sh} (hS : ShOK S) {res : Me} {t0 : Int32} {m : Me} (hf : fX11_next_137 t0 m = some res) (hI : Inv m) : TT InvS (Call 1) mX11_next (137, [], [.int t0, .ref 138], S, m) none (S, res) := by
  unfold fX11_next_137 at hf
  refine to_putI (q := 140) (ty := .int) (k0 := 11) (C := RX11) (T := TX11) (N := 37) (j := 6) rfl fx_X11_99 (h_138 hS) rfl pD_I (Or.inl rfl) (nf_I _) dX11_next_137 rfl ?_
  refine to_goto (q := 247) dX11_next_140 rfl ?_
  exact to_ext [] ext_nil (kX11_next_247 hS hf hI)
def fX11_next_101 (k67 : Int32 → Me → Option (Me)) (x1 : Int32) (m : Me) : Option (Me) := k67 ((x1 + (1 : Int32))) (setI m 138 8 ((m.1 138 8) + (1 : Int32)))
set_option maxRecDepth 20000 in
theorem kX11_next_101 {S : Sh} (hS : ShOK S) {res : Me} {k67 : Int32 → Me → Option (Me)} (hk67 : ∀ {x1 : Int32} {m : Me}, k67 x1 m = some res → Inv m → TT InvS (Call 1) mX11_next (67, [(0, .ref 138), (1, .int x1)], [], S, m) none (S, res)) {x1 : Int32} {m : Me} (hf : fX11_next_101 k67 x1 m = some res) (hI : Inv m) : TT InvS (Call 1) mX11_next (101, [(0, .ref 138), (1, .int x1)], [], S, m) none (S, res) := by
  unfold fX11_next_101 at hf
  refine to_aload_n (q := 102) rfl (by decide) dX11_next_101 rfl ?_
  refine to_dup (q := 103) rfl dX11_next_102 rfl ?_
  refine to_getI (q := 106) (k0 := 11) (C := RX11) (T := TX11) (N := 37) (j := 8) rfl fx_X11_93 (h_138 hS) rfl dX11_next_103 rfl ?_
  refine to_iconst (q := 107) ic_1 dX11_next_106 rfl ?_
  refine to_iadd (q := 108) dX11_next_107 rfl ?_
  refine to_putI (q := 111) (ty := .int) (k0 := 11) (C := RX11) (T := TX11) (N := 37) (j := 8) rfl fx_X11_93 (h_138 hS) rfl pD_I (Or.inl rfl) (nf_I _) dX11_next_108 rfl ?_
  refine to_iinc (q := 114) (v := (x1 + (1 : Int32))) rfl (congrArg (fun z => x1 + z) ic_1) [(1, .int (x1 + (1 : Int32))), (0, .ref 138)] rfl (by decide) dX11_next_111 rfl ?_
  refine to_goto (q := 67) dX11_next_114 rfl ?_
  exact to_ext [(0, .ref 138), (1, .int (x1 + (1 : Int32)))] (ext_cons rfl (ext_cons rfl ext_nil)) (hk67 hf hI)
def fX11_next_67 (n : Nat) (x1 : Int32) (m : Me) : Option (Me) := match n with
  | 0 => none
  | n + 1 => cl2 (fX11_look x1 m) fun r40 m41 => cl2 (fX11_isSmall r40 m41) fun r44 m45 => if r44 = (0 : Int32) then if ((setI m45 138 5 x1).1 138 8) ≤ (8 : Int32) then fX11_next_137 ((2 : Int32)) (setI m45 138 5 x1) else fX11_next_137 ((1 : Int32)) (setI m45 138 5 x1) else if (8 : Int32) ≤ (m45.1 138 8) then fX11_next_101 (fX11_next_67 n) x1 m45 else cl2 (fX11_look x1 m45) fun r51 m52 => ck (inb (m45.1 138 8) 8) (fX11_next_101 (fX11_next_67 n) x1 (setI m52 140 (m45.1 138 8).toNatClampNeg r51))
set_option maxRecDepth 20000 in
theorem kX11_next_67 {S : Sh} (hS : ShOK S) {res : Me} (n : Nat) : ∀ {x1 : Int32} {m : Me}, fX11_next_67 n x1 m = some res → Inv m → TT InvS (Call 1) mX11_next (67, [(0, .ref 138), (1, .int x1)], [], S, m) none (S, res) := by
  induction n with
  | zero => intro x1 m hf; cases hf
  | succ n ih =>
    intro x1 m hf  hI
    unfold fX11_next_67 at hf
    refine to_aload_n (q := 68) rfl (by decide) dX11_next_67 rfl ?_
    refine to_iload_n (q := 69) rfl dX11_next_68 rfl ?_
    obtain ⟨r40, m41, hc38, hf⟩ := cl2_some hf
    have qc39 := kX11_look hS hc38 hI
    refine to_virtI (q := 72) mX11_look [.int x1] dX11_next_69 rfl rfl (Nat.le_of_ble_eq_true rfl) mo_X11_look mv_X11_86 (Or.inl ⟨_, _, _, h_138 hS, rfl, rfl⟩) (Call_mono (by decide) qc39.1) ?_
    have hI := qc39.2
    obtain ⟨r44, m45, hc42, hf⟩ := cl2_some hf
    have qc43 := kX11_isSmall hS hc42 hI
    refine to_statI (q := 75) mX11_isSmall [.int r40] dX11_next_72 rfl rfl (Nat.le_of_ble_eq_true rfl) mo_X11_isSmall (Or.inl ml_X11_102) sa_X11_isSmall (Call_mono (by decide) qc43.1) ?_
    have hI := qc43.2
    by_cases h46 : r44 = (0 : Int32)
    · have hf := ite_pos h46 hf
      refine to_ifT (q := 117) (op := .eq) h46 dX11_next_75 rfl ?_
      refine to_aload_n (q := 118) rfl (by decide) dX11_next_117 rfl ?_
      refine to_iload_n (q := 119) rfl dX11_next_118 rfl ?_
      refine to_putI (q := 122) (ty := .int) (k0 := 11) (C := RX11) (T := TX11) (N := 37) (j := 5) rfl fx_X11_83 (h_138 hS) rfl pD_I (Or.inl rfl) (nf_I _) dX11_next_119 rfl ?_
      refine to_aload_n (q := 123) rfl (by decide) dX11_next_122 rfl ?_
      refine to_aload_n (q := 124) rfl (by decide) dX11_next_123 rfl ?_
      refine to_getI (q := 127) (k0 := 11) (C := RX11) (T := TX11) (N := 37) (j := 8) rfl fx_X11_93 (h_138 hS) rfl dX11_next_124 rfl ?_
      refine to_bipush (q := 129) bp_8 dX11_next_127 rfl ?_
      by_cases h47 : ((setI m45 138 5 x1).1 138 8) ≤ (8 : Int32)
      · have hf := ite_pos h47 hf
        refine to_icT (q := 136) (op := .le) h47 dX11_next_129 rfl ?_
        refine to_iconst (q := 137) ic_2 dX11_next_136 rfl ?_
        exact to_ext [] ext_nil (kX11_next_137 hS hf hI)
      · have hf := ite_neg h47 hf
        refine to_icF (q := 132) (op := .le) 136 h47 dX11_next_129 rfl rfl ?_
        refine to_iconst (q := 133) ic_1 dX11_next_132 rfl ?_
        refine to_goto (q := 137) dX11_next_133 rfl ?_
        exact to_ext [] ext_nil (kX11_next_137 hS hf hI)
    · have hf := ite_neg h46 hf
      refine to_ifF (q := 78) (op := .eq) 117 h46 dX11_next_75 rfl rfl ?_
      refine to_aload_n (q := 79) rfl (by decide) dX11_next_78 rfl ?_
      refine to_getI (q := 82) (k0 := 11) (C := RX11) (T := TX11) (N := 37) (j := 8) rfl fx_X11_93 (h_138 hS) rfl dX11_next_79 rfl ?_
      refine to_bipush (q := 84) bp_8 dX11_next_82 rfl ?_
      by_cases h48 : (8 : Int32) ≤ (m45.1 138 8)
      · have hf := ite_pos h48 hf
        refine to_icT (q := 101) (op := .ge) h48 dX11_next_84 rfl ?_
        exact to_ext [(0, .ref 138), (1, .int x1)] (ext_cons rfl (ext_cons rfl ext_nil)) (kX11_next_101 hS ih hf hI)
      · have hf := ite_neg h48 hf
        refine to_icF (q := 87) (op := .ge) 101 h48 dX11_next_84 rfl rfl ?_
        refine to_aload_n (q := 88) rfl (by decide) dX11_next_87 rfl ?_
        refine to_getR (q := 91) (b := 140) (k0 := 11) (C := RX11) (T := TX11) (N := 37) (j := 12) rfl fx_X11_17 (h_138 hS) rfl (iv_138_12 hI) dX11_next_88 rfl ?_
        refine to_aload_n (q := 92) rfl (by decide) dX11_next_91 rfl ?_
        refine to_getI (q := 95) (k0 := 11) (C := RX11) (T := TX11) (N := 37) (j := 8) rfl fx_X11_93 (h_138 hS) rfl dX11_next_92 rfl ?_
        refine to_aload_n (q := 96) rfl (by decide) dX11_next_95 rfl ?_
        refine to_iload_n (q := 97) rfl dX11_next_96 rfl ?_
        obtain ⟨r51, m52, hc49, hf⟩ := cl2_some hf
        have qc50 := kX11_look hS hc49 hI
        refine to_virtI (q := 100) mX11_look [.int x1] dX11_next_97 rfl rfl (Nat.le_of_ble_eq_true rfl) mo_X11_look mv_X11_86 (Or.inl ⟨_, _, _, h_138 hS, rfl, rfl⟩) (Call_mono (by decide) qc50.1) ?_
        have hI := qc50.2
        obtain ⟨hb53, hf⟩ := ck_some hf
        refine to_iasj (q := 101) (h_140 hS) hb53 (rfl) dX11_next_100 rfl ?_
        exact to_ext [(0, .ref 138), (1, .int x1)] (ext_cons rfl (ext_cons rfl ext_nil)) (kX11_next_101 hS ih hf hI)
def fX11_next_5 (n : Nat) (x1 : Int32) (m : Me) : Option (Me) := match n with
  | 0 => none
  | n + 1 => cl2 (fX11_look x1 m) fun r3 m4 => if r3 = (32 : Int32) then fX11_next_5 n ((x1 + (1 : Int32))) m4 else cl2 (fX11_look x1 (setI m4 138 4 x1)) fun r8 m9 => if r8 = (-1 : Int32) then fX11_next_247 (setI (setI (setI (setI m9 138 8 (0 : Int32)) 138 7 (0 : Int32)) 138 6 (0 : Int32)) 138 5 x1) else cl2 (fX11_isSmall r8 (setI (setI m9 138 8 (0 : Int32)) 138 7 (0 : Int32))) fun r13 m14 => if r13 = (0 : Int32) then cl2 (fX11_isDigit r8 m14) fun r18 m19 => if r18 = (0 : Int32) then if r8 = (59 : Int32) then fX11_next_239 r8 (setI m19 138 5 (x1 + (1 : Int32))) else if r8 = (44 : Int32) then fX11_next_239 r8 (setI m19 138 5 (x1 + (1 : Int32))) else fX11_next_244 ((1 : Int32)) (setI m19 138 5 (x1 + (1 : Int32))) else fX11_next_152 FU x1 ((0 : Int32)) m19 else fX11_next_67 FU x1 m14
set_option maxRecDepth 20000 in
theorem kX11_next_5 {S : Sh} (hS : ShOK S) {res : Me} (n : Nat) : ∀ {x1 : Int32} {m : Me}, fX11_next_5 n x1 m = some res → Inv m → TT InvS (Call 1) mX11_next (5, [(0, .ref 138), (1, .int x1)], [], S, m) none (S, res) := by
  induction n with
  | zero => intro x1 m hf; cases hf
  | succ n ih =>
    intro x1 m hf  hI
    unfold fX11_next_5 at hf
    refine to_aload_n (q := 6) rfl (by decide) dX11_next_5 rfl ?_
    refine to_iload_n (q := 7) rfl dX11_next_6 rfl ?_
    obtain ⟨r3, m4, hc1, hf⟩ := cl2_some hf
    have qc2 := kX11_look hS hc1 hI
    refine to_virtI (q := 10) mX11_look [.int x1] dX11_next_7 rfl rfl (Nat.le_of_ble_eq_true rfl) mo_X11_look mv_X11_86 (Or.inl ⟨_, _, _, h_138 hS, rfl, rfl⟩) (Call_mono (by decide) qc2.1) ?_
    have hI := qc2.2
    refine to_bipush (q := 12) bp_32 dX11_next_10 rfl ?_
    by_cases h5 : r3 = (32 : Int32)
    · have hf := ite_pos h5 hf
      refine to_icF (q := 15) (op := .ne) 21 (fun z => z h5) dX11_next_12 rfl rfl ?_
      refine to_iinc (q := 18) (v := (x1 + (1 : Int32))) rfl (congrArg (fun z => x1 + z) ic_1) [(1, .int (x1 + (1 : Int32))), (0, .ref 138)] rfl (by decide) dX11_next_15 rfl ?_
      refine to_goto (q := 5) dX11_next_18 rfl ?_
      exact to_ext [(0, .ref 138), (1, .int (x1 + (1 : Int32)))] (ext_cons rfl (ext_cons rfl ext_nil)) (ih hf hI)
    · have hf := ite_neg h5 hf
      refine to_icT (q := 21) (op := .ne) h5 dX11_next_12 rfl ?_
      refine to_aload_n (q := 22) rfl (by decide) dX11_next_21 rfl ?_
      refine to_iload_n (q := 23) rfl dX11_next_22 rfl ?_
      refine to_putI (q := 26) (ty := .int) (k0 := 11) (C := RX11) (T := TX11) (N := 37) (j := 4) rfl fx_X11_90 (h_138 hS) rfl pD_I (Or.inl rfl) (nf_I _) dX11_next_23 rfl ?_
      refine to_aload_n (q := 27) rfl (by decide) dX11_next_26 rfl ?_
      refine to_iload_n (q := 28) rfl dX11_next_27 rfl ?_
      obtain ⟨r8, m9, hc6, hf⟩ := cl2_some hf
      have qc7 := kX11_look hS hc6 hI
      refine to_virtI (q := 31) mX11_look [.int x1] dX11_next_28 rfl rfl (Nat.le_of_ble_eq_true rfl) mo_X11_look mv_X11_86 (Or.inl ⟨_, _, _, h_138 hS, rfl, rfl⟩) (Call_mono (by decide) qc7.1) ?_
      have hI := qc7.2
      refine to_istore_n (q := 32) [(2, .int r8), (0, .ref 138), (1, .int x1)] rfl (by decide) dX11_next_31 rfl ?_
      refine to_aload_n (q := 33) rfl (by decide) dX11_next_32 rfl ?_
      refine to_iconst (q := 34) ic_0 dX11_next_33 rfl ?_
      refine to_putI (q := 37) (ty := .int) (k0 := 11) (C := RX11) (T := TX11) (N := 37) (j := 8) rfl fx_X11_93 (h_138 hS) rfl pD_I (Or.inl rfl) (nf_I _) dX11_next_34 rfl ?_
      refine to_aload_n (q := 38) rfl (by decide) dX11_next_37 rfl ?_
      refine to_iconst (q := 39) ic_0 dX11_next_38 rfl ?_
      refine to_putI (q := 42) (ty := .int) (k0 := 11) (C := RX11) (T := TX11) (N := 37) (j := 7) rfl fx_X11_96 (h_138 hS) rfl pD_I (Or.inl rfl) (nf_I _) dX11_next_39 rfl ?_
      refine to_iload_n (q := 43) rfl dX11_next_42 rfl ?_
      refine to_iconst (q := 44) ic_m1 dX11_next_43 rfl ?_
      by_cases h10 : r8 = (-1 : Int32)
      · have hf := ite_pos h10 hf
        refine to_icF (q := 47) (op := .ne) 60 (fun z => z h10) dX11_next_44 rfl rfl ?_
        refine to_aload_n (q := 48) rfl (by decide) dX11_next_47 rfl ?_
        refine to_iconst (q := 49) ic_0 dX11_next_48 rfl ?_
        refine to_putI (q := 52) (ty := .int) (k0 := 11) (C := RX11) (T := TX11) (N := 37) (j := 6) rfl fx_X11_99 (h_138 hS) rfl pD_I (Or.inl rfl) (nf_I _) dX11_next_49 rfl ?_
        refine to_aload_n (q := 53) rfl (by decide) dX11_next_52 rfl ?_
        refine to_iload_n (q := 54) rfl dX11_next_53 rfl ?_
        refine to_putI (q := 57) (ty := .int) (k0 := 11) (C := RX11) (T := TX11) (N := 37) (j := 5) rfl fx_X11_83 (h_138 hS) rfl pD_I (Or.inl rfl) (nf_I _) dX11_next_54 rfl ?_
        refine to_goto (q := 247) dX11_next_57 rfl ?_
        exact to_ext [] ext_nil (kX11_next_247 hS hf hI)
      · have hf := ite_neg h10 hf
        refine to_icT (q := 60) (op := .ne) h10 dX11_next_44 rfl ?_
        refine to_iload_n (q := 61) rfl dX11_next_60 rfl ?_
        obtain ⟨r13, m14, hc11, hf⟩ := cl2_some hf
        have qc12 := kX11_isSmall hS hc11 hI
        refine to_statI (q := 64) mX11_isSmall [.int r8] dX11_next_61 rfl rfl (Nat.le_of_ble_eq_true rfl) mo_X11_isSmall (Or.inl ml_X11_102) sa_X11_isSmall (Call_mono (by decide) qc12.1) ?_
        have hI := qc12.2
        by_cases h15 : r13 = (0 : Int32)
        · have hf := ite_pos h15 hf
          refine to_ifT (q := 143) (op := .eq) h15 dX11_next_64 rfl ?_
          refine to_iload_n (q := 144) rfl dX11_next_143 rfl ?_
          obtain ⟨r18, m19, hc16, hf⟩ := cl2_some hf
          have qc17 := kX11_isDigit hS hc16 hI
          refine to_statI (q := 147) mX11_isDigit [.int r8] dX11_next_144 rfl rfl (Nat.le_of_ble_eq_true rfl) mo_X11_isDigit (Or.inl ml_X11_106) sa_X11_isDigit (Call_mono (by decide) qc17.1) ?_
          have hI := qc17.2
          by_cases h20 : r18 = (0 : Int32)
          · have hf := ite_pos h20 hf
            refine to_ifT (q := 219) (op := .eq) h20 dX11_next_147 rfl ?_
            refine to_aload_n (q := 220) rfl (by decide) dX11_next_219 rfl ?_
            refine to_iload_n (q := 221) rfl dX11_next_220 rfl ?_
            refine to_iconst (q := 222) ic_1 dX11_next_221 rfl ?_
            refine to_iadd (q := 223) dX11_next_222 rfl ?_
            refine to_putI (q := 226) (ty := .int) (k0 := 11) (C := RX11) (T := TX11) (N := 37) (j := 5) rfl fx_X11_83 (h_138 hS) rfl pD_I (Or.inl rfl) (nf_I _) dX11_next_223 rfl ?_
            refine to_aload_n (q := 227) rfl (by decide) dX11_next_226 rfl ?_
            refine to_iload_n (q := 228) rfl dX11_next_227 rfl ?_
            refine to_bipush (q := 230) bp_59 dX11_next_228 rfl ?_
            by_cases h21 : r8 = (59 : Int32)
            · have hf := ite_pos h21 hf
              refine to_icT (q := 239) (op := .eq) h21 dX11_next_230 rfl ?_
              exact to_ext [(2, .int r8)] (ext_cons rfl ext_nil) (kX11_next_239 hS hf hI)
            · have hf := ite_neg h21 hf
              refine to_icF (q := 233) (op := .eq) 239 h21 dX11_next_230 rfl rfl ?_
              refine to_iload_n (q := 234) rfl dX11_next_233 rfl ?_
              refine to_bipush (q := 236) bp_44 dX11_next_234 rfl ?_
              by_cases h22 : r8 = (44 : Int32)
              · have hf := ite_pos h22 hf
                refine to_icF (q := 239) (op := .ne) 243 (fun z => z h22) dX11_next_236 rfl rfl ?_
                exact to_ext [(2, .int r8)] (ext_cons rfl ext_nil) (kX11_next_239 hS hf hI)
              · have hf := ite_neg h22 hf
                refine to_icT (q := 243) (op := .ne) h22 dX11_next_236 rfl ?_
                refine to_iconst (q := 244) ic_1 dX11_next_243 rfl ?_
                exact to_ext [] ext_nil (kX11_next_244 hS hf hI)
          · have hf := ite_neg h20 hf
            refine to_ifF (q := 150) (op := .eq) 219 h20 dX11_next_147 rfl rfl ?_
            refine to_iconst (q := 151) ic_0 dX11_next_150 rfl ?_
            refine to_istore_n (q := 152) [(3, .int (0 : Int32)), (2, .int r8), (0, .ref 138), (1, .int x1)] rfl (by decide) dX11_next_151 rfl ?_
            exact to_ext [(0, .ref 138), (1, .int x1), (3, .int (0 : Int32))] (ext_cons rfl (ext_cons rfl (ext_cons rfl ext_nil))) (kX11_next_152 hS FU hf hI)
        · have hf := ite_neg h15 hf
          refine to_ifF (q := 67) (op := .eq) 143 h15 dX11_next_64 rfl rfl ?_
          exact to_ext [(0, .ref 138), (1, .int x1)] (ext_cons rfl (ext_cons rfl ext_nil)) (kX11_next_67 hS FU hf hI)
def fX11_next (m : Me) : Option (Me) := fX11_next_5 FU ((m.1 138 5)) m
set_option maxRecDepth 20000 in
theorem kX11_next {S : Sh} (hS : ShOK S) {res : Me} {m : Me} (hf : fX11_next m = some res) (hI : Inv m) : Call 2 mX11_next [.ref 138] (S, m) none (S, res) ∧ Inv res := by
  refine call_of (P := InvS) (Nat.le_of_ble_eq_true rfl) (by simp [Value.category]) ?_
  show TT InvS (Call 1) mX11_next (0, [(0, .ref 138)], [], S, m) _ _
  unfold fX11_next at hf
  refine to_aload_n (q := 1) rfl (by decide) dX11_next_0 rfl ?_
  refine to_getI (q := 4) (k0 := 11) (C := RX11) (T := TX11) (N := 37) (j := 5) rfl fx_X11_83 (h_138 hS) rfl dX11_next_1 rfl ?_
  refine to_istore_n (q := 5) [(1, .int (m.1 138 5)), (0, .ref 138)] rfl (by decide) dX11_next_4 rfl ?_
  exact to_ext [(0, .ref 138), (1, .int (m.1 138 5))] (ext_cons rfl (ext_cons rfl ext_nil)) (kX11_next_5 hS FU hf hI)
def fX11_wrong (x1 : Int32) (x2 : Int32) (m : Me) : Option (Me) := if (m.1 138 13) = (0 : Int32) then some (setI (setI (setI m 138 13 (1 : Int32)) 138 9 x1) 138 10 x2) else some m
set_option maxRecDepth 20000 in
theorem kX11_wrong {S : Sh} (hS : ShOK S) {res : Me} {x1 : Int32} {x2 : Int32} {m : Me} (hf : fX11_wrong x1 x2 m = some res) (hI : Inv m) : Call 1 mX11_wrong [.ref 138, .int x1, .int x2] (S, m) none (S, res) ∧ Inv res := by
  refine call_of (P := InvS) (Nat.le_of_ble_eq_true rfl) (by simp [Value.category]) ?_
  show TT InvS (Call 0) mX11_wrong (0, [(0, .ref 138), (1, .int x1), (2, .int x2)], [], S, m) _ _
  unfold fX11_wrong at hf
  refine to_aload_n (q := 1) rfl (by decide) dX11_wrong_0 rfl ?_
  refine to_getI (q := 4) (k0 := 11) (C := RX11) (T := TX11) (N := 37) (j := 13) rfl fx_X11_109 (h_138 hS) rfl dX11_wrong_1 rfl ?_
  by_cases h1 : (m.1 138 13) = (0 : Int32)
  · have hf := ite_pos h1 hf
    refine to_ifT (q := 8) (op := .eq) h1 dX11_wrong_4 rfl ?_
    refine to_aload_n (q := 9) rfl (by decide) dX11_wrong_8 rfl ?_
    refine to_iconst (q := 10) ic_1 dX11_wrong_9 rfl ?_
    refine to_putI (q := 13) (ty := .boolean) (k0 := 11) (C := RX11) (T := TX11) (N := 37) (j := 13) rfl fx_X11_109 (h_138 hS) rfl pD_Z (Or.inl rfl) (nf_Z (by decide)) dX11_wrong_10 rfl ?_
    refine to_aload_n (q := 14) rfl (by decide) dX11_wrong_13 rfl ?_
    refine to_iload_n (q := 15) rfl dX11_wrong_14 rfl ?_
    refine to_putI (q := 18) (ty := .int) (k0 := 11) (C := RX11) (T := TX11) (N := 37) (j := 9) rfl fx_X11_113 (h_138 hS) rfl pD_I (Or.inl rfl) (nf_I _) dX11_wrong_15 rfl ?_
    refine to_aload_n (q := 19) rfl (by decide) dX11_wrong_18 rfl ?_
    refine to_iload_n (q := 20) rfl dX11_wrong_19 rfl ?_
    refine to_putI (q := 23) (ty := .int) (k0 := 11) (C := RX11) (T := TX11) (N := 37) (j := 10) rfl fx_X11_13 (h_138 hS) rfl pD_I (Or.inl rfl) (nf_I _) dX11_wrong_20 rfl ?_
    cases hf
    exact to_vret dX11_wrong_23 rfl rfl rfl hI
  · have hf := ite_neg h1 hf
    refine to_ifF (q := 7) (op := .eq) 8 h1 dX11_wrong_4 rfl rfl ?_
    cases hf
    exact to_vret dX11_wrong_7 rfl rfl rfl hI
def fX11_isWord_63 (k32 : Nat → Int32 → Int32 → Me → Option (Int32 × Me)) (s1 : Nat) (x3 : Int32) (t0 : Int32) (m : Me) : Option (Int32 × Me) := k32 s1 t0 ((x3 + (1 : Int32))) m
set_option maxRecDepth 20000 in
theorem kX11_isWord_63 {S : Sh} (hS : ShOK S) {res : Int32 × Me} {k32 : Nat → Int32 → Int32 → Me → Option (Int32 × Me)} (hk32 : ∀ {s1 : Nat} {x2 : Int32} {x3 : Int32} {m : Me}, k32 s1 x2 x3 m = some res → s1 < 32 → Inv m → TT InvS (Call 6) mX11_isWord (32, [(0, .ref 138), (1, .ref (1000000 + s1)), (2, .int x2), (3, .int x3)], [], S, m) (some (.int res.1)) (S, res.2)) {s1 : Nat} {x3 : Int32} {t0 : Int32} {m : Me} (hf : fX11_isWord_63 k32 s1 x3 t0 m = some res) (hs1 : s1 < 32) (hI : Inv m) : TT InvS (Call 6) mX11_isWord (63, [(0, .ref 138), (1, .ref (1000000 + s1)), (3, .int x3)], [.int t0], S, m) (some (.int res.1)) (S, res.2) := by
  unfold fX11_isWord_63 at hf
  refine to_istore_n (q := 64) [(2, .int t0), (0, .ref 138), (1, .ref (1000000 + s1)), (3, .int x3)] rfl (by decide) dX11_isWord_63 rfl ?_
  refine to_iinc (q := 67) (v := (x3 + (1 : Int32))) rfl (congrArg (fun z => x3 + z) ic_1) [(3, .int (x3 + (1 : Int32))), (2, .int t0), (0, .ref 138), (1, .ref (1000000 + s1))] rfl (by decide) dX11_isWord_64 rfl ?_
  refine to_goto (q := 32) dX11_isWord_67 rfl ?_
  exact to_ext [(0, .ref 138), (1, .ref (1000000 + s1)), (2, .int t0), (3, .int (x3 + (1 : Int32)))] (ext_cons rfl (ext_cons rfl (ext_cons rfl (ext_cons rfl ext_nil)))) (hk32 hf (hs1) hI)
def fX11_isWord_62 (k32 : Nat → Int32 → Int32 → Me → Option (Int32 × Me)) (s1 : Nat) (x3 : Int32) (m : Me) : Option (Int32 × Me) := fX11_isWord_63 k32 s1 x3 ((0 : Int32)) m
set_option maxRecDepth 20000 in
theorem kX11_isWord_62 {S : Sh} (hS : ShOK S) {res : Int32 × Me} {k32 : Nat → Int32 → Int32 → Me → Option (Int32 × Me)} (hk32 : ∀ {s1 : Nat} {x2 : Int32} {x3 : Int32} {m : Me}, k32 s1 x2 x3 m = some res → s1 < 32 → Inv m → TT InvS (Call 6) mX11_isWord (32, [(0, .ref 138), (1, .ref (1000000 + s1)), (2, .int x2), (3, .int x3)], [], S, m) (some (.int res.1)) (S, res.2)) {s1 : Nat} {x3 : Int32} {m : Me} (hf : fX11_isWord_62 k32 s1 x3 m = some res) (hs1 : s1 < 32) (hI : Inv m) : TT InvS (Call 6) mX11_isWord (62, [(0, .ref 138), (1, .ref (1000000 + s1)), (3, .int x3)], [], S, m) (some (.int res.1)) (S, res.2) := by
  unfold fX11_isWord_62 at hf
  refine to_iconst (q := 63) ic_0 dX11_isWord_62 rfl ?_
  exact to_ext [(0, .ref 138), (1, .ref (1000000 + s1)), (3, .int x3)] (ext_cons rfl (ext_cons rfl (ext_cons rfl ext_nil))) (kX11_isWord_63 hS hk32 hf (hs1) hI)
def fX11_isWord_32 (n : Nat) (s1 : Nat) (x2 : Int32) (x3 : Int32) (m : Me) : Option (Int32 × Me) := match n with
  | 0 => none
  | n + 1 => if (m.1 138 8) ≤ x3 then ck (x2 = 0 ∨ x2 = 1) (some (x2, m)) else if x2 = (0 : Int32) then fX11_isWord_62 (fX11_isWord_32 n) s1 x3 m else ck (inb x3 8) (cl2 (fJ0_charAt_5068e s1 x3 m) fun r14 m15 => if (m.1 140 x3.toNatClampNeg) = r14 then fX11_isWord_63 (fX11_isWord_32 n) s1 x3 ((1 : Int32)) m15 else fX11_isWord_62 (fX11_isWord_32 n) s1 x3 m15)
set_option maxRecDepth 20000 in
theorem kX11_isWord_32 {S : Sh} (hS : ShOK S) {res : Int32 × Me} (n : Nat) : ∀ {s1 : Nat} {x2 : Int32} {x3 : Int32} {m : Me}, fX11_isWord_32 n s1 x2 x3 m = some res → s1 < 32 → Inv m → TT InvS (Call 6) mX11_isWord (32, [(0, .ref 138), (1, .ref (1000000 + s1)), (2, .int x2), (3, .int x3)], [], S, m) (some (.int res.1)) (S, res.2) := by
  induction n with
  | zero => intro s1 x2 x3 m hf; cases hf
  | succ n ih =>
    intro s1 x2 x3 m hf hs1 hI
    unfold fX11_isWord_32 at hf
    refine to_iload_n (q := 33) rfl dX11_isWord_32 rfl ?_
    refine to_aload_n (q := 34) rfl (by decide) dX11_isWord_33 rfl ?_
    refine to_getI (q := 37) (k0 := 11) (C := RX11) (T := TX11) (N := 37) (j := 8) rfl fx_X11_93 (h_138 hS) rfl dX11_isWord_34 rfl ?_
    by_cases h8 : (m.1 138 8) ≤ x3
    · have hf := ite_pos h8 hf
      refine to_icT (q := 70) (op := .ge) h8 dX11_isWord_37 rfl ?_
      refine to_iload_n (q := 71) rfl dX11_isWord_70 rfl ?_
      obtain ⟨hz9, hf⟩ := ck_some hf
      cases hf
      exact to_iret dX11_isWord_71 rfl (nf_Z hz9).1 rfl rfl hI
    · have hf := ite_neg h8 hf
      refine to_icF (q := 40) (op := .ge) 70 h8 dX11_isWord_37 rfl rfl ?_
      refine to_iload_n (q := 41) rfl dX11_isWord_40 rfl ?_
      by_cases h10 : x2 = (0 : Int32)
      · have hf := ite_pos h10 hf
        refine to_ifT (q := 62) (op := .eq) h10 dX11_isWord_41 rfl ?_
        exact to_ext [(0, .ref 138), (1, .ref (1000000 + s1)), (3, .int x3)] (ext_cons rfl (ext_cons rfl (ext_cons rfl ext_nil))) (kX11_isWord_62 hS ih hf (hs1) hI)
      · have hf := ite_neg h10 hf
        refine to_ifF (q := 44) (op := .eq) 62 h10 dX11_isWord_41 rfl rfl ?_
        refine to_aload_n (q := 45) rfl (by decide) dX11_isWord_44 rfl ?_
        refine to_getR (q := 48) (b := 140) (k0 := 11) (C := RX11) (T := TX11) (N := 37) (j := 12) rfl fx_X11_17 (h_138 hS) rfl (iv_138_12 hI) dX11_isWord_45 rfl ?_
        refine to_iload_n (q := 49) rfl dX11_isWord_48 rfl ?_
        obtain ⟨hb11, hf⟩ := ck_some hf
        refine to_iaj (q := 50) (h_140 hS) hb11 (rfl) dX11_isWord_49 rfl ?_
        refine to_aload_n (q := 51) rfl (str_4 hs1) dX11_isWord_50 rfl ?_
        refine to_iload_n (q := 52) rfl dX11_isWord_51 rfl ?_
        obtain ⟨r14, m15, hc12, hf⟩ := cl2_some hf
        have qc13 := kJ0_charAt_5068e hS hc12 (hs1) hI
        refine to_virtI (q := 55) mJ0_charAt_5068e [.int x3] dX11_isWord_52 rfl rfl (Nat.le_of_ble_eq_true rfl) mo_J0_charAt_5068e mv_X11_122 (Or.inr ⟨_, rfl, hs1, rfl⟩) (Call_mono (by decide) qc13.1) ?_
        have hI := qc13.2
        by_cases h16 : (m.1 140 x3.toNatClampNeg) = r14
        · have hf := ite_pos h16 hf
          refine to_icF (q := 58) (op := .ne) 62 (fun z => z h16) dX11_isWord_55 rfl rfl ?_
          refine to_iconst (q := 59) ic_1 dX11_isWord_58 rfl ?_
          refine to_goto (q := 63) dX11_isWord_59 rfl ?_
          exact to_ext [(0, .ref 138), (1, .ref (1000000 + s1)), (3, .int x3)] (ext_cons rfl (ext_cons rfl (ext_cons rfl ext_nil))) (kX11_isWord_63 hS ih hf (hs1) hI)
        · have hf := ite_neg h16 hf
          refine to_icT (q := 62) (op := .ne) h16 dX11_isWord_55 rfl ?_
          exact to_ext [(0, .ref 138), (1, .ref (1000000 + s1)), (3, .int x3)] (ext_cons rfl (ext_cons rfl (ext_cons rfl ext_nil))) (kX11_isWord_62 hS ih hf (hs1) hI)
def fX11_isWord_26 (m : Me) : Option (Int32 × Me) := some ((0 : Int32), m)
set_option maxRecDepth 20000 in
theorem kX11_isWord_26 {S : Sh} (hS : ShOK S) {res : Int32 × Me} {m : Me} (hf : fX11_isWord_26 m = some res) (hI : Inv m) : TT InvS (Call 6) mX11_isWord (26, [], [], S, m) (some (.int res.1)) (S, res.2) := by
  unfold fX11_isWord_26 at hf
  refine to_iconst (q := 27) ic_0 dX11_isWord_26 rfl ?_
  cases hf
  exact to_iret dX11_isWord_27 rfl (by decide) rfl rfl hI
def fX11_isWord (s1 : Nat) (m : Me) : Option (Int32 × Me) := if (m.1 138 13) = (0 : Int32) then if (m.1 138 6) = (2 : Int32) then cl2 (fJ0_length_8abf5 s1 m) fun r5 m6 => if (m.1 138 8) = r5 then fX11_isWord_32 FU s1 ((1 : Int32)) ((0 : Int32)) m6 else fX11_isWord_26 m6 else fX11_isWord_26 m else fX11_isWord_26 m
set_option maxRecDepth 20000 in
theorem kX11_isWord {S : Sh} (hS : ShOK S) {res : Int32 × Me} {s1 : Nat} {m : Me} (hf : fX11_isWord s1 m = some res) (hs1 : s1 < 32) (hI : Inv m) : Call 7 mX11_isWord [.ref 138, .ref (1000000 + s1)] (S, m) (some (.int res.1)) (S, res.2) ∧ Inv res.2 := by
  refine call_of (P := InvS) (Nat.le_of_ble_eq_true rfl) (by simp [Value.category]) ?_
  show TT InvS (Call 6) mX11_isWord (0, [(0, .ref 138), (1, .ref (1000000 + s1))], [], S, m) _ _
  unfold fX11_isWord at hf
  refine to_aload_n (q := 1) rfl (by decide) dX11_isWord_0 rfl ?_
  refine to_getI (q := 4) (k0 := 11) (C := RX11) (T := TX11) (N := 37) (j := 13) rfl fx_X11_109 (h_138 hS) rfl dX11_isWord_1 rfl ?_
  by_cases h1 : (m.1 138 13) = (0 : Int32)
  · have hf := ite_pos h1 hf
    refine to_ifF (q := 7) (op := .ne) 26 (fun z => z h1) dX11_isWord_4 rfl rfl ?_
    refine to_aload_n (q := 8) rfl (by decide) dX11_isWord_7 rfl ?_
    refine to_getI (q := 11) (k0 := 11) (C := RX11) (T := TX11) (N := 37) (j := 6) rfl fx_X11_99 (h_138 hS) rfl dX11_isWord_8 rfl ?_
    refine to_iconst (q := 12) ic_2 dX11_isWord_11 rfl ?_
    by_cases h2 : (m.1 138 6) = (2 : Int32)
    · have hf := ite_pos h2 hf
      refine to_icF (q := 15) (op := .ne) 26 (fun z => z h2) dX11_isWord_12 rfl rfl ?_
      refine to_aload_n (q := 16) rfl (by decide) dX11_isWord_15 rfl ?_
      refine to_getI (q := 19) (k0 := 11) (C := RX11) (T := TX11) (N := 37) (j := 8) rfl fx_X11_93 (h_138 hS) rfl dX11_isWord_16 rfl ?_
      refine to_aload_n (q := 20) rfl (str_4 hs1) dX11_isWord_19 rfl ?_
      obtain ⟨r5, m6, hc3, hf⟩ := cl2_some hf
      have qc4 := kJ0_length_8abf5 hS hc3 (hs1) hI
      refine to_virtI (q := 23) mJ0_length_8abf5 [] dX11_isWord_20 rfl rfl (Nat.le_of_ble_eq_true rfl) mo_J0_length_8abf5 mv_X11_116 (Or.inr ⟨_, rfl, hs1, rfl⟩) (Call_mono (by decide) qc4.1) ?_
      have hI := qc4.2
      by_cases h7 : (m.1 138 8) = r5
      · have hf := ite_pos h7 hf
        refine to_icT (q := 28) (op := .eq) h7 dX11_isWord_23 rfl ?_
        refine to_iconst (q := 29) ic_1 dX11_isWord_28 rfl ?_
        refine to_istore_n (q := 30) [(2, .int (1 : Int32)), (0, .ref 138), (1, .ref (1000000 + s1))] rfl (by decide) dX11_isWord_29 rfl ?_
        refine to_iconst (q := 31) ic_0 dX11_isWord_30 rfl ?_
        refine to_istore_n (q := 32) [(3, .int (0 : Int32)), (2, .int (1 : Int32)), (0, .ref 138), (1, .ref (1000000 + s1))] rfl (by decide) dX11_isWord_31 rfl ?_
        exact to_ext [(0, .ref 138), (1, .ref (1000000 + s1)), (2, .int (1 : Int32)), (3, .int (0 : Int32))] (ext_cons rfl (ext_cons rfl (ext_cons rfl (ext_cons rfl ext_nil)))) (kX11_isWord_32 hS FU hf (hs1) hI)
      · have hf := ite_neg h7 hf
        refine to_icF (q := 26) (op := .eq) 28 h7 dX11_isWord_23 rfl rfl ?_
        exact to_ext [] ext_nil (kX11_isWord_26 hS hf hI)
    · have hf := ite_neg h2 hf
      refine to_icT (q := 26) (op := .ne) h2 dX11_isWord_12 rfl ?_
      exact to_ext [] ext_nil (kX11_isWord_26 hS hf hI)
  · have hf := ite_neg h1 hf
    refine to_ifT (q := 26) (op := .ne) h1 dX11_isWord_4 rfl ?_
    exact to_ext [] ext_nil (kX11_isWord_26 hS hf hI)
def fX11_takes (s1 : Nat) (m : Me) : Option (Int32 × Me) := cl2 (fX11_isWord s1 m) fun r3 m4 => if r3 = (0 : Int32) then some ((0 : Int32), m4) else cl1 (fX11_next m4) fun m8 => some ((1 : Int32), m8)
set_option maxRecDepth 20000 in
theorem kX11_takes {S : Sh} (hS : ShOK S) {res : Int32 × Me} {s1 : Nat} {m : Me} (hf : fX11_takes s1 m = some res) (hs1 : s1 < 32) (hI : Inv m) : Call 8 mX11_takes [.ref 138, .ref (1000000 + s1)] (S, m) (some (.int res.1)) (S, res.2) ∧ Inv res.2 := by
  refine call_of (P := InvS) (Nat.le_of_ble_eq_true rfl) (by simp [Value.category]) ?_
  show TT InvS (Call 7) mX11_takes (0, [(0, .ref 138), (1, .ref (1000000 + s1))], [], S, m) _ _
  unfold fX11_takes at hf
  refine to_aload_n (q := 1) rfl (by decide) dX11_takes_0 rfl ?_
  refine to_aload_n (q := 2) rfl (str_4 hs1) dX11_takes_1 rfl ?_
  obtain ⟨r3, m4, hc1, hf⟩ := cl2_some hf
  have qc2 := kX11_isWord hS hc1 (hs1) hI
  refine to_virtI (q := 5) mX11_isWord [.ref (1000000 + s1)] dX11_takes_2 rfl rfl (Nat.le_of_ble_eq_true rfl) mo_X11_isWord mv_X11_126 (Or.inl ⟨_, _, _, h_138 hS, rfl, rfl⟩) (Call_mono (by decide) qc2.1) ?_
  have hI := qc2.2
  by_cases h5 : r3 = (0 : Int32)
  · have hf := ite_pos h5 hf
    refine to_ifF (q := 8) (op := .ne) 10 (fun z => z h5) dX11_takes_5 rfl rfl ?_
    refine to_iconst (q := 9) ic_0 dX11_takes_8 rfl ?_
    cases hf
    exact to_iret dX11_takes_9 rfl (by decide) rfl rfl hI
  · have hf := ite_neg h5 hf
    refine to_ifT (q := 10) (op := .ne) h5 dX11_takes_5 rfl ?_
    refine to_aload_n (q := 11) rfl (by decide) dX11_takes_10 rfl ?_
    obtain ⟨m8, hc6, hf⟩ := cl1_some hf
    have qc7 := kX11_next hS hc6 hI
    refine to_virtV (q := 14) mX11_next [] dX11_takes_11 rfl rfl (Nat.le_of_ble_eq_true rfl) mo_X11_next mv_X11_130 (Or.inl ⟨_, _, _, h_138 hS, rfl, rfl⟩) (Call_mono (by decide) qc7.1) ?_
    have hI := qc7.2
    refine to_iconst (q := 15) ic_1 dX11_takes_14 rfl ?_
    cases hf
    exact to_iret dX11_takes_15 rfl (by decide) rfl rfl hI
def fX11_must_24 (m : Me) : Option (Me) := some m
set_option maxRecDepth 20000 in
theorem kX11_must_24 {S : Sh} (hS : ShOK S) {res : Me} {m : Me} (hf : fX11_must_24 m = some res) (hI : Inv m) : TT InvS (Call 8) mX11_must (24, [], [], S, m) none (S, res) := by
  unfold fX11_must_24 at hf
  cases hf
  exact to_vret dX11_must_24 rfl rfl rfl hI
def fX11_must (s1 : Nat) (m : Me) : Option (Me) := if (m.1 138 13) = (0 : Int32) then cl2 (fX11_takes s1 m) fun r4 m5 => if r4 = (0 : Int32) then cl1 (fX11_wrong (1 : Int32) (m5.1 138 4) m5) fun m9 => fX11_must_24 m9 else fX11_must_24 m5 else fX11_must_24 m
set_option maxRecDepth 20000 in
theorem kX11_must {S : Sh} (hS : ShOK S) {res : Me} {s1 : Nat} {m : Me} (hf : fX11_must s1 m = some res) (hs1 : s1 < 32) (hI : Inv m) : Call 9 mX11_must [.ref 138, .ref (1000000 + s1)] (S, m) none (S, res) ∧ Inv res := by
  refine call_of (P := InvS) (Nat.le_of_ble_eq_true rfl) (by simp [Value.category]) ?_
  show TT InvS (Call 8) mX11_must (0, [(0, .ref 138), (1, .ref (1000000 + s1))], [], S, m) _ _
  unfold fX11_must at hf
  refine to_aload_n (q := 1) rfl (by decide) dX11_must_0 rfl ?_
  refine to_getI (q := 4) (k0 := 11) (C := RX11) (T := TX11) (N := 37) (j := 13) rfl fx_X11_109 (h_138 hS) rfl dX11_must_1 rfl ?_
  by_cases h1 : (m.1 138 13) = (0 : Int32)
  · have hf := ite_pos h1 hf
    refine to_ifF (q := 7) (op := .ne) 24 (fun z => z h1) dX11_must_4 rfl rfl ?_
    refine to_aload_n (q := 8) rfl (by decide) dX11_must_7 rfl ?_
    refine to_aload_n (q := 9) rfl (str_4 hs1) dX11_must_8 rfl ?_
    obtain ⟨r4, m5, hc2, hf⟩ := cl2_some hf
    have qc3 := kX11_takes hS hc2 (hs1) hI
    refine to_virtI (q := 12) mX11_takes [.ref (1000000 + s1)] dX11_must_9 rfl rfl (Nat.le_of_ble_eq_true rfl) mo_X11_takes mv_X11_133 (Or.inl ⟨_, _, _, h_138 hS, rfl, rfl⟩) (Call_mono (by decide) qc3.1) ?_
    have hI := qc3.2
    by_cases h6 : r4 = (0 : Int32)
    · have hf := ite_pos h6 hf
      refine to_ifF (q := 15) (op := .ne) 24 (fun z => z h6) dX11_must_12 rfl rfl ?_
      refine to_aload_n (q := 16) rfl (by decide) dX11_must_15 rfl ?_
      refine to_iconst (q := 17) ic_1 dX11_must_16 rfl ?_
      refine to_aload_n (q := 18) rfl (by decide) dX11_must_17 rfl ?_
      refine to_getI (q := 21) (k0 := 11) (C := RX11) (T := TX11) (N := 37) (j := 4) rfl fx_X11_90 (h_138 hS) rfl dX11_must_18 rfl ?_
      obtain ⟨m9, hc7, hf⟩ := cl1_some hf
      have qc8 := kX11_wrong hS hc7 hI
      refine to_virtV (q := 24) mX11_wrong [.int (1 : Int32), .int (m5.1 138 4)] dX11_must_21 rfl rfl (Nat.le_of_ble_eq_true rfl) mo_X11_wrong mv_X11_136 (Or.inl ⟨_, _, _, h_138 hS, rfl, rfl⟩) (Call_mono (by decide) qc8.1) ?_
      have hI := qc8.2
      exact to_ext [] ext_nil (kX11_must_24 hS hf hI)
    · have hf := ite_neg h6 hf
      refine to_ifT (q := 24) (op := .ne) h6 dX11_must_12 rfl ?_
      exact to_ext [] ext_nil (kX11_must_24 hS hf hI)
  · have hf := ite_neg h1 hf
    refine to_ifT (q := 24) (op := .ne) h1 dX11_must_4 rfl ?_
    exact to_ext [] ext_nil (kX11_must_24 hS hf hI)
def fX11_mustWord_24 (m : Me) : Option (Me) := some m
set_option maxRecDepth 20000 in
theorem kX11_mustWord_24 {S : Sh} (hS : ShOK S) {res : Me} {m : Me} (hf : fX11_mustWord_24 m = some res) (hI : Inv m) : TT InvS (Call 1) mX11_mustWord (24, [], [], S, m) none (S, res) := by
  unfold fX11_mustWord_24 at hf
  cases hf
  exact to_vret dX11_mustWord_24 rfl rfl rfl hI
def fX11_mustWord (m : Me) : Option (Me) := if (m.1 138 13) = (0 : Int32) then if (m.1 138 6) = (2 : Int32) then fX11_mustWord_24 m else cl1 (fX11_wrong (1 : Int32) (m.1 138 4) m) fun m5 => fX11_mustWord_24 m5 else fX11_mustWord_24 m
set_option maxRecDepth 20000 in
theorem kX11_mustWord {S : Sh} (hS : ShOK S) {res : Me} {m : Me} (hf : fX11_mustWord m = some res) (hI : Inv m) : Call 2 mX11_mustWord [.ref 138] (S, m) none (S, res) ∧ Inv res := by
  refine call_of (P := InvS) (Nat.le_of_ble_eq_true rfl) (by simp [Value.category]) ?_
  show TT InvS (Call 1) mX11_mustWord (0, [(0, .ref 138)], [], S, m) _ _
  unfold fX11_mustWord at hf
  refine to_aload_n (q := 1) rfl (by decide) dX11_mustWord_0 rfl ?_
  refine to_getI (q := 4) (k0 := 11) (C := RX11) (T := TX11) (N := 37) (j := 13) rfl fx_X11_109 (h_138 hS) rfl dX11_mustWord_1 rfl ?_
  by_cases h1 : (m.1 138 13) = (0 : Int32)
  · have hf := ite_pos h1 hf
    refine to_ifF (q := 7) (op := .ne) 24 (fun z => z h1) dX11_mustWord_4 rfl rfl ?_
    refine to_aload_n (q := 8) rfl (by decide) dX11_mustWord_7 rfl ?_
    refine to_getI (q := 11) (k0 := 11) (C := RX11) (T := TX11) (N := 37) (j := 6) rfl fx_X11_99 (h_138 hS) rfl dX11_mustWord_8 rfl ?_
    refine to_iconst (q := 12) ic_2 dX11_mustWord_11 rfl ?_
    by_cases h2 : (m.1 138 6) = (2 : Int32)
    · have hf := ite_pos h2 hf
      refine to_icT (q := 24) (op := .eq) h2 dX11_mustWord_12 rfl ?_
      exact to_ext [] ext_nil (kX11_mustWord_24 hS hf hI)
    · have hf := ite_neg h2 hf
      refine to_icF (q := 15) (op := .eq) 24 h2 dX11_mustWord_12 rfl rfl ?_
      refine to_aload_n (q := 16) rfl (by decide) dX11_mustWord_15 rfl ?_
      refine to_iconst (q := 17) ic_1 dX11_mustWord_16 rfl ?_
      refine to_aload_n (q := 18) rfl (by decide) dX11_mustWord_17 rfl ?_
      refine to_getI (q := 21) (k0 := 11) (C := RX11) (T := TX11) (N := 37) (j := 4) rfl fx_X11_90 (h_138 hS) rfl dX11_mustWord_18 rfl ?_
      obtain ⟨m5, hc3, hf⟩ := cl1_some hf
      have qc4 := kX11_wrong hS hc3 hI
      refine to_virtV (q := 24) mX11_wrong [.int (1 : Int32), .int (m.1 138 4)] dX11_mustWord_21 rfl rfl (Nat.le_of_ble_eq_true rfl) mo_X11_wrong mv_X11_136 (Or.inl ⟨_, _, _, h_138 hS, rfl, rfl⟩) (Call_mono (by decide) qc4.1) ?_
      have hI := qc4.2
      exact to_ext [] ext_nil (kX11_mustWord_24 hS hf hI)
  · have hf := ite_neg h1 hf
    refine to_ifT (q := 24) (op := .ne) h1 dX11_mustWord_4 rfl ?_
    exact to_ext [] ext_nil (kX11_mustWord_24 hS hf hI)
def fX11_number (x1 : Int32) (x2 : Int32) (m : Me) : Option (Int32 × Me) := if (m.1 138 13) = (0 : Int32) then if (m.1 138 6) = (3 : Int32) then cl2 (fX11_within (m.1 138 7) x1 x2 m) fun r5 m6 => if r5 = (0 : Int32) then cl1 (fX11_wrong (4 : Int32) (m6.1 138 4) m6) fun m13 => some (x1, m13) else cl1 (fX11_next m6) fun m10 => some ((m.1 138 7), m10) else cl1 (fX11_wrong (1 : Int32) (m.1 138 4) m) fun m16 => some (x1, m16) else some (x1, m)
set_option maxRecDepth 20000 in
theorem kX11_number {S : Sh} (hS : ShOK S) {res : Int32 × Me} {x1 : Int32} {x2 : Int32} {m : Me} (hf : fX11_number x1 x2 m = some res) (hI : Inv m) : Call 3 mX11_number [.ref 138, .int x1, .int x2] (S, m) (some (.int res.1)) (S, res.2) ∧ Inv res.2 := by
  refine call_of (P := InvS) (Nat.le_of_ble_eq_true rfl) (by simp [Value.category]) ?_
  show TT InvS (Call 2) mX11_number (0, [(0, .ref 138), (1, .int x1), (2, .int x2)], [], S, m) _ _
  unfold fX11_number at hf
  refine to_aload_n (q := 1) rfl (by decide) dX11_number_0 rfl ?_
  refine to_getI (q := 4) (k0 := 11) (C := RX11) (T := TX11) (N := 37) (j := 13) rfl fx_X11_109 (h_138 hS) rfl dX11_number_1 rfl ?_
  by_cases h1 : (m.1 138 13) = (0 : Int32)
  · have hf := ite_pos h1 hf
    refine to_ifT (q := 9) (op := .eq) h1 dX11_number_4 rfl ?_
    refine to_aload_n (q := 10) rfl (by decide) dX11_number_9 rfl ?_
    refine to_getI (q := 13) (k0 := 11) (C := RX11) (T := TX11) (N := 37) (j := 6) rfl fx_X11_99 (h_138 hS) rfl dX11_number_10 rfl ?_
    refine to_iconst (q := 14) ic_3 dX11_number_13 rfl ?_
    by_cases h2 : (m.1 138 6) = (3 : Int32)
    · have hf := ite_pos h2 hf
      refine to_icT (q := 28) (op := .eq) h2 dX11_number_14 rfl ?_
      refine to_aload_n (q := 29) rfl (by decide) dX11_number_28 rfl ?_
      refine to_getI (q := 32) (k0 := 11) (C := RX11) (T := TX11) (N := 37) (j := 7) rfl fx_X11_96 (h_138 hS) rfl dX11_number_29 rfl ?_
      refine to_istore_n (q := 33) [(3, .int (m.1 138 7)), (0, .ref 138), (1, .int x1), (2, .int x2)] rfl (by decide) dX11_number_32 rfl ?_
      refine to_iload_n (q := 34) rfl dX11_number_33 rfl ?_
      refine to_iload_n (q := 35) rfl dX11_number_34 rfl ?_
      refine to_iload_n (q := 36) rfl dX11_number_35 rfl ?_
      obtain ⟨r5, m6, hc3, hf⟩ := cl2_some hf
      have qc4 := kX11_within hS hc3 hI
      refine to_statI (q := 39) mX11_within [.int (m.1 138 7), .int x1, .int x2] dX11_number_36 rfl rfl (Nat.le_of_ble_eq_true rfl) mo_X11_within (Or.inl ml_X11_140) sa_X11_within (Call_mono (by decide) qc4.1) ?_
      have hI := qc4.2
      by_cases h7 : r5 = (0 : Int32)
      · have hf := ite_pos h7 hf
        refine to_ifF (q := 42) (op := .ne) 53 (fun z => z h7) dX11_number_39 rfl rfl ?_
        refine to_aload_n (q := 43) rfl (by decide) dX11_number_42 rfl ?_
        refine to_iconst (q := 44) ic_4 dX11_number_43 rfl ?_
        refine to_aload_n (q := 45) rfl (by decide) dX11_number_44 rfl ?_
        refine to_getI (q := 48) (k0 := 11) (C := RX11) (T := TX11) (N := 37) (j := 4) rfl fx_X11_90 (h_138 hS) rfl dX11_number_45 rfl ?_
        obtain ⟨m13, hc11, hf⟩ := cl1_some hf
        have qc12 := kX11_wrong hS hc11 hI
        refine to_virtV (q := 51) mX11_wrong [.int (4 : Int32), .int (m6.1 138 4)] dX11_number_48 rfl rfl (Nat.le_of_ble_eq_true rfl) mo_X11_wrong mv_X11_136 (Or.inl ⟨_, _, _, h_138 hS, rfl, rfl⟩) (Call_mono (by decide) qc12.1) ?_
        have hI := qc12.2
        refine to_iload_n (q := 52) rfl dX11_number_51 rfl ?_
        cases hf
        exact to_iret dX11_number_52 rfl rfl rfl rfl hI
      · have hf := ite_neg h7 hf
        refine to_ifT (q := 53) (op := .ne) h7 dX11_number_39 rfl ?_
        refine to_aload_n (q := 54) rfl (by decide) dX11_number_53 rfl ?_
        obtain ⟨m10, hc8, hf⟩ := cl1_some hf
        have qc9 := kX11_next hS hc8 hI
        refine to_virtV (q := 57) mX11_next [] dX11_number_54 rfl rfl (Nat.le_of_ble_eq_true rfl) mo_X11_next mv_X11_130 (Or.inl ⟨_, _, _, h_138 hS, rfl, rfl⟩) (Call_mono (by decide) qc9.1) ?_
        have hI := qc9.2
        refine to_iload_n (q := 58) rfl dX11_number_57 rfl ?_
        cases hf
        exact to_iret dX11_number_58 rfl rfl rfl rfl hI
    · have hf := ite_neg h2 hf
      refine to_icF (q := 17) (op := .eq) 28 h2 dX11_number_14 rfl rfl ?_
      refine to_aload_n (q := 18) rfl (by decide) dX11_number_17 rfl ?_
      refine to_iconst (q := 19) ic_1 dX11_number_18 rfl ?_
      refine to_aload_n (q := 20) rfl (by decide) dX11_number_19 rfl ?_
      refine to_getI (q := 23) (k0 := 11) (C := RX11) (T := TX11) (N := 37) (j := 4) rfl fx_X11_90 (h_138 hS) rfl dX11_number_20 rfl ?_
      obtain ⟨m16, hc14, hf⟩ := cl1_some hf
      have qc15 := kX11_wrong hS hc14 hI
      refine to_virtV (q := 26) mX11_wrong [.int (1 : Int32), .int (m.1 138 4)] dX11_number_23 rfl rfl (Nat.le_of_ble_eq_true rfl) mo_X11_wrong mv_X11_136 (Or.inl ⟨_, _, _, h_138 hS, rfl, rfl⟩) (Call_mono (by decide) qc15.1) ?_
      have hI := qc15.2
      refine to_iload_n (q := 27) rfl dX11_number_26 rfl ?_
      cases hf
      exact to_iret dX11_number_27 rfl rfl rfl rfl hI
  · have hf := ite_neg h1 hf
    refine to_ifF (q := 7) (op := .eq) 9 h1 dX11_number_4 rfl rfl ?_
    refine to_iload_n (q := 8) rfl dX11_number_7 rfl ?_
    cases hf
    exact to_iret dX11_number_8 rfl rfl rfl rfl hI
def fX11_told (s1 : Nat) (x2 : Int32) (x3 : Int32) (m : Me) : Option (Int32 × Me) := cl1 (fX11_must s1 m) fun m3 => cl2 (fX11_number x2 x3 m3) fun r6 m7 => some (r6, m7)
set_option maxRecDepth 20000 in
theorem kX11_told {S : Sh} (hS : ShOK S) {res : Int32 × Me} {s1 : Nat} {x2 : Int32} {x3 : Int32} {m : Me} (hf : fX11_told s1 x2 x3 m = some res) (hs1 : s1 < 32) (hI : Inv m) : Call 10 mX11_told [.ref 138, .ref (1000000 + s1), .int x2, .int x3] (S, m) (some (.int res.1)) (S, res.2) ∧ Inv res.2 := by
  refine call_of (P := InvS) (Nat.le_of_ble_eq_true rfl) (by simp [Value.category]) ?_
  show TT InvS (Call 9) mX11_told (0, [(0, .ref 138), (1, .ref (1000000 + s1)), (2, .int x2), (3, .int x3)], [], S, m) _ _
  unfold fX11_told at hf
  refine to_aload_n (q := 1) rfl (by decide) dX11_told_0 rfl ?_
  refine to_aload_n (q := 2) rfl (str_4 hs1) dX11_told_1 rfl ?_
  obtain ⟨m3, hc1, hf⟩ := cl1_some hf
  have qc2 := kX11_must hS hc1 (hs1) hI
  refine to_virtV (q := 5) mX11_must [.ref (1000000 + s1)] dX11_told_2 rfl rfl (Nat.le_of_ble_eq_true rfl) mo_X11_must mv_X11_144 (Or.inl ⟨_, _, _, h_138 hS, rfl, rfl⟩) (Call_mono (by decide) qc2.1) ?_
  have hI := qc2.2
  refine to_aload_n (q := 6) rfl (by decide) dX11_told_5 rfl ?_
  refine to_iload_n (q := 7) rfl dX11_told_6 rfl ?_
  refine to_iload_n (q := 8) rfl dX11_told_7 rfl ?_
  obtain ⟨r6, m7, hc4, hf⟩ := cl2_some hf
  have qc5 := kX11_number hS hc4 hI
  refine to_virtI (q := 11) mX11_number [.int x2, .int x3] dX11_told_8 rfl rfl (Nat.le_of_ble_eq_true rfl) mo_X11_number mv_X11_148 (Or.inl ⟨_, _, _, h_138 hS, rfl, rfl⟩) (Call_mono (by decide) qc5.1) ?_
  have hI := qc5.2
  cases hf
  exact to_iret dX11_told_11 rfl rfl rfl rfl hI
def fX11_comma_16 (m : Me) : Option (Int32 × Me) := some ((0 : Int32), m)
set_option maxRecDepth 20000 in
theorem kX11_comma_16 {S : Sh} (hS : ShOK S) {res : Int32 × Me} {m : Me} (hf : fX11_comma_16 m = some res) (hI : Inv m) : TT InvS (Call 2) mX11_comma (16, [], [], S, m) (some (.int res.1)) (S, res.2) := by
  unfold fX11_comma_16 at hf
  refine to_iconst (q := 17) ic_0 dX11_comma_16 rfl ?_
  cases hf
  exact to_iret dX11_comma_17 rfl (by decide) rfl rfl hI
def fX11_comma (m : Me) : Option (Int32 × Me) := if (m.1 138 13) = (0 : Int32) then if (m.1 138 6) = (44 : Int32) then cl1 (fX11_next m) fun m5 => some ((1 : Int32), m5) else fX11_comma_16 m else fX11_comma_16 m
set_option maxRecDepth 20000 in
theorem kX11_comma {S : Sh} (hS : ShOK S) {res : Int32 × Me} {m : Me} (hf : fX11_comma m = some res) (hI : Inv m) : Call 3 mX11_comma [.ref 138] (S, m) (some (.int res.1)) (S, res.2) ∧ Inv res.2 := by
  refine call_of (P := InvS) (Nat.le_of_ble_eq_true rfl) (by simp [Value.category]) ?_
  show TT InvS (Call 2) mX11_comma (0, [(0, .ref 138)], [], S, m) _ _
  unfold fX11_comma at hf
  refine to_aload_n (q := 1) rfl (by decide) dX11_comma_0 rfl ?_
  refine to_getI (q := 4) (k0 := 11) (C := RX11) (T := TX11) (N := 37) (j := 13) rfl fx_X11_109 (h_138 hS) rfl dX11_comma_1 rfl ?_
  by_cases h1 : (m.1 138 13) = (0 : Int32)
  · have hf := ite_pos h1 hf
    refine to_ifF (q := 7) (op := .ne) 16 (fun z => z h1) dX11_comma_4 rfl rfl ?_
    refine to_aload_n (q := 8) rfl (by decide) dX11_comma_7 rfl ?_
    refine to_getI (q := 11) (k0 := 11) (C := RX11) (T := TX11) (N := 37) (j := 6) rfl fx_X11_99 (h_138 hS) rfl dX11_comma_8 rfl ?_
    refine to_bipush (q := 13) bp_44 dX11_comma_11 rfl ?_
    by_cases h2 : (m.1 138 6) = (44 : Int32)
    · have hf := ite_pos h2 hf
      refine to_icT (q := 18) (op := .eq) h2 dX11_comma_13 rfl ?_
      refine to_aload_n (q := 19) rfl (by decide) dX11_comma_18 rfl ?_
      obtain ⟨m5, hc3, hf⟩ := cl1_some hf
      have qc4 := kX11_next hS hc3 hI
      refine to_virtV (q := 22) mX11_next [] dX11_comma_19 rfl rfl (Nat.le_of_ble_eq_true rfl) mo_X11_next mv_X11_130 (Or.inl ⟨_, _, _, h_138 hS, rfl, rfl⟩) (Call_mono (by decide) qc4.1) ?_
      have hI := qc4.2
      refine to_iconst (q := 23) ic_1 dX11_comma_22 rfl ?_
      cases hf
      exact to_iret dX11_comma_23 rfl (by decide) rfl rfl hI
    · have hf := ite_neg h2 hf
      refine to_icF (q := 16) (op := .eq) 18 h2 dX11_comma_13 rfl rfl ?_
      exact to_ext [] ext_nil (kX11_comma_16 hS hf hI)
  · have hf := ite_neg h1 hf
    refine to_ifT (q := 16) (op := .ne) h1 dX11_comma_4 rfl ?_
    exact to_ext [] ext_nil (kX11_comma_16 hS hf hI)
def fX11_side (m : Me) : Option (Int32 × Me) := if (m.1 138 13) = (0 : Int32) then cl2 (fX11_takes 27 m) fun r4 m5 => if r4 = (0 : Int32) then cl1 (fX11_must 28 m5) fun m9 => some ((1 : Int32), m9) else some ((0 : Int32), m5) else some ((0 : Int32), m)
set_option maxRecDepth 20000 in
theorem kX11_side {S : Sh} (hS : ShOK S) {res : Int32 × Me} {m : Me} (hf : fX11_side m = some res) (hI : Inv m) : Call 10 mX11_side [.ref 138] (S, m) (some (.int res.1)) (S, res.2) ∧ Inv res.2 := by
  refine call_of (P := InvS) (Nat.le_of_ble_eq_true rfl) (by simp [Value.category]) ?_
  show TT InvS (Call 9) mX11_side (0, [(0, .ref 138)], [], S, m) _ _
  unfold fX11_side at hf
  refine to_aload_n (q := 1) rfl (by decide) dX11_side_0 rfl ?_
  refine to_getI (q := 4) (k0 := 11) (C := RX11) (T := TX11) (N := 37) (j := 13) rfl fx_X11_109 (h_138 hS) rfl dX11_side_1 rfl ?_
  by_cases h1 : (m.1 138 13) = (0 : Int32)
  · have hf := ite_pos h1 hf
    refine to_ifT (q := 9) (op := .eq) h1 dX11_side_4 rfl ?_
    refine to_aload_n (q := 10) rfl (by decide) dX11_side_9 rfl ?_
    refine to_ldcS (q := 12) (i := 27) rfl dX11_side_10 rfl ?_
    obtain ⟨r4, m5, hc2, hf⟩ := cl2_some hf
    have qc3 := kX11_takes hS hc2 (by decide) hI
    refine to_virtI (q := 15) mX11_takes [.ref (1000000 + 27)] dX11_side_12 rfl rfl (Nat.le_of_ble_eq_true rfl) mo_X11_takes mv_X11_133 (Or.inl ⟨_, _, _, h_138 hS, rfl, rfl⟩) (Call_mono (by decide) qc3.1) ?_
    have hI := qc3.2
    by_cases h6 : r4 = (0 : Int32)
    · have hf := ite_pos h6 hf
      refine to_ifT (q := 20) (op := .eq) h6 dX11_side_15 rfl ?_
      refine to_aload_n (q := 21) rfl (by decide) dX11_side_20 rfl ?_
      refine to_ldcS (q := 23) (i := 28) rfl dX11_side_21 rfl ?_
      obtain ⟨m9, hc7, hf⟩ := cl1_some hf
      have qc8 := kX11_must hS hc7 (by decide) hI
      refine to_virtV (q := 26) mX11_must [.ref (1000000 + 28)] dX11_side_23 rfl rfl (Nat.le_of_ble_eq_true rfl) mo_X11_must mv_X11_144 (Or.inl ⟨_, _, _, h_138 hS, rfl, rfl⟩) (Call_mono (by decide) qc8.1) ?_
      have hI := qc8.2
      refine to_iconst (q := 27) ic_1 dX11_side_26 rfl ?_
      cases hf
      exact to_iret dX11_side_27 rfl rfl rfl rfl hI
    · have hf := ite_neg h6 hf
      refine to_ifF (q := 18) (op := .eq) 20 h6 dX11_side_15 rfl rfl ?_
      refine to_iconst (q := 19) ic_0 dX11_side_18 rfl ?_
      cases hf
      exact to_iret dX11_side_19 rfl rfl rfl rfl hI
  · have hf := ite_neg h1 hf
    refine to_ifF (q := 7) (op := .eq) 9 h1 dX11_side_4 rfl rfl ?_
    refine to_iconst (q := 8) ic_0 dX11_side_7 rfl ?_
    cases hf
    exact to_iret dX11_side_8 rfl rfl rfl rfl hI
def fX11_fanLine_114 (m : Me) : Option (Me) := some m
set_option maxRecDepth 20000 in
theorem kX11_fanLine_114 {S : Sh} (hS : ShOK S) {res : Me} {m : Me} (hf : fX11_fanLine_114 m = some res) (hI : Inv m) : TT InvS (Call 10) mX11_fanLine (114, [], [], S, m) none (S, res) := by
  unfold fX11_fanLine_114 at hf
  cases hf
  exact to_vret dX11_fanLine_114 rfl rfl rfl hI
def fX11_fanLine_100 (x1 : Int32) (m : Me) : Option (Me) := if (m.1 138 13) = (0 : Int32) then fX11_fanLine_114 (setI m 142 0 x1) else fX11_fanLine_114 m
set_option maxRecDepth 20000 in
theorem kX11_fanLine_100 {S : Sh} (hS : ShOK S) {res : Me} {x1 : Int32} {m : Me} (hf : fX11_fanLine_100 x1 m = some res) (hI : Inv m) : TT InvS (Call 10) mX11_fanLine (100, [(0, .ref 138), (1, .int x1)], [], S, m) none (S, res) := by
  unfold fX11_fanLine_100 at hf
  refine to_aload_n (q := 101) rfl (by decide) dX11_fanLine_100 rfl ?_
  refine to_getI (q := 104) (k0 := 11) (C := RX11) (T := TX11) (N := 37) (j := 13) rfl fx_X11_109 (h_138 hS) rfl dX11_fanLine_101 rfl ?_
  by_cases h32 : (m.1 138 13) = (0 : Int32)
  · have hf := ite_pos h32 hf
    refine to_ifF (q := 107) (op := .ne) 114 (fun z => z h32) dX11_fanLine_104 rfl rfl ?_
    refine to_aload_n (q := 108) rfl (by decide) dX11_fanLine_107 rfl ?_
    refine to_getR (q := 111) (b := 142) (k0 := 11) (C := RX11) (T := TX11) (N := 37) (j := 16) rfl fx_X11_23 (h_138 hS) rfl (iv_138_16 hI) dX11_fanLine_108 rfl ?_
    refine to_iconst (q := 112) ic_0 dX11_fanLine_111 rfl ?_
    refine to_iload_n (q := 113) rfl dX11_fanLine_112 rfl ?_
    refine to_iasj (q := 114) (h_142 hS) (by decide) (tn_0) dX11_fanLine_113 rfl ?_
    exact to_ext [] ext_nil (kX11_fanLine_114 hS hf hI)
  · have hf := ite_neg h32 hf
    refine to_ifT (q := 114) (op := .ne) h32 dX11_fanLine_104 rfl ?_
    exact to_ext [] ext_nil (kX11_fanLine_114 hS hf hI)
def fX11_fanLine_18 (m : Me) : Option (Me) := if (m.1 138 13) = (0 : Int32) then cl1 (fX11_next m) fun m8 => cl2 (fX11_told 17 (2 : Int32) (10 : Int32) m8) fun r11 m12 => cl2 (fX11_told 18 (1 : Int32) (3 : Int32) m12) fun r15 m16 => cl2 (fX11_told 19 (0 : Int32) (99 : Int32) (setI m16 142 1 r15)) fun r19 m20 => cl1 (fX11_must 20 (setI m20 142 2 r19)) fun m23 => cl2 (fX11_takes 21 m23) fun r26 m27 => if r26 = (0 : Int32) then cl1 (fX11_must 22 m27) fun m31 => fX11_fanLine_100 r11 m31 else fX11_fanLine_100 r11 (setI m27 142 3 (1 : Int32)) else some m
set_option maxRecDepth 20000 in
theorem kX11_fanLine_18 {S : Sh} (hS : ShOK S) {res : Me} {m : Me} (hf : fX11_fanLine_18 m = some res) (hI : Inv m) : TT InvS (Call 10) mX11_fanLine (18, [(0, .ref 138)], [], S, m) none (S, res) := by
  unfold fX11_fanLine_18 at hf
  refine to_aload_n (q := 19) rfl (by decide) dX11_fanLine_18 rfl ?_
  refine to_getI (q := 22) (k0 := 11) (C := RX11) (T := TX11) (N := 37) (j := 13) rfl fx_X11_109 (h_138 hS) rfl dX11_fanLine_19 rfl ?_
  by_cases h5 : (m.1 138 13) = (0 : Int32)
  · have hf := ite_pos h5 hf
    refine to_ifT (q := 26) (op := .eq) h5 dX11_fanLine_22 rfl ?_
    refine to_aload_n (q := 27) rfl (by decide) dX11_fanLine_26 rfl ?_
    obtain ⟨m8, hc6, hf⟩ := cl1_some hf
    have qc7 := kX11_next hS hc6 hI
    refine to_virtV (q := 30) mX11_next [] dX11_fanLine_27 rfl rfl (Nat.le_of_ble_eq_true rfl) mo_X11_next mv_X11_130 (Or.inl ⟨_, _, _, h_138 hS, rfl, rfl⟩) (Call_mono (by decide) qc7.1) ?_
    have hI := qc7.2
    refine to_aload_n (q := 31) rfl (by decide) dX11_fanLine_30 rfl ?_
    refine to_ldcS (q := 33) (i := 17) rfl dX11_fanLine_31 rfl ?_
    refine to_iconst (q := 34) ic_2 dX11_fanLine_33 rfl ?_
    refine to_bipush (q := 36) bp_10 dX11_fanLine_34 rfl ?_
    obtain ⟨r11, m12, hc9, hf⟩ := cl2_some hf
    have qc10 := kX11_told hS hc9 (by decide) hI
    refine to_virtI (q := 39) mX11_told [.ref (1000000 + 17), .int (2 : Int32), .int (10 : Int32)] dX11_fanLine_36 rfl rfl (Nat.le_of_ble_eq_true rfl) mo_X11_told mv_X11_218 (Or.inl ⟨_, _, _, h_138 hS, rfl, rfl⟩) (Call_mono (by decide) qc10.1) ?_
    have hI := qc10.2
    refine to_istore_n (q := 40) [(1, .int r11), (0, .ref 138)] rfl (by decide) dX11_fanLine_39 rfl ?_
    refine to_aload_n (q := 41) rfl (by decide) dX11_fanLine_40 rfl ?_
    refine to_getR (q := 44) (b := 142) (k0 := 11) (C := RX11) (T := TX11) (N := 37) (j := 16) rfl fx_X11_23 (h_138 hS) rfl (iv_138_16 hI) dX11_fanLine_41 rfl ?_
    refine to_iconst (q := 45) ic_1 dX11_fanLine_44 rfl ?_
    refine to_aload_n (q := 46) rfl (by decide) dX11_fanLine_45 rfl ?_
    refine to_ldcS (q := 48) (i := 18) rfl dX11_fanLine_46 rfl ?_
    refine to_iconst (q := 49) ic_1 dX11_fanLine_48 rfl ?_
    refine to_iconst (q := 50) ic_3 dX11_fanLine_49 rfl ?_
    obtain ⟨r15, m16, hc13, hf⟩ := cl2_some hf
    have qc14 := kX11_told hS hc13 (by decide) hI
    refine to_virtI (q := 53) mX11_told [.ref (1000000 + 18), .int (1 : Int32), .int (3 : Int32)] dX11_fanLine_50 rfl rfl (Nat.le_of_ble_eq_true rfl) mo_X11_told mv_X11_218 (Or.inl ⟨_, _, _, h_138 hS, rfl, rfl⟩) (Call_mono (by decide) qc14.1) ?_
    have hI := qc14.2
    refine to_iasj (q := 54) (h_142 hS) (by decide) (tn_1) dX11_fanLine_53 rfl ?_
    refine to_aload_n (q := 55) rfl (by decide) dX11_fanLine_54 rfl ?_
    refine to_getR (q := 58) (b := 142) (k0 := 11) (C := RX11) (T := TX11) (N := 37) (j := 16) rfl fx_X11_23 (h_138 hS) rfl (iv_138_16 hI) dX11_fanLine_55 rfl ?_
    refine to_iconst (q := 59) ic_2 dX11_fanLine_58 rfl ?_
    refine to_aload_n (q := 60) rfl (by decide) dX11_fanLine_59 rfl ?_
    refine to_ldcS (q := 62) (i := 19) rfl dX11_fanLine_60 rfl ?_
    refine to_iconst (q := 63) ic_0 dX11_fanLine_62 rfl ?_
    refine to_bipush (q := 65) bp_99 dX11_fanLine_63 rfl ?_
    obtain ⟨r19, m20, hc17, hf⟩ := cl2_some hf
    have qc18 := kX11_told hS hc17 (by decide) hI
    refine to_virtI (q := 68) mX11_told [.ref (1000000 + 19), .int (0 : Int32), .int (99 : Int32)] dX11_fanLine_65 rfl rfl (Nat.le_of_ble_eq_true rfl) mo_X11_told mv_X11_218 (Or.inl ⟨_, _, _, h_138 hS, rfl, rfl⟩) (Call_mono (by decide) qc18.1) ?_
    have hI := qc18.2
    refine to_iasj (q := 69) (h_142 hS) (by decide) (tn_2) dX11_fanLine_68 rfl ?_
    refine to_aload_n (q := 70) rfl (by decide) dX11_fanLine_69 rfl ?_
    refine to_ldcS (q := 72) (i := 20) rfl dX11_fanLine_70 rfl ?_
    obtain ⟨m23, hc21, hf⟩ := cl1_some hf
    have qc22 := kX11_must hS hc21 (by decide) hI
    refine to_virtV (q := 75) mX11_must [.ref (1000000 + 20)] dX11_fanLine_72 rfl rfl (Nat.le_of_ble_eq_true rfl) mo_X11_must mv_X11_144 (Or.inl ⟨_, _, _, h_138 hS, rfl, rfl⟩) (Call_mono (by decide) qc22.1) ?_
    have hI := qc22.2
    refine to_aload_n (q := 76) rfl (by decide) dX11_fanLine_75 rfl ?_
    refine to_ldcS (q := 78) (i := 21) rfl dX11_fanLine_76 rfl ?_
    obtain ⟨r26, m27, hc24, hf⟩ := cl2_some hf
    have qc25 := kX11_takes hS hc24 (by decide) hI
    refine to_virtI (q := 81) mX11_takes [.ref (1000000 + 21)] dX11_fanLine_78 rfl rfl (Nat.le_of_ble_eq_true rfl) mo_X11_takes mv_X11_133 (Or.inl ⟨_, _, _, h_138 hS, rfl, rfl⟩) (Call_mono (by decide) qc25.1) ?_
    have hI := qc25.2
    by_cases h28 : r26 = (0 : Int32)
    · have hf := ite_pos h28 hf
      refine to_ifT (q := 94) (op := .eq) h28 dX11_fanLine_81 rfl ?_
      refine to_aload_n (q := 95) rfl (by decide) dX11_fanLine_94 rfl ?_
      refine to_ldcS (q := 97) (i := 22) rfl dX11_fanLine_95 rfl ?_
      obtain ⟨m31, hc29, hf⟩ := cl1_some hf
      have qc30 := kX11_must hS hc29 (by decide) hI
      refine to_virtV (q := 100) mX11_must [.ref (1000000 + 22)] dX11_fanLine_97 rfl rfl (Nat.le_of_ble_eq_true rfl) mo_X11_must mv_X11_144 (Or.inl ⟨_, _, _, h_138 hS, rfl, rfl⟩) (Call_mono (by decide) qc30.1) ?_
      have hI := qc30.2
      exact to_ext [(0, .ref 138), (1, .int r11)] (ext_cons rfl (ext_cons rfl ext_nil)) (kX11_fanLine_100 hS hf hI)
    · have hf := ite_neg h28 hf
      refine to_ifF (q := 84) (op := .eq) 94 h28 dX11_fanLine_81 rfl rfl ?_
      refine to_aload_n (q := 85) rfl (by decide) dX11_fanLine_84 rfl ?_
      refine to_getR (q := 88) (b := 142) (k0 := 11) (C := RX11) (T := TX11) (N := 37) (j := 16) rfl fx_X11_23 (h_138 hS) rfl (iv_138_16 hI) dX11_fanLine_85 rfl ?_
      refine to_iconst (q := 89) ic_3 dX11_fanLine_88 rfl ?_
      refine to_iconst (q := 90) ic_1 dX11_fanLine_89 rfl ?_
      refine to_iasj (q := 91) (h_142 hS) (by decide) (tn_3) dX11_fanLine_90 rfl ?_
      refine to_goto (q := 100) dX11_fanLine_91 rfl ?_
      exact to_ext [(0, .ref 138), (1, .int r11)] (ext_cons rfl (ext_cons rfl ext_nil)) (kX11_fanLine_100 hS hf hI)
  · have hf := ite_neg h5 hf
    refine to_ifF (q := 25) (op := .eq) 26 h5 dX11_fanLine_22 rfl rfl ?_
    cases hf
    exact to_vret dX11_fanLine_25 rfl rfl rfl hI
def fX11_fanLine (m : Me) : Option (Me) := if (m.1 142 0) ≤ (0 : Int32) then fX11_fanLine_18 m else cl1 (fX11_wrong (3 : Int32) (m.1 138 4) m) fun m4 => fX11_fanLine_18 m4
set_option maxRecDepth 20000 in
theorem kX11_fanLine {S : Sh} (hS : ShOK S) {res : Me} {m : Me} (hf : fX11_fanLine m = some res) (hI : Inv m) : Call 11 mX11_fanLine [.ref 138] (S, m) none (S, res) ∧ Inv res := by
  refine call_of (P := InvS) (Nat.le_of_ble_eq_true rfl) (by simp [Value.category]) ?_
  show TT InvS (Call 10) mX11_fanLine (0, [(0, .ref 138)], [], S, m) _ _
  unfold fX11_fanLine at hf
  refine to_aload_n (q := 1) rfl (by decide) dX11_fanLine_0 rfl ?_
  refine to_getR (q := 4) (b := 142) (k0 := 11) (C := RX11) (T := TX11) (N := 37) (j := 16) rfl fx_X11_23 (h_138 hS) rfl (iv_138_16 hI) dX11_fanLine_1 rfl ?_
  refine to_iconst (q := 5) ic_0 dX11_fanLine_4 rfl ?_
  refine to_iaj (q := 6) (h_142 hS) (by decide) (tn_0) dX11_fanLine_5 rfl ?_
  by_cases h1 : (m.1 142 0) ≤ (0 : Int32)
  · have hf := ite_pos h1 hf
    refine to_ifT (q := 18) (op := .le) h1 dX11_fanLine_6 rfl ?_
    exact to_ext [(0, .ref 138)] (ext_cons rfl ext_nil) (kX11_fanLine_18 hS hf hI)
  · have hf := ite_neg h1 hf
    refine to_ifF (q := 9) (op := .le) 18 h1 dX11_fanLine_6 rfl rfl ?_
    refine to_aload_n (q := 10) rfl (by decide) dX11_fanLine_9 rfl ?_
    refine to_iconst (q := 11) ic_3 dX11_fanLine_10 rfl ?_
    refine to_aload_n (q := 12) rfl (by decide) dX11_fanLine_11 rfl ?_
    refine to_getI (q := 15) (k0 := 11) (C := RX11) (T := TX11) (N := 37) (j := 4) rfl fx_X11_90 (h_138 hS) rfl dX11_fanLine_12 rfl ?_
    obtain ⟨m4, hc2, hf⟩ := cl1_some hf
    have qc3 := kX11_wrong hS hc2 hI
    refine to_virtV (q := 18) mX11_wrong [.int (3 : Int32), .int (m.1 138 4)] dX11_fanLine_15 rfl rfl (Nat.le_of_ble_eq_true rfl) mo_X11_wrong mv_X11_136 (Or.inl ⟨_, _, _, h_138 hS, rfl, rfl⟩) (Call_mono (by decide) qc3.1) ?_
    have hI := qc3.2
    exact to_ext [(0, .ref 138)] (ext_cons rfl ext_nil) (kX11_fanLine_18 hS hf hI)
def fX11_begins_53 (m : Me) : Option (Int32 × Me) := some ((1 : Int32), m)
set_option maxRecDepth 20000 in
theorem kX11_begins_53 {S : Sh} (hS : ShOK S) {res : Int32 × Me} {m : Me} (hf : fX11_begins_53 m = some res) (hI : Inv m) : TT InvS (Call 7) mX11_begins (53, [], [], S, m) (some (.int res.1)) (S, res.2) := by
  unfold fX11_begins_53 at hf
  refine to_iconst (q := 54) ic_1 dX11_begins_53 rfl ?_
  cases hf
  exact to_iret dX11_begins_54 rfl (by decide) rfl rfl hI
def fX11_begins_42 (m : Me) : Option (Int32 × Me) := if (m.1 138 13) = (0 : Int32) then cl1 (fX11_next m) fun m17 => fX11_begins_53 m17 else fX11_begins_53 m
set_option maxRecDepth 20000 in
theorem kX11_begins_42 {S : Sh} (hS : ShOK S) {res : Int32 × Me} {m : Me} (hf : fX11_begins_42 m = some res) (hI : Inv m) : TT InvS (Call 7) mX11_begins (42, [(0, .ref 138)], [], S, m) (some (.int res.1)) (S, res.2) := by
  unfold fX11_begins_42 at hf
  refine to_aload_n (q := 43) rfl (by decide) dX11_begins_42 rfl ?_
  refine to_getI (q := 46) (k0 := 11) (C := RX11) (T := TX11) (N := 37) (j := 13) rfl fx_X11_109 (h_138 hS) rfl dX11_begins_43 rfl ?_
  by_cases h14 : (m.1 138 13) = (0 : Int32)
  · have hf := ite_pos h14 hf
    refine to_ifF (q := 49) (op := .ne) 53 (fun z => z h14) dX11_begins_46 rfl rfl ?_
    refine to_aload_n (q := 50) rfl (by decide) dX11_begins_49 rfl ?_
    obtain ⟨m17, hc15, hf⟩ := cl1_some hf
    have qc16 := kX11_next hS hc15 hI
    refine to_virtV (q := 53) mX11_next [] dX11_begins_50 rfl rfl (Nat.le_of_ble_eq_true rfl) mo_X11_next mv_X11_130 (Or.inl ⟨_, _, _, h_138 hS, rfl, rfl⟩) (Call_mono (by decide) qc16.1) ?_
    have hI := qc16.2
    exact to_ext [] ext_nil (kX11_begins_53 hS hf hI)
  · have hf := ite_neg h14 hf
    refine to_ifT (q := 53) (op := .ne) h14 dX11_begins_46 rfl ?_
    exact to_ext [] ext_nil (kX11_begins_53 hS hf hI)
def fX11_begins_23 (m : Me) : Option (Int32 × Me) := if (m.1 142 0) = (0 : Int32) then cl1 (fX11_wrong (6 : Int32) (m.1 138 4) m) fun m13 => fX11_begins_42 m13 else fX11_begins_42 m
set_option maxRecDepth 20000 in
theorem kX11_begins_23 {S : Sh} (hS : ShOK S) {res : Int32 × Me} {m : Me} (hf : fX11_begins_23 m = some res) (hI : Inv m) : TT InvS (Call 7) mX11_begins (23, [(0, .ref 138)], [], S, m) (some (.int res.1)) (S, res.2) := by
  unfold fX11_begins_23 at hf
  refine to_aload_n (q := 24) rfl (by decide) dX11_begins_23 rfl ?_
  refine to_getR (q := 27) (b := 142) (k0 := 11) (C := RX11) (T := TX11) (N := 37) (j := 16) rfl fx_X11_23 (h_138 hS) rfl (iv_138_16 hI) dX11_begins_24 rfl ?_
  refine to_iconst (q := 28) ic_0 dX11_begins_27 rfl ?_
  refine to_iaj (q := 29) (h_142 hS) (by decide) (tn_0) dX11_begins_28 rfl ?_
  by_cases h10 : (m.1 142 0) = (0 : Int32)
  · have hf := ite_pos h10 hf
    refine to_ifF (q := 32) (op := .ne) 42 (fun z => z h10) dX11_begins_29 rfl rfl ?_
    refine to_aload_n (q := 33) rfl (by decide) dX11_begins_32 rfl ?_
    refine to_bipush (q := 35) bp_6 dX11_begins_33 rfl ?_
    refine to_aload_n (q := 36) rfl (by decide) dX11_begins_35 rfl ?_
    refine to_getI (q := 39) (k0 := 11) (C := RX11) (T := TX11) (N := 37) (j := 4) rfl fx_X11_90 (h_138 hS) rfl dX11_begins_36 rfl ?_
    obtain ⟨m13, hc11, hf⟩ := cl1_some hf
    have qc12 := kX11_wrong hS hc11 hI
    refine to_virtV (q := 42) mX11_wrong [.int (6 : Int32), .int (m.1 138 4)] dX11_begins_39 rfl rfl (Nat.le_of_ble_eq_true rfl) mo_X11_wrong mv_X11_136 (Or.inl ⟨_, _, _, h_138 hS, rfl, rfl⟩) (Call_mono (by decide) qc12.1) ?_
    have hI := qc12.2
    exact to_ext [(0, .ref 138)] (ext_cons rfl ext_nil) (kX11_begins_42 hS hf hI)
  · have hf := ite_neg h10 hf
    refine to_ifT (q := 42) (op := .ne) h10 dX11_begins_29 rfl ?_
    exact to_ext [(0, .ref 138)] (ext_cons rfl ext_nil) (kX11_begins_42 hS hf hI)
def fX11_begins (s1 : Nat) (x2 : Int32) (x3 : Int32) (m : Me) : Option (Int32 × Me) := cl2 (fX11_isWord s1 m) fun r3 m4 => if r3 = (0 : Int32) then some ((0 : Int32), m4) else if x2 = (0 : Int32) then cl1 (fX11_wrong x3 (m4.1 138 4) m4) fun m9 => fX11_begins_23 m9 else fX11_begins_23 m4
set_option maxRecDepth 20000 in
theorem kX11_begins {S : Sh} (hS : ShOK S) {res : Int32 × Me} {s1 : Nat} {x2 : Int32} {x3 : Int32} {m : Me} (hf : fX11_begins s1 x2 x3 m = some res) (hs1 : s1 < 32) (hI : Inv m) : Call 8 mX11_begins [.ref 138, .ref (1000000 + s1), .int x2, .int x3] (S, m) (some (.int res.1)) (S, res.2) ∧ Inv res.2 := by
  refine call_of (P := InvS) (Nat.le_of_ble_eq_true rfl) (by simp [Value.category]) ?_
  show TT InvS (Call 7) mX11_begins (0, [(0, .ref 138), (1, .ref (1000000 + s1)), (2, .int x2), (3, .int x3)], [], S, m) _ _
  unfold fX11_begins at hf
  refine to_aload_n (q := 1) rfl (by decide) dX11_begins_0 rfl ?_
  refine to_aload_n (q := 2) rfl (str_4 hs1) dX11_begins_1 rfl ?_
  obtain ⟨r3, m4, hc1, hf⟩ := cl2_some hf
  have qc2 := kX11_isWord hS hc1 (hs1) hI
  refine to_virtI (q := 5) mX11_isWord [.ref (1000000 + s1)] dX11_begins_2 rfl rfl (Nat.le_of_ble_eq_true rfl) mo_X11_isWord mv_X11_126 (Or.inl ⟨_, _, _, h_138 hS, rfl, rfl⟩) (Call_mono (by decide) qc2.1) ?_
  have hI := qc2.2
  by_cases h5 : r3 = (0 : Int32)
  · have hf := ite_pos h5 hf
    refine to_ifF (q := 8) (op := .ne) 10 (fun z => z h5) dX11_begins_5 rfl rfl ?_
    refine to_iconst (q := 9) ic_0 dX11_begins_8 rfl ?_
    cases hf
    exact to_iret dX11_begins_9 rfl (by decide) rfl rfl hI
  · have hf := ite_neg h5 hf
    refine to_ifT (q := 10) (op := .ne) h5 dX11_begins_5 rfl ?_
    refine to_iload_n (q := 11) rfl dX11_begins_10 rfl ?_
    by_cases h6 : x2 = (0 : Int32)
    · have hf := ite_pos h6 hf
      refine to_ifF (q := 14) (op := .ne) 23 (fun z => z h6) dX11_begins_11 rfl rfl ?_
      refine to_aload_n (q := 15) rfl (by decide) dX11_begins_14 rfl ?_
      refine to_iload_n (q := 16) rfl dX11_begins_15 rfl ?_
      refine to_aload_n (q := 17) rfl (by decide) dX11_begins_16 rfl ?_
      refine to_getI (q := 20) (k0 := 11) (C := RX11) (T := TX11) (N := 37) (j := 4) rfl fx_X11_90 (h_138 hS) rfl dX11_begins_17 rfl ?_
      obtain ⟨m9, hc7, hf⟩ := cl1_some hf
      have qc8 := kX11_wrong hS hc7 hI
      refine to_virtV (q := 23) mX11_wrong [.int x3, .int (m4.1 138 4)] dX11_begins_20 rfl rfl (Nat.le_of_ble_eq_true rfl) mo_X11_wrong mv_X11_136 (Or.inl ⟨_, _, _, h_138 hS, rfl, rfl⟩) (Call_mono (by decide) qc8.1) ?_
      have hI := qc8.2
      exact to_ext [(0, .ref 138)] (ext_cons rfl ext_nil) (kX11_begins_23 hS hf hI)
    · have hf := ite_neg h6 hf
      refine to_ifT (q := 23) (op := .ne) h6 dX11_begins_11 rfl ?_
      exact to_ext [(0, .ref 138)] (ext_cons rfl ext_nil) (kX11_begins_23 hS hf hI)
def fX11_ribLine_142 (m : Me) : Option (Me) := some (setI m 142 4 ((m.1 142 4) + (1 : Int32)))
set_option maxRecDepth 20000 in
theorem kX11_ribLine_142 {S : Sh} (hS : ShOK S) {res : Me} {m : Me} (hf : fX11_ribLine_142 m = some res) (hI : Inv m) : TT InvS (Call 8) mX11_ribLine (142, [(0, .ref 138)], [], S, m) none (S, res) := by
  unfold fX11_ribLine_142 at hf
  refine to_aload_n (q := 143) rfl (by decide) dX11_ribLine_142 rfl ?_
  refine to_getR (q := 146) (b := 142) (k0 := 11) (C := RX11) (T := TX11) (N := 37) (j := 16) rfl fx_X11_23 (h_138 hS) rfl (iv_138_16 hI) dX11_ribLine_143 rfl ?_
  refine to_iconst (q := 147) ic_4 dX11_ribLine_146 rfl ?_
  refine to_dup2 (q := 148) rfl rfl dX11_ribLine_147 rfl ?_
  refine to_iaj (q := 149) (h_142 hS) (by decide) (tn_4) dX11_ribLine_148 rfl ?_
  refine to_iconst (q := 150) ic_1 dX11_ribLine_149 rfl ?_
  refine to_iadd (q := 151) dX11_ribLine_150 rfl ?_
  refine to_iasj (q := 152) (h_142 hS) (by decide) (tn_4) dX11_ribLine_151 rfl ?_
  cases hf
  exact to_vret dX11_ribLine_152 rfl rfl rfl hI
def fX11_ribLine_112 (x1 : Int32) (m : Me) : Option (Me) := if (m.1 138 13) = (0 : Int32) then cl2 (fX11_takes 24 m) fun r14 m15 => if r14 = (0 : Int32) then fX11_ribLine_142 m15 else fX11_ribLine_142 (setI m15 144 60 ((m15.1 144 60) ||| ((1 : Int32) <<< (x1 &&& 31)))) else some m
set_option maxRecDepth 20000 in
theorem kX11_ribLine_112 {S : Sh} (hS : ShOK S) {res : Me} {x1 : Int32} {m : Me} (hf : fX11_ribLine_112 x1 m = some res) (hI : Inv m) : TT InvS (Call 8) mX11_ribLine (112, [(0, .ref 138), (1, .int x1)], [], S, m) none (S, res) := by
  unfold fX11_ribLine_112 at hf
  refine to_aload_n (q := 113) rfl (by decide) dX11_ribLine_112 rfl ?_
  refine to_getI (q := 116) (k0 := 11) (C := RX11) (T := TX11) (N := 37) (j := 13) rfl fx_X11_109 (h_138 hS) rfl dX11_ribLine_113 rfl ?_
  by_cases h11 : (m.1 138 13) = (0 : Int32)
  · have hf := ite_pos h11 hf
    refine to_ifT (q := 120) (op := .eq) h11 dX11_ribLine_116 rfl ?_
    refine to_aload_n (q := 121) rfl (by decide) dX11_ribLine_120 rfl ?_
    refine to_ldcS (q := 123) (i := 24) rfl dX11_ribLine_121 rfl ?_
    obtain ⟨r14, m15, hc12, hf⟩ := cl2_some hf
    have qc13 := kX11_takes hS hc12 (by decide) hI
    refine to_virtI (q := 126) mX11_takes [.ref (1000000 + 24)] dX11_ribLine_123 rfl rfl (Nat.le_of_ble_eq_true rfl) mo_X11_takes mv_X11_133 (Or.inl ⟨_, _, _, h_138 hS, rfl, rfl⟩) (Call_mono (by decide) qc13.1) ?_
    have hI := qc13.2
    by_cases h16 : r14 = (0 : Int32)
    · have hf := ite_pos h16 hf
      refine to_ifT (q := 142) (op := .eq) h16 dX11_ribLine_126 rfl ?_
      exact to_ext [(0, .ref 138)] (ext_cons rfl ext_nil) (kX11_ribLine_142 hS hf hI)
    · have hf := ite_neg h16 hf
      refine to_ifF (q := 129) (op := .eq) 142 h16 dX11_ribLine_126 rfl rfl ?_
      refine to_aload_n (q := 130) rfl (by decide) dX11_ribLine_129 rfl ?_
      refine to_getR (q := 133) (b := 144) (k0 := 11) (C := RX11) (T := TX11) (N := 37) (j := 18) rfl fx_X11_29 (h_138 hS) rfl (iv_138_18 hI) dX11_ribLine_130 rfl ?_
      refine to_bipush (q := 135) bp_60 dX11_ribLine_133 rfl ?_
      refine to_dup2 (q := 136) rfl rfl dX11_ribLine_135 rfl ?_
      refine to_iaj (q := 137) (h_144 hS) (by decide) (tn_60) dX11_ribLine_136 rfl ?_
      refine to_iconst (q := 138) ic_1 dX11_ribLine_137 rfl ?_
      refine to_iload_n (q := 139) rfl dX11_ribLine_138 rfl ?_
      refine to_ishl (q := 140) dX11_ribLine_139 rfl ?_
      refine to_ior (q := 141) dX11_ribLine_140 rfl ?_
      refine to_iasj (q := 142) (h_144 hS) (by decide) (tn_60) dX11_ribLine_141 rfl ?_
      exact to_ext [(0, .ref 138)] (ext_cons rfl ext_nil) (kX11_ribLine_142 hS hf hI)
  · have hf := ite_neg h11 hf
    refine to_ifF (q := 119) (op := .eq) 120 h11 dX11_ribLine_116 rfl rfl ?_
    cases hf
    exact to_vret dX11_ribLine_119 rfl rfl rfl hI
def fX11_ribLine_64 (n : Nat) (k9 : Int32 → Int32 → Me → Option (Me)) (x1 : Int32) (x2 : Int32) (x3 : Int32) (m : Me) : Option (Me) := match n with
  | 0 => none
  | n + 1 => if (m.1 138 8) ≤ x3 then cl1 (fX11_next m) fun m21 => k9 x1 ((x2 + (1 : Int32))) m21 else ck (inb x3 8) (ck (inb ((((30 : Int32) * x2) + ((3 : Int32) * x1)) + x3) 62) (fX11_ribLine_64 n k9 x1 x2 ((x3 + (1 : Int32))) (setI m 144 ((((30 : Int32) * x2) + ((3 : Int32) * x1)) + x3).toNatClampNeg ((m.1 140 x3.toNatClampNeg) - (97 : Int32)))))
set_option maxRecDepth 20000 in
theorem kX11_ribLine_64 {S : Sh} (hS : ShOK S) {res : Me} {k9 : Int32 → Int32 → Me → Option (Me)} (hk9 : ∀ {x1 : Int32} {x2 : Int32} {m : Me}, k9 x1 x2 m = some res → Inv m → TT InvS (Call 8) mX11_ribLine (9, [(0, .ref 138), (1, .int x1), (2, .int x2)], [], S, m) none (S, res)) (n : Nat) : ∀ {x1 : Int32} {x2 : Int32} {x3 : Int32} {m : Me}, fX11_ribLine_64 n k9 x1 x2 x3 m = some res → Inv m → TT InvS (Call 8) mX11_ribLine (64, [(0, .ref 138), (1, .int x1), (2, .int x2), (3, .int x3)], [], S, m) none (S, res) := by
  induction n with
  | zero => intro x1 x2 x3 m hf; cases hf
  | succ n ih =>
    intro x1 x2 x3 m hf  hI
    unfold fX11_ribLine_64 at hf
    refine to_iload_n (q := 65) rfl dX11_ribLine_64 rfl ?_
    refine to_aload_n (q := 66) rfl (by decide) dX11_ribLine_65 rfl ?_
    refine to_getI (q := 69) (k0 := 11) (C := RX11) (T := TX11) (N := 37) (j := 8) rfl fx_X11_93 (h_138 hS) rfl dX11_ribLine_66 rfl ?_
    by_cases h18 : (m.1 138 8) ≤ x3
    · have hf := ite_pos h18 hf
      refine to_icT (q := 102) (op := .ge) h18 dX11_ribLine_69 rfl ?_
      refine to_aload_n (q := 103) rfl (by decide) dX11_ribLine_102 rfl ?_
      obtain ⟨m21, hc19, hf⟩ := cl1_some hf
      have qc20 := kX11_next hS hc19 hI
      refine to_virtV (q := 106) mX11_next [] dX11_ribLine_103 rfl rfl (Nat.le_of_ble_eq_true rfl) mo_X11_next mv_X11_130 (Or.inl ⟨_, _, _, h_138 hS, rfl, rfl⟩) (Call_mono (by decide) qc20.1) ?_
      have hI := qc20.2
      refine to_iinc (q := 109) (v := (x2 + (1 : Int32))) rfl (congrArg (fun z => x2 + z) ic_1) [(2, .int (x2 + (1 : Int32))), (0, .ref 138), (1, .int x1), (3, .int x3)] rfl (by decide) dX11_ribLine_106 rfl ?_
      refine to_goto (q := 9) dX11_ribLine_109 rfl ?_
      exact to_ext [(0, .ref 138), (1, .int x1), (2, .int (x2 + (1 : Int32)))] (ext_cons rfl (ext_cons rfl (ext_cons rfl ext_nil))) (hk9 hf hI)
    · have hf := ite_neg h18 hf
      refine to_icF (q := 72) (op := .ge) 102 h18 dX11_ribLine_69 rfl rfl ?_
      refine to_aload_n (q := 73) rfl (by decide) dX11_ribLine_72 rfl ?_
      refine to_getR (q := 76) (b := 144) (k0 := 11) (C := RX11) (T := TX11) (N := 37) (j := 18) rfl fx_X11_29 (h_138 hS) rfl (iv_138_18 hI) dX11_ribLine_73 rfl ?_
      refine to_bipush (q := 78) bp_30 dX11_ribLine_76 rfl ?_
      refine to_iload_n (q := 79) rfl dX11_ribLine_78 rfl ?_
      refine to_imul (q := 80) dX11_ribLine_79 rfl ?_
      refine to_iconst (q := 81) ic_3 dX11_ribLine_80 rfl ?_
      refine to_iload_n (q := 82) rfl dX11_ribLine_81 rfl ?_
      refine to_imul (q := 83) dX11_ribLine_82 rfl ?_
      refine to_iadd (q := 84) dX11_ribLine_83 rfl ?_
      refine to_iload_n (q := 85) rfl dX11_ribLine_84 rfl ?_
      refine to_iadd (q := 86) dX11_ribLine_85 rfl ?_
      refine to_aload_n (q := 87) rfl (by decide) dX11_ribLine_86 rfl ?_
      refine to_getR (q := 90) (b := 140) (k0 := 11) (C := RX11) (T := TX11) (N := 37) (j := 12) rfl fx_X11_17 (h_138 hS) rfl (iv_138_12 hI) dX11_ribLine_87 rfl ?_
      refine to_iload_n (q := 91) rfl dX11_ribLine_90 rfl ?_
      obtain ⟨hb22, hf⟩ := ck_some hf
      refine to_iaj (q := 92) (h_140 hS) hb22 (rfl) dX11_ribLine_91 rfl ?_
      refine to_bipush (q := 94) bp_97 dX11_ribLine_92 rfl ?_
      refine to_isub (q := 95) dX11_ribLine_94 rfl ?_
      obtain ⟨hb23, hf⟩ := ck_some hf
      refine to_iasj (q := 96) (h_144 hS) hb23 (rfl) dX11_ribLine_95 rfl ?_
      refine to_iinc (q := 99) (v := (x3 + (1 : Int32))) rfl (congrArg (fun z => x3 + z) ic_1) [(3, .int (x3 + (1 : Int32))), (0, .ref 138), (1, .int x1), (2, .int x2)] rfl (by decide) dX11_ribLine_96 rfl ?_
      refine to_goto (q := 64) dX11_ribLine_99 rfl ?_
      exact to_ext [(0, .ref 138), (1, .int x1), (2, .int x2), (3, .int (x3 + (1 : Int32)))] (ext_cons rfl (ext_cons rfl (ext_cons rfl (ext_cons rfl ext_nil)))) (ih hf hI)
def fX11_ribLine_54 (k9 : Int32 → Int32 → Me → Option (Me)) (x1 : Int32) (x2 : Int32) (m : Me) : Option (Me) := if (m.1 138 13) = (0 : Int32) then fX11_ribLine_64 FU k9 x1 x2 ((0 : Int32)) m else some m
set_option maxRecDepth 20000 in
theorem kX11_ribLine_54 {S : Sh} (hS : ShOK S) {res : Me} {k9 : Int32 → Int32 → Me → Option (Me)} (hk9 : ∀ {x1 : Int32} {x2 : Int32} {m : Me}, k9 x1 x2 m = some res → Inv m → TT InvS (Call 8) mX11_ribLine (9, [(0, .ref 138), (1, .int x1), (2, .int x2)], [], S, m) none (S, res)) {x1 : Int32} {x2 : Int32} {m : Me} (hf : fX11_ribLine_54 k9 x1 x2 m = some res) (hI : Inv m) : TT InvS (Call 8) mX11_ribLine (54, [(0, .ref 138), (1, .int x1), (2, .int x2)], [], S, m) none (S, res) := by
  unfold fX11_ribLine_54 at hf
  refine to_aload_n (q := 55) rfl (by decide) dX11_ribLine_54 rfl ?_
  refine to_getI (q := 58) (k0 := 11) (C := RX11) (T := TX11) (N := 37) (j := 13) rfl fx_X11_109 (h_138 hS) rfl dX11_ribLine_55 rfl ?_
  by_cases h17 : (m.1 138 13) = (0 : Int32)
  · have hf := ite_pos h17 hf
    refine to_ifT (q := 62) (op := .eq) h17 dX11_ribLine_58 rfl ?_
    refine to_iconst (q := 63) ic_0 dX11_ribLine_62 rfl ?_
    refine to_istore_n (q := 64) [(3, .int (0 : Int32)), (0, .ref 138), (1, .int x1), (2, .int x2)] rfl (by decide) dX11_ribLine_63 rfl ?_
    exact to_ext [(0, .ref 138), (1, .int x1), (2, .int x2), (3, .int (0 : Int32))] (ext_cons rfl (ext_cons rfl (ext_cons rfl (ext_cons rfl ext_nil)))) (kX11_ribLine_64 hS hk9 FU hf hI)
  · have hf := ite_neg h17 hf
    refine to_ifF (q := 61) (op := .eq) 62 h17 dX11_ribLine_58 rfl rfl ?_
    cases hf
    exact to_vret dX11_ribLine_61 rfl rfl rfl hI
def fX11_ribLine_9 (n : Nat) (x1 : Int32) (x2 : Int32) (m : Me) : Option (Me) := match n with
  | 0 => none
  | n + 1 => if (2 : Int32) ≤ x2 then fX11_ribLine_112 x1 m else if (m.1 138 13) = (0 : Int32) then cl1 (fX11_mustWord m) fun m5 => if (m5.1 138 13) = (0 : Int32) then if (m5.1 138 8) = (m5.1 142 1) then fX11_ribLine_54 (fX11_ribLine_9 n) x1 x2 m5 else cl1 (fX11_wrong (4 : Int32) (m5.1 138 4) m5) fun m10 => fX11_ribLine_54 (fX11_ribLine_9 n) x1 x2 m10 else fX11_ribLine_54 (fX11_ribLine_9 n) x1 x2 m5 else fX11_ribLine_112 x1 m
set_option maxRecDepth 20000 in
theorem kX11_ribLine_9 {S : Sh} (hS : ShOK S) {res : Me} (n : Nat) : ∀ {x1 : Int32} {x2 : Int32} {m : Me}, fX11_ribLine_9 n x1 x2 m = some res → Inv m → TT InvS (Call 8) mX11_ribLine (9, [(0, .ref 138), (1, .int x1), (2, .int x2)], [], S, m) none (S, res) := by
  induction n with
  | zero => intro x1 x2 m hf; cases hf
  | succ n ih =>
    intro x1 x2 m hf  hI
    unfold fX11_ribLine_9 at hf
    refine to_iload_n (q := 10) rfl dX11_ribLine_9 rfl ?_
    refine to_iconst (q := 11) ic_2 dX11_ribLine_10 rfl ?_
    by_cases h1 : (2 : Int32) ≤ x2
    · have hf := ite_pos h1 hf
      refine to_icT (q := 112) (op := .ge) h1 dX11_ribLine_11 rfl ?_
      exact to_ext [(0, .ref 138), (1, .int x1)] (ext_cons rfl (ext_cons rfl ext_nil)) (kX11_ribLine_112 hS hf hI)
    · have hf := ite_neg h1 hf
      refine to_icF (q := 14) (op := .ge) 112 h1 dX11_ribLine_11 rfl rfl ?_
      refine to_aload_n (q := 15) rfl (by decide) dX11_ribLine_14 rfl ?_
      refine to_getI (q := 18) (k0 := 11) (C := RX11) (T := TX11) (N := 37) (j := 13) rfl fx_X11_109 (h_138 hS) rfl dX11_ribLine_15 rfl ?_
      by_cases h2 : (m.1 138 13) = (0 : Int32)
      · have hf := ite_pos h2 hf
        refine to_ifF (q := 21) (op := .ne) 112 (fun z => z h2) dX11_ribLine_18 rfl rfl ?_
        refine to_aload_n (q := 22) rfl (by decide) dX11_ribLine_21 rfl ?_
        obtain ⟨m5, hc3, hf⟩ := cl1_some hf
        have qc4 := kX11_mustWord hS hc3 hI
        refine to_virtV (q := 25) mX11_mustWord [] dX11_ribLine_22 rfl rfl (Nat.le_of_ble_eq_true rfl) mo_X11_mustWord mv_X11_232 (Or.inl ⟨_, _, _, h_138 hS, rfl, rfl⟩) (Call_mono (by decide) qc4.1) ?_
        have hI := qc4.2
        refine to_aload_n (q := 26) rfl (by decide) dX11_ribLine_25 rfl ?_
        refine to_getI (q := 29) (k0 := 11) (C := RX11) (T := TX11) (N := 37) (j := 13) rfl fx_X11_109 (h_138 hS) rfl dX11_ribLine_26 rfl ?_
        by_cases h6 : (m5.1 138 13) = (0 : Int32)
        · have hf := ite_pos h6 hf
          refine to_ifF (q := 32) (op := .ne) 54 (fun z => z h6) dX11_ribLine_29 rfl rfl ?_
          refine to_aload_n (q := 33) rfl (by decide) dX11_ribLine_32 rfl ?_
          refine to_getI (q := 36) (k0 := 11) (C := RX11) (T := TX11) (N := 37) (j := 8) rfl fx_X11_93 (h_138 hS) rfl dX11_ribLine_33 rfl ?_
          refine to_aload_n (q := 37) rfl (by decide) dX11_ribLine_36 rfl ?_
          refine to_getR (q := 40) (b := 142) (k0 := 11) (C := RX11) (T := TX11) (N := 37) (j := 16) rfl fx_X11_23 (h_138 hS) rfl (iv_138_16 hI) dX11_ribLine_37 rfl ?_
          refine to_iconst (q := 41) ic_1 dX11_ribLine_40 rfl ?_
          refine to_iaj (q := 42) (h_142 hS) (by decide) (tn_1) dX11_ribLine_41 rfl ?_
          by_cases h7 : (m5.1 138 8) = (m5.1 142 1)
          · have hf := ite_pos h7 hf
            refine to_icT (q := 54) (op := .eq) h7 dX11_ribLine_42 rfl ?_
            exact to_ext [(0, .ref 138), (1, .int x1), (2, .int x2)] (ext_cons rfl (ext_cons rfl (ext_cons rfl ext_nil))) (kX11_ribLine_54 hS ih hf hI)
          · have hf := ite_neg h7 hf
            refine to_icF (q := 45) (op := .eq) 54 h7 dX11_ribLine_42 rfl rfl ?_
            refine to_aload_n (q := 46) rfl (by decide) dX11_ribLine_45 rfl ?_
            refine to_iconst (q := 47) ic_4 dX11_ribLine_46 rfl ?_
            refine to_aload_n (q := 48) rfl (by decide) dX11_ribLine_47 rfl ?_
            refine to_getI (q := 51) (k0 := 11) (C := RX11) (T := TX11) (N := 37) (j := 4) rfl fx_X11_90 (h_138 hS) rfl dX11_ribLine_48 rfl ?_
            obtain ⟨m10, hc8, hf⟩ := cl1_some hf
            have qc9 := kX11_wrong hS hc8 hI
            refine to_virtV (q := 54) mX11_wrong [.int (4 : Int32), .int (m5.1 138 4)] dX11_ribLine_51 rfl rfl (Nat.le_of_ble_eq_true rfl) mo_X11_wrong mv_X11_136 (Or.inl ⟨_, _, _, h_138 hS, rfl, rfl⟩) (Call_mono (by decide) qc9.1) ?_
            have hI := qc9.2
            exact to_ext [(0, .ref 138), (1, .int x1), (2, .int x2)] (ext_cons rfl (ext_cons rfl (ext_cons rfl ext_nil))) (kX11_ribLine_54 hS ih hf hI)
        · have hf := ite_neg h6 hf
          refine to_ifT (q := 54) (op := .ne) h6 dX11_ribLine_29 rfl ?_
          exact to_ext [(0, .ref 138), (1, .int x1), (2, .int x2)] (ext_cons rfl (ext_cons rfl (ext_cons rfl ext_nil))) (kX11_ribLine_54 hS ih hf hI)
      · have hf := ite_neg h2 hf
        refine to_ifT (q := 112) (op := .ne) h2 dX11_ribLine_18 rfl ?_
        exact to_ext [(0, .ref 138), (1, .int x1)] (ext_cons rfl (ext_cons rfl ext_nil)) (kX11_ribLine_112 hS hf hI)
def fX11_ribLine (m : Me) : Option (Me) := fX11_ribLine_9 FU ((m.1 142 4)) ((0 : Int32)) m
set_option maxRecDepth 20000 in
theorem kX11_ribLine {S : Sh} (hS : ShOK S) {res : Me} {m : Me} (hf : fX11_ribLine m = some res) (hI : Inv m) : Call 9 mX11_ribLine [.ref 138] (S, m) none (S, res) ∧ Inv res := by
  refine call_of (P := InvS) (Nat.le_of_ble_eq_true rfl) (by simp [Value.category]) ?_
  show TT InvS (Call 8) mX11_ribLine (0, [(0, .ref 138)], [], S, m) _ _
  unfold fX11_ribLine at hf
  refine to_aload_n (q := 1) rfl (by decide) dX11_ribLine_0 rfl ?_
  refine to_getR (q := 4) (b := 142) (k0 := 11) (C := RX11) (T := TX11) (N := 37) (j := 16) rfl fx_X11_23 (h_138 hS) rfl (iv_138_16 hI) dX11_ribLine_1 rfl ?_
  refine to_iconst (q := 5) ic_4 dX11_ribLine_4 rfl ?_
  refine to_iaj (q := 6) (h_142 hS) (by decide) (tn_4) dX11_ribLine_5 rfl ?_
  refine to_istore_n (q := 7) [(1, .int (m.1 142 4)), (0, .ref 138)] rfl (by decide) dX11_ribLine_6 rfl ?_
  refine to_iconst (q := 8) ic_0 dX11_ribLine_7 rfl ?_
  refine to_istore_n (q := 9) [(2, .int (0 : Int32)), (1, .int (m.1 142 4)), (0, .ref 138)] rfl (by decide) dX11_ribLine_8 rfl ?_
  exact to_ext [(0, .ref 138), (1, .int (m.1 142 4)), (2, .int (0 : Int32))] (ext_cons rfl (ext_cons rfl (ext_cons rfl ext_nil))) (kX11_ribLine_9 hS FU hf hI)
def fX11_keepWord_20 (n : Nat) (x1 : Int32) (x2 : Int32) (x3 : Int32) (m : Me) : Option (Int32 × Me) := match n with
  | 0 => none
  | n + 1 => if x2 ≤ x3 then cl1 (fX11_next m) fun m8 => some (x2, m8) else ck (inb x3 8) (ck (inb (x1 + x3) 186) (fX11_keepWord_20 n x1 x2 ((x3 + (1 : Int32))) (setI m 142 (x1 + x3).toNatClampNeg ((m.1 140 x3.toNatClampNeg) - (97 : Int32)))))
set_option maxRecDepth 20000 in
theorem kX11_keepWord_20 {S : Sh} (hS : ShOK S) {res : Int32 × Me} (n : Nat) : ∀ {x1 : Int32} {x2 : Int32} {x3 : Int32} {m : Me}, fX11_keepWord_20 n x1 x2 x3 m = some res → Inv m → TT InvS (Call 2) mX11_keepWord (20, [(0, .ref 138), (1, .int x1), (2, .int x2), (3, .int x3)], [], S, m) (some (.int res.1)) (S, res.2) := by
  induction n with
  | zero => intro x1 x2 x3 m hf; cases hf
  | succ n ih =>
    intro x1 x2 x3 m hf  hI
    unfold fX11_keepWord_20 at hf
    refine to_iload_n (q := 21) rfl dX11_keepWord_20 rfl ?_
    refine to_iload_n (q := 22) rfl dX11_keepWord_21 rfl ?_
    by_cases h5 : x2 ≤ x3
    · have hf := ite_pos h5 hf
      refine to_icT (q := 48) (op := .ge) h5 dX11_keepWord_22 rfl ?_
      refine to_aload_n (q := 49) rfl (by decide) dX11_keepWord_48 rfl ?_
      obtain ⟨m8, hc6, hf⟩ := cl1_some hf
      have qc7 := kX11_next hS hc6 hI
      refine to_virtV (q := 52) mX11_next [] dX11_keepWord_49 rfl rfl (Nat.le_of_ble_eq_true rfl) mo_X11_next mv_X11_130 (Or.inl ⟨_, _, _, h_138 hS, rfl, rfl⟩) (Call_mono (by decide) qc7.1) ?_
      have hI := qc7.2
      refine to_iload_n (q := 53) rfl dX11_keepWord_52 rfl ?_
      cases hf
      exact to_iret dX11_keepWord_53 rfl rfl rfl rfl hI
    · have hf := ite_neg h5 hf
      refine to_icF (q := 25) (op := .ge) 48 h5 dX11_keepWord_22 rfl rfl ?_
      refine to_aload_n (q := 26) rfl (by decide) dX11_keepWord_25 rfl ?_
      refine to_getR (q := 29) (b := 142) (k0 := 11) (C := RX11) (T := TX11) (N := 37) (j := 16) rfl fx_X11_23 (h_138 hS) rfl (iv_138_16 hI) dX11_keepWord_26 rfl ?_
      refine to_iload_n (q := 30) rfl dX11_keepWord_29 rfl ?_
      refine to_iload_n (q := 31) rfl dX11_keepWord_30 rfl ?_
      refine to_iadd (q := 32) dX11_keepWord_31 rfl ?_
      refine to_aload_n (q := 33) rfl (by decide) dX11_keepWord_32 rfl ?_
      refine to_getR (q := 36) (b := 140) (k0 := 11) (C := RX11) (T := TX11) (N := 37) (j := 12) rfl fx_X11_17 (h_138 hS) rfl (iv_138_12 hI) dX11_keepWord_33 rfl ?_
      refine to_iload_n (q := 37) rfl dX11_keepWord_36 rfl ?_
      obtain ⟨hb9, hf⟩ := ck_some hf
      refine to_iaj (q := 38) (h_140 hS) hb9 (rfl) dX11_keepWord_37 rfl ?_
      refine to_bipush (q := 40) bp_97 dX11_keepWord_38 rfl ?_
      refine to_isub (q := 41) dX11_keepWord_40 rfl ?_
      obtain ⟨hb10, hf⟩ := ck_some hf
      refine to_iasj (q := 42) (h_142 hS) hb10 (rfl) dX11_keepWord_41 rfl ?_
      refine to_iinc (q := 45) (v := (x3 + (1 : Int32))) rfl (congrArg (fun z => x3 + z) ic_1) [(3, .int (x3 + (1 : Int32))), (0, .ref 138), (1, .int x1), (2, .int x2)] rfl (by decide) dX11_keepWord_42 rfl ?_
      refine to_goto (q := 20) dX11_keepWord_45 rfl ?_
      exact to_ext [(0, .ref 138), (1, .int x1), (2, .int x2), (3, .int (x3 + (1 : Int32)))] (ext_cons rfl (ext_cons rfl (ext_cons rfl (ext_cons rfl ext_nil)))) (ih hf hI)
def fX11_keepWord (x1 : Int32) (m : Me) : Option (Int32 × Me) := cl1 (fX11_mustWord m) fun m3 => if (m3.1 138 13) = (0 : Int32) then fX11_keepWord_20 FU x1 ((m3.1 138 8)) ((0 : Int32)) m3 else some ((0 : Int32), m3)
set_option maxRecDepth 20000 in
theorem kX11_keepWord {S : Sh} (hS : ShOK S) {res : Int32 × Me} {x1 : Int32} {m : Me} (hf : fX11_keepWord x1 m = some res) (hI : Inv m) : Call 3 mX11_keepWord [.ref 138, .int x1] (S, m) (some (.int res.1)) (S, res.2) ∧ Inv res.2 := by
  refine call_of (P := InvS) (Nat.le_of_ble_eq_true rfl) (by simp [Value.category]) ?_
  show TT InvS (Call 2) mX11_keepWord (0, [(0, .ref 138), (1, .int x1)], [], S, m) _ _
  unfold fX11_keepWord at hf
  refine to_aload_n (q := 1) rfl (by decide) dX11_keepWord_0 rfl ?_
  obtain ⟨m3, hc1, hf⟩ := cl1_some hf
  have qc2 := kX11_mustWord hS hc1 hI
  refine to_virtV (q := 4) mX11_mustWord [] dX11_keepWord_1 rfl rfl (Nat.le_of_ble_eq_true rfl) mo_X11_mustWord mv_X11_232 (Or.inl ⟨_, _, _, h_138 hS, rfl, rfl⟩) (Call_mono (by decide) qc2.1) ?_
  have hI := qc2.2
  refine to_aload_n (q := 5) rfl (by decide) dX11_keepWord_4 rfl ?_
  refine to_getI (q := 8) (k0 := 11) (C := RX11) (T := TX11) (N := 37) (j := 13) rfl fx_X11_109 (h_138 hS) rfl dX11_keepWord_5 rfl ?_
  by_cases h4 : (m3.1 138 13) = (0 : Int32)
  · have hf := ite_pos h4 hf
    refine to_ifT (q := 13) (op := .eq) h4 dX11_keepWord_8 rfl ?_
    refine to_aload_n (q := 14) rfl (by decide) dX11_keepWord_13 rfl ?_
    refine to_getI (q := 17) (k0 := 11) (C := RX11) (T := TX11) (N := 37) (j := 8) rfl fx_X11_93 (h_138 hS) rfl dX11_keepWord_14 rfl ?_
    refine to_istore_n (q := 18) [(2, .int (m3.1 138 8)), (0, .ref 138), (1, .int x1)] rfl (by decide) dX11_keepWord_17 rfl ?_
    refine to_iconst (q := 19) ic_0 dX11_keepWord_18 rfl ?_
    refine to_istore_n (q := 20) [(3, .int (0 : Int32)), (2, .int (m3.1 138 8)), (0, .ref 138), (1, .int x1)] rfl (by decide) dX11_keepWord_19 rfl ?_
    exact to_ext [(0, .ref 138), (1, .int x1), (2, .int (m3.1 138 8)), (3, .int (0 : Int32))] (ext_cons rfl (ext_cons rfl (ext_cons rfl (ext_cons rfl ext_nil)))) (kX11_keepWord_20 hS FU hf hI)
  · have hf := ite_neg h4 hf
    refine to_ifF (q := 11) (op := .eq) 13 h4 dX11_keepWord_8 rfl rfl ?_
    refine to_iconst (q := 12) ic_0 dX11_keepWord_11 rfl ?_
    cases hf
    exact to_iret dX11_keepWord_12 rfl rfl rfl rfl hI
def fX11_wordLine_130 (x1 : Int32) (m : Me) : Option (Me) := if (m.1 138 13) = (0 : Int32) then cl2 (fX11_keepWord (((16 : Int32) + ((8 : Int32) * x1))) m) fun r12 m13 => ck (inb ((10 : Int32) + x1) 186) (some (setI (setI m13 142 ((10 : Int32) + x1).toNatClampNeg r12) 142 5 (((setI m13 142 ((10 : Int32) + x1).toNatClampNeg r12).1 142 5) + (1 : Int32)))) else some m
set_option maxRecDepth 20000 in
theorem kX11_wordLine_130 {S : Sh} (hS : ShOK S) {res : Me} {x1 : Int32} {m : Me} (hf : fX11_wordLine_130 x1 m = some res) (hI : Inv m) : TT InvS (Call 3) mX11_wordLine (130, [(0, .ref 138), (1, .int x1)], [], S, m) none (S, res) := by
  unfold fX11_wordLine_130 at hf
  refine to_aload_n (q := 131) rfl (by decide) dX11_wordLine_130 rfl ?_
  refine to_getI (q := 134) (k0 := 11) (C := RX11) (T := TX11) (N := 37) (j := 13) rfl fx_X11_109 (h_138 hS) rfl dX11_wordLine_131 rfl ?_
  by_cases h9 : (m.1 138 13) = (0 : Int32)
  · have hf := ite_pos h9 hf
    refine to_ifT (q := 138) (op := .eq) h9 dX11_wordLine_134 rfl ?_
    refine to_aload_n (q := 139) rfl (by decide) dX11_wordLine_138 rfl ?_
    refine to_getR (q := 142) (b := 142) (k0 := 11) (C := RX11) (T := TX11) (N := 37) (j := 16) rfl fx_X11_23 (h_138 hS) rfl (iv_138_16 hI) dX11_wordLine_139 rfl ?_
    refine to_bipush (q := 144) bp_10 dX11_wordLine_142 rfl ?_
    refine to_iload_n (q := 145) rfl dX11_wordLine_144 rfl ?_
    refine to_iadd (q := 146) dX11_wordLine_145 rfl ?_
    refine to_aload_n (q := 147) rfl (by decide) dX11_wordLine_146 rfl ?_
    refine to_bipush (q := 149) bp_16 dX11_wordLine_147 rfl ?_
    refine to_bipush (q := 151) bp_8 dX11_wordLine_149 rfl ?_
    refine to_iload_n (q := 152) rfl dX11_wordLine_151 rfl ?_
    refine to_imul (q := 153) dX11_wordLine_152 rfl ?_
    refine to_iadd (q := 154) dX11_wordLine_153 rfl ?_
    obtain ⟨r12, m13, hc10, hf⟩ := cl2_some hf
    have qc11 := kX11_keepWord hS hc10 hI
    refine to_virtI (q := 157) mX11_keepWord [.int ((16 : Int32) + ((8 : Int32) * x1))] dX11_wordLine_154 rfl rfl (Nat.le_of_ble_eq_true rfl) mo_X11_keepWord mv_X11_237 (Or.inl ⟨_, _, _, h_138 hS, rfl, rfl⟩) (Call_mono (by decide) qc11.1) ?_
    have hI := qc11.2
    obtain ⟨hb14, hf⟩ := ck_some hf
    refine to_iasj (q := 158) (h_142 hS) hb14 (rfl) dX11_wordLine_157 rfl ?_
    refine to_aload_n (q := 159) rfl (by decide) dX11_wordLine_158 rfl ?_
    refine to_getR (q := 162) (b := 142) (k0 := 11) (C := RX11) (T := TX11) (N := 37) (j := 16) rfl fx_X11_23 (h_138 hS) rfl (iv_138_16 hI) dX11_wordLine_159 rfl ?_
    refine to_iconst (q := 163) ic_5 dX11_wordLine_162 rfl ?_
    refine to_dup2 (q := 164) rfl rfl dX11_wordLine_163 rfl ?_
    refine to_iaj (q := 165) (h_142 hS) (by decide) (tn_5) dX11_wordLine_164 rfl ?_
    refine to_iconst (q := 166) ic_1 dX11_wordLine_165 rfl ?_
    refine to_iadd (q := 167) dX11_wordLine_166 rfl ?_
    refine to_iasj (q := 168) (h_142 hS) (by decide) (tn_5) dX11_wordLine_167 rfl ?_
    cases hf
    exact to_vret dX11_wordLine_168 rfl rfl rfl hI
  · have hf := ite_neg h9 hf
    refine to_ifF (q := 137) (op := .eq) 138 h9 dX11_wordLine_134 rfl rfl ?_
    cases hf
    exact to_vret dX11_wordLine_137 rfl rfl rfl hI
def fX11_wordLine_124 (k21 : Int32 → Int32 → Me → Option (Me)) (x1 : Int32) (x2 : Int32) (m : Me) : Option (Me) := k21 x1 ((x2 + (1 : Int32))) m
set_option maxRecDepth 20000 in
theorem kX11_wordLine_124 {S : Sh} (hS : ShOK S) {res : Me} {k21 : Int32 → Int32 → Me → Option (Me)} (hk21 : ∀ {x1 : Int32} {x2 : Int32} {m : Me}, k21 x1 x2 m = some res → Inv m → TT InvS (Call 3) mX11_wordLine (21, [(0, .ref 138), (1, .int x1), (2, .int x2)], [], S, m) none (S, res)) {x1 : Int32} {x2 : Int32} {m : Me} (hf : fX11_wordLine_124 k21 x1 x2 m = some res) (hI : Inv m) : TT InvS (Call 3) mX11_wordLine (124, [(0, .ref 138), (1, .int x1), (2, .int x2)], [], S, m) none (S, res) := by
  unfold fX11_wordLine_124 at hf
  refine to_iinc (q := 127) (v := (x2 + (1 : Int32))) rfl (congrArg (fun z => x2 + z) ic_1) [(2, .int (x2 + (1 : Int32))), (0, .ref 138), (1, .int x1)] rfl (by decide) dX11_wordLine_124 rfl ?_
  refine to_goto (q := 21) dX11_wordLine_127 rfl ?_
  exact to_ext [(0, .ref 138), (1, .int x1), (2, .int (x2 + (1 : Int32)))] (ext_cons rfl (ext_cons rfl (ext_cons rfl ext_nil))) (hk21 hf hI)
def fX11_wordLine_111 (k21 : Int32 → Int32 → Me → Option (Me)) (x1 : Int32) (x2 : Int32) (x3 : Int32) (m : Me) : Option (Me) := if x3 = (0 : Int32) then fX11_wordLine_124 k21 x1 x2 m else cl1 (fX11_wrong (3 : Int32) (m.1 138 4) m) fun m23 => fX11_wordLine_124 k21 x1 x2 m23
set_option maxRecDepth 20000 in
theorem kX11_wordLine_111 {S : Sh} (hS : ShOK S) {res : Me} {k21 : Int32 → Int32 → Me → Option (Me)} (hk21 : ∀ {x1 : Int32} {x2 : Int32} {m : Me}, k21 x1 x2 m = some res → Inv m → TT InvS (Call 3) mX11_wordLine (21, [(0, .ref 138), (1, .int x1), (2, .int x2)], [], S, m) none (S, res)) {x1 : Int32} {x2 : Int32} {x3 : Int32} {m : Me} (hf : fX11_wordLine_111 k21 x1 x2 x3 m = some res) (hI : Inv m) : TT InvS (Call 3) mX11_wordLine (111, [(0, .ref 138), (1, .int x1), (2, .int x2), (3, .int x3)], [], S, m) none (S, res) := by
  unfold fX11_wordLine_111 at hf
  refine to_iload_n (q := 112) rfl dX11_wordLine_111 rfl ?_
  by_cases h20 : x3 = (0 : Int32)
  · have hf := ite_pos h20 hf
    refine to_ifT (q := 124) (op := .eq) h20 dX11_wordLine_112 rfl ?_
    exact to_ext [(0, .ref 138), (1, .int x1), (2, .int x2)] (ext_cons rfl (ext_cons rfl (ext_cons rfl ext_nil))) (kX11_wordLine_124 hS hk21 hf hI)
  · have hf := ite_neg h20 hf
    refine to_ifF (q := 115) (op := .eq) 124 h20 dX11_wordLine_112 rfl rfl ?_
    refine to_aload_n (q := 116) rfl (by decide) dX11_wordLine_115 rfl ?_
    refine to_iconst (q := 117) ic_3 dX11_wordLine_116 rfl ?_
    refine to_aload_n (q := 118) rfl (by decide) dX11_wordLine_117 rfl ?_
    refine to_getI (q := 121) (k0 := 11) (C := RX11) (T := TX11) (N := 37) (j := 4) rfl fx_X11_90 (h_138 hS) rfl dX11_wordLine_118 rfl ?_
    obtain ⟨m23, hc21, hf⟩ := cl1_some hf
    have qc22 := kX11_wrong hS hc21 hI
    refine to_virtV (q := 124) mX11_wrong [.int (3 : Int32), .int (m.1 138 4)] dX11_wordLine_121 rfl rfl (Nat.le_of_ble_eq_true rfl) mo_X11_wrong mv_X11_136 (Or.inl ⟨_, _, _, h_138 hS, rfl, rfl⟩) (Call_mono (by decide) qc22.1) ?_
    have hI := qc22.2
    exact to_ext [(0, .ref 138), (1, .int x1), (2, .int x2)] (ext_cons rfl (ext_cons rfl (ext_cons rfl ext_nil))) (kX11_wordLine_124 hS hk21 hf hI)
def fX11_wordLine_104 (k21 : Int32 → Int32 → Me → Option (Me)) (k58 : Int32 → Int32 → Int32 → Int32 → Me → Option (Me)) (x1 : Int32) (x2 : Int32) (x4 : Int32) (t0 : Int32) (m : Me) : Option (Me) := k58 x1 x2 t0 ((x4 + (1 : Int32))) m
set_option maxRecDepth 20000 in
theorem kX11_wordLine_104 {S : Sh} (hS : ShOK S) {res : Me} {k21 : Int32 → Int32 → Me → Option (Me)} (hk21 : ∀ {x1 : Int32} {x2 : Int32} {m : Me}, k21 x1 x2 m = some res → Inv m → TT InvS (Call 3) mX11_wordLine (21, [(0, .ref 138), (1, .int x1), (2, .int x2)], [], S, m) none (S, res)) {k58 : Int32 → Int32 → Int32 → Int32 → Me → Option (Me)} (hk58 : ∀ {x1 : Int32} {x2 : Int32} {x3 : Int32} {x4 : Int32} {m : Me}, k58 x1 x2 x3 x4 m = some res → Inv m → TT InvS (Call 3) mX11_wordLine (58, [(0, .ref 138), (1, .int x1), (2, .int x2), (3, .int x3), (4, .int x4)], [], S, m) none (S, res)) {x1 : Int32} {x2 : Int32} {x4 : Int32} {t0 : Int32} {m : Me} (hf : fX11_wordLine_104 k21 k58 x1 x2 x4 t0 m = some res) (hI : Inv m) : TT InvS (Call 3) mX11_wordLine (104, [(0, .ref 138), (1, .int x1), (2, .int x2), (4, .int x4)], [.int t0], S, m) none (S, res) := by
  unfold fX11_wordLine_104 at hf
  refine to_istore_n (q := 105) [(3, .int t0), (0, .ref 138), (1, .int x1), (2, .int x2), (4, .int x4)] rfl (by decide) dX11_wordLine_104 rfl ?_
  refine to_iinc (q := 108) (v := (x4 + (1 : Int32))) rfl (congrArg (fun z => x4 + z) ic_1) [(4, .int (x4 + (1 : Int32))), (3, .int t0), (0, .ref 138), (1, .int x1), (2, .int x2)] rfl (by decide) dX11_wordLine_105 rfl ?_
  refine to_goto (q := 58) dX11_wordLine_108 rfl ?_
  exact to_ext [(0, .ref 138), (1, .int x1), (2, .int x2), (3, .int t0), (4, .int (x4 + (1 : Int32)))] (ext_cons rfl (ext_cons rfl (ext_cons rfl (ext_cons rfl (ext_cons rfl ext_nil))))) (hk58 hf hI)
def fX11_wordLine_58 (n : Nat) (k21 : Int32 → Int32 → Me → Option (Me)) (x1 : Int32) (x2 : Int32) (x3 : Int32) (x4 : Int32) (m : Me) : Option (Me) := match n with
  | 0 => none
  | n + 1 => if (m.1 138 8) ≤ x4 then fX11_wordLine_111 k21 x1 x2 x3 m else if x3 = (0 : Int32) then fX11_wordLine_111 k21 x1 x2 x3 m else ck (inb (((16 : Int32) + ((8 : Int32) * x2)) + x4) 186) (ck (inb x4 8) (if (m.1 142 (((16 : Int32) + ((8 : Int32) * x2)) + x4).toNatClampNeg) = ((m.1 140 x4.toNatClampNeg) - (97 : Int32)) then fX11_wordLine_104 k21 (fX11_wordLine_58 n k21) x1 x2 x4 ((1 : Int32)) m else fX11_wordLine_104 k21 (fX11_wordLine_58 n k21) x1 x2 x4 ((0 : Int32)) m))
set_option maxRecDepth 20000 in
theorem kX11_wordLine_58 {S : Sh} (hS : ShOK S) {res : Me} {k21 : Int32 → Int32 → Me → Option (Me)} (hk21 : ∀ {x1 : Int32} {x2 : Int32} {m : Me}, k21 x1 x2 m = some res → Inv m → TT InvS (Call 3) mX11_wordLine (21, [(0, .ref 138), (1, .int x1), (2, .int x2)], [], S, m) none (S, res)) (n : Nat) : ∀ {x1 : Int32} {x2 : Int32} {x3 : Int32} {x4 : Int32} {m : Me}, fX11_wordLine_58 n k21 x1 x2 x3 x4 m = some res → Inv m → TT InvS (Call 3) mX11_wordLine (58, [(0, .ref 138), (1, .int x1), (2, .int x2), (3, .int x3), (4, .int x4)], [], S, m) none (S, res) := by
  induction n with
  | zero => intro x1 x2 x3 x4 m hf; cases hf
  | succ n ih =>
    intro x1 x2 x3 x4 m hf  hI
    unfold fX11_wordLine_58 at hf
    refine to_iload (q := 60) rfl dX11_wordLine_58 rfl ?_
    refine to_aload_n (q := 61) rfl (by decide) dX11_wordLine_60 rfl ?_
    refine to_getI (q := 64) (k0 := 11) (C := RX11) (T := TX11) (N := 37) (j := 8) rfl fx_X11_93 (h_138 hS) rfl dX11_wordLine_61 rfl ?_
    by_cases h15 : (m.1 138 8) ≤ x4
    · have hf := ite_pos h15 hf
      refine to_icT (q := 111) (op := .ge) h15 dX11_wordLine_64 rfl ?_
      exact to_ext [(0, .ref 138), (1, .int x1), (2, .int x2), (3, .int x3)] (ext_cons rfl (ext_cons rfl (ext_cons rfl (ext_cons rfl ext_nil)))) (kX11_wordLine_111 hS hk21 hf hI)
    · have hf := ite_neg h15 hf
      refine to_icF (q := 67) (op := .ge) 111 h15 dX11_wordLine_64 rfl rfl ?_
      refine to_iload_n (q := 68) rfl dX11_wordLine_67 rfl ?_
      by_cases h16 : x3 = (0 : Int32)
      · have hf := ite_pos h16 hf
        refine to_ifT (q := 111) (op := .eq) h16 dX11_wordLine_68 rfl ?_
        exact to_ext [(0, .ref 138), (1, .int x1), (2, .int x2), (3, .int x3)] (ext_cons rfl (ext_cons rfl (ext_cons rfl (ext_cons rfl ext_nil)))) (kX11_wordLine_111 hS hk21 hf hI)
      · have hf := ite_neg h16 hf
        refine to_ifF (q := 71) (op := .eq) 111 h16 dX11_wordLine_68 rfl rfl ?_
        refine to_aload_n (q := 72) rfl (by decide) dX11_wordLine_71 rfl ?_
        refine to_getR (q := 75) (b := 142) (k0 := 11) (C := RX11) (T := TX11) (N := 37) (j := 16) rfl fx_X11_23 (h_138 hS) rfl (iv_138_16 hI) dX11_wordLine_72 rfl ?_
        refine to_bipush (q := 77) bp_16 dX11_wordLine_75 rfl ?_
        refine to_bipush (q := 79) bp_8 dX11_wordLine_77 rfl ?_
        refine to_iload_n (q := 80) rfl dX11_wordLine_79 rfl ?_
        refine to_imul (q := 81) dX11_wordLine_80 rfl ?_
        refine to_iadd (q := 82) dX11_wordLine_81 rfl ?_
        refine to_iload (q := 84) rfl dX11_wordLine_82 rfl ?_
        refine to_iadd (q := 85) dX11_wordLine_84 rfl ?_
        obtain ⟨hb17, hf⟩ := ck_some hf
        refine to_iaj (q := 86) (h_142 hS) hb17 (rfl) dX11_wordLine_85 rfl ?_
        refine to_aload_n (q := 87) rfl (by decide) dX11_wordLine_86 rfl ?_
        refine to_getR (q := 90) (b := 140) (k0 := 11) (C := RX11) (T := TX11) (N := 37) (j := 12) rfl fx_X11_17 (h_138 hS) rfl (iv_138_12 hI) dX11_wordLine_87 rfl ?_
        refine to_iload (q := 92) rfl dX11_wordLine_90 rfl ?_
        obtain ⟨hb18, hf⟩ := ck_some hf
        refine to_iaj (q := 93) (h_140 hS) hb18 (rfl) dX11_wordLine_92 rfl ?_
        refine to_bipush (q := 95) bp_97 dX11_wordLine_93 rfl ?_
        refine to_isub (q := 96) dX11_wordLine_95 rfl ?_
        by_cases h19 : (m.1 142 (((16 : Int32) + ((8 : Int32) * x2)) + x4).toNatClampNeg) = ((m.1 140 x4.toNatClampNeg) - (97 : Int32))
        · have hf := ite_pos h19 hf
          refine to_icF (q := 99) (op := .ne) 103 (fun z => z h19) dX11_wordLine_96 rfl rfl ?_
          refine to_iconst (q := 100) ic_1 dX11_wordLine_99 rfl ?_
          refine to_goto (q := 104) dX11_wordLine_100 rfl ?_
          exact to_ext [(0, .ref 138), (1, .int x1), (2, .int x2), (4, .int x4)] (ext_cons rfl (ext_cons rfl (ext_cons rfl (ext_cons rfl ext_nil)))) (kX11_wordLine_104 hS hk21 ih hf hI)
        · have hf := ite_neg h19 hf
          refine to_icT (q := 103) (op := .ne) h19 dX11_wordLine_96 rfl ?_
          refine to_iconst (q := 104) ic_0 dX11_wordLine_103 rfl ?_
          exact to_ext [(0, .ref 138), (1, .int x1), (2, .int x2), (4, .int x4)] (ext_cons rfl (ext_cons rfl (ext_cons rfl (ext_cons rfl ext_nil)))) (kX11_wordLine_104 hS hk21 ih hf hI)
def fX11_wordLine_54 (k21 : Int32 → Int32 → Me → Option (Me)) (x1 : Int32) (x2 : Int32) (t0 : Int32) (m : Me) : Option (Me) := fX11_wordLine_58 FU k21 x1 x2 t0 ((0 : Int32)) m
set_option maxRecDepth 20000 in
theorem kX11_wordLine_54 {S : Sh} (hS : ShOK S) {res : Me} {k21 : Int32 → Int32 → Me → Option (Me)} (hk21 : ∀ {x1 : Int32} {x2 : Int32} {m : Me}, k21 x1 x2 m = some res → Inv m → TT InvS (Call 3) mX11_wordLine (21, [(0, .ref 138), (1, .int x1), (2, .int x2)], [], S, m) none (S, res)) {x1 : Int32} {x2 : Int32} {t0 : Int32} {m : Me} (hf : fX11_wordLine_54 k21 x1 x2 t0 m = some res) (hI : Inv m) : TT InvS (Call 3) mX11_wordLine (54, [(0, .ref 138), (1, .int x1), (2, .int x2)], [.int t0], S, m) none (S, res) := by
  unfold fX11_wordLine_54 at hf
  refine to_istore_n (q := 55) [(3, .int t0), (0, .ref 138), (1, .int x1), (2, .int x2)] rfl (by decide) dX11_wordLine_54 rfl ?_
  refine to_iconst (q := 56) ic_0 dX11_wordLine_55 rfl ?_
  refine to_istore (q := 58) [(4, .int (0 : Int32)), (3, .int t0), (0, .ref 138), (1, .int x1), (2, .int x2)] rfl (by decide) dX11_wordLine_56 rfl ?_
  exact to_ext [(0, .ref 138), (1, .int x1), (2, .int x2), (3, .int t0), (4, .int (0 : Int32))] (ext_cons rfl (ext_cons rfl (ext_cons rfl (ext_cons rfl (ext_cons rfl ext_nil))))) (kX11_wordLine_58 hS hk21 FU hf hI)
def fX11_wordLine_21 (n : Nat) (x1 : Int32) (x2 : Int32) (m : Me) : Option (Me) := match n with
  | 0 => none
  | n + 1 => if x1 ≤ x2 then fX11_wordLine_130 x1 m else if (m.1 138 13) = (0 : Int32) then ck (inb ((10 : Int32) + x2) 186) (if (m.1 142 ((10 : Int32) + x2).toNatClampNeg) = (m.1 138 8) then fX11_wordLine_54 (fX11_wordLine_21 n) x1 x2 ((1 : Int32)) m else fX11_wordLine_54 (fX11_wordLine_21 n) x1 x2 ((0 : Int32)) m) else fX11_wordLine_130 x1 m
set_option maxRecDepth 20000 in
theorem kX11_wordLine_21 {S : Sh} (hS : ShOK S) {res : Me} (n : Nat) : ∀ {x1 : Int32} {x2 : Int32} {m : Me}, fX11_wordLine_21 n x1 x2 m = some res → Inv m → TT InvS (Call 3) mX11_wordLine (21, [(0, .ref 138), (1, .int x1), (2, .int x2)], [], S, m) none (S, res) := by
  induction n with
  | zero => intro x1 x2 m hf; cases hf
  | succ n ih =>
    intro x1 x2 m hf  hI
    unfold fX11_wordLine_21 at hf
    refine to_iload_n (q := 22) rfl dX11_wordLine_21 rfl ?_
    refine to_iload_n (q := 23) rfl dX11_wordLine_22 rfl ?_
    by_cases h5 : x1 ≤ x2
    · have hf := ite_pos h5 hf
      refine to_icT (q := 130) (op := .ge) h5 dX11_wordLine_23 rfl ?_
      exact to_ext [(0, .ref 138), (1, .int x1)] (ext_cons rfl (ext_cons rfl ext_nil)) (kX11_wordLine_130 hS hf hI)
    · have hf := ite_neg h5 hf
      refine to_icF (q := 26) (op := .ge) 130 h5 dX11_wordLine_23 rfl rfl ?_
      refine to_aload_n (q := 27) rfl (by decide) dX11_wordLine_26 rfl ?_
      refine to_getI (q := 30) (k0 := 11) (C := RX11) (T := TX11) (N := 37) (j := 13) rfl fx_X11_109 (h_138 hS) rfl dX11_wordLine_27 rfl ?_
      by_cases h6 : (m.1 138 13) = (0 : Int32)
      · have hf := ite_pos h6 hf
        refine to_ifF (q := 33) (op := .ne) 130 (fun z => z h6) dX11_wordLine_30 rfl rfl ?_
        refine to_aload_n (q := 34) rfl (by decide) dX11_wordLine_33 rfl ?_
        refine to_getR (q := 37) (b := 142) (k0 := 11) (C := RX11) (T := TX11) (N := 37) (j := 16) rfl fx_X11_23 (h_138 hS) rfl (iv_138_16 hI) dX11_wordLine_34 rfl ?_
        refine to_bipush (q := 39) bp_10 dX11_wordLine_37 rfl ?_
        refine to_iload_n (q := 40) rfl dX11_wordLine_39 rfl ?_
        refine to_iadd (q := 41) dX11_wordLine_40 rfl ?_
        obtain ⟨hb7, hf⟩ := ck_some hf
        refine to_iaj (q := 42) (h_142 hS) hb7 (rfl) dX11_wordLine_41 rfl ?_
        refine to_aload_n (q := 43) rfl (by decide) dX11_wordLine_42 rfl ?_
        refine to_getI (q := 46) (k0 := 11) (C := RX11) (T := TX11) (N := 37) (j := 8) rfl fx_X11_93 (h_138 hS) rfl dX11_wordLine_43 rfl ?_
        by_cases h8 : (m.1 142 ((10 : Int32) + x2).toNatClampNeg) = (m.1 138 8)
        · have hf := ite_pos h8 hf
          refine to_icF (q := 49) (op := .ne) 53 (fun z => z h8) dX11_wordLine_46 rfl rfl ?_
          refine to_iconst (q := 50) ic_1 dX11_wordLine_49 rfl ?_
          refine to_goto (q := 54) dX11_wordLine_50 rfl ?_
          exact to_ext [(0, .ref 138), (1, .int x1), (2, .int x2)] (ext_cons rfl (ext_cons rfl (ext_cons rfl ext_nil))) (kX11_wordLine_54 hS ih hf hI)
        · have hf := ite_neg h8 hf
          refine to_icT (q := 53) (op := .ne) h8 dX11_wordLine_46 rfl ?_
          refine to_iconst (q := 54) ic_0 dX11_wordLine_53 rfl ?_
          exact to_ext [(0, .ref 138), (1, .int x1), (2, .int x2)] (ext_cons rfl (ext_cons rfl (ext_cons rfl ext_nil))) (kX11_wordLine_54 hS ih hf hI)
      · have hf := ite_neg h6 hf
        refine to_ifT (q := 130) (op := .ne) h6 dX11_wordLine_30 rfl ?_
        exact to_ext [(0, .ref 138), (1, .int x1)] (ext_cons rfl (ext_cons rfl ext_nil)) (kX11_wordLine_130 hS hf hI)
def fX11_wordLine (m : Me) : Option (Me) := if (m.1 138 13) = (0 : Int32) then cl1 (fX11_mustWord m) fun m4 => fX11_wordLine_21 FU ((m.1 142 5)) ((0 : Int32)) m4 else some m
set_option maxRecDepth 20000 in
theorem kX11_wordLine {S : Sh} (hS : ShOK S) {res : Me} {m : Me} (hf : fX11_wordLine m = some res) (hI : Inv m) : Call 4 mX11_wordLine [.ref 138] (S, m) none (S, res) ∧ Inv res := by
  refine call_of (P := InvS) (Nat.le_of_ble_eq_true rfl) (by simp [Value.category]) ?_
  show TT InvS (Call 3) mX11_wordLine (0, [(0, .ref 138)], [], S, m) _ _
  unfold fX11_wordLine at hf
  refine to_aload_n (q := 1) rfl (by decide) dX11_wordLine_0 rfl ?_
  refine to_getI (q := 4) (k0 := 11) (C := RX11) (T := TX11) (N := 37) (j := 13) rfl fx_X11_109 (h_138 hS) rfl dX11_wordLine_1 rfl ?_
  by_cases h1 : (m.1 138 13) = (0 : Int32)
  · have hf := ite_pos h1 hf
    refine to_ifT (q := 8) (op := .eq) h1 dX11_wordLine_4 rfl ?_
    refine to_aload_n (q := 9) rfl (by decide) dX11_wordLine_8 rfl ?_
    refine to_getR (q := 12) (b := 142) (k0 := 11) (C := RX11) (T := TX11) (N := 37) (j := 16) rfl fx_X11_23 (h_138 hS) rfl (iv_138_16 hI) dX11_wordLine_9 rfl ?_
    refine to_iconst (q := 13) ic_5 dX11_wordLine_12 rfl ?_
    refine to_iaj (q := 14) (h_142 hS) (by decide) (tn_5) dX11_wordLine_13 rfl ?_
    refine to_istore_n (q := 15) [(1, .int (m.1 142 5)), (0, .ref 138)] rfl (by decide) dX11_wordLine_14 rfl ?_
    refine to_aload_n (q := 16) rfl (by decide) dX11_wordLine_15 rfl ?_
    obtain ⟨m4, hc2, hf⟩ := cl1_some hf
    have qc3 := kX11_mustWord hS hc2 hI
    refine to_virtV (q := 19) mX11_mustWord [] dX11_wordLine_16 rfl rfl (Nat.le_of_ble_eq_true rfl) mo_X11_mustWord mv_X11_232 (Or.inl ⟨_, _, _, h_138 hS, rfl, rfl⟩) (Call_mono (by decide) qc3.1) ?_
    have hI := qc3.2
    refine to_iconst (q := 20) ic_0 dX11_wordLine_19 rfl ?_
    refine to_istore_n (q := 21) [(2, .int (0 : Int32)), (1, .int (m.1 142 5)), (0, .ref 138)] rfl (by decide) dX11_wordLine_20 rfl ?_
    exact to_ext [(0, .ref 138), (1, .int (m.1 142 5)), (2, .int (0 : Int32))] (ext_cons rfl (ext_cons rfl (ext_cons rfl ext_nil))) (kX11_wordLine_21 hS FU hf hI)
  · have hf := ite_neg h1 hf
    refine to_ifF (q := 7) (op := .eq) 8 h1 dX11_wordLine_4 rfl rfl ?_
    cases hf
    exact to_vret dX11_wordLine_7 rfl rfl rfl hI
def fX11_mostOpen_22 (t0 : Int32) (m : Me) : Option (Int32 × Me) := some (t0, m)
set_option maxRecDepth 20000 in
theorem kX11_mostOpen_22 {S : Sh} (hS : ShOK S) {res : Int32 × Me} {t0 : Int32} {m : Me} (hf : fX11_mostOpen_22 t0 m = some res) (hI : Inv m) : TT InvS (Call 0) mX11_mostOpen (22, [], [.int t0], S, m) (some (.int res.1)) (S, res.2) := by
  unfold fX11_mostOpen_22 at hf
  cases hf
  exact to_iret dX11_mostOpen_22 rfl rfl rfl rfl hI
def fX11_mostOpen (a0 : Nat) (m : Me) : Option (Int32 × Me) := ck (inb (3 : Int32) (ln a0)) (if (m.1 a0 (3 : Int32).toNatClampNeg) = (1 : Int32) then ck (inb (1 : Int32) (ln a0)) (ck (inb (0 : Int32) (ln a0)) (fX11_mostOpen_22 (((m.1 a0 (1 : Int32).toNatClampNeg) * ((m.1 a0 (0 : Int32).toNatClampNeg) - (1 : Int32)))) m)) else ck (inb (1 : Int32) (ln a0)) (fX11_mostOpen_22 ((m.1 a0 (1 : Int32).toNatClampNeg)) m))
set_option maxRecDepth 20000 in
theorem kX11_mostOpen {S : Sh} (hS : ShOK S) {res : Int32 × Me} {a0 : Nat} {m : Me} (hf : fX11_mostOpen a0 m = some res) (ha0 : kd a0 = 13) (hI : Inv m) : Call 1 mX11_mostOpen [.ref a0] (S, m) (some (.int res.1)) (S, res.2) ∧ Inv res.2 := by
  refine call_of (P := InvS) (Nat.le_of_ble_eq_true rfl) (by simp [Value.category]) ?_
  show TT InvS (Call 0) mX11_mostOpen (0, [(0, .ref a0)], [], S, m) _ _
  unfold fX11_mostOpen at hf
  refine to_aload_n (q := 1) rfl (kd_4 (ha0) (by decide)) dX11_mostOpen_0 rfl ?_
  refine to_iconst (q := 2) ic_3 dX11_mostOpen_1 rfl ?_
  obtain ⟨hb1, hf⟩ := ck_some hf
  refine to_iaj (q := 3) (sh_kd hS ha0 (by decide)) hb1 (rfl) dX11_mostOpen_2 rfl ?_
  refine to_iconst (q := 4) ic_1 dX11_mostOpen_3 rfl ?_
  by_cases h2 : (m.1 a0 (3 : Int32).toNatClampNeg) = (1 : Int32)
  · have hf := ite_pos h2 hf
    refine to_icF (q := 7) (op := .ne) 19 (fun z => z h2) dX11_mostOpen_4 rfl rfl ?_
    refine to_aload_n (q := 8) rfl (kd_4 (ha0) (by decide)) dX11_mostOpen_7 rfl ?_
    refine to_iconst (q := 9) ic_1 dX11_mostOpen_8 rfl ?_
    obtain ⟨hb4, hf⟩ := ck_some hf
    refine to_iaj (q := 10) (sh_kd hS ha0 (by decide)) hb4 (rfl) dX11_mostOpen_9 rfl ?_
    refine to_aload_n (q := 11) rfl (kd_4 (ha0) (by decide)) dX11_mostOpen_10 rfl ?_
    refine to_iconst (q := 12) ic_0 dX11_mostOpen_11 rfl ?_
    obtain ⟨hb5, hf⟩ := ck_some hf
    refine to_iaj (q := 13) (sh_kd hS ha0 (by decide)) hb5 (rfl) dX11_mostOpen_12 rfl ?_
    refine to_iconst (q := 14) ic_1 dX11_mostOpen_13 rfl ?_
    refine to_isub (q := 15) dX11_mostOpen_14 rfl ?_
    refine to_imul (q := 16) dX11_mostOpen_15 rfl ?_
    refine to_goto (q := 22) dX11_mostOpen_16 rfl ?_
    exact to_ext [] ext_nil (kX11_mostOpen_22 hS hf hI)
  · have hf := ite_neg h2 hf
    refine to_icT (q := 19) (op := .ne) h2 dX11_mostOpen_4 rfl ?_
    refine to_aload_n (q := 20) rfl (kd_4 (ha0) (by decide)) dX11_mostOpen_19 rfl ?_
    refine to_iconst (q := 21) ic_1 dX11_mostOpen_20 rfl ?_
    obtain ⟨hb3, hf⟩ := ck_some hf
    refine to_iaj (q := 22) (sh_kd hS ha0 (by decide)) hb3 (rfl) dX11_mostOpen_21 rfl ?_
    exact to_ext [] ext_nil (kX11_mostOpen_22 hS hf hI)
def fX11_wishLine_88 (m : Me) : Option (Me) := some m
set_option maxRecDepth 20000 in
theorem kX11_wishLine_88 {S : Sh} (hS : ShOK S) {res : Me} {m : Me} (hf : fX11_wishLine_88 m = some res) (hI : Inv m) : TT InvS (Call 10) mX11_wishLine (88, [], [], S, m) none (S, res) := by
  unfold fX11_wishLine_88 at hf
  cases hf
  exact to_vret dX11_wishLine_88 rfl rfl rfl hI
def fX11_wishLine (m : Me) : Option (Me) := if (m.1 138 13) = (0 : Int32) then cl2 (fX11_keepWord (((68 : Int32) + ((8 : Int32) * (m.1 142 6)))) m) fun r4 m5 => ck (inb ((64 : Int32) + (m.1 142 6)) 186) (cl2 (fX11_side (setI m5 142 ((64 : Int32) + (m.1 142 6)).toNatClampNeg r4)) fun r9 m10 => ck (inb ((100 : Int32) + (m.1 142 6)) 186) (cl2 (fX11_mostOpen 142 (setI m10 142 ((100 : Int32) + (m.1 142 6)).toNatClampNeg r9)) fun r14 m15 => cl2 (fX11_number (0 : Int32) r14 m15) fun r18 m19 => ck (inb ((104 : Int32) + (m.1 142 6)) 186) (if ((setI m19 142 ((104 : Int32) + (m.1 142 6)).toNatClampNeg r18).1 138 13) = (0 : Int32) then fX11_wishLine_88 (setI (setI m19 142 ((104 : Int32) + (m.1 142 6)).toNatClampNeg r18) 142 6 (((setI m19 142 ((104 : Int32) + (m.1 142 6)).toNatClampNeg r18).1 142 6) + (1 : Int32))) else fX11_wishLine_88 (setI m19 142 ((104 : Int32) + (m.1 142 6)).toNatClampNeg r18)))) else some m
set_option maxRecDepth 20000 in
theorem kX11_wishLine {S : Sh} (hS : ShOK S) {res : Me} {m : Me} (hf : fX11_wishLine m = some res) (hI : Inv m) : Call 11 mX11_wishLine [.ref 138] (S, m) none (S, res) ∧ Inv res := by
  refine call_of (P := InvS) (Nat.le_of_ble_eq_true rfl) (by simp [Value.category]) ?_
  show TT InvS (Call 10) mX11_wishLine (0, [(0, .ref 138)], [], S, m) _ _
  unfold fX11_wishLine at hf
  refine to_aload_n (q := 1) rfl (by decide) dX11_wishLine_0 rfl ?_
  refine to_getI (q := 4) (k0 := 11) (C := RX11) (T := TX11) (N := 37) (j := 13) rfl fx_X11_109 (h_138 hS) rfl dX11_wishLine_1 rfl ?_
  by_cases h1 : (m.1 138 13) = (0 : Int32)
  · have hf := ite_pos h1 hf
    refine to_ifT (q := 8) (op := .eq) h1 dX11_wishLine_4 rfl ?_
    refine to_aload_n (q := 9) rfl (by decide) dX11_wishLine_8 rfl ?_
    refine to_getR (q := 12) (b := 142) (k0 := 11) (C := RX11) (T := TX11) (N := 37) (j := 16) rfl fx_X11_23 (h_138 hS) rfl (iv_138_16 hI) dX11_wishLine_9 rfl ?_
    refine to_bipush (q := 14) bp_6 dX11_wishLine_12 rfl ?_
    refine to_iaj (q := 15) (h_142 hS) (by decide) (tn_6) dX11_wishLine_14 rfl ?_
    refine to_istore_n (q := 16) [(1, .int (m.1 142 6)), (0, .ref 138)] rfl (by decide) dX11_wishLine_15 rfl ?_
    refine to_aload_n (q := 17) rfl (by decide) dX11_wishLine_16 rfl ?_
    refine to_getR (q := 20) (b := 142) (k0 := 11) (C := RX11) (T := TX11) (N := 37) (j := 16) rfl fx_X11_23 (h_138 hS) rfl (iv_138_16 hI) dX11_wishLine_17 rfl ?_
    refine to_bipush (q := 22) bp_64 dX11_wishLine_20 rfl ?_
    refine to_iload_n (q := 23) rfl dX11_wishLine_22 rfl ?_
    refine to_iadd (q := 24) dX11_wishLine_23 rfl ?_
    refine to_aload_n (q := 25) rfl (by decide) dX11_wishLine_24 rfl ?_
    refine to_bipush (q := 27) bp_68 dX11_wishLine_25 rfl ?_
    refine to_bipush (q := 29) bp_8 dX11_wishLine_27 rfl ?_
    refine to_iload_n (q := 30) rfl dX11_wishLine_29 rfl ?_
    refine to_imul (q := 31) dX11_wishLine_30 rfl ?_
    refine to_iadd (q := 32) dX11_wishLine_31 rfl ?_
    obtain ⟨r4, m5, hc2, hf⟩ := cl2_some hf
    have qc3 := kX11_keepWord hS hc2 hI
    refine to_virtI (q := 35) mX11_keepWord [.int ((68 : Int32) + ((8 : Int32) * (m.1 142 6)))] dX11_wishLine_32 rfl rfl (Nat.le_of_ble_eq_true rfl) mo_X11_keepWord mv_X11_237 (Or.inl ⟨_, _, _, h_138 hS, rfl, rfl⟩) (Call_mono (by decide) qc3.1) ?_
    have hI := qc3.2
    obtain ⟨hb6, hf⟩ := ck_some hf
    refine to_iasj (q := 36) (h_142 hS) hb6 (rfl) dX11_wishLine_35 rfl ?_
    refine to_aload_n (q := 37) rfl (by decide) dX11_wishLine_36 rfl ?_
    refine to_getR (q := 40) (b := 142) (k0 := 11) (C := RX11) (T := TX11) (N := 37) (j := 16) rfl fx_X11_23 (h_138 hS) rfl (iv_138_16 hI) dX11_wishLine_37 rfl ?_
    refine to_bipush (q := 42) bp_100 dX11_wishLine_40 rfl ?_
    refine to_iload_n (q := 43) rfl dX11_wishLine_42 rfl ?_
    refine to_iadd (q := 44) dX11_wishLine_43 rfl ?_
    refine to_aload_n (q := 45) rfl (by decide) dX11_wishLine_44 rfl ?_
    obtain ⟨r9, m10, hc7, hf⟩ := cl2_some hf
    have qc8 := kX11_side hS hc7 hI
    refine to_virtI (q := 48) mX11_side [] dX11_wishLine_45 rfl rfl (Nat.le_of_ble_eq_true rfl) mo_X11_side mv_X11_240 (Or.inl ⟨_, _, _, h_138 hS, rfl, rfl⟩) (Call_mono (by decide) qc8.1) ?_
    have hI := qc8.2
    obtain ⟨hb11, hf⟩ := ck_some hf
    refine to_iasj (q := 49) (h_142 hS) hb11 (rfl) dX11_wishLine_48 rfl ?_
    refine to_aload_n (q := 50) rfl (by decide) dX11_wishLine_49 rfl ?_
    refine to_getR (q := 53) (b := 142) (k0 := 11) (C := RX11) (T := TX11) (N := 37) (j := 16) rfl fx_X11_23 (h_138 hS) rfl (iv_138_16 hI) dX11_wishLine_50 rfl ?_
    refine to_bipush (q := 55) bp_104 dX11_wishLine_53 rfl ?_
    refine to_iload_n (q := 56) rfl dX11_wishLine_55 rfl ?_
    refine to_iadd (q := 57) dX11_wishLine_56 rfl ?_
    refine to_aload_n (q := 58) rfl (by decide) dX11_wishLine_57 rfl ?_
    refine to_iconst (q := 59) ic_0 dX11_wishLine_58 rfl ?_
    refine to_aload_n (q := 60) rfl (by decide) dX11_wishLine_59 rfl ?_
    refine to_getR (q := 63) (b := 142) (k0 := 11) (C := RX11) (T := TX11) (N := 37) (j := 16) rfl fx_X11_23 (h_138 hS) rfl (iv_138_16 hI) dX11_wishLine_60 rfl ?_
    obtain ⟨r14, m15, hc12, hf⟩ := cl2_some hf
    have qc13 := kX11_mostOpen hS hc12 rfl hI
    refine to_statI (q := 66) mX11_mostOpen [.ref 142] dX11_wishLine_63 rfl rfl (Nat.le_of_ble_eq_true rfl) mo_X11_mostOpen (Or.inl ml_X11_178) sa_X11_mostOpen (Call_mono (by decide) qc13.1) ?_
    have hI := qc13.2
    obtain ⟨r18, m19, hc16, hf⟩ := cl2_some hf
    have qc17 := kX11_number hS hc16 hI
    refine to_virtI (q := 69) mX11_number [.int (0 : Int32), .int r14] dX11_wishLine_66 rfl rfl (Nat.le_of_ble_eq_true rfl) mo_X11_number mv_X11_148 (Or.inl ⟨_, _, _, h_138 hS, rfl, rfl⟩) (Call_mono (by decide) qc17.1) ?_
    have hI := qc17.2
    obtain ⟨hb20, hf⟩ := ck_some hf
    refine to_iasj (q := 70) (h_142 hS) hb20 (rfl) dX11_wishLine_69 rfl ?_
    refine to_aload_n (q := 71) rfl (by decide) dX11_wishLine_70 rfl ?_
    refine to_getI (q := 74) (k0 := 11) (C := RX11) (T := TX11) (N := 37) (j := 13) rfl fx_X11_109 (h_138 hS) rfl dX11_wishLine_71 rfl ?_
    by_cases h21 : ((setI m19 142 ((104 : Int32) + (m.1 142 6)).toNatClampNeg r18).1 138 13) = (0 : Int32)
    · have hf := ite_pos h21 hf
      refine to_ifF (q := 77) (op := .ne) 88 (fun z => z h21) dX11_wishLine_74 rfl rfl ?_
      refine to_aload_n (q := 78) rfl (by decide) dX11_wishLine_77 rfl ?_
      refine to_getR (q := 81) (b := 142) (k0 := 11) (C := RX11) (T := TX11) (N := 37) (j := 16) rfl fx_X11_23 (h_138 hS) rfl (iv_138_16 hI) dX11_wishLine_78 rfl ?_
      refine to_bipush (q := 83) bp_6 dX11_wishLine_81 rfl ?_
      refine to_dup2 (q := 84) rfl rfl dX11_wishLine_83 rfl ?_
      refine to_iaj (q := 85) (h_142 hS) (by decide) (tn_6) dX11_wishLine_84 rfl ?_
      refine to_iconst (q := 86) ic_1 dX11_wishLine_85 rfl ?_
      refine to_iadd (q := 87) dX11_wishLine_86 rfl ?_
      refine to_iasj (q := 88) (h_142 hS) (by decide) (tn_6) dX11_wishLine_87 rfl ?_
      exact to_ext [] ext_nil (kX11_wishLine_88 hS hf hI)
    · have hf := ite_neg h21 hf
      refine to_ifT (q := 88) (op := .ne) h21 dX11_wishLine_74 rfl ?_
      exact to_ext [] ext_nil (kX11_wishLine_88 hS hf hI)
  · have hf := ite_neg h1 hf
    refine to_ifF (q := 7) (op := .eq) 8 h1 dX11_wishLine_4 rfl rfl ?_
    cases hf
    exact to_vret dX11_wishLine_7 rfl rfl rfl hI
def fX11_openOf_38 (t0 : Int32) (m : Me) : Option (Int32 × Me) := some (t0, m)
set_option maxRecDepth 20000 in
theorem kX11_openOf_38 {S : Sh} (hS : ShOK S) {res : Int32 × Me} {t0 : Int32} {m : Me} (hf : fX11_openOf_38 t0 m = some res) (hI : Inv m) : TT InvS (Call 0) mX11_openOf (38, [], [.int t0], S, m) (some (.int res.1)) (S, res.2) := by
  unfold fX11_openOf_38 at hf
  cases hf
  exact to_iret dX11_openOf_38 rfl rfl rfl rfl hI
def fX11_openOf (a0 : Nat) (x1 : Int32) (x2 : Int32) (m : Me) : Option (Int32 × Me) := ck (inb (3 : Int32) (ln a0)) (if (m.1 a0 (3 : Int32).toNatClampNeg) = (0 : Int32) then some (x2, m) else ck (inb (1 : Int32) (ln a0)) (if (0 : Int32) ≤ (x2 - ((m.1 a0 (1 : Int32).toNatClampNeg) * x1)) then ck (inb (1 : Int32) (ln a0)) (if (x2 - ((m.1 a0 (1 : Int32).toNatClampNeg) * x1)) ≤ (m.1 a0 (1 : Int32).toNatClampNeg) then fX11_openOf_38 ((x2 - ((m.1 a0 (1 : Int32).toNatClampNeg) * x1))) m else ck (inb (1 : Int32) (ln a0)) (fX11_openOf_38 ((m.1 a0 (1 : Int32).toNatClampNeg)) m)) else fX11_openOf_38 ((0 : Int32)) m))
set_option maxRecDepth 20000 in
theorem kX11_openOf {S : Sh} (hS : ShOK S) {res : Int32 × Me} {a0 : Nat} {x1 : Int32} {x2 : Int32} {m : Me} (hf : fX11_openOf a0 x1 x2 m = some res) (ha0 : kd a0 = 13) (hI : Inv m) : Call 1 mX11_openOf [.ref a0, .int x1, .int x2] (S, m) (some (.int res.1)) (S, res.2) ∧ Inv res.2 := by
  refine call_of (P := InvS) (Nat.le_of_ble_eq_true rfl) (by simp [Value.category]) ?_
  show TT InvS (Call 0) mX11_openOf (0, [(0, .ref a0), (1, .int x1), (2, .int x2)], [], S, m) _ _
  unfold fX11_openOf at hf
  refine to_aload_n (q := 1) rfl (kd_4 (ha0) (by decide)) dX11_openOf_0 rfl ?_
  refine to_iconst (q := 2) ic_3 dX11_openOf_1 rfl ?_
  obtain ⟨hb1, hf⟩ := ck_some hf
  refine to_iaj (q := 3) (sh_kd hS ha0 (by decide)) hb1 (rfl) dX11_openOf_2 rfl ?_
  by_cases h2 : (m.1 a0 (3 : Int32).toNatClampNeg) = (0 : Int32)
  · have hf := ite_pos h2 hf
    refine to_ifF (q := 6) (op := .ne) 8 (fun z => z h2) dX11_openOf_3 rfl rfl ?_
    refine to_iload_n (q := 7) rfl dX11_openOf_6 rfl ?_
    cases hf
    exact to_iret dX11_openOf_7 rfl rfl rfl rfl hI
  · have hf := ite_neg h2 hf
    refine to_ifT (q := 8) (op := .ne) h2 dX11_openOf_3 rfl ?_
    refine to_iload_n (q := 9) rfl dX11_openOf_8 rfl ?_
    refine to_aload_n (q := 10) rfl (kd_4 (ha0) (by decide)) dX11_openOf_9 rfl ?_
    refine to_iconst (q := 11) ic_1 dX11_openOf_10 rfl ?_
    obtain ⟨hb3, hf⟩ := ck_some hf
    refine to_iaj (q := 12) (sh_kd hS ha0 (by decide)) hb3 (rfl) dX11_openOf_11 rfl ?_
    refine to_iload_n (q := 13) rfl dX11_openOf_12 rfl ?_
    refine to_imul (q := 14) dX11_openOf_13 rfl ?_
    refine to_isub (q := 15) dX11_openOf_14 rfl ?_
    refine to_istore_n (q := 16) [(3, .int (x2 - ((m.1 a0 (1 : Int32).toNatClampNeg) * x1))), (0, .ref a0), (1, .int x1), (2, .int x2)] rfl (by decide) dX11_openOf_15 rfl ?_
    refine to_iload_n (q := 17) rfl dX11_openOf_16 rfl ?_
    by_cases h4 : (0 : Int32) ≤ (x2 - ((m.1 a0 (1 : Int32).toNatClampNeg) * x1))
    · have hf := ite_pos h4 hf
      refine to_ifT (q := 24) (op := .ge) h4 dX11_openOf_17 rfl ?_
      refine to_iload_n (q := 25) rfl dX11_openOf_24 rfl ?_
      refine to_aload_n (q := 26) rfl (kd_4 (ha0) (by decide)) dX11_openOf_25 rfl ?_
      refine to_iconst (q := 27) ic_1 dX11_openOf_26 rfl ?_
      obtain ⟨hb5, hf⟩ := ck_some hf
      refine to_iaj (q := 28) (sh_kd hS ha0 (by decide)) hb5 (rfl) dX11_openOf_27 rfl ?_
      by_cases h6 : (x2 - ((m.1 a0 (1 : Int32).toNatClampNeg) * x1)) ≤ (m.1 a0 (1 : Int32).toNatClampNeg)
      · have hf := ite_pos h6 hf
        refine to_icT (q := 37) (op := .le) h6 dX11_openOf_28 rfl ?_
        refine to_iload_n (q := 38) rfl dX11_openOf_37 rfl ?_
        exact to_ext [] ext_nil (kX11_openOf_38 hS hf hI)
      · have hf := ite_neg h6 hf
        refine to_icF (q := 31) (op := .le) 37 h6 dX11_openOf_28 rfl rfl ?_
        refine to_aload_n (q := 32) rfl (kd_4 (ha0) (by decide)) dX11_openOf_31 rfl ?_
        refine to_iconst (q := 33) ic_1 dX11_openOf_32 rfl ?_
        obtain ⟨hb7, hf⟩ := ck_some hf
        refine to_iaj (q := 34) (sh_kd hS ha0 (by decide)) hb7 (rfl) dX11_openOf_33 rfl ?_
        refine to_goto (q := 38) dX11_openOf_34 rfl ?_
        exact to_ext [] ext_nil (kX11_openOf_38 hS hf hI)
    · have hf := ite_neg h4 hf
      refine to_ifF (q := 20) (op := .ge) 24 h4 dX11_openOf_17 rfl rfl ?_
      refine to_iconst (q := 21) ic_0 dX11_openOf_20 rfl ?_
      refine to_goto (q := 38) dX11_openOf_21 rfl ?_
      exact to_ext [] ext_nil (kX11_openOf_38 hS hf hI)
def fX11_lay_104 (k6 : Nat → Int32 → Int32 → Int32 → Int32 → Int32 → Me → Option (Int32 × Me)) (a1 : Nat) (x2 : Int32) (x3 : Int32) (x4 : Int32) (x5 : Int32) (x6 : Int32) (m : Me) : Option (Int32 × Me) := k6 a1 x2 x3 x4 x5 ((x6 + (1 : Int32))) m
set_option maxRecDepth 20000 in
theorem kX11_lay_104 {S : Sh} (hS : ShOK S) {res : Int32 × Me} {k6 : Nat → Int32 → Int32 → Int32 → Int32 → Int32 → Me → Option (Int32 × Me)} (hk6 : ∀ {a1 : Nat} {x2 : Int32} {x3 : Int32} {x4 : Int32} {x5 : Int32} {x6 : Int32} {m : Me}, k6 a1 x2 x3 x4 x5 x6 m = some res → kd a1 = 13 → Inv m → TT InvS (Call 1) mX11_lay (6, [(0, .ref 138), (1, .ref a1), (2, .int x2), (3, .int x3), (4, .int x4), (5, .int x5), (6, .int x6)], [], S, m) (some (.int res.1)) (S, res.2)) {a1 : Nat} {x2 : Int32} {x3 : Int32} {x4 : Int32} {x5 : Int32} {x6 : Int32} {m : Me} (hf : fX11_lay_104 k6 a1 x2 x3 x4 x5 x6 m = some res) (ha1 : kd a1 = 13) (hI : Inv m) : TT InvS (Call 1) mX11_lay (104, [(0, .ref 138), (1, .ref a1), (2, .int x2), (3, .int x3), (4, .int x4), (5, .int x5), (6, .int x6)], [], S, m) (some (.int res.1)) (S, res.2) := by
  unfold fX11_lay_104 at hf
  refine to_iinc (q := 107) (v := (x6 + (1 : Int32))) rfl (congrArg (fun z => x6 + z) ic_1) [(6, .int (x6 + (1 : Int32))), (0, .ref 138), (1, .ref a1), (2, .int x2), (3, .int x3), (4, .int x4), (5, .int x5)] rfl (by decide) dX11_lay_104 rfl ?_
  refine to_goto (q := 6) dX11_lay_107 rfl ?_
  exact to_ext [(0, .ref 138), (1, .ref a1), (2, .int x2), (3, .int x3), (4, .int x4), (5, .int x5), (6, .int (x6 + (1 : Int32)))] (ext_cons rfl (ext_cons rfl (ext_cons rfl (ext_cons rfl (ext_cons rfl (ext_cons rfl (ext_cons rfl ext_nil))))))) (hk6 hf (ha1) hI)
def fX11_lay_74 (n : Nat) (k6 : Nat → Int32 → Int32 → Int32 → Int32 → Int32 → Me → Option (Int32 × Me)) (a1 : Nat) (x2 : Int32) (x3 : Int32) (x4 : Int32) (x5 : Int32) (x6 : Int32) (x7 : Int32) (x8 : Int32) (x9 : Int32) (m : Me) : Option (Int32 × Me) := match n with
  | 0 => none
  | n + 1 => if x8 ≤ x9 then fX11_lay_104 k6 a1 x2 x3 x4 x5 x6 m else ck (inb x5 30) (fX11_lay_74 n k6 a1 x2 x3 x4 ((x5 + (1 : Int32))) x6 x7 x8 ((x9 + (1 : Int32))) (setI m 147 x5.toNatClampNeg (((3 : Int32) * x7) + x9)))
set_option maxRecDepth 20000 in
theorem kX11_lay_74 {S : Sh} (hS : ShOK S) {res : Int32 × Me} {k6 : Nat → Int32 → Int32 → Int32 → Int32 → Int32 → Me → Option (Int32 × Me)} (hk6 : ∀ {a1 : Nat} {x2 : Int32} {x3 : Int32} {x4 : Int32} {x5 : Int32} {x6 : Int32} {m : Me}, k6 a1 x2 x3 x4 x5 x6 m = some res → kd a1 = 13 → Inv m → TT InvS (Call 1) mX11_lay (6, [(0, .ref 138), (1, .ref a1), (2, .int x2), (3, .int x3), (4, .int x4), (5, .int x5), (6, .int x6)], [], S, m) (some (.int res.1)) (S, res.2)) (n : Nat) : ∀ {a1 : Nat} {x2 : Int32} {x3 : Int32} {x4 : Int32} {x5 : Int32} {x6 : Int32} {x7 : Int32} {x8 : Int32} {x9 : Int32} {m : Me}, fX11_lay_74 n k6 a1 x2 x3 x4 x5 x6 x7 x8 x9 m = some res → kd a1 = 13 → Inv m → TT InvS (Call 1) mX11_lay (74, [(0, .ref 138), (1, .ref a1), (2, .int x2), (3, .int x3), (4, .int x4), (5, .int x5), (6, .int x6), (7, .int x7), (8, .int x8), (9, .int x9)], [], S, m) (some (.int res.1)) (S, res.2) := by
  induction n with
  | zero => intro a1 x2 x3 x4 x5 x6 x7 x8 x9 m hf; cases hf
  | succ n ih =>
    intro a1 x2 x3 x4 x5 x6 x7 x8 x9 m hf ha1 hI
    unfold fX11_lay_74 at hf
    refine to_iload (q := 76) rfl dX11_lay_74 rfl ?_
    refine to_iload (q := 78) rfl dX11_lay_76 rfl ?_
    by_cases h17 : x8 ≤ x9
    · have hf := ite_pos h17 hf
      refine to_icT (q := 104) (op := .ge) h17 dX11_lay_78 rfl ?_
      exact to_ext [(0, .ref 138), (1, .ref a1), (2, .int x2), (3, .int x3), (4, .int x4), (5, .int x5), (6, .int x6)] (ext_cons rfl (ext_cons rfl (ext_cons rfl (ext_cons rfl (ext_cons rfl (ext_cons rfl (ext_cons rfl ext_nil))))))) (kX11_lay_104 hS hk6 hf (ha1) hI)
    · have hf := ite_neg h17 hf
      refine to_icF (q := 81) (op := .ge) 104 h17 dX11_lay_78 rfl rfl ?_
      refine to_aload_n (q := 82) rfl (by decide) dX11_lay_81 rfl ?_
      refine to_getR (q := 85) (b := 147) (k0 := 11) (C := RX11) (T := TX11) (N := 37) (j := 23) rfl fx_X11_38 (h_138 hS) rfl (iv_138_23 hI) dX11_lay_82 rfl ?_
      refine to_iload (q := 87) rfl dX11_lay_85 rfl ?_
      refine to_iconst (q := 88) ic_3 dX11_lay_87 rfl ?_
      refine to_iload (q := 90) rfl dX11_lay_88 rfl ?_
      refine to_imul (q := 91) dX11_lay_90 rfl ?_
      refine to_iload (q := 93) rfl dX11_lay_91 rfl ?_
      refine to_iadd (q := 94) dX11_lay_93 rfl ?_
      obtain ⟨hb18, hf⟩ := ck_some hf
      refine to_iasj (q := 95) (h_147 hS) hb18 (rfl) dX11_lay_94 rfl ?_
      refine to_iinc (q := 98) (v := (x5 + (1 : Int32))) rfl (congrArg (fun z => x5 + z) ic_1) [(5, .int (x5 + (1 : Int32))), (0, .ref 138), (1, .ref a1), (2, .int x2), (3, .int x3), (4, .int x4), (6, .int x6), (7, .int x7), (8, .int x8), (9, .int x9)] rfl (by decide) dX11_lay_95 rfl ?_
      refine to_iinc (q := 101) (v := (x9 + (1 : Int32))) rfl (congrArg (fun z => x9 + z) ic_1) [(9, .int (x9 + (1 : Int32))), (5, .int (x5 + (1 : Int32))), (0, .ref 138), (1, .ref a1), (2, .int x2), (3, .int x3), (4, .int x4), (6, .int x6), (7, .int x7), (8, .int x8)] rfl (by decide) dX11_lay_98 rfl ?_
      refine to_goto (q := 74) dX11_lay_101 rfl ?_
      exact to_ext [(0, .ref 138), (1, .ref a1), (2, .int x2), (3, .int x3), (4, .int x4), (5, .int (x5 + (1 : Int32))), (6, .int x6), (7, .int x7), (8, .int x8), (9, .int (x9 + (1 : Int32)))] (ext_cons rfl (ext_cons rfl (ext_cons rfl (ext_cons rfl (ext_cons rfl (ext_cons rfl (ext_cons rfl (ext_cons rfl (ext_cons rfl (ext_cons rfl ext_nil)))))))))) (ih hf (ha1) hI)
def fX11_lay_69 (k6 : Nat → Int32 → Int32 → Int32 → Int32 → Int32 → Me → Option (Int32 × Me)) (a1 : Nat) (x2 : Int32) (x3 : Int32) (x4 : Int32) (x5 : Int32) (x6 : Int32) (x7 : Int32) (t0 : Int32) (m : Me) : Option (Int32 × Me) := fX11_lay_74 FU k6 a1 x2 x3 x4 x5 x6 x7 t0 ((0 : Int32)) m
set_option maxRecDepth 20000 in
theorem kX11_lay_69 {S : Sh} (hS : ShOK S) {res : Int32 × Me} {k6 : Nat → Int32 → Int32 → Int32 → Int32 → Int32 → Me → Option (Int32 × Me)} (hk6 : ∀ {a1 : Nat} {x2 : Int32} {x3 : Int32} {x4 : Int32} {x5 : Int32} {x6 : Int32} {m : Me}, k6 a1 x2 x3 x4 x5 x6 m = some res → kd a1 = 13 → Inv m → TT InvS (Call 1) mX11_lay (6, [(0, .ref 138), (1, .ref a1), (2, .int x2), (3, .int x3), (4, .int x4), (5, .int x5), (6, .int x6)], [], S, m) (some (.int res.1)) (S, res.2)) {a1 : Nat} {x2 : Int32} {x3 : Int32} {x4 : Int32} {x5 : Int32} {x6 : Int32} {x7 : Int32} {t0 : Int32} {m : Me} (hf : fX11_lay_69 k6 a1 x2 x3 x4 x5 x6 x7 t0 m = some res) (ha1 : kd a1 = 13) (hI : Inv m) : TT InvS (Call 1) mX11_lay (69, [(0, .ref 138), (1, .ref a1), (2, .int x2), (3, .int x3), (4, .int x4), (5, .int x5), (6, .int x6), (7, .int x7)], [.int t0], S, m) (some (.int res.1)) (S, res.2) := by
  unfold fX11_lay_69 at hf
  refine to_istore (q := 71) [(8, .int t0), (0, .ref 138), (1, .ref a1), (2, .int x2), (3, .int x3), (4, .int x4), (5, .int x5), (6, .int x6), (7, .int x7)] rfl (by decide) dX11_lay_69 rfl ?_
  refine to_iconst (q := 72) ic_0 dX11_lay_71 rfl ?_
  refine to_istore (q := 74) [(9, .int (0 : Int32)), (8, .int t0), (0, .ref 138), (1, .ref a1), (2, .int x2), (3, .int x3), (4, .int x4), (5, .int x5), (6, .int x6), (7, .int x7)] rfl (by decide) dX11_lay_72 rfl ?_
  exact to_ext [(0, .ref 138), (1, .ref a1), (2, .int x2), (3, .int x3), (4, .int x4), (5, .int x5), (6, .int x6), (7, .int x7), (8, .int t0), (9, .int (0 : Int32))] (ext_cons rfl (ext_cons rfl (ext_cons rfl (ext_cons rfl (ext_cons rfl (ext_cons rfl (ext_cons rfl (ext_cons rfl (ext_cons rfl (ext_cons rfl ext_nil)))))))))) (kX11_lay_74 hS hk6 FU hf (ha1) hI)
def fX11_lay_31 (k6 : Nat → Int32 → Int32 → Int32 → Int32 → Int32 → Me → Option (Int32 × Me)) (a1 : Nat) (x2 : Int32) (x3 : Int32) (x4 : Int32) (x5 : Int32) (x6 : Int32) (t0 : Int32) (m : Me) : Option (Int32 × Me) := cl2 (fX11_has x4 t0 m) fun r7 m8 => if r7 = (0 : Int32) then ck (inb (0 : Int32) (ln a1)) (if x6 = ((m8.1 a1 (0 : Int32).toNatClampNeg) - (1 : Int32)) then ck (inb (1 : Int32) (ln a1)) (fX11_lay_69 k6 a1 x2 x3 x4 x5 x6 t0 ((m8.1 a1 (1 : Int32).toNatClampNeg)) m8) else cl2 (fX11_openOf a1 t0 x3 m8) fun r14 m15 => fX11_lay_69 k6 a1 x2 x3 x4 x5 x6 t0 r14 m15) else fX11_lay_104 k6 a1 x2 x3 x4 x5 x6 m8
set_option maxRecDepth 20000 in
theorem kX11_lay_31 {S : Sh} (hS : ShOK S) {res : Int32 × Me} {k6 : Nat → Int32 → Int32 → Int32 → Int32 → Int32 → Me → Option (Int32 × Me)} (hk6 : ∀ {a1 : Nat} {x2 : Int32} {x3 : Int32} {x4 : Int32} {x5 : Int32} {x6 : Int32} {m : Me}, k6 a1 x2 x3 x4 x5 x6 m = some res → kd a1 = 13 → Inv m → TT InvS (Call 1) mX11_lay (6, [(0, .ref 138), (1, .ref a1), (2, .int x2), (3, .int x3), (4, .int x4), (5, .int x5), (6, .int x6)], [], S, m) (some (.int res.1)) (S, res.2)) {a1 : Nat} {x2 : Int32} {x3 : Int32} {x4 : Int32} {x5 : Int32} {x6 : Int32} {t0 : Int32} {m : Me} (hf : fX11_lay_31 k6 a1 x2 x3 x4 x5 x6 t0 m = some res) (ha1 : kd a1 = 13) (hI : Inv m) : TT InvS (Call 1) mX11_lay (31, [(0, .ref 138), (1, .ref a1), (2, .int x2), (3, .int x3), (4, .int x4), (5, .int x5), (6, .int x6)], [.int t0], S, m) (some (.int res.1)) (S, res.2) := by
  unfold fX11_lay_31 at hf
  refine to_istore (q := 33) [(7, .int t0), (0, .ref 138), (1, .ref a1), (2, .int x2), (3, .int x3), (4, .int x4), (5, .int x5), (6, .int x6)] rfl (by decide) dX11_lay_31 rfl ?_
  refine to_iload (q := 35) rfl dX11_lay_33 rfl ?_
  refine to_iload (q := 37) rfl dX11_lay_35 rfl ?_
  obtain ⟨r7, m8, hc5, hf⟩ := cl2_some hf
  have qc6 := kX11_has hS hc5 hI
  refine to_statI (q := 40) mX11_has [.int x4, .int t0] dX11_lay_37 rfl rfl (Nat.le_of_ble_eq_true rfl) mo_X11_has (Or.inl ml_X11_259) sa_X11_has (Call_mono (by decide) qc6.1) ?_
  have hI := qc6.2
  by_cases h9 : r7 = (0 : Int32)
  · have hf := ite_pos h9 hf
    refine to_ifT (q := 46) (op := .eq) h9 dX11_lay_40 rfl ?_
    refine to_iload (q := 48) rfl dX11_lay_46 rfl ?_
    refine to_aload_n (q := 49) rfl (kd_4 (ha1) (by decide)) dX11_lay_48 rfl ?_
    refine to_iconst (q := 50) ic_0 dX11_lay_49 rfl ?_
    obtain ⟨hb10, hf⟩ := ck_some hf
    refine to_iaj (q := 51) (sh_kd hS ha1 (by decide)) hb10 (rfl) dX11_lay_50 rfl ?_
    refine to_iconst (q := 52) ic_1 dX11_lay_51 rfl ?_
    refine to_isub (q := 53) dX11_lay_52 rfl ?_
    by_cases h11 : x6 = ((m8.1 a1 (0 : Int32).toNatClampNeg) - (1 : Int32))
    · have hf := ite_pos h11 hf
      refine to_icF (q := 56) (op := .ne) 62 (fun z => z h11) dX11_lay_53 rfl rfl ?_
      refine to_aload_n (q := 57) rfl (kd_4 (ha1) (by decide)) dX11_lay_56 rfl ?_
      refine to_iconst (q := 58) ic_1 dX11_lay_57 rfl ?_
      obtain ⟨hb16, hf⟩ := ck_some hf
      refine to_iaj (q := 59) (sh_kd hS ha1 (by decide)) hb16 (rfl) dX11_lay_58 rfl ?_
      refine to_goto (q := 69) dX11_lay_59 rfl ?_
      exact to_ext [(0, .ref 138), (1, .ref a1), (2, .int x2), (3, .int x3), (4, .int x4), (5, .int x5), (6, .int x6), (7, .int t0)] (ext_cons rfl (ext_cons rfl (ext_cons rfl (ext_cons rfl (ext_cons rfl (ext_cons rfl (ext_cons rfl (ext_cons rfl ext_nil)))))))) (kX11_lay_69 hS hk6 hf (ha1) hI)
    · have hf := ite_neg h11 hf
      refine to_icT (q := 62) (op := .ne) h11 dX11_lay_53 rfl ?_
      refine to_aload_n (q := 63) rfl (kd_4 (ha1) (by decide)) dX11_lay_62 rfl ?_
      refine to_iload (q := 65) rfl dX11_lay_63 rfl ?_
      refine to_iload_n (q := 66) rfl dX11_lay_65 rfl ?_
      obtain ⟨r14, m15, hc12, hf⟩ := cl2_some hf
      have qc13 := kX11_openOf hS hc12 (ha1) hI
      refine to_statI (q := 69) mX11_openOf [.ref a1, .int t0, .int x3] dX11_lay_66 rfl rfl (Nat.le_of_ble_eq_true rfl) mo_X11_openOf (Or.inl ml_X11_263) sa_X11_openOf (Call_mono (by decide) qc13.1) ?_
      have hI := qc13.2
      exact to_ext [(0, .ref 138), (1, .ref a1), (2, .int x2), (3, .int x3), (4, .int x4), (5, .int x5), (6, .int x6), (7, .int t0)] (ext_cons rfl (ext_cons rfl (ext_cons rfl (ext_cons rfl (ext_cons rfl (ext_cons rfl (ext_cons rfl (ext_cons rfl ext_nil)))))))) (kX11_lay_69 hS hk6 hf (ha1) hI)
  · have hf := ite_neg h9 hf
    refine to_ifF (q := 43) (op := .eq) 46 h9 dX11_lay_40 rfl rfl ?_
    refine to_goto (q := 104) dX11_lay_43 rfl ?_
    exact to_ext [(0, .ref 138), (1, .ref a1), (2, .int x2), (3, .int x3), (4, .int x4), (5, .int x5), (6, .int x6)] (ext_cons rfl (ext_cons rfl (ext_cons rfl (ext_cons rfl (ext_cons rfl (ext_cons rfl (ext_cons rfl ext_nil))))))) (kX11_lay_104 hS hk6 hf (ha1) hI)
def fX11_lay_6 (n : Nat) (a1 : Nat) (x2 : Int32) (x3 : Int32) (x4 : Int32) (x5 : Int32) (x6 : Int32) (m : Me) : Option (Int32 × Me) := match n with
  | 0 => none
  | n + 1 => ck (inb (0 : Int32) (ln a1)) (if (m.1 a1 (0 : Int32).toNatClampNeg) ≤ x6 then some (x5, m) else if x2 = (0 : Int32) then fX11_lay_31 (fX11_lay_6 n) a1 x2 x3 x4 x5 x6 x6 m else ck (inb (0 : Int32) (ln a1)) (fX11_lay_31 (fX11_lay_6 n) a1 x2 x3 x4 x5 x6 ((((m.1 a1 (0 : Int32).toNatClampNeg) - (1 : Int32)) - x6)) m))
set_option maxRecDepth 20000 in
theorem kX11_lay_6 {S : Sh} (hS : ShOK S) {res : Int32 × Me} (n : Nat) : ∀ {a1 : Nat} {x2 : Int32} {x3 : Int32} {x4 : Int32} {x5 : Int32} {x6 : Int32} {m : Me}, fX11_lay_6 n a1 x2 x3 x4 x5 x6 m = some res → kd a1 = 13 → Inv m → TT InvS (Call 1) mX11_lay (6, [(0, .ref 138), (1, .ref a1), (2, .int x2), (3, .int x3), (4, .int x4), (5, .int x5), (6, .int x6)], [], S, m) (some (.int res.1)) (S, res.2) := by
  induction n with
  | zero => intro a1 x2 x3 x4 x5 x6 m hf; cases hf
  | succ n ih =>
    intro a1 x2 x3 x4 x5 x6 m hf ha1 hI
    unfold fX11_lay_6 at hf
    refine to_iload (q := 8) rfl dX11_lay_6 rfl ?_
    refine to_aload_n (q := 9) rfl (kd_4 (ha1) (by decide)) dX11_lay_8 rfl ?_
    refine to_iconst (q := 10) ic_0 dX11_lay_9 rfl ?_
    obtain ⟨hb1, hf⟩ := ck_some hf
    refine to_iaj (q := 11) (sh_kd hS ha1 (by decide)) hb1 (rfl) dX11_lay_10 rfl ?_
    by_cases h2 : (m.1 a1 (0 : Int32).toNatClampNeg) ≤ x6
    · have hf := ite_pos h2 hf
      refine to_icT (q := 110) (op := .ge) h2 dX11_lay_11 rfl ?_
      refine to_iload (q := 112) rfl dX11_lay_110 rfl ?_
      cases hf
      exact to_iret dX11_lay_112 rfl rfl rfl rfl hI
    · have hf := ite_neg h2 hf
      refine to_icF (q := 14) (op := .ge) 110 h2 dX11_lay_11 rfl rfl ?_
      refine to_iload_n (q := 15) rfl dX11_lay_14 rfl ?_
      by_cases h3 : x2 = (0 : Int32)
      · have hf := ite_pos h3 hf
        refine to_ifF (q := 18) (op := .ne) 23 (fun z => z h3) dX11_lay_15 rfl rfl ?_
        refine to_iload (q := 20) rfl dX11_lay_18 rfl ?_
        refine to_goto (q := 31) dX11_lay_20 rfl ?_
        exact to_ext [(0, .ref 138), (1, .ref a1), (2, .int x2), (3, .int x3), (4, .int x4), (5, .int x5), (6, .int x6)] (ext_cons rfl (ext_cons rfl (ext_cons rfl (ext_cons rfl (ext_cons rfl (ext_cons rfl (ext_cons rfl ext_nil))))))) (kX11_lay_31 hS ih hf (ha1) hI)
      · have hf := ite_neg h3 hf
        refine to_ifT (q := 23) (op := .ne) h3 dX11_lay_15 rfl ?_
        refine to_aload_n (q := 24) rfl (kd_4 (ha1) (by decide)) dX11_lay_23 rfl ?_
        refine to_iconst (q := 25) ic_0 dX11_lay_24 rfl ?_
        obtain ⟨hb4, hf⟩ := ck_some hf
        refine to_iaj (q := 26) (sh_kd hS ha1 (by decide)) hb4 (rfl) dX11_lay_25 rfl ?_
        refine to_iconst (q := 27) ic_1 dX11_lay_26 rfl ?_
        refine to_isub (q := 28) dX11_lay_27 rfl ?_
        refine to_iload (q := 30) rfl dX11_lay_28 rfl ?_
        refine to_isub (q := 31) dX11_lay_30 rfl ?_
        exact to_ext [(0, .ref 138), (1, .ref a1), (2, .int x2), (3, .int x3), (4, .int x4), (5, .int x5), (6, .int x6)] (ext_cons rfl (ext_cons rfl (ext_cons rfl (ext_cons rfl (ext_cons rfl (ext_cons rfl (ext_cons rfl ext_nil))))))) (kX11_lay_31 hS ih hf (ha1) hI)
def fX11_lay (a1 : Nat) (x2 : Int32) (x3 : Int32) (x4 : Int32) (m : Me) : Option (Int32 × Me) := fX11_lay_6 FU a1 x2 x3 x4 ((0 : Int32)) ((0 : Int32)) m
set_option maxRecDepth 20000 in
theorem kX11_lay {S : Sh} (hS : ShOK S) {res : Int32 × Me} {a1 : Nat} {x2 : Int32} {x3 : Int32} {x4 : Int32} {m : Me} (hf : fX11_lay a1 x2 x3 x4 m = some res) (ha1 : kd a1 = 13) (hI : Inv m) : Call 2 mX11_lay [.ref 138, .ref a1, .int x2, .int x3, .int x4] (S, m) (some (.int res.1)) (S, res.2) ∧ Inv res.2 := by
  refine call_of (P := InvS) (Nat.le_of_ble_eq_true rfl) (by simp [Value.category]) ?_
  show TT InvS (Call 1) mX11_lay (0, [(0, .ref 138), (1, .ref a1), (2, .int x2), (3, .int x3), (4, .int x4)], [], S, m) _ _
  unfold fX11_lay at hf
  refine to_iconst (q := 1) ic_0 dX11_lay_0 rfl ?_
  refine to_istore (q := 3) [(5, .int (0 : Int32)), (0, .ref 138), (1, .ref a1), (2, .int x2), (3, .int x3), (4, .int x4)] rfl (by decide) dX11_lay_1 rfl ?_
  refine to_iconst (q := 4) ic_0 dX11_lay_3 rfl ?_
  refine to_istore (q := 6) [(6, .int (0 : Int32)), (5, .int (0 : Int32)), (0, .ref 138), (1, .ref a1), (2, .int x2), (3, .int x3), (4, .int x4)] rfl (by decide) dX11_lay_4 rfl ?_
  exact to_ext [(0, .ref 138), (1, .ref a1), (2, .int x2), (3, .int x3), (4, .int x4), (5, .int (0 : Int32)), (6, .int (0 : Int32))] (ext_cons rfl (ext_cons rfl (ext_cons rfl (ext_cons rfl (ext_cons rfl (ext_cons rfl (ext_cons rfl ext_nil))))))) (kX11_lay_6 hS FU hf (ha1) hI)
def fX11_seenLine_190 (m : Me) : Option (Me) := some m
set_option maxRecDepth 20000 in
theorem kX11_seenLine_190 {S : Sh} (hS : ShOK S) {res : Me} {m : Me} (hf : fX11_seenLine_190 m = some res) (hI : Inv m) : TT InvS (Call 10) mX11_seenLine (190, [], [], S, m) none (S, res) := by
  unfold fX11_seenLine_190 at hf
  cases hf
  exact to_vret dX11_seenLine_190 rfl rfl rfl hI
def fX11_seenLine_151 (x1 : Int32) (m : Me) : Option (Me) := cl2 (fX11_keepWord (((132 : Int32) + ((8 : Int32) * x1))) m) fun r42 m43 => ck (inb ((126 : Int32) + x1) 186) (if ((setI m43 142 ((126 : Int32) + x1).toNatClampNeg r42).1 138 13) = (0 : Int32) then fX11_seenLine_190 (setI (setI m43 142 ((126 : Int32) + x1).toNatClampNeg r42) 142 7 (((setI m43 142 ((126 : Int32) + x1).toNatClampNeg r42).1 142 7) + (1 : Int32))) else fX11_seenLine_190 (setI m43 142 ((126 : Int32) + x1).toNatClampNeg r42))
set_option maxRecDepth 20000 in
theorem kX11_seenLine_151 {S : Sh} (hS : ShOK S) {res : Me} {x1 : Int32} {m : Me} (hf : fX11_seenLine_151 x1 m = some res) (hI : Inv m) : TT InvS (Call 10) mX11_seenLine (151, [(0, .ref 138), (1, .int x1)], [], S, m) none (S, res) := by
  unfold fX11_seenLine_151 at hf
  refine to_aload_n (q := 152) rfl (by decide) dX11_seenLine_151 rfl ?_
  refine to_getR (q := 155) (b := 142) (k0 := 11) (C := RX11) (T := TX11) (N := 37) (j := 16) rfl fx_X11_23 (h_138 hS) rfl (iv_138_16 hI) dX11_seenLine_152 rfl ?_
  refine to_bipush (q := 157) bp_126 dX11_seenLine_155 rfl ?_
  refine to_iload_n (q := 158) rfl dX11_seenLine_157 rfl ?_
  refine to_iadd (q := 159) dX11_seenLine_158 rfl ?_
  refine to_aload_n (q := 160) rfl (by decide) dX11_seenLine_159 rfl ?_
  refine to_sipush (q := 163) sp_132 dX11_seenLine_160 rfl ?_
  refine to_bipush (q := 165) bp_8 dX11_seenLine_163 rfl ?_
  refine to_iload_n (q := 166) rfl dX11_seenLine_165 rfl ?_
  refine to_imul (q := 167) dX11_seenLine_166 rfl ?_
  refine to_iadd (q := 168) dX11_seenLine_167 rfl ?_
  obtain ⟨r42, m43, hc40, hf⟩ := cl2_some hf
  have qc41 := kX11_keepWord hS hc40 hI
  refine to_virtI (q := 171) mX11_keepWord [.int ((132 : Int32) + ((8 : Int32) * x1))] dX11_seenLine_168 rfl rfl (Nat.le_of_ble_eq_true rfl) mo_X11_keepWord mv_X11_237 (Or.inl ⟨_, _, _, h_138 hS, rfl, rfl⟩) (Call_mono (by decide) qc41.1) ?_
  have hI := qc41.2
  obtain ⟨hb44, hf⟩ := ck_some hf
  refine to_iasj (q := 172) (h_142 hS) hb44 (rfl) dX11_seenLine_171 rfl ?_
  refine to_aload_n (q := 173) rfl (by decide) dX11_seenLine_172 rfl ?_
  refine to_getI (q := 176) (k0 := 11) (C := RX11) (T := TX11) (N := 37) (j := 13) rfl fx_X11_109 (h_138 hS) rfl dX11_seenLine_173 rfl ?_
  by_cases h45 : ((setI m43 142 ((126 : Int32) + x1).toNatClampNeg r42).1 138 13) = (0 : Int32)
  · have hf := ite_pos h45 hf
    refine to_ifF (q := 179) (op := .ne) 190 (fun z => z h45) dX11_seenLine_176 rfl rfl ?_
    refine to_aload_n (q := 180) rfl (by decide) dX11_seenLine_179 rfl ?_
    refine to_getR (q := 183) (b := 142) (k0 := 11) (C := RX11) (T := TX11) (N := 37) (j := 16) rfl fx_X11_23 (h_138 hS) rfl (iv_138_16 hI) dX11_seenLine_180 rfl ?_
    refine to_bipush (q := 185) bp_7 dX11_seenLine_183 rfl ?_
    refine to_dup2 (q := 186) rfl rfl dX11_seenLine_185 rfl ?_
    refine to_iaj (q := 187) (h_142 hS) (by decide) (tn_7) dX11_seenLine_186 rfl ?_
    refine to_iconst (q := 188) ic_1 dX11_seenLine_187 rfl ?_
    refine to_iadd (q := 189) dX11_seenLine_188 rfl ?_
    refine to_iasj (q := 190) (h_142 hS) (by decide) (tn_7) dX11_seenLine_189 rfl ?_
    exact to_ext [] ext_nil (kX11_seenLine_190 hS hf hI)
  · have hf := ite_neg h45 hf
    refine to_ifT (q := 190) (op := .ne) h45 dX11_seenLine_176 rfl ?_
    exact to_ext [] ext_nil (kX11_seenLine_190 hS hf hI)
def fX11_seenLine_94 (x1 : Int32) (t0 : Int32) (m : Me) : Option (Me) := cl2 (fX11_number (0 : Int32) ((t0 - (1 : Int32))) m) fun r28 m29 => ck (inb ((120 : Int32) + x1) 186) (cl1 (fX11_mustWord (setI m29 142 ((120 : Int32) + x1).toNatClampNeg r28)) fun m33 => if (m33.1 138 13) = (0 : Int32) then ck (inb ((120 : Int32) + x1) 186) (if ((m33.1 142 ((120 : Int32) + x1).toNatClampNeg) + (m33.1 138 8)) ≤ t0 then fX11_seenLine_151 x1 m33 else cl1 (fX11_wrong (7 : Int32) (m33.1 138 4) m33) fun m39 => fX11_seenLine_151 x1 m39) else fX11_seenLine_151 x1 m33)
set_option maxRecDepth 20000 in
theorem kX11_seenLine_94 {S : Sh} (hS : ShOK S) {res : Me} {x1 : Int32} {t0 : Int32} {m : Me} (hf : fX11_seenLine_94 x1 t0 m = some res) (hI : Inv m) : TT InvS (Call 10) mX11_seenLine (94, [(0, .ref 138), (1, .int x1)], [.int t0], S, m) none (S, res) := by
  unfold fX11_seenLine_94 at hf
  refine to_istore_n (q := 95) [(2, .int t0), (0, .ref 138), (1, .int x1)] rfl (by decide) dX11_seenLine_94 rfl ?_
  refine to_aload_n (q := 96) rfl (by decide) dX11_seenLine_95 rfl ?_
  refine to_getR (q := 99) (b := 142) (k0 := 11) (C := RX11) (T := TX11) (N := 37) (j := 16) rfl fx_X11_23 (h_138 hS) rfl (iv_138_16 hI) dX11_seenLine_96 rfl ?_
  refine to_bipush (q := 101) bp_120 dX11_seenLine_99 rfl ?_
  refine to_iload_n (q := 102) rfl dX11_seenLine_101 rfl ?_
  refine to_iadd (q := 103) dX11_seenLine_102 rfl ?_
  refine to_aload_n (q := 104) rfl (by decide) dX11_seenLine_103 rfl ?_
  refine to_iconst (q := 105) ic_0 dX11_seenLine_104 rfl ?_
  refine to_iload_n (q := 106) rfl dX11_seenLine_105 rfl ?_
  refine to_iconst (q := 107) ic_1 dX11_seenLine_106 rfl ?_
  refine to_isub (q := 108) dX11_seenLine_107 rfl ?_
  obtain ⟨r28, m29, hc26, hf⟩ := cl2_some hf
  have qc27 := kX11_number hS hc26 hI
  refine to_virtI (q := 111) mX11_number [.int (0 : Int32), .int (t0 - (1 : Int32))] dX11_seenLine_108 rfl rfl (Nat.le_of_ble_eq_true rfl) mo_X11_number mv_X11_148 (Or.inl ⟨_, _, _, h_138 hS, rfl, rfl⟩) (Call_mono (by decide) qc27.1) ?_
  have hI := qc27.2
  obtain ⟨hb30, hf⟩ := ck_some hf
  refine to_iasj (q := 112) (h_142 hS) hb30 (rfl) dX11_seenLine_111 rfl ?_
  refine to_aload_n (q := 113) rfl (by decide) dX11_seenLine_112 rfl ?_
  obtain ⟨m33, hc31, hf⟩ := cl1_some hf
  have qc32 := kX11_mustWord hS hc31 hI
  refine to_virtV (q := 116) mX11_mustWord [] dX11_seenLine_113 rfl rfl (Nat.le_of_ble_eq_true rfl) mo_X11_mustWord mv_X11_232 (Or.inl ⟨_, _, _, h_138 hS, rfl, rfl⟩) (Call_mono (by decide) qc32.1) ?_
  have hI := qc32.2
  refine to_aload_n (q := 117) rfl (by decide) dX11_seenLine_116 rfl ?_
  refine to_getI (q := 120) (k0 := 11) (C := RX11) (T := TX11) (N := 37) (j := 13) rfl fx_X11_109 (h_138 hS) rfl dX11_seenLine_117 rfl ?_
  by_cases h34 : (m33.1 138 13) = (0 : Int32)
  · have hf := ite_pos h34 hf
    refine to_ifF (q := 123) (op := .ne) 151 (fun z => z h34) dX11_seenLine_120 rfl rfl ?_
    refine to_aload_n (q := 124) rfl (by decide) dX11_seenLine_123 rfl ?_
    refine to_getR (q := 127) (b := 142) (k0 := 11) (C := RX11) (T := TX11) (N := 37) (j := 16) rfl fx_X11_23 (h_138 hS) rfl (iv_138_16 hI) dX11_seenLine_124 rfl ?_
    refine to_bipush (q := 129) bp_120 dX11_seenLine_127 rfl ?_
    refine to_iload_n (q := 130) rfl dX11_seenLine_129 rfl ?_
    refine to_iadd (q := 131) dX11_seenLine_130 rfl ?_
    obtain ⟨hb35, hf⟩ := ck_some hf
    refine to_iaj (q := 132) (h_142 hS) hb35 (rfl) dX11_seenLine_131 rfl ?_
    refine to_aload_n (q := 133) rfl (by decide) dX11_seenLine_132 rfl ?_
    refine to_getI (q := 136) (k0 := 11) (C := RX11) (T := TX11) (N := 37) (j := 8) rfl fx_X11_93 (h_138 hS) rfl dX11_seenLine_133 rfl ?_
    refine to_iadd (q := 137) dX11_seenLine_136 rfl ?_
    refine to_iload_n (q := 138) rfl dX11_seenLine_137 rfl ?_
    by_cases h36 : ((m33.1 142 ((120 : Int32) + x1).toNatClampNeg) + (m33.1 138 8)) ≤ t0
    · have hf := ite_pos h36 hf
      refine to_icT (q := 151) (op := .le) h36 dX11_seenLine_138 rfl ?_
      exact to_ext [(0, .ref 138), (1, .int x1)] (ext_cons rfl (ext_cons rfl ext_nil)) (kX11_seenLine_151 hS hf hI)
    · have hf := ite_neg h36 hf
      refine to_icF (q := 141) (op := .le) 151 h36 dX11_seenLine_138 rfl rfl ?_
      refine to_aload_n (q := 142) rfl (by decide) dX11_seenLine_141 rfl ?_
      refine to_bipush (q := 144) bp_7 dX11_seenLine_142 rfl ?_
      refine to_aload_n (q := 145) rfl (by decide) dX11_seenLine_144 rfl ?_
      refine to_getI (q := 148) (k0 := 11) (C := RX11) (T := TX11) (N := 37) (j := 4) rfl fx_X11_90 (h_138 hS) rfl dX11_seenLine_145 rfl ?_
      obtain ⟨m39, hc37, hf⟩ := cl1_some hf
      have qc38 := kX11_wrong hS hc37 hI
      refine to_virtV (q := 151) mX11_wrong [.int (7 : Int32), .int (m33.1 138 4)] dX11_seenLine_148 rfl rfl (Nat.le_of_ble_eq_true rfl) mo_X11_wrong mv_X11_136 (Or.inl ⟨_, _, _, h_138 hS, rfl, rfl⟩) (Call_mono (by decide) qc38.1) ?_
      have hI := qc38.2
      exact to_ext [(0, .ref 138), (1, .int x1)] (ext_cons rfl (ext_cons rfl ext_nil)) (kX11_seenLine_151 hS hf hI)
  · have hf := ite_neg h34 hf
    refine to_ifT (q := 151) (op := .ne) h34 dX11_seenLine_120 rfl ?_
    exact to_ext [(0, .ref 138), (1, .int x1)] (ext_cons rfl (ext_cons rfl ext_nil)) (kX11_seenLine_151 hS hf hI)
def fX11_seenLine (m : Me) : Option (Me) := if (m.1 138 13) = (0 : Int32) then cl2 (fX11_side m) fun r4 m5 => ck (inb ((108 : Int32) + (m.1 142 7)) 186) (cl2 (fX11_mostOpen 142 (setI m5 142 ((108 : Int32) + (m.1 142 7)).toNatClampNeg r4)) fun r9 m10 => cl2 (fX11_number (0 : Int32) r9 m10) fun r13 m14 => ck (inb ((114 : Int32) + (m.1 142 7)) 186) (cl1 (fX11_must 30 (setI m14 142 ((114 : Int32) + (m.1 142 7)).toNatClampNeg r13)) fun m18 => if (m18.1 138 13) = (0 : Int32) then ck (inb ((108 : Int32) + (m.1 142 7)) 186) (ck (inb ((114 : Int32) + (m.1 142 7)) 186) (cl2 (fX11_lay 142 ((m18.1 142 ((108 : Int32) + (m.1 142 7)).toNatClampNeg)) ((m18.1 142 ((114 : Int32) + (m.1 142 7)).toNatClampNeg)) (0 : Int32) m18) fun r24 m25 => fX11_seenLine_94 ((m.1 142 7)) r24 m25)) else fX11_seenLine_94 ((m.1 142 7)) ((1 : Int32)) m18)) else some m
set_option maxRecDepth 20000 in
theorem kX11_seenLine {S : Sh} (hS : ShOK S) {res : Me} {m : Me} (hf : fX11_seenLine m = some res) (hI : Inv m) : Call 11 mX11_seenLine [.ref 138] (S, m) none (S, res) ∧ Inv res := by
  refine call_of (P := InvS) (Nat.le_of_ble_eq_true rfl) (by simp [Value.category]) ?_
  show TT InvS (Call 10) mX11_seenLine (0, [(0, .ref 138)], [], S, m) _ _
  unfold fX11_seenLine at hf
  refine to_aload_n (q := 1) rfl (by decide) dX11_seenLine_0 rfl ?_
  refine to_getI (q := 4) (k0 := 11) (C := RX11) (T := TX11) (N := 37) (j := 13) rfl fx_X11_109 (h_138 hS) rfl dX11_seenLine_1 rfl ?_
  by_cases h1 : (m.1 138 13) = (0 : Int32)
  · have hf := ite_pos h1 hf
    refine to_ifT (q := 8) (op := .eq) h1 dX11_seenLine_4 rfl ?_
    refine to_aload_n (q := 9) rfl (by decide) dX11_seenLine_8 rfl ?_
    refine to_getR (q := 12) (b := 142) (k0 := 11) (C := RX11) (T := TX11) (N := 37) (j := 16) rfl fx_X11_23 (h_138 hS) rfl (iv_138_16 hI) dX11_seenLine_9 rfl ?_
    refine to_bipush (q := 14) bp_7 dX11_seenLine_12 rfl ?_
    refine to_iaj (q := 15) (h_142 hS) (by decide) (tn_7) dX11_seenLine_14 rfl ?_
    refine to_istore_n (q := 16) [(1, .int (m.1 142 7)), (0, .ref 138)] rfl (by decide) dX11_seenLine_15 rfl ?_
    refine to_aload_n (q := 17) rfl (by decide) dX11_seenLine_16 rfl ?_
    refine to_getR (q := 20) (b := 142) (k0 := 11) (C := RX11) (T := TX11) (N := 37) (j := 16) rfl fx_X11_23 (h_138 hS) rfl (iv_138_16 hI) dX11_seenLine_17 rfl ?_
    refine to_bipush (q := 22) bp_108 dX11_seenLine_20 rfl ?_
    refine to_iload_n (q := 23) rfl dX11_seenLine_22 rfl ?_
    refine to_iadd (q := 24) dX11_seenLine_23 rfl ?_
    refine to_aload_n (q := 25) rfl (by decide) dX11_seenLine_24 rfl ?_
    obtain ⟨r4, m5, hc2, hf⟩ := cl2_some hf
    have qc3 := kX11_side hS hc2 hI
    refine to_virtI (q := 28) mX11_side [] dX11_seenLine_25 rfl rfl (Nat.le_of_ble_eq_true rfl) mo_X11_side mv_X11_240 (Or.inl ⟨_, _, _, h_138 hS, rfl, rfl⟩) (Call_mono (by decide) qc3.1) ?_
    have hI := qc3.2
    obtain ⟨hb6, hf⟩ := ck_some hf
    refine to_iasj (q := 29) (h_142 hS) hb6 (rfl) dX11_seenLine_28 rfl ?_
    refine to_aload_n (q := 30) rfl (by decide) dX11_seenLine_29 rfl ?_
    refine to_getR (q := 33) (b := 142) (k0 := 11) (C := RX11) (T := TX11) (N := 37) (j := 16) rfl fx_X11_23 (h_138 hS) rfl (iv_138_16 hI) dX11_seenLine_30 rfl ?_
    refine to_bipush (q := 35) bp_114 dX11_seenLine_33 rfl ?_
    refine to_iload_n (q := 36) rfl dX11_seenLine_35 rfl ?_
    refine to_iadd (q := 37) dX11_seenLine_36 rfl ?_
    refine to_aload_n (q := 38) rfl (by decide) dX11_seenLine_37 rfl ?_
    refine to_iconst (q := 39) ic_0 dX11_seenLine_38 rfl ?_
    refine to_aload_n (q := 40) rfl (by decide) dX11_seenLine_39 rfl ?_
    refine to_getR (q := 43) (b := 142) (k0 := 11) (C := RX11) (T := TX11) (N := 37) (j := 16) rfl fx_X11_23 (h_138 hS) rfl (iv_138_16 hI) dX11_seenLine_40 rfl ?_
    obtain ⟨r9, m10, hc7, hf⟩ := cl2_some hf
    have qc8 := kX11_mostOpen hS hc7 rfl hI
    refine to_statI (q := 46) mX11_mostOpen [.ref 142] dX11_seenLine_43 rfl rfl (Nat.le_of_ble_eq_true rfl) mo_X11_mostOpen (Or.inl ml_X11_178) sa_X11_mostOpen (Call_mono (by decide) qc8.1) ?_
    have hI := qc8.2
    obtain ⟨r13, m14, hc11, hf⟩ := cl2_some hf
    have qc12 := kX11_number hS hc11 hI
    refine to_virtI (q := 49) mX11_number [.int (0 : Int32), .int r9] dX11_seenLine_46 rfl rfl (Nat.le_of_ble_eq_true rfl) mo_X11_number mv_X11_148 (Or.inl ⟨_, _, _, h_138 hS, rfl, rfl⟩) (Call_mono (by decide) qc12.1) ?_
    have hI := qc12.2
    obtain ⟨hb15, hf⟩ := ck_some hf
    refine to_iasj (q := 50) (h_142 hS) hb15 (rfl) dX11_seenLine_49 rfl ?_
    refine to_aload_n (q := 51) rfl (by decide) dX11_seenLine_50 rfl ?_
    refine to_ldcS (q := 53) (i := 30) rfl dX11_seenLine_51 rfl ?_
    obtain ⟨m18, hc16, hf⟩ := cl1_some hf
    have qc17 := kX11_must hS hc16 (by decide) hI
    refine to_virtV (q := 56) mX11_must [.ref (1000000 + 30)] dX11_seenLine_53 rfl rfl (Nat.le_of_ble_eq_true rfl) mo_X11_must mv_X11_144 (Or.inl ⟨_, _, _, h_138 hS, rfl, rfl⟩) (Call_mono (by decide) qc17.1) ?_
    have hI := qc17.2
    refine to_aload_n (q := 57) rfl (by decide) dX11_seenLine_56 rfl ?_
    refine to_getI (q := 60) (k0 := 11) (C := RX11) (T := TX11) (N := 37) (j := 13) rfl fx_X11_109 (h_138 hS) rfl dX11_seenLine_57 rfl ?_
    by_cases h19 : (m18.1 138 13) = (0 : Int32)
    · have hf := ite_pos h19 hf
      refine to_ifT (q := 67) (op := .eq) h19 dX11_seenLine_60 rfl ?_
      refine to_aload_n (q := 68) rfl (by decide) dX11_seenLine_67 rfl ?_
      refine to_aload_n (q := 69) rfl (by decide) dX11_seenLine_68 rfl ?_
      refine to_getR (q := 72) (b := 142) (k0 := 11) (C := RX11) (T := TX11) (N := 37) (j := 16) rfl fx_X11_23 (h_138 hS) rfl (iv_138_16 hI) dX11_seenLine_69 rfl ?_
      refine to_aload_n (q := 73) rfl (by decide) dX11_seenLine_72 rfl ?_
      refine to_getR (q := 76) (b := 142) (k0 := 11) (C := RX11) (T := TX11) (N := 37) (j := 16) rfl fx_X11_23 (h_138 hS) rfl (iv_138_16 hI) dX11_seenLine_73 rfl ?_
      refine to_bipush (q := 78) bp_108 dX11_seenLine_76 rfl ?_
      refine to_iload_n (q := 79) rfl dX11_seenLine_78 rfl ?_
      refine to_iadd (q := 80) dX11_seenLine_79 rfl ?_
      obtain ⟨hb20, hf⟩ := ck_some hf
      refine to_iaj (q := 81) (h_142 hS) hb20 (rfl) dX11_seenLine_80 rfl ?_
      refine to_aload_n (q := 82) rfl (by decide) dX11_seenLine_81 rfl ?_
      refine to_getR (q := 85) (b := 142) (k0 := 11) (C := RX11) (T := TX11) (N := 37) (j := 16) rfl fx_X11_23 (h_138 hS) rfl (iv_138_16 hI) dX11_seenLine_82 rfl ?_
      refine to_bipush (q := 87) bp_114 dX11_seenLine_85 rfl ?_
      refine to_iload_n (q := 88) rfl dX11_seenLine_87 rfl ?_
      refine to_iadd (q := 89) dX11_seenLine_88 rfl ?_
      obtain ⟨hb21, hf⟩ := ck_some hf
      refine to_iaj (q := 90) (h_142 hS) hb21 (rfl) dX11_seenLine_89 rfl ?_
      refine to_iconst (q := 91) ic_0 dX11_seenLine_90 rfl ?_
      obtain ⟨r24, m25, hc22, hf⟩ := cl2_some hf
      have qc23 := kX11_lay hS hc22 rfl hI
      refine to_virtI (q := 94) mX11_lay [.ref 142, .int (m18.1 142 ((108 : Int32) + (m.1 142 7)).toNatClampNeg), .int (m18.1 142 ((114 : Int32) + (m.1 142 7)).toNatClampNeg), .int (0 : Int32)] dX11_seenLine_91 rfl rfl (Nat.le_of_ble_eq_true rfl) mo_X11_lay mv_X11_245 (Or.inl ⟨_, _, _, h_138 hS, rfl, rfl⟩) (Call_mono (by decide) qc23.1) ?_
      have hI := qc23.2
      exact to_ext [(0, .ref 138), (1, .int (m.1 142 7))] (ext_cons rfl (ext_cons rfl ext_nil)) (kX11_seenLine_94 hS hf hI)
    · have hf := ite_neg h19 hf
      refine to_ifF (q := 63) (op := .eq) 67 h19 dX11_seenLine_60 rfl rfl ?_
      refine to_iconst (q := 64) ic_1 dX11_seenLine_63 rfl ?_
      refine to_goto (q := 94) dX11_seenLine_64 rfl ?_
      exact to_ext [(0, .ref 138), (1, .int (m.1 142 7))] (ext_cons rfl (ext_cons rfl ext_nil)) (kX11_seenLine_94 hS hf hI)
  · have hf := ite_neg h1 hf
    refine to_ifF (q := 7) (op := .eq) 8 h1 dX11_seenLine_4 rfl rfl ?_
    cases hf
    exact to_vret dX11_seenLine_7 rfl rfl rfl hI
def fX11_beatLine_153 (k18 : Int32 → Me → Option (Me)) (x1 : Int32) (m : Me) : Option (Me) := k18 x1 m
set_option maxRecDepth 20000 in
theorem kX11_beatLine_153 {S : Sh} (hS : ShOK S) {res : Me} {k18 : Int32 → Me → Option (Me)} (hk18 : ∀ {x1 : Int32} {m : Me}, k18 x1 m = some res → Inv m → TT InvS (Call 3) mX11_beatLine (18, [(0, .ref 138), (1, .int x1)], [], S, m) none (S, res)) {x1 : Int32} {m : Me} (hf : fX11_beatLine_153 k18 x1 m = some res) (hI : Inv m) : TT InvS (Call 3) mX11_beatLine (153, [(0, .ref 138), (1, .int x1)], [], S, m) none (S, res) := by
  unfold fX11_beatLine_153 at hf
  refine to_goto (q := 18) dX11_beatLine_153 rfl ?_
  exact to_ext [(0, .ref 138), (1, .int x1)] (ext_cons rfl (ext_cons rfl ext_nil)) (hk18 hf hI)
def fX11_beatLine_143 (m : Me) : Option (Me) := cl1 (fX11_wrong (5 : Int32) (m.1 138 4) m) fun m38 => some m38
set_option maxRecDepth 20000 in
theorem kX11_beatLine_143 {S : Sh} (hS : ShOK S) {res : Me} {m : Me} (hf : fX11_beatLine_143 m = some res) (hI : Inv m) : TT InvS (Call 3) mX11_beatLine (143, [(0, .ref 138)], [], S, m) none (S, res) := by
  unfold fX11_beatLine_143 at hf
  refine to_aload_n (q := 144) rfl (by decide) dX11_beatLine_143 rfl ?_
  refine to_iconst (q := 145) ic_5 dX11_beatLine_144 rfl ?_
  refine to_aload_n (q := 146) rfl (by decide) dX11_beatLine_145 rfl ?_
  refine to_getI (q := 149) (k0 := 11) (C := RX11) (T := TX11) (N := 37) (j := 4) rfl fx_X11_90 (h_138 hS) rfl dX11_beatLine_146 rfl ?_
  obtain ⟨m38, hc36, hf⟩ := cl1_some hf
  have qc37 := kX11_wrong hS hc36 hI
  refine to_virtV (q := 152) mX11_wrong [.int (5 : Int32), .int (m.1 138 4)] dX11_beatLine_149 rfl rfl (Nat.le_of_ble_eq_true rfl) mo_X11_wrong mv_X11_136 (Or.inl ⟨_, _, _, h_138 hS, rfl, rfl⟩) (Call_mono (by decide) qc37.1) ?_
  have hI := qc37.2
  cases hf
  exact to_vret dX11_beatLine_152 rfl rfl rfl hI
def fX11_beatLine_109 (m : Me) : Option (Me) := if (m.1 138 13) = (0 : Int32) then cl2 (fX11_mostOpen 142 m) fun r26 m27 => cl2 (fX11_within (m.1 138 7) (0 : Int32) r26 m27) fun r30 m31 => if r30 = (0 : Int32) then cl1 (fX11_wrong (4 : Int32) (m31.1 138 4) m31) fun m35 => fX11_beatLine_143 m35 else fX11_beatLine_143 m31 else fX11_beatLine_143 m
set_option maxRecDepth 20000 in
theorem kX11_beatLine_109 {S : Sh} (hS : ShOK S) {res : Me} {m : Me} (hf : fX11_beatLine_109 m = some res) (hI : Inv m) : TT InvS (Call 3) mX11_beatLine (109, [(0, .ref 138)], [], S, m) none (S, res) := by
  unfold fX11_beatLine_109 at hf
  refine to_aload_n (q := 110) rfl (by decide) dX11_beatLine_109 rfl ?_
  refine to_getI (q := 113) (k0 := 11) (C := RX11) (T := TX11) (N := 37) (j := 13) rfl fx_X11_109 (h_138 hS) rfl dX11_beatLine_110 rfl ?_
  by_cases h23 : (m.1 138 13) = (0 : Int32)
  · have hf := ite_pos h23 hf
    refine to_ifF (q := 116) (op := .ne) 143 (fun z => z h23) dX11_beatLine_113 rfl rfl ?_
    refine to_aload_n (q := 117) rfl (by decide) dX11_beatLine_116 rfl ?_
    refine to_getI (q := 120) (k0 := 11) (C := RX11) (T := TX11) (N := 37) (j := 7) rfl fx_X11_96 (h_138 hS) rfl dX11_beatLine_117 rfl ?_
    refine to_iconst (q := 121) ic_0 dX11_beatLine_120 rfl ?_
    refine to_aload_n (q := 122) rfl (by decide) dX11_beatLine_121 rfl ?_
    refine to_getR (q := 125) (b := 142) (k0 := 11) (C := RX11) (T := TX11) (N := 37) (j := 16) rfl fx_X11_23 (h_138 hS) rfl (iv_138_16 hI) dX11_beatLine_122 rfl ?_
    obtain ⟨r26, m27, hc24, hf⟩ := cl2_some hf
    have qc25 := kX11_mostOpen hS hc24 rfl hI
    refine to_statI (q := 128) mX11_mostOpen [.ref 142] dX11_beatLine_125 rfl rfl (Nat.le_of_ble_eq_true rfl) mo_X11_mostOpen (Or.inl ml_X11_178) sa_X11_mostOpen (Call_mono (by decide) qc25.1) ?_
    have hI := qc25.2
    obtain ⟨r30, m31, hc28, hf⟩ := cl2_some hf
    have qc29 := kX11_within hS hc28 hI
    refine to_statI (q := 131) mX11_within [.int (m.1 138 7), .int (0 : Int32), .int r26] dX11_beatLine_128 rfl rfl (Nat.le_of_ble_eq_true rfl) mo_X11_within (Or.inl ml_X11_140) sa_X11_within (Call_mono (by decide) qc29.1) ?_
    have hI := qc29.2
    by_cases h32 : r30 = (0 : Int32)
    · have hf := ite_pos h32 hf
      refine to_ifF (q := 134) (op := .ne) 143 (fun z => z h32) dX11_beatLine_131 rfl rfl ?_
      refine to_aload_n (q := 135) rfl (by decide) dX11_beatLine_134 rfl ?_
      refine to_iconst (q := 136) ic_4 dX11_beatLine_135 rfl ?_
      refine to_aload_n (q := 137) rfl (by decide) dX11_beatLine_136 rfl ?_
      refine to_getI (q := 140) (k0 := 11) (C := RX11) (T := TX11) (N := 37) (j := 4) rfl fx_X11_90 (h_138 hS) rfl dX11_beatLine_137 rfl ?_
      obtain ⟨m35, hc33, hf⟩ := cl1_some hf
      have qc34 := kX11_wrong hS hc33 hI
      refine to_virtV (q := 143) mX11_wrong [.int (4 : Int32), .int (m31.1 138 4)] dX11_beatLine_140 rfl rfl (Nat.le_of_ble_eq_true rfl) mo_X11_wrong mv_X11_136 (Or.inl ⟨_, _, _, h_138 hS, rfl, rfl⟩) (Call_mono (by decide) qc34.1) ?_
      have hI := qc34.2
      exact to_ext [(0, .ref 138)] (ext_cons rfl ext_nil) (kX11_beatLine_143 hS hf hI)
    · have hf := ite_neg h32 hf
      refine to_ifT (q := 143) (op := .ne) h32 dX11_beatLine_131 rfl ?_
      exact to_ext [(0, .ref 138)] (ext_cons rfl ext_nil) (kX11_beatLine_143 hS hf hI)
  · have hf := ite_neg h23 hf
    refine to_ifT (q := 143) (op := .ne) h23 dX11_beatLine_113 rfl ?_
    exact to_ext [(0, .ref 138)] (ext_cons rfl ext_nil) (kX11_beatLine_143 hS hf hI)
def fX11_beatLine_18 (n : Nat) (x1 : Int32) (m : Me) : Option (Me) := match n with
  | 0 => none
  | n + 1 => if x1 = (0 : Int32) then some m else cl2 (fX11_mostOpen 142 m) fun r5 m6 => cl2 (fX11_number (0 : Int32) r5 m6) fun r9 m10 => if (m10.1 138 13) = (0 : Int32) then ck (inb ((180 : Int32) + (m10.1 142 8)) 186) (cl2 (fX11_comma (setI (setI m10 142 ((180 : Int32) + (m10.1 142 8)).toNatClampNeg r9) 142 8 (((setI m10 142 ((180 : Int32) + (m10.1 142 8)).toNatClampNeg r9).1 142 8) + (1 : Int32)))) fun r15 m16 => if r15 = (0 : Int32) then fX11_beatLine_153 (fX11_beatLine_18 n) r15 m16 else if (m16.1 142 8) = (6 : Int32) then if (m16.1 138 6) = (3 : Int32) then fX11_beatLine_109 m16 else cl1 (fX11_wrong (1 : Int32) (m16.1 138 4) m16) fun m22 => fX11_beatLine_109 m22 else fX11_beatLine_153 (fX11_beatLine_18 n) r15 m16) else some m10
set_option maxRecDepth 20000 in
theorem kX11_beatLine_18 {S : Sh} (hS : ShOK S) {res : Me} (n : Nat) : ∀ {x1 : Int32} {m : Me}, fX11_beatLine_18 n x1 m = some res → Inv m → TT InvS (Call 3) mX11_beatLine (18, [(0, .ref 138), (1, .int x1)], [], S, m) none (S, res) := by
  induction n with
  | zero => intro x1 m hf; cases hf
  | succ n ih =>
    intro x1 m hf  hI
    unfold fX11_beatLine_18 at hf
    refine to_iload_n (q := 19) rfl dX11_beatLine_18 rfl ?_
    by_cases h2 : x1 = (0 : Int32)
    · have hf := ite_pos h2 hf
      refine to_ifT (q := 156) (op := .eq) h2 dX11_beatLine_19 rfl ?_
      cases hf
      exact to_vret dX11_beatLine_156 rfl rfl rfl hI
    · have hf := ite_neg h2 hf
      refine to_ifF (q := 22) (op := .eq) 156 h2 dX11_beatLine_19 rfl rfl ?_
      refine to_aload_n (q := 23) rfl (by decide) dX11_beatLine_22 rfl ?_
      refine to_iconst (q := 24) ic_0 dX11_beatLine_23 rfl ?_
      refine to_aload_n (q := 25) rfl (by decide) dX11_beatLine_24 rfl ?_
      refine to_getR (q := 28) (b := 142) (k0 := 11) (C := RX11) (T := TX11) (N := 37) (j := 16) rfl fx_X11_23 (h_138 hS) rfl (iv_138_16 hI) dX11_beatLine_25 rfl ?_
      obtain ⟨r5, m6, hc3, hf⟩ := cl2_some hf
      have qc4 := kX11_mostOpen hS hc3 rfl hI
      refine to_statI (q := 31) mX11_mostOpen [.ref 142] dX11_beatLine_28 rfl rfl (Nat.le_of_ble_eq_true rfl) mo_X11_mostOpen (Or.inl ml_X11_178) sa_X11_mostOpen (Call_mono (by decide) qc4.1) ?_
      have hI := qc4.2
      obtain ⟨r9, m10, hc7, hf⟩ := cl2_some hf
      have qc8 := kX11_number hS hc7 hI
      refine to_virtI (q := 34) mX11_number [.int (0 : Int32), .int r5] dX11_beatLine_31 rfl rfl (Nat.le_of_ble_eq_true rfl) mo_X11_number mv_X11_148 (Or.inl ⟨_, _, _, h_138 hS, rfl, rfl⟩) (Call_mono (by decide) qc8.1) ?_
      have hI := qc8.2
      refine to_istore_n (q := 35) [(2, .int r9), (0, .ref 138), (1, .int x1)] rfl (by decide) dX11_beatLine_34 rfl ?_
      refine to_aload_n (q := 36) rfl (by decide) dX11_beatLine_35 rfl ?_
      refine to_getI (q := 39) (k0 := 11) (C := RX11) (T := TX11) (N := 37) (j := 13) rfl fx_X11_109 (h_138 hS) rfl dX11_beatLine_36 rfl ?_
      by_cases h11 : (m10.1 138 13) = (0 : Int32)
      · have hf := ite_pos h11 hf
        refine to_ifT (q := 43) (op := .eq) h11 dX11_beatLine_39 rfl ?_
        refine to_aload_n (q := 44) rfl (by decide) dX11_beatLine_43 rfl ?_
        refine to_getR (q := 47) (b := 142) (k0 := 11) (C := RX11) (T := TX11) (N := 37) (j := 16) rfl fx_X11_23 (h_138 hS) rfl (iv_138_16 hI) dX11_beatLine_44 rfl ?_
        refine to_sipush (q := 50) sp_180 dX11_beatLine_47 rfl ?_
        refine to_aload_n (q := 51) rfl (by decide) dX11_beatLine_50 rfl ?_
        refine to_getR (q := 54) (b := 142) (k0 := 11) (C := RX11) (T := TX11) (N := 37) (j := 16) rfl fx_X11_23 (h_138 hS) rfl (iv_138_16 hI) dX11_beatLine_51 rfl ?_
        refine to_bipush (q := 56) bp_8 dX11_beatLine_54 rfl ?_
        refine to_iaj (q := 57) (h_142 hS) (by decide) (tn_8) dX11_beatLine_56 rfl ?_
        refine to_iadd (q := 58) dX11_beatLine_57 rfl ?_
        refine to_iload_n (q := 59) rfl dX11_beatLine_58 rfl ?_
        obtain ⟨hb12, hf⟩ := ck_some hf
        refine to_iasj (q := 60) (h_142 hS) hb12 (rfl) dX11_beatLine_59 rfl ?_
        refine to_aload_n (q := 61) rfl (by decide) dX11_beatLine_60 rfl ?_
        refine to_getR (q := 64) (b := 142) (k0 := 11) (C := RX11) (T := TX11) (N := 37) (j := 16) rfl fx_X11_23 (h_138 hS) rfl (iv_138_16 hI) dX11_beatLine_61 rfl ?_
        refine to_bipush (q := 66) bp_8 dX11_beatLine_64 rfl ?_
        refine to_dup2 (q := 67) rfl rfl dX11_beatLine_66 rfl ?_
        refine to_iaj (q := 68) (h_142 hS) (by decide) (tn_8) dX11_beatLine_67 rfl ?_
        refine to_iconst (q := 69) ic_1 dX11_beatLine_68 rfl ?_
        refine to_iadd (q := 70) dX11_beatLine_69 rfl ?_
        refine to_iasj (q := 71) (h_142 hS) (by decide) (tn_8) dX11_beatLine_70 rfl ?_
        refine to_aload_n (q := 72) rfl (by decide) dX11_beatLine_71 rfl ?_
        obtain ⟨r15, m16, hc13, hf⟩ := cl2_some hf
        have qc14 := kX11_comma hS hc13 hI
        refine to_virtI (q := 75) mX11_comma [] dX11_beatLine_72 rfl rfl (Nat.le_of_ble_eq_true rfl) mo_X11_comma mv_X11_249 (Or.inl ⟨_, _, _, h_138 hS, rfl, rfl⟩) (Call_mono (by decide) qc14.1) ?_
        have hI := qc14.2
        refine to_istore_n (q := 76) [(1, .int r15), (2, .int r9), (0, .ref 138)] rfl (by decide) dX11_beatLine_75 rfl ?_
        refine to_iload_n (q := 77) rfl dX11_beatLine_76 rfl ?_
        by_cases h17 : r15 = (0 : Int32)
        · have hf := ite_pos h17 hf
          refine to_ifT (q := 153) (op := .eq) h17 dX11_beatLine_77 rfl ?_
          exact to_ext [(0, .ref 138), (1, .int r15)] (ext_cons rfl (ext_cons rfl ext_nil)) (kX11_beatLine_153 hS ih hf hI)
        · have hf := ite_neg h17 hf
          refine to_ifF (q := 80) (op := .eq) 153 h17 dX11_beatLine_77 rfl rfl ?_
          refine to_aload_n (q := 81) rfl (by decide) dX11_beatLine_80 rfl ?_
          refine to_getR (q := 84) (b := 142) (k0 := 11) (C := RX11) (T := TX11) (N := 37) (j := 16) rfl fx_X11_23 (h_138 hS) rfl (iv_138_16 hI) dX11_beatLine_81 rfl ?_
          refine to_bipush (q := 86) bp_8 dX11_beatLine_84 rfl ?_
          refine to_iaj (q := 87) (h_142 hS) (by decide) (tn_8) dX11_beatLine_86 rfl ?_
          refine to_bipush (q := 89) bp_6 dX11_beatLine_87 rfl ?_
          by_cases h18 : (m16.1 142 8) = (6 : Int32)
          · have hf := ite_pos h18 hf
            refine to_icF (q := 92) (op := .ne) 153 (fun z => z h18) dX11_beatLine_89 rfl rfl ?_
            refine to_aload_n (q := 93) rfl (by decide) dX11_beatLine_92 rfl ?_
            refine to_getI (q := 96) (k0 := 11) (C := RX11) (T := TX11) (N := 37) (j := 6) rfl fx_X11_99 (h_138 hS) rfl dX11_beatLine_93 rfl ?_
            refine to_iconst (q := 97) ic_3 dX11_beatLine_96 rfl ?_
            by_cases h19 : (m16.1 138 6) = (3 : Int32)
            · have hf := ite_pos h19 hf
              refine to_icT (q := 109) (op := .eq) h19 dX11_beatLine_97 rfl ?_
              exact to_ext [(0, .ref 138)] (ext_cons rfl ext_nil) (kX11_beatLine_109 hS hf hI)
            · have hf := ite_neg h19 hf
              refine to_icF (q := 100) (op := .eq) 109 h19 dX11_beatLine_97 rfl rfl ?_
              refine to_aload_n (q := 101) rfl (by decide) dX11_beatLine_100 rfl ?_
              refine to_iconst (q := 102) ic_1 dX11_beatLine_101 rfl ?_
              refine to_aload_n (q := 103) rfl (by decide) dX11_beatLine_102 rfl ?_
              refine to_getI (q := 106) (k0 := 11) (C := RX11) (T := TX11) (N := 37) (j := 4) rfl fx_X11_90 (h_138 hS) rfl dX11_beatLine_103 rfl ?_
              obtain ⟨m22, hc20, hf⟩ := cl1_some hf
              have qc21 := kX11_wrong hS hc20 hI
              refine to_virtV (q := 109) mX11_wrong [.int (1 : Int32), .int (m16.1 138 4)] dX11_beatLine_106 rfl rfl (Nat.le_of_ble_eq_true rfl) mo_X11_wrong mv_X11_136 (Or.inl ⟨_, _, _, h_138 hS, rfl, rfl⟩) (Call_mono (by decide) qc21.1) ?_
              have hI := qc21.2
              exact to_ext [(0, .ref 138)] (ext_cons rfl ext_nil) (kX11_beatLine_109 hS hf hI)
          · have hf := ite_neg h18 hf
            refine to_icT (q := 153) (op := .ne) h18 dX11_beatLine_89 rfl ?_
            exact to_ext [(0, .ref 138), (1, .int r15)] (ext_cons rfl (ext_cons rfl ext_nil)) (kX11_beatLine_153 hS ih hf hI)
      · have hf := ite_neg h11 hf
        refine to_ifF (q := 42) (op := .eq) 43 h11 dX11_beatLine_39 rfl rfl ?_
        cases hf
        exact to_vret dX11_beatLine_42 rfl rfl rfl hI
def fX11_beatLine (m : Me) : Option (Me) := if (m.1 138 13) = (0 : Int32) then fX11_beatLine_18 FU ((1 : Int32)) (setI m 142 9 (1 : Int32)) else some m
set_option maxRecDepth 20000 in
theorem kX11_beatLine {S : Sh} (hS : ShOK S) {res : Me} {m : Me} (hf : fX11_beatLine m = some res) (hI : Inv m) : Call 4 mX11_beatLine [.ref 138] (S, m) none (S, res) ∧ Inv res := by
  refine call_of (P := InvS) (Nat.le_of_ble_eq_true rfl) (by simp [Value.category]) ?_
  show TT InvS (Call 3) mX11_beatLine (0, [(0, .ref 138)], [], S, m) _ _
  unfold fX11_beatLine at hf
  refine to_aload_n (q := 1) rfl (by decide) dX11_beatLine_0 rfl ?_
  refine to_getI (q := 4) (k0 := 11) (C := RX11) (T := TX11) (N := 37) (j := 13) rfl fx_X11_109 (h_138 hS) rfl dX11_beatLine_1 rfl ?_
  by_cases h1 : (m.1 138 13) = (0 : Int32)
  · have hf := ite_pos h1 hf
    refine to_ifT (q := 8) (op := .eq) h1 dX11_beatLine_4 rfl ?_
    refine to_aload_n (q := 9) rfl (by decide) dX11_beatLine_8 rfl ?_
    refine to_getR (q := 12) (b := 142) (k0 := 11) (C := RX11) (T := TX11) (N := 37) (j := 16) rfl fx_X11_23 (h_138 hS) rfl (iv_138_16 hI) dX11_beatLine_9 rfl ?_
    refine to_bipush (q := 14) bp_9 dX11_beatLine_12 rfl ?_
    refine to_iconst (q := 15) ic_1 dX11_beatLine_14 rfl ?_
    refine to_iasj (q := 16) (h_142 hS) (by decide) (tn_9) dX11_beatLine_15 rfl ?_
    refine to_iconst (q := 17) ic_1 dX11_beatLine_16 rfl ?_
    refine to_istore_n (q := 18) [(1, .int (1 : Int32)), (0, .ref 138)] rfl (by decide) dX11_beatLine_17 rfl ?_
    exact to_ext [(0, .ref 138), (1, .int (1 : Int32))] (ext_cons rfl (ext_cons rfl ext_nil)) (kX11_beatLine_18 hS FU hf hI)
  · have hf := ite_neg h1 hf
    refine to_ifF (q := 7) (op := .eq) 8 h1 dX11_beatLine_4 rfl rfl ?_
    cases hf
    exact to_vret dX11_beatLine_7 rfl rfl rfl hI
def fX11_readLine_203 (m : Me) : Option (Me) := some m
set_option maxRecDepth 20000 in
theorem kX11_readLine_203 {S : Sh} (hS : ShOK S) {res : Me} {m : Me} (hf : fX11_readLine_203 m = some res) (hI : Inv m) : TT InvS (Call 11) mX11_readLine (203, [], [], S, m) none (S, res) := by
  unfold fX11_readLine_203 at hf
  cases hf
  exact to_vret dX11_readLine_203 rfl rfl rfl hI
def fX11_readLine_180 (t0 : Int32) (m : Me) : Option (Me) := cl2 (fX11_begins 31 t0 (3 : Int32) m) fun r49 m50 => if r49 = (0 : Int32) then cl1 (fX11_wrong (1 : Int32) (m50.1 138 4) m50) fun m54 => fX11_readLine_203 m54 else cl1 (fX11_beatLine m50) fun m57 => fX11_readLine_203 m57
set_option maxRecDepth 20000 in
theorem kX11_readLine_180 {S : Sh} (hS : ShOK S) {res : Me} {t0 : Int32} {m : Me} (hf : fX11_readLine_180 t0 m = some res) (hI : Inv m) : TT InvS (Call 11) mX11_readLine (180, [(0, .ref 138)], [.int t0, .ref (1000000 + 31), .ref 138], S, m) none (S, res) := by
  unfold fX11_readLine_180 at hf
  refine to_iconst (q := 181) ic_3 dX11_readLine_180 rfl ?_
  obtain ⟨r49, m50, hc47, hf⟩ := cl2_some hf
  have qc48 := kX11_begins hS hc47 (by decide) hI
  refine to_virtI (q := 184) mX11_begins [.ref (1000000 + 31), .int t0, .int (3 : Int32)] dX11_readLine_181 rfl rfl (Nat.le_of_ble_eq_true rfl) mo_X11_begins mv_X11_189 (Or.inl ⟨_, _, _, h_138 hS, rfl, rfl⟩) (Call_mono (by decide) qc48.1) ?_
  have hI := qc48.2
  by_cases h51 : r49 = (0 : Int32)
  · have hf := ite_pos h51 hf
    refine to_ifT (q := 194) (op := .eq) h51 dX11_readLine_184 rfl ?_
    refine to_aload_n (q := 195) rfl (by decide) dX11_readLine_194 rfl ?_
    refine to_iconst (q := 196) ic_1 dX11_readLine_195 rfl ?_
    refine to_aload_n (q := 197) rfl (by decide) dX11_readLine_196 rfl ?_
    refine to_getI (q := 200) (k0 := 11) (C := RX11) (T := TX11) (N := 37) (j := 4) rfl fx_X11_90 (h_138 hS) rfl dX11_readLine_197 rfl ?_
    obtain ⟨m54, hc52, hf⟩ := cl1_some hf
    have qc53 := kX11_wrong hS hc52 hI
    refine to_virtV (q := 203) mX11_wrong [.int (1 : Int32), .int (m50.1 138 4)] dX11_readLine_200 rfl rfl (Nat.le_of_ble_eq_true rfl) mo_X11_wrong mv_X11_136 (Or.inl ⟨_, _, _, h_138 hS, rfl, rfl⟩) (Call_mono (by decide) qc53.1) ?_
    have hI := qc53.2
    exact to_ext [] ext_nil (kX11_readLine_203 hS hf hI)
  · have hf := ite_neg h51 hf
    refine to_ifF (q := 187) (op := .eq) 194 h51 dX11_readLine_184 rfl rfl ?_
    refine to_aload_n (q := 188) rfl (by decide) dX11_readLine_187 rfl ?_
    obtain ⟨m57, hc55, hf⟩ := cl1_some hf
    have qc56 := kX11_beatLine hS hc55 hI
    refine to_virtV (q := 191) mX11_beatLine [] dX11_readLine_188 rfl rfl (Nat.le_of_ble_eq_true rfl) mo_X11_beatLine mv_X11_213 (Or.inl ⟨_, _, _, h_138 hS, rfl, rfl⟩) (Call_mono (by decide) qc56.1) ?_
    have hI := qc56.2
    refine to_goto (q := 203) dX11_readLine_191 rfl ?_
    exact to_ext [] ext_nil (kX11_readLine_203 hS hf hI)
def fX11_readLine_148 (t0 : Int32) (m : Me) : Option (Me) := cl2 (fX11_begins 29 t0 (5 : Int32) m) fun r40 m41 => if r40 = (0 : Int32) then if (m41.1 142 9) = (0 : Int32) then fX11_readLine_180 ((1 : Int32)) m41 else fX11_readLine_180 ((0 : Int32)) m41 else cl1 (fX11_seenLine m41) fun m46 => fX11_readLine_203 m46
set_option maxRecDepth 20000 in
theorem kX11_readLine_148 {S : Sh} (hS : ShOK S) {res : Me} {t0 : Int32} {m : Me} (hf : fX11_readLine_148 t0 m = some res) (hI : Inv m) : TT InvS (Call 11) mX11_readLine (148, [(0, .ref 138)], [.int t0, .ref (1000000 + 29), .ref 138], S, m) none (S, res) := by
  unfold fX11_readLine_148 at hf
  refine to_iconst (q := 149) ic_5 dX11_readLine_148 rfl ?_
  obtain ⟨r40, m41, hc38, hf⟩ := cl2_some hf
  have qc39 := kX11_begins hS hc38 (by decide) hI
  refine to_virtI (q := 152) mX11_begins [.ref (1000000 + 29), .int t0, .int (5 : Int32)] dX11_readLine_149 rfl rfl (Nat.le_of_ble_eq_true rfl) mo_X11_begins mv_X11_189 (Or.inl ⟨_, _, _, h_138 hS, rfl, rfl⟩) (Call_mono (by decide) qc39.1) ?_
  have hI := qc39.2
  by_cases h42 : r40 = (0 : Int32)
  · have hf := ite_pos h42 hf
    refine to_ifT (q := 162) (op := .eq) h42 dX11_readLine_152 rfl ?_
    refine to_aload_n (q := 163) rfl (by decide) dX11_readLine_162 rfl ?_
    refine to_ldcS (q := 165) (i := 31) rfl dX11_readLine_163 rfl ?_
    refine to_aload_n (q := 166) rfl (by decide) dX11_readLine_165 rfl ?_
    refine to_getR (q := 169) (b := 142) (k0 := 11) (C := RX11) (T := TX11) (N := 37) (j := 16) rfl fx_X11_23 (h_138 hS) rfl (iv_138_16 hI) dX11_readLine_166 rfl ?_
    refine to_bipush (q := 171) bp_9 dX11_readLine_169 rfl ?_
    refine to_iaj (q := 172) (h_142 hS) (by decide) (tn_9) dX11_readLine_171 rfl ?_
    by_cases h43 : (m41.1 142 9) = (0 : Int32)
    · have hf := ite_pos h43 hf
      refine to_ifF (q := 175) (op := .ne) 179 (fun z => z h43) dX11_readLine_172 rfl rfl ?_
      refine to_iconst (q := 176) ic_1 dX11_readLine_175 rfl ?_
      refine to_goto (q := 180) dX11_readLine_176 rfl ?_
      exact to_ext [(0, .ref 138)] (ext_cons rfl ext_nil) (kX11_readLine_180 hS hf hI)
    · have hf := ite_neg h43 hf
      refine to_ifT (q := 179) (op := .ne) h43 dX11_readLine_172 rfl ?_
      refine to_iconst (q := 180) ic_0 dX11_readLine_179 rfl ?_
      exact to_ext [(0, .ref 138)] (ext_cons rfl ext_nil) (kX11_readLine_180 hS hf hI)
  · have hf := ite_neg h42 hf
    refine to_ifF (q := 155) (op := .eq) 162 h42 dX11_readLine_152 rfl rfl ?_
    refine to_aload_n (q := 156) rfl (by decide) dX11_readLine_155 rfl ?_
    obtain ⟨m46, hc44, hf⟩ := cl1_some hf
    have qc45 := kX11_seenLine hS hc44 hI
    refine to_virtV (q := 159) mX11_seenLine [] dX11_readLine_156 rfl rfl (Nat.le_of_ble_eq_true rfl) mo_X11_seenLine mv_X11_208 (Or.inl ⟨_, _, _, h_138 hS, rfl, rfl⟩) (Call_mono (by decide) qc45.1) ?_
    have hI := qc45.2
    refine to_goto (q := 203) dX11_readLine_159 rfl ?_
    exact to_ext [] ext_nil (kX11_readLine_203 hS hf hI)
def fX11_readLine_114 (t0 : Int32) (m : Me) : Option (Me) := cl2 (fX11_begins 26 t0 (5 : Int32) m) fun r31 m32 => if r31 = (0 : Int32) then if (6 : Int32) ≤ (m32.1 142 7) then fX11_readLine_148 ((0 : Int32)) m32 else fX11_readLine_148 ((1 : Int32)) m32 else cl1 (fX11_wishLine m32) fun m37 => fX11_readLine_203 m37
set_option maxRecDepth 20000 in
theorem kX11_readLine_114 {S : Sh} (hS : ShOK S) {res : Me} {t0 : Int32} {m : Me} (hf : fX11_readLine_114 t0 m = some res) (hI : Inv m) : TT InvS (Call 11) mX11_readLine (114, [(0, .ref 138)], [.int t0, .ref (1000000 + 26), .ref 138], S, m) none (S, res) := by
  unfold fX11_readLine_114 at hf
  refine to_iconst (q := 115) ic_5 dX11_readLine_114 rfl ?_
  obtain ⟨r31, m32, hc29, hf⟩ := cl2_some hf
  have qc30 := kX11_begins hS hc29 (by decide) hI
  refine to_virtI (q := 118) mX11_begins [.ref (1000000 + 26), .int t0, .int (5 : Int32)] dX11_readLine_115 rfl rfl (Nat.le_of_ble_eq_true rfl) mo_X11_begins mv_X11_189 (Or.inl ⟨_, _, _, h_138 hS, rfl, rfl⟩) (Call_mono (by decide) qc30.1) ?_
  have hI := qc30.2
  by_cases h33 : r31 = (0 : Int32)
  · have hf := ite_pos h33 hf
    refine to_ifT (q := 128) (op := .eq) h33 dX11_readLine_118 rfl ?_
    refine to_aload_n (q := 129) rfl (by decide) dX11_readLine_128 rfl ?_
    refine to_ldcS (q := 131) (i := 29) rfl dX11_readLine_129 rfl ?_
    refine to_aload_n (q := 132) rfl (by decide) dX11_readLine_131 rfl ?_
    refine to_getR (q := 135) (b := 142) (k0 := 11) (C := RX11) (T := TX11) (N := 37) (j := 16) rfl fx_X11_23 (h_138 hS) rfl (iv_138_16 hI) dX11_readLine_132 rfl ?_
    refine to_bipush (q := 137) bp_7 dX11_readLine_135 rfl ?_
    refine to_iaj (q := 138) (h_142 hS) (by decide) (tn_7) dX11_readLine_137 rfl ?_
    refine to_bipush (q := 140) bp_6 dX11_readLine_138 rfl ?_
    by_cases h34 : (6 : Int32) ≤ (m32.1 142 7)
    · have hf := ite_pos h34 hf
      refine to_icT (q := 147) (op := .ge) h34 dX11_readLine_140 rfl ?_
      refine to_iconst (q := 148) ic_0 dX11_readLine_147 rfl ?_
      exact to_ext [(0, .ref 138)] (ext_cons rfl ext_nil) (kX11_readLine_148 hS hf hI)
    · have hf := ite_neg h34 hf
      refine to_icF (q := 143) (op := .ge) 147 h34 dX11_readLine_140 rfl rfl ?_
      refine to_iconst (q := 144) ic_1 dX11_readLine_143 rfl ?_
      refine to_goto (q := 148) dX11_readLine_144 rfl ?_
      exact to_ext [(0, .ref 138)] (ext_cons rfl ext_nil) (kX11_readLine_148 hS hf hI)
  · have hf := ite_neg h33 hf
    refine to_ifF (q := 121) (op := .eq) 128 h33 dX11_readLine_118 rfl rfl ?_
    refine to_aload_n (q := 122) rfl (by decide) dX11_readLine_121 rfl ?_
    obtain ⟨m37, hc35, hf⟩ := cl1_some hf
    have qc36 := kX11_wishLine hS hc35 hI
    refine to_virtV (q := 125) mX11_wishLine [] dX11_readLine_122 rfl rfl (Nat.le_of_ble_eq_true rfl) mo_X11_wishLine mv_X11_203 (Or.inl ⟨_, _, _, h_138 hS, rfl, rfl⟩) (Call_mono (by decide) qc36.1) ?_
    have hI := qc36.2
    refine to_goto (q := 203) dX11_readLine_125 rfl ?_
    exact to_ext [] ext_nil (kX11_readLine_203 hS hf hI)
def fX11_readLine_81 (t0 : Int32) (m : Me) : Option (Me) := cl2 (fX11_begins 25 t0 (5 : Int32) m) fun r22 m23 => if r22 = (0 : Int32) then if (4 : Int32) ≤ (m23.1 142 6) then fX11_readLine_114 ((0 : Int32)) m23 else fX11_readLine_114 ((1 : Int32)) m23 else cl1 (fX11_wordLine m23) fun m28 => fX11_readLine_203 m28
set_option maxRecDepth 20000 in
theorem kX11_readLine_81 {S : Sh} (hS : ShOK S) {res : Me} {t0 : Int32} {m : Me} (hf : fX11_readLine_81 t0 m = some res) (hI : Inv m) : TT InvS (Call 11) mX11_readLine (81, [(0, .ref 138)], [.int t0, .ref (1000000 + 25), .ref 138], S, m) none (S, res) := by
  unfold fX11_readLine_81 at hf
  refine to_iconst (q := 82) ic_5 dX11_readLine_81 rfl ?_
  obtain ⟨r22, m23, hc20, hf⟩ := cl2_some hf
  have qc21 := kX11_begins hS hc20 (by decide) hI
  refine to_virtI (q := 85) mX11_begins [.ref (1000000 + 25), .int t0, .int (5 : Int32)] dX11_readLine_82 rfl rfl (Nat.le_of_ble_eq_true rfl) mo_X11_begins mv_X11_189 (Or.inl ⟨_, _, _, h_138 hS, rfl, rfl⟩) (Call_mono (by decide) qc21.1) ?_
  have hI := qc21.2
  by_cases h24 : r22 = (0 : Int32)
  · have hf := ite_pos h24 hf
    refine to_ifT (q := 95) (op := .eq) h24 dX11_readLine_85 rfl ?_
    refine to_aload_n (q := 96) rfl (by decide) dX11_readLine_95 rfl ?_
    refine to_ldcS (q := 98) (i := 26) rfl dX11_readLine_96 rfl ?_
    refine to_aload_n (q := 99) rfl (by decide) dX11_readLine_98 rfl ?_
    refine to_getR (q := 102) (b := 142) (k0 := 11) (C := RX11) (T := TX11) (N := 37) (j := 16) rfl fx_X11_23 (h_138 hS) rfl (iv_138_16 hI) dX11_readLine_99 rfl ?_
    refine to_bipush (q := 104) bp_6 dX11_readLine_102 rfl ?_
    refine to_iaj (q := 105) (h_142 hS) (by decide) (tn_6) dX11_readLine_104 rfl ?_
    refine to_iconst (q := 106) ic_4 dX11_readLine_105 rfl ?_
    by_cases h25 : (4 : Int32) ≤ (m23.1 142 6)
    · have hf := ite_pos h25 hf
      refine to_icT (q := 113) (op := .ge) h25 dX11_readLine_106 rfl ?_
      refine to_iconst (q := 114) ic_0 dX11_readLine_113 rfl ?_
      exact to_ext [(0, .ref 138)] (ext_cons rfl ext_nil) (kX11_readLine_114 hS hf hI)
    · have hf := ite_neg h25 hf
      refine to_icF (q := 109) (op := .ge) 113 h25 dX11_readLine_106 rfl rfl ?_
      refine to_iconst (q := 110) ic_1 dX11_readLine_109 rfl ?_
      refine to_goto (q := 114) dX11_readLine_110 rfl ?_
      exact to_ext [(0, .ref 138)] (ext_cons rfl ext_nil) (kX11_readLine_114 hS hf hI)
  · have hf := ite_neg h24 hf
    refine to_ifF (q := 88) (op := .eq) 95 h24 dX11_readLine_85 rfl rfl ?_
    refine to_aload_n (q := 89) rfl (by decide) dX11_readLine_88 rfl ?_
    obtain ⟨m28, hc26, hf⟩ := cl1_some hf
    have qc27 := kX11_wordLine hS hc26 hI
    refine to_virtV (q := 92) mX11_wordLine [] dX11_readLine_89 rfl rfl (Nat.le_of_ble_eq_true rfl) mo_X11_wordLine mv_X11_198 (Or.inl ⟨_, _, _, h_138 hS, rfl, rfl⟩) (Call_mono (by decide) qc27.1) ?_
    have hI := qc27.2
    refine to_goto (q := 203) dX11_readLine_92 rfl ?_
    exact to_ext [] ext_nil (kX11_readLine_203 hS hf hI)
def fX11_readLine_48 (t0 : Int32) (m : Me) : Option (Me) := cl2 (fX11_begins 23 t0 (5 : Int32) m) fun r13 m14 => if r13 = (0 : Int32) then if (6 : Int32) ≤ (m14.1 142 5) then fX11_readLine_81 ((0 : Int32)) m14 else fX11_readLine_81 ((1 : Int32)) m14 else cl1 (fX11_ribLine m14) fun m19 => fX11_readLine_203 m19
set_option maxRecDepth 20000 in
theorem kX11_readLine_48 {S : Sh} (hS : ShOK S) {res : Me} {t0 : Int32} {m : Me} (hf : fX11_readLine_48 t0 m = some res) (hI : Inv m) : TT InvS (Call 11) mX11_readLine (48, [(0, .ref 138)], [.int t0, .ref (1000000 + 23), .ref 138], S, m) none (S, res) := by
  unfold fX11_readLine_48 at hf
  refine to_iconst (q := 49) ic_5 dX11_readLine_48 rfl ?_
  obtain ⟨r13, m14, hc11, hf⟩ := cl2_some hf
  have qc12 := kX11_begins hS hc11 (by decide) hI
  refine to_virtI (q := 52) mX11_begins [.ref (1000000 + 23), .int t0, .int (5 : Int32)] dX11_readLine_49 rfl rfl (Nat.le_of_ble_eq_true rfl) mo_X11_begins mv_X11_189 (Or.inl ⟨_, _, _, h_138 hS, rfl, rfl⟩) (Call_mono (by decide) qc12.1) ?_
  have hI := qc12.2
  by_cases h15 : r13 = (0 : Int32)
  · have hf := ite_pos h15 hf
    refine to_ifT (q := 62) (op := .eq) h15 dX11_readLine_52 rfl ?_
    refine to_aload_n (q := 63) rfl (by decide) dX11_readLine_62 rfl ?_
    refine to_ldcS (q := 65) (i := 25) rfl dX11_readLine_63 rfl ?_
    refine to_aload_n (q := 66) rfl (by decide) dX11_readLine_65 rfl ?_
    refine to_getR (q := 69) (b := 142) (k0 := 11) (C := RX11) (T := TX11) (N := 37) (j := 16) rfl fx_X11_23 (h_138 hS) rfl (iv_138_16 hI) dX11_readLine_66 rfl ?_
    refine to_iconst (q := 70) ic_5 dX11_readLine_69 rfl ?_
    refine to_iaj (q := 71) (h_142 hS) (by decide) (tn_5) dX11_readLine_70 rfl ?_
    refine to_bipush (q := 73) bp_6 dX11_readLine_71 rfl ?_
    by_cases h16 : (6 : Int32) ≤ (m14.1 142 5)
    · have hf := ite_pos h16 hf
      refine to_icT (q := 80) (op := .ge) h16 dX11_readLine_73 rfl ?_
      refine to_iconst (q := 81) ic_0 dX11_readLine_80 rfl ?_
      exact to_ext [(0, .ref 138)] (ext_cons rfl ext_nil) (kX11_readLine_81 hS hf hI)
    · have hf := ite_neg h16 hf
      refine to_icF (q := 76) (op := .ge) 80 h16 dX11_readLine_73 rfl rfl ?_
      refine to_iconst (q := 77) ic_1 dX11_readLine_76 rfl ?_
      refine to_goto (q := 81) dX11_readLine_77 rfl ?_
      exact to_ext [(0, .ref 138)] (ext_cons rfl ext_nil) (kX11_readLine_81 hS hf hI)
  · have hf := ite_neg h15 hf
    refine to_ifF (q := 55) (op := .eq) 62 h15 dX11_readLine_52 rfl rfl ?_
    refine to_aload_n (q := 56) rfl (by decide) dX11_readLine_55 rfl ?_
    obtain ⟨m19, hc17, hf⟩ := cl1_some hf
    have qc18 := kX11_ribLine hS hc17 hI
    refine to_virtV (q := 59) mX11_ribLine [] dX11_readLine_56 rfl rfl (Nat.le_of_ble_eq_true rfl) mo_X11_ribLine mv_X11_193 (Or.inl ⟨_, _, _, h_138 hS, rfl, rfl⟩) (Call_mono (by decide) qc18.1) ?_
    have hI := qc18.2
    refine to_goto (q := 203) dX11_readLine_59 rfl ?_
    exact to_ext [] ext_nil (kX11_readLine_203 hS hf hI)
def fX11_readLine_43 (m : Me) : Option (Me) := fX11_readLine_48 ((1 : Int32)) m
set_option maxRecDepth 20000 in
theorem kX11_readLine_43 {S : Sh} (hS : ShOK S) {res : Me} {m : Me} (hf : fX11_readLine_43 m = some res) (hI : Inv m) : TT InvS (Call 11) mX11_readLine (43, [(0, .ref 138)], [.ref (1000000 + 23), .ref 138], S, m) none (S, res) := by
  unfold fX11_readLine_43 at hf
  refine to_iconst (q := 44) ic_1 dX11_readLine_43 rfl ?_
  refine to_goto (q := 48) dX11_readLine_44 rfl ?_
  exact to_ext [(0, .ref 138)] (ext_cons rfl ext_nil) (kX11_readLine_48 hS hf hI)
def fX11_readLine (m : Me) : Option (Me) := cl2 (fX11_isWord 16 m) fun r3 m4 => if r3 = (0 : Int32) then if (m4.1 142 0) = (0 : Int32) then fX11_readLine_43 m4 else if (m4.1 142 0) ≤ (m4.1 142 4) then fX11_readLine_48 ((0 : Int32)) m4 else fX11_readLine_43 m4 else cl1 (fX11_fanLine m4) fun m10 => fX11_readLine_203 m10
