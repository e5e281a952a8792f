def fX1_tryOrders_116 (rec : Int32 → Int32 → Int32 → Me → Option (Me)) (k44 : Int32 → Int32 → Int32 → Int32 → Me → Option (Me)) (x1 : Int32) (x2 : Int32) (x3 : Int32) (x4 : Int32) (m : Me) : Option (Me) := k44 x1 x2 x3 ((x4 + (1 : Int32))) m
set_option maxRecDepth 20000 in
theorem kX1_tryOrders_116 {S : Sh} (hS : ShOK S) {dd : Nat} (hdd : 0 ≤ dd) {rec : Int32 → Int32 → Int32 → Me → Option (Me)} (hrec : ∀ {x1 : Int32} {x2 : Int32} {x3 : Int32} {m : Me} {res : Me}, rec x1 x2 x3 m = some res → Inv m → Call dd mX1_tryOrders [.ref 126, .int x1, .int x2, .int x3] (S, m) none (S, res) ∧ Inv res) {res : Me} {k44 : Int32 → Int32 → Int32 → Int32 → Me → Option (Me)} (hk44 : ∀ {x1 : Int32} {x2 : Int32} {x3 : Int32} {x4 : Int32} {m : Me}, k44 x1 x2 x3 x4 m = some res → Inv m → TT InvS (Call dd) mX1_tryOrders (44, [(0, .ref 126), (1, .int x1), (2, .int x2), (3, .int x3), (4, .int x4)], [], S, m) none (S, res)) {x1 : Int32} {x2 : Int32} {x3 : Int32} {x4 : Int32} {m : Me} (hf : fX1_tryOrders_116 rec k44 x1 x2 x3 x4 m = some res) (hI : Inv m) : TT InvS (Call dd) mX1_tryOrders (116, [(0, .ref 126), (1, .int x1), (2, .int x2), (3, .int x3), (4, .int x4)], [], S, m) none (S, res) := by
  unfold fX1_tryOrders_116 at hf
  refine to_iinc (q := 119) (v := (x4 + (1 : Int32))) rfl (congrArg (fun z => x4 + z) ic_1) [(4, .int (x4 + (1 : Int32))), (0, .ref 126), (1, .int x1), (2, .int x2), (3, .int x3)] rfl (by decide) dX1_tryOrders_116 rfl ?_
  refine to_goto (q := 44) dX1_tryOrders_119 rfl ?_
  exact to_ext [(0, .ref 126), (1, .int x1), (2, .int x2), (3, .int x3), (4, .int (x4 + (1 : Int32)))] (ext_cons rfl (ext_cons rfl (ext_cons rfl (ext_cons rfl (ext_cons rfl ext_nil))))) (hk44 hf hI)
def fX1_tryOrders_97 (rec : Int32 → Int32 → Int32 → Me → Option (Me)) (k44 : Int32 → Int32 → Int32 → Int32 → Me → Option (Me)) (x1 : Int32) (x2 : Int32) (x3 : Int32) (x4 : Int32) (t0 : Int32) (m : Me) : Option (Me) := cl1 (rec ((x1 + (1 : Int32))) ((x2 ||| ((1 : Int32) <<< (x4 &&& 31)))) (x3 + t0) m) fun m11 => fX1_tryOrders_116 rec k44 x1 x2 x3 x4 m11
set_option maxRecDepth 20000 in
theorem kX1_tryOrders_97 {S : Sh} (hS : ShOK S) {dd : Nat} (hdd : 0 ≤ dd) {rec : Int32 → Int32 → Int32 → Me → Option (Me)} (hrec : ∀ {x1 : Int32} {x2 : Int32} {x3 : Int32} {m : Me} {res : Me}, rec x1 x2 x3 m = some res → Inv m → Call dd mX1_tryOrders [.ref 126, .int x1, .int x2, .int x3] (S, m) none (S, res) ∧ Inv res) {res : Me} {k44 : Int32 → Int32 → Int32 → Int32 → Me → Option (Me)} (hk44 : ∀ {x1 : Int32} {x2 : Int32} {x3 : Int32} {x4 : Int32} {m : Me}, k44 x1 x2 x3 x4 m = some res → Inv m → TT InvS (Call dd) mX1_tryOrders (44, [(0, .ref 126), (1, .int x1), (2, .int x2), (3, .int x3), (4, .int x4)], [], S, m) none (S, res)) {x1 : Int32} {x2 : Int32} {x3 : Int32} {x4 : Int32} {t0 : Int32} {m : Me} (hf : fX1_tryOrders_97 rec k44 x1 x2 x3 x4 t0 m = some res) (hI : Inv m) : TT InvS (Call dd) mX1_tryOrders (97, [(0, .ref 126), (1, .int x1), (2, .int x2), (3, .int x3), (4, .int x4)], [.int t0], S, m) none (S, res) := by
  unfold fX1_tryOrders_97 at hf
  refine to_istore (q := 99) [(5, .int t0), (0, .ref 126), (1, .int x1), (2, .int x2), (3, .int x3), (4, .int x4)] rfl (by decide) dX1_tryOrders_97 rfl ?_
  refine to_aload_n (q := 100) rfl (by decide) dX1_tryOrders_99 rfl ?_
  refine to_iload_n (q := 101) rfl dX1_tryOrders_100 rfl ?_
  refine to_iconst (q := 102) ic_1 dX1_tryOrders_101 rfl ?_
  refine to_iadd (q := 103) dX1_tryOrders_102 rfl ?_
  refine to_iload_n (q := 104) rfl dX1_tryOrders_103 rfl ?_
  refine to_iconst (q := 105) ic_1 dX1_tryOrders_104 rfl ?_
  refine to_iload (q := 107) rfl dX1_tryOrders_105 rfl ?_
  refine to_ishl (q := 108) dX1_tryOrders_107 rfl ?_
  refine to_ior (q := 109) dX1_tryOrders_108 rfl ?_
  refine to_iload_n (q := 110) rfl dX1_tryOrders_109 rfl ?_
  refine to_iload (q := 112) rfl dX1_tryOrders_110 rfl ?_
  refine to_iadd (q := 113) dX1_tryOrders_112 rfl ?_
  obtain ⟨m11, hc9, hf⟩ := cl1_some hf
  have qc10 := hrec hc9 hI
  refine to_virtV (q := 116) mX1_tryOrders [.int (x1 + (1 : Int32)), .int (x2 ||| ((1 : Int32) <<< (x4 &&& 31))), .int (x3 + t0)] dX1_tryOrders_113 rfl rfl (Nat.le_of_ble_eq_true rfl) mo_X1_tryOrders mv_X1_34 (Or.inl ⟨_, _, _, h_126 hS, rfl, rfl⟩) qc10.1 ?_
  have hI := qc10.2
  exact to_ext [(0, .ref 126), (1, .int x1), (2, .int x2), (3, .int x3), (4, .int x4)] (ext_cons rfl (ext_cons rfl (ext_cons rfl (ext_cons rfl (ext_cons rfl ext_nil))))) (kX1_tryOrders_116 hS hdd hrec hk44 hf hI)
def fX1_tryOrders_44 (rec : Int32 → Int32 → Int32 → Me → Option (Me)) (n : Nat) (x1 : Int32) (x2 : Int32) (x3 : Int32) (x4 : Int32) (m : Me) : Option (Me) := match n with
  | 0 => none
  | n + 1 => if (m.1 126 3) ≤ x4 then some m else if ((x2 >>> (x4 &&& 31)) &&& (1 : Int32)) = (0 : Int32) then ck (inb x1 6) (if x1 = (0 : Int32) then fX1_tryOrders_97 rec (fX1_tryOrders_44 rec n) x1 x2 x3 x4 ((0 : Int32)) (setI m 129 x1.toNatClampNeg x4) else ck (inb (x1 - (1 : Int32)) 6) (ck (inb ((((setI m 129 x1.toNatClampNeg x4).1 129 (x1 - (1 : Int32)).toNatClampNeg) * (6 : Int32)) + x4) 36) (fX1_tryOrders_97 rec (fX1_tryOrders_44 rec n) x1 x2 x3 x4 (((setI m 129 x1.toNatClampNeg x4).1 127 ((((setI m 129 x1.toNatClampNeg x4).1 129 (x1 - (1 : Int32)).toNatClampNeg) * (6 : Int32)) + x4).toNatClampNeg)) (setI m 129 x1.toNatClampNeg x4)))) else fX1_tryOrders_116 rec (fX1_tryOrders_44 rec n) x1 x2 x3 x4 m
set_option maxRecDepth 20000 in
theorem kX1_tryOrders_44 {S : Sh} (hS : ShOK S) {dd : Nat} (hdd : 0 ≤ dd) {rec : Int32 → Int32 → Int32 → Me → Option (Me)} (hrec : ∀ {x1 : Int32} {x2 : Int32} {x3 : Int32} {m : Me} {res : Me}, rec x1 x2 x3 m = some res → Inv m → Call dd mX1_tryOrders [.ref 126, .int x1, .int x2, .int x3] (S, m) none (S, res) ∧ Inv res) {res : Me} (n : Nat) : ∀ {x1 : Int32} {x2 : Int32} {x3 : Int32} {x4 : Int32} {m : Me}, fX1_tryOrders_44 rec n x1 x2 x3 x4 m = some res → Inv m → TT InvS (Call dd) mX1_tryOrders (44, [(0, .ref 126), (1, .int x1), (2, .int x2), (3, .int x3), (4, .int x4)], [], S, m) none (S, res) := by
  induction n with
  | zero => intro x1 x2 x3 x4 m hf; cases hf
  | succ n ih =>
    intro x1 x2 x3 x4 m hf  hI
    unfold fX1_tryOrders_44 at hf
    refine to_iload (q := 46) rfl dX1_tryOrders_44 rfl ?_
    refine to_aload_n (q := 47) rfl (by decide) dX1_tryOrders_46 rfl ?_
    refine to_getI (q := 50) (k0 := 1) (C := RX1) (T := TX1) (N := 5) (j := 3) rfl fx_X1_27 (h_126 hS) rfl dX1_tryOrders_47 rfl ?_
    by_cases h3 : (m.1 126 3) ≤ x4
    · have hf := ite_pos h3 hf
      refine to_icT (q := 122) (op := .ge) h3 dX1_tryOrders_50 rfl ?_
      cases hf
      exact to_vret dX1_tryOrders_122 rfl rfl rfl hI
    · have hf := ite_neg h3 hf
      refine to_icF (q := 53) (op := .ge) 122 h3 dX1_tryOrders_50 rfl rfl ?_
      refine to_iload_n (q := 54) rfl dX1_tryOrders_53 rfl ?_
      refine to_iload (q := 56) rfl dX1_tryOrders_54 rfl ?_
      refine to_ishr (q := 57) dX1_tryOrders_56 rfl ?_
      refine to_iconst (q := 58) ic_1 dX1_tryOrders_57 rfl ?_
      refine to_iand (q := 59) dX1_tryOrders_58 rfl ?_
      by_cases h4 : ((x2 >>> (x4 &&& 31)) &&& (1 : Int32)) = (0 : Int32)
      · have hf := ite_pos h4 hf
        refine to_ifF (q := 62) (op := .ne) 116 (fun z => z h4) dX1_tryOrders_59 rfl rfl ?_
        refine to_aload_n (q := 63) rfl (by decide) dX1_tryOrders_62 rfl ?_
        refine to_getR (q := 66) (b := 129) (k0 := 1) (C := RX1) (T := TX1) (N := 5) (j := 2) rfl fx_X1_18 (h_126 hS) rfl (iv_126_2 hI) dX1_tryOrders_63 rfl ?_
        refine to_iload_n (q := 67) rfl dX1_tryOrders_66 rfl ?_
        refine to_iload (q := 69) rfl dX1_tryOrders_67 rfl ?_
        obtain ⟨hb5, hf⟩ := ck_some hf
        refine to_iasj (q := 70) (h_129 hS) hb5 (rfl) dX1_tryOrders_69 rfl ?_
        refine to_iload_n (q := 71) rfl dX1_tryOrders_70 rfl ?_
        by_cases h6 : x1 = (0 : Int32)
        · have hf := ite_pos h6 hf
          refine to_ifF (q := 74) (op := .ne) 78 (fun z => z h6) dX1_tryOrders_71 rfl rfl ?_
          refine to_iconst (q := 75) ic_0 dX1_tryOrders_74 rfl ?_
          refine to_goto (q := 97) dX1_tryOrders_75 rfl ?_
          exact to_ext [(0, .ref 126), (1, .int x1), (2, .int x2), (3, .int x3), (4, .int x4)] (ext_cons rfl (ext_cons rfl (ext_cons rfl (ext_cons rfl (ext_cons rfl ext_nil))))) (kX1_tryOrders_97 hS hdd hrec ih hf hI)
        · have hf := ite_neg h6 hf
          refine to_ifT (q := 78) (op := .ne) h6 dX1_tryOrders_71 rfl ?_
          refine to_aload_n (q := 79) rfl (by decide) dX1_tryOrders_78 rfl ?_
          refine to_getR (q := 82) (b := 127) (k0 := 1) (C := RX1) (T := TX1) (N := 5) (j := 0) rfl fx_X1_9 (h_126 hS) rfl (iv_126_0 hI) dX1_tryOrders_79 rfl ?_
          refine to_aload_n (q := 83) rfl (by decide) dX1_tryOrders_82 rfl ?_
          refine to_getR (q := 86) (b := 129) (k0 := 1) (C := RX1) (T := TX1) (N := 5) (j := 2) rfl fx_X1_18 (h_126 hS) rfl (iv_126_2 hI) dX1_tryOrders_83 rfl ?_
          refine to_iload_n (q := 87) rfl dX1_tryOrders_86 rfl ?_
          refine to_iconst (q := 88) ic_1 dX1_tryOrders_87 rfl ?_
          refine to_isub (q := 89) dX1_tryOrders_88 rfl ?_
          obtain ⟨hb7, hf⟩ := ck_some hf
          refine to_iaj (q := 90) (h_129 hS) hb7 (rfl) dX1_tryOrders_89 rfl ?_
          refine to_bipush (q := 92) bp_6 dX1_tryOrders_90 rfl ?_
          refine to_imul (q := 93) dX1_tryOrders_92 rfl ?_
          refine to_iload (q := 95) rfl dX1_tryOrders_93 rfl ?_
          refine to_iadd (q := 96) dX1_tryOrders_95 rfl ?_
          obtain ⟨hb8, hf⟩ := ck_some hf
          refine to_iaj (q := 97) (h_127 hS) hb8 (rfl) dX1_tryOrders_96 rfl ?_
          exact to_ext [(0, .ref 126), (1, .int x1), (2, .int x2), (3, .int x3), (4, .int x4)] (ext_cons rfl (ext_cons rfl (ext_cons rfl (ext_cons rfl (ext_cons rfl ext_nil))))) (kX1_tryOrders_97 hS hdd hrec ih hf hI)
      · have hf := ite_neg h4 hf
        refine to_ifT (q := 116) (op := .ne) h4 dX1_tryOrders_59 rfl ?_
        exact to_ext [(0, .ref 126), (1, .int x1), (2, .int x2), (3, .int x3), (4, .int x4)] (ext_cons rfl (ext_cons rfl (ext_cons rfl (ext_cons rfl (ext_cons rfl ext_nil))))) (kX1_tryOrders_116 hS hdd hrec ih hf hI)
def fX1_tryOrders (n : Nat) (x1 : Int32) (x2 : Int32) (x3 : Int32) (m : Me) : Option (Me) := match n with
  | 0 => none
  | n + 1 => if x3 < (m.1 126 4) then if x1 < (m.1 126 3) then fX1_tryOrders_44 (fX1_tryOrders n) FU x1 x2 x3 ((0 : Int32)) m else some (cpyI (setI m 126 4 x3) 129 128 0 0 6) else some m
set_option maxRecDepth 20000 in
theorem kX1_tryOrders {S : Sh} (hS : ShOK S) (n : Nat) : ∀ {x1 : Int32} {x2 : Int32} {x3 : Int32} {m : Me} {res : Me}, fX1_tryOrders n x1 x2 x3 m = some res → Inv m → Call (0 + n) mX1_tryOrders [.ref 126, .int x1, .int x2, .int x3] (S, m) none (S, res) ∧ Inv res := by
  induction n with
  | zero => intro x1 x2 x3 m res hf; cases hf
  | succ n ih =>
    intro x1 x2 x3 m res hf  hI
    unfold fX1_tryOrders at hf
    refine call_of (P := InvS) (d := 0 + n) (Nat.le_of_ble_eq_true rfl) (by simp [Value.category]) ?_
    have hrec := @ih
    have hdd : 0 ≤ 0 + n := Nat.le_add_right _ _
    show TT InvS (Call (0 + n)) mX1_tryOrders (0, [(0, .ref 126), (1, .int x1), (2, .int x2), (3, .int x3)], [], S, m) _ _
    refine to_iload_n (q := 1) rfl dX1_tryOrders_0 rfl ?_
    refine to_aload_n (q := 2) rfl (by decide) dX1_tryOrders_1 rfl ?_
    refine to_getI (q := 5) (k0 := 1) (C := RX1) (T := TX1) (N := 5) (j := 4) rfl fx_X1_31 (h_126 hS) rfl dX1_tryOrders_2 rfl ?_
    by_cases h1 : x3 < (m.1 126 4)
    · have hf := ite_pos h1 hf
      refine to_icT (q := 9) (op := .lt) h1 dX1_tryOrders_5 rfl ?_
      refine to_iload_n (q := 10) rfl dX1_tryOrders_9 rfl ?_
      refine to_aload_n (q := 11) rfl (by decide) dX1_tryOrders_10 rfl ?_
      refine to_getI (q := 14) (k0 := 1) (C := RX1) (T := TX1) (N := 5) (j := 3) rfl fx_X1_27 (h_126 hS) rfl dX1_tryOrders_11 rfl ?_
      by_cases h2 : x1 < (m.1 126 3)
      · have hf := ite_pos h2 hf
        refine to_icT (q := 41) (op := .lt) h2 dX1_tryOrders_14 rfl ?_
        refine to_iconst (q := 42) ic_0 dX1_tryOrders_41 rfl ?_
        refine to_istore (q := 44) [(4, .int (0 : Int32)), (0, .ref 126), (1, .int x1), (2, .int x2), (3, .int x3)] rfl (by decide) dX1_tryOrders_42 rfl ?_
        exact to_ext [(0, .ref 126), (1, .int x1), (2, .int x2), (3, .int x3), (4, .int (0 : Int32))] (ext_cons rfl (ext_cons rfl (ext_cons rfl (ext_cons rfl (ext_cons rfl ext_nil))))) (kX1_tryOrders_44 hS hdd hrec FU hf hI)
      · have hf := ite_neg h2 hf
        refine to_icF (q := 17) (op := .lt) 41 h2 dX1_tryOrders_14 rfl rfl ?_
        refine to_aload_n (q := 18) rfl (by decide) dX1_tryOrders_17 rfl ?_
        refine to_iload_n (q := 19) rfl dX1_tryOrders_18 rfl ?_
        refine to_putI (q := 22) (ty := .int) (k0 := 1) (C := RX1) (T := TX1) (N := 5) (j := 4) rfl fx_X1_31 (h_126 hS) rfl pD_I (Or.inl rfl) (nf_I _) dX1_tryOrders_19 rfl ?_
        refine to_aload_n (q := 23) rfl (by decide) dX1_tryOrders_22 rfl ?_
        refine to_getR (q := 26) (b := 129) (k0 := 1) (C := RX1) (T := TX1) (N := 5) (j := 2) rfl fx_X1_18 (h_126 hS) rfl (iv_126_2 hI) dX1_tryOrders_23 rfl ?_
        refine to_iconst (q := 27) ic_0 dX1_tryOrders_26 rfl ?_
        refine to_aload_n (q := 28) rfl (by decide) dX1_tryOrders_27 rfl ?_
        refine to_getR (q := 31) (b := 128) (k0 := 1) (C := RX1) (T := TX1) (N := 5) (j := 1) rfl fx_X1_15 (h_126 hS) rfl (iv_126_1 hI) dX1_tryOrders_28 rfl ?_
        refine to_iconst (q := 32) ic_0 dX1_tryOrders_31 rfl ?_
        refine to_aload_n (q := 33) rfl (by decide) dX1_tryOrders_32 rfl ?_
        refine to_getR (q := 36) (b := 128) (k0 := 1) (C := RX1) (T := TX1) (N := 5) (j := 1) rfl fx_X1_15 (h_126 hS) rfl (iv_126_1 hI) dX1_tryOrders_33 rfl ?_
        refine to_alen (q := 37) (h_128 hS) (by decide) on_6 dX1_tryOrders_36 rfl ?_
        refine to_cpj (q := 40) dX1_tryOrders_37 rfl (Nat.le_of_ble_eq_true rfl) (lc_copy ml_X1_38) (h_129 hS) (h_128 hS) (by decide) (by decide) (by decide) tn_0 tn_0 tn_6 (by decide) (by decide) ?_
        cases hf
        exact to_vret dX1_tryOrders_40 rfl rfl rfl hI
    · have hf := ite_neg h1 hf
      refine to_icF (q := 8) (op := .lt) 9 h1 dX1_tryOrders_5 rfl rfl ?_
      cases hf
      exact to_vret dX1_tryOrders_8 rfl rfl rfl hI
def fX1_settle (x1 : Int32) (m : Me) : Option (Me) := cl1 (fX1_tryOrders 8 (0 : Int32) (0 : Int32) (0 : Int32) (setI (setI m 126 3 (if (6 : Int32) < x1 then (6 : Int32) else x1)) 126 4 (181 : Int32))) fun m3 => some m3
set_option maxRecDepth 20000 in
theorem kX1_settle {S : Sh} (hS : ShOK S) {res : Me} {x1 : Int32} {m : Me} (hf : fX1_settle x1 m = some res) (hI : Inv m) : Call 10 mX1_settle [.ref 126, .int x1] (S, m) none (S, res) ∧ Inv res := by
  refine call_of (P := InvS) (Nat.le_of_ble_eq_true rfl) (by simp [Value.category]) ?_
  show TT InvS (Call 9) mX1_settle (0, [(0, .ref 126), (1, .int x1)], [], S, m) _ _
  unfold fX1_settle at hf
  refine to_aload_n (q := 1) rfl (by decide) dX1_settle_0 rfl ?_
  refine to_iload_n (q := 2) rfl dX1_settle_1 rfl ?_
  refine to_bipush (q := 4) bp_6 dX1_settle_2 rfl ?_
  refine to_min (q := 7) dX1_settle_4 rfl (Nat.le_of_ble_eq_true rfl) (lc_min lm_X1_21) ?_
  refine to_putI (q := 10) (ty := .int) (k0 := 1) (C := RX1) (T := TX1) (N := 5) (j := 3) rfl fx_X1_27 (h_126 hS) rfl pD_I (Or.inl rfl) (nf_I _) dX1_settle_7 rfl ?_
  refine to_aload_n (q := 11) rfl (by decide) dX1_settle_10 rfl ?_
  refine to_sipush (q := 14) sp_181 dX1_settle_11 rfl ?_
  refine to_putI (q := 17) (ty := .int) (k0 := 1) (C := RX1) (T := TX1) (N := 5) (j := 4) rfl fx_X1_31 (h_126 hS) rfl pD_I (Or.inl rfl) (nf_I _) dX1_settle_14 rfl ?_
  refine to_aload_n (q := 18) rfl (by decide) dX1_settle_17 rfl ?_
  refine to_iconst (q := 19) ic_0 dX1_settle_18 rfl ?_
  refine to_iconst (q := 20) ic_0 dX1_settle_19 rfl ?_
  refine to_iconst (q := 21) ic_0 dX1_settle_20 rfl ?_
  obtain ⟨m3, hc1, hf⟩ := cl1_some hf
  have qc2 := kX1_tryOrders hS 8 hc1 hI
  refine to_virtV (q := 24) mX1_tryOrders [.int (0 : Int32), .int (0 : Int32), .int (0 : Int32)] dX1_settle_21 rfl rfl (Nat.le_of_ble_eq_true rfl) mo_X1_tryOrders mv_X1_34 (Or.inl ⟨_, _, _, h_126 hS, rfl, rfl⟩) (Call_mono (by decide) qc2.1) ?_
  have hI := qc2.2
  cases hf
  exact to_vret dX1_settle_24 rfl rfl rfl hI
def fX3_gather_89 (n : Nat) (x4 : Int32) (m : Me) : Option (Me) := match n with
  | 0 => none
  | n + 1 => if (30 : Int32) ≤ x4 then some m else ck (inb x4 30) (ck (inb x4 30) (fX3_gather_89 n ((x4 + (1 : Int32))) (setI (setI m 99 x4.toNatClampNeg (-1 : Int32)) 100 x4.toNatClampNeg (-1 : Int32))))
set_option maxRecDepth 20000 in
theorem kX3_gather_89 {S : Sh} (hS : ShOK S) {res : Me} (n : Nat) : ∀ {x4 : Int32} {m : Me}, fX3_gather_89 n x4 m = some res → Inv m → TT InvS (Call 4) mX3_gather (89, [(0, .ref 96), (4, .int x4)], [], S, m) none (S, res) := by
  induction n with
  | zero => intro x4 m hf; cases hf
  | succ n ih =>
    intro x4 m hf  hI
    unfold fX3_gather_89 at hf
    refine to_iload (q := 91) rfl dX3_gather_89 rfl ?_
    refine to_aload_n (q := 92) rfl (by decide) dX3_gather_91 rfl ?_
    refine to_getR (q := 95) (b := 99) (k0 := 3) (C := RX3) (T := TX3) (N := 7) (j := 3) rfl fx_X3_23 (h_96 hS) rfl (iv_96_3 hI) dX3_gather_92 rfl ?_
    refine to_alen (q := 96) (h_99 hS) (by decide) on_30 dX3_gather_95 rfl ?_
    by_cases h9 : (30 : Int32) ≤ x4
    · have hf := ite_pos h9 hf
      refine to_icT (q := 121) (op := .ge) h9 dX3_gather_96 rfl ?_
      cases hf
      exact to_vret dX3_gather_121 rfl rfl rfl hI
    · have hf := ite_neg h9 hf
      refine to_icF (q := 99) (op := .ge) 121 h9 dX3_gather_96 rfl rfl ?_
      refine to_aload_n (q := 100) rfl (by decide) dX3_gather_99 rfl ?_
      refine to_getR (q := 103) (b := 99) (k0 := 3) (C := RX3) (T := TX3) (N := 7) (j := 3) rfl fx_X3_23 (h_96 hS) rfl (iv_96_3 hI) dX3_gather_100 rfl ?_
      refine to_iload (q := 105) rfl dX3_gather_103 rfl ?_
      refine to_iconst (q := 106) ic_m1 dX3_gather_105 rfl ?_
      obtain ⟨hb10, hf⟩ := ck_some hf
      refine to_iasj (q := 107) (h_99 hS) hb10 (rfl) dX3_gather_106 rfl ?_
      refine to_aload_n (q := 108) rfl (by decide) dX3_gather_107 rfl ?_
      refine to_getR (q := 111) (b := 100) (k0 := 3) (C := RX3) (T := TX3) (N := 7) (j := 4) rfl fx_X3_27 (h_96 hS) rfl (iv_96_4 hI) dX3_gather_108 rfl ?_
      refine to_iload (q := 113) rfl dX3_gather_111 rfl ?_
      refine to_iconst (q := 114) ic_m1 dX3_gather_113 rfl ?_
      obtain ⟨hb11, hf⟩ := ck_some hf
      refine to_iasj (q := 115) (h_100 hS) hb11 (rfl) dX3_gather_114 rfl ?_
      refine to_iinc (q := 118) (v := (x4 + (1 : Int32))) rfl (congrArg (fun z => x4 + z) ic_1) [(4, .int (x4 + (1 : Int32))), (0, .ref 96)] rfl (by decide) dX3_gather_115 rfl ?_
      refine to_goto (q := 89) dX3_gather_118 rfl ?_
      exact to_ext [(0, .ref 96), (4, .int (x4 + (1 : Int32)))] (ext_cons rfl (ext_cons rfl ext_nil)) (ih hf hI)
def fX3_gather_80 (k8 : Nat → Nat → Int32 → Int32 → Me → Option (Me)) (a1 : Nat) (a2 : Nat) (x3 : Int32) (x4 : Int32) (m : Me) : Option (Me) := k8 a1 a2 x3 ((x4 + (1 : Int32))) m
set_option maxRecDepth 20000 in
theorem kX3_gather_80 {S : Sh} (hS : ShOK S) {res : Me} {k8 : Nat → Nat → Int32 → Int32 → Me → Option (Me)} (hk8 : ∀ {a1 : Nat} {a2 : Nat} {x3 : Int32} {x4 : Int32} {m : Me}, k8 a1 a2 x3 x4 m = some res → kd a1 = 2 → kd a2 = 5 → Inv m → TT InvS (Call 4) mX3_gather (8, [(0, .ref 96), (1, .ref a1), (2, .ref a2), (3, .int x3), (4, .int x4)], [], S, m) none (S, res)) {a1 : Nat} {a2 : Nat} {x3 : Int32} {x4 : Int32} {m : Me} (hf : fX3_gather_80 k8 a1 a2 x3 x4 m = some res) (ha1 : kd a1 = 2) (ha2 : kd a2 = 5) (hI : Inv m) : TT InvS (Call 4) mX3_gather (80, [(0, .ref 96), (1, .ref a1), (2, .ref a2), (3, .int x3), (4, .int x4)], [], S, m) none (S, res) := by
  unfold fX3_gather_80 at hf
  refine to_iinc (q := 83) (v := (x4 + (1 : Int32))) rfl (congrArg (fun z => x4 + z) ic_1) [(4, .int (x4 + (1 : Int32))), (0, .ref 96), (1, .ref a1), (2, .ref a2), (3, .int x3)] rfl (by decide) dX3_gather_80 rfl ?_
  refine to_goto (q := 8) dX3_gather_83 rfl ?_
  exact to_ext [(0, .ref 96), (1, .ref a1), (2, .ref a2), (3, .int x3), (4, .int (x4 + (1 : Int32)))] (ext_cons rfl (ext_cons rfl (ext_cons rfl (ext_cons rfl (ext_cons rfl ext_nil))))) (hk8 hf (ha1) (ha2) hI)
def fX3_gather_8 (n : Nat) (a1 : Nat) (a2 : Nat) (x3 : Int32) (x4 : Int32) (m : Me) : Option (Me) := match n with
  | 0 => none
  | n + 1 => if (m.1 a1 9) ≤ x4 then fX3_gather_89 FU ((0 : Int32)) m else ck (inb x4 4) (if (m.1 (a1 + 19 + 2 * x4.toNatClampNeg) 2) = x3 then ck (inb (m.1 96 2) 4) (ck (inb ((setR m 98 (m.1 96 2).toNatClampNeg (some (a1 + 19 + 2 * x4.toNatClampNeg))).1 96 2) 4) (cl1 (fX7_look (102 + 5 * ((setR m 98 (m.1 96 2).toNatClampNeg (some (a1 + 19 + 2 * x4.toNatClampNeg))).1 96 2).toNatClampNeg) a1 a2 (((setR m 98 (m.1 96 2).toNatClampNeg (some (a1 + 19 + 2 * x4.toNatClampNeg))).1 a2 1)) x3 (((setR m 98 (m.1 96 2).toNatClampNeg (some (a1 + 19 + 2 * x4.toNatClampNeg))).1 (a1 + 19 + 2 * x4.toNatClampNeg) 3)) (setR m 98 (m.1 96 2).toNatClampNeg (some (a1 + 19 + 2 * x4.toNatClampNeg)))) fun m8 => fX3_gather_80 (fX3_gather_8 n) a1 a2 x3 x4 (setI m8 96 2 ((m8.1 96 2) + (1 : Int32))))) else fX3_gather_80 (fX3_gather_8 n) a1 a2 x3 x4 m)
set_option maxRecDepth 20000 in
theorem kX3_gather_8 {S : Sh} (hS : ShOK S) {res : Me} (n : Nat) : ∀ {a1 : Nat} {a2 : Nat} {x3 : Int32} {x4 : Int32} {m : Me}, fX3_gather_8 n a1 a2 x3 x4 m = some res → kd a1 = 2 → kd a2 = 5 → Inv m → TT InvS (Call 4) mX3_gather (8, [(0, .ref 96), (1, .ref a1), (2, .ref a2), (3, .int x3), (4, .int x4)], [], S, m) none (S, res) := by
  induction n with
  | zero => intro a1 a2 x3 x4 m hf; cases hf
  | succ n ih =>
    intro a1 a2 x3 x4 m hf ha1 ha2 hI
    unfold fX3_gather_8 at hf
    refine to_iload (q := 10) rfl dX3_gather_8 rfl ?_
    refine to_aload_n (q := 11) rfl (kd_4 (ha1) (by decide)) dX3_gather_10 rfl ?_
    refine to_getI (q := 14) (k0 := 2) (C := RX2) (T := TX2) (N := 14) (j := 9) rfl fx_X3_53 (sh_kd hS ha1 (by decide)) rfl dX3_gather_11 rfl ?_
    by_cases h1 : (m.1 a1 9) ≤ x4
    · have hf := ite_pos h1 hf
      refine to_icT (q := 86) (op := .ge) h1 dX3_gather_14 rfl ?_
      refine to_iconst (q := 87) ic_0 dX3_gather_86 rfl ?_
      refine to_istore (q := 89) [(4, .int (0 : Int32)), (0, .ref 96), (1, .ref a1), (2, .ref a2), (3, .int x3)] rfl (by decide) dX3_gather_87 rfl ?_
      exact to_ext [(0, .ref 96), (4, .int (0 : Int32))] (ext_cons rfl (ext_cons rfl ext_nil)) (kX3_gather_89 hS FU hf hI)
    · have hf := ite_neg h1 hf
      refine to_icF (q := 17) (op := .ge) 86 h1 dX3_gather_14 rfl rfl ?_
      refine to_aload_n (q := 18) rfl (kd_4 (ha1) (by decide)) dX3_gather_17 rfl ?_
      refine to_getR (q := 21) (b := a1 + 4) (k0 := 2) (C := RX2) (T := TX2) (N := 14) (j := 8) rfl fx_X3_58 (sh_kd hS ha1 (by decide)) rfl (iv2i hI (ha1)) dX3_gather_18 rfl ?_
      refine to_iload (q := 23) rfl dX3_gather_21 rfl ?_
      obtain ⟨hb2, hf⟩ := ck_some hf
      refine to_aald (q := 24) (b := a1 + 19 + 2 * x4.toNatClampNeg) (sh_ln hS (kd2i (ha1)) (by decide)) (by decide) hb2 (ivI hI (ha1) hb2) dX3_gather_23 rfl ?_
      refine to_astore (q := 26) [(5, .ref (a1 + 19 + 2 * x4.toNatClampNeg)), (0, .ref 96), (1, .ref a1), (2, .ref a2), (3, .int x3), (4, .int x4)] rfl (kd_4 (kdI (ha1) hb2) (by decide)) (by decide) dX3_gather_24 rfl ?_
      refine to_aload (q := 28) rfl (kd_4 (kdI (ha1) hb2) (by decide)) dX3_gather_26 rfl ?_
      refine to_getI (q := 31) (k0 := 8) (C := RX8) (T := TX8) (N := 5) (j := 2) rfl fx_X3_59 (sh_kd hS (kdI (ha1) hb2) (by decide)) rfl dX3_gather_28 rfl ?_
      refine to_iload_n (q := 32) rfl dX3_gather_31 rfl ?_
      by_cases h3 : (m.1 (a1 + 19 + 2 * x4.toNatClampNeg) 2) = x3
      · have hf := ite_pos h3 hf
        refine to_icF (q := 35) (op := .ne) 80 (fun z => z h3) dX3_gather_32 rfl rfl ?_
        refine to_aload_n (q := 36) rfl (by decide) dX3_gather_35 rfl ?_
        refine to_getR (q := 39) (b := 98) (k0 := 3) (C := RX3) (T := TX3) (N := 7) (j := 1) rfl fx_X3_19 (h_96 hS) rfl (iv_96_1 hI) dX3_gather_36 rfl ?_
        refine to_aload_n (q := 40) rfl (by decide) dX3_gather_39 rfl ?_
        refine to_getI (q := 43) (k0 := 3) (C := RX3) (T := TX3) (N := 7) (j := 2) rfl fx_X3_50 (h_96 hS) rfl dX3_gather_40 rfl ?_
        refine to_aload (q := 45) rfl (kd_4 (kdI (ha1) hb2) (by decide)) dX3_gather_43 rfl ?_
        obtain ⟨hb4, hf⟩ := ck_some hf
        refine to_aast (q := 46) (h_98 hS) (by decide) hb4 (sh_kd hS (kdI (ha1) hb2) (by decide)) dX3_gather_45 rfl ?_
        have hI : Inv (setR m 98 (m.1 96 2).toNatClampNeg (some (a1 + 19 + 2 * x4.toNatClampNeg))) := inv_wish hI (kdI (ha1) hb2)
        refine to_aload_n (q := 47) rfl (by decide) dX3_gather_46 rfl ?_
        refine to_getR (q := 50) (b := 97) (k0 := 3) (C := RX3) (T := TX3) (N := 7) (j := 0) rfl fx_X3_11 (h_96 hS) rfl (iv_96_0 hI) dX3_gather_47 rfl ?_
        refine to_aload_n (q := 51) rfl (by decide) dX3_gather_50 rfl ?_
        refine to_getI (q := 54) (k0 := 3) (C := RX3) (T := TX3) (N := 7) (j := 2) rfl fx_X3_50 (h_96 hS) rfl dX3_gather_51 rfl ?_
        obtain ⟨hb5, hf⟩ := ck_some hf
        refine to_aald (q := 55) (b := 102 + 5 * ((setR m 98 (m.1 96 2).toNatClampNeg (some (a1 + 19 + 2 * x4.toNatClampNeg))).1 96 2).toNatClampNeg) (h_97 hS) (by decide) hb5 (ivR hI hb5) dX3_gather_54 rfl ?_
        refine to_aload_n (q := 56) rfl (kd_4 (ha1) (by decide)) dX3_gather_55 rfl ?_
        refine to_aload_n (q := 57) rfl (kd_4 (ha2) (by decide)) dX3_gather_56 rfl ?_
        refine to_aload_n (q := 58) rfl (kd_4 (ha2) (by decide)) dX3_gather_57 rfl ?_
        refine to_getI (q := 61) (k0 := 5) (C := RX5) (T := TX5) (N := 3) (j := 1) rfl fx_X3_62 (sh_kd hS ha2 (by decide)) rfl dX3_gather_58 rfl ?_
        refine to_iload_n (q := 62) rfl dX3_gather_61 rfl ?_
        refine to_aload (q := 64) rfl (kd_4 (kdI (ha1) hb2) (by decide)) dX3_gather_62 rfl ?_
        refine to_getI (q := 67) (k0 := 8) (C := RX8) (T := TX8) (N := 5) (j := 3) rfl fx_X3_67 (sh_kd hS (kdI (ha1) hb2) (by decide)) rfl dX3_gather_64 rfl ?_
        obtain ⟨m8, hc6, hf⟩ := cl1_some hf
        have qc7 := kX7_look hS hc6 (kdR hb5) (ha1) (ha2) hI
        refine to_virtV (q := 70) mX7_look [.ref a1, .ref a2, .int ((setR m 98 (m.1 96 2).toNatClampNeg (some (a1 + 19 + 2 * x4.toNatClampNeg))).1 a2 1), .int x3, .int ((setR m 98 (m.1 96 2).toNatClampNeg (some (a1 + 19 + 2 * x4.toNatClampNeg))).1 (a1 + 19 + 2 * x4.toNatClampNeg) 3)] dX3_gather_67 rfl rfl (Nat.le_of_ble_eq_true rfl) mo_X7_look mv_X3_70 (Or.inl ⟨_, _, _, sh_kd hS (kdR hb5) (by decide), rfl, rfl⟩) (Call_mono (by decide) qc7.1) ?_
        have hI := qc7.2
        refine to_aload_n (q := 71) rfl (by decide) dX3_gather_70 rfl ?_
        refine to_dup (q := 72) rfl dX3_gather_71 rfl ?_
        refine to_getI (q := 75) (k0 := 3) (C := RX3) (T := TX3) (N := 7) (j := 2) rfl fx_X3_50 (h_96 hS) rfl dX3_gather_72 rfl ?_
        refine to_iconst (q := 76) ic_1 dX3_gather_75 rfl ?_
        refine to_iadd (q := 77) dX3_gather_76 rfl ?_
        refine to_putI (q := 80) (ty := .int) (k0 := 3) (C := RX3) (T := TX3) (N := 7) (j := 2) rfl fx_X3_50 (h_96 hS) rfl pD_I (Or.inl rfl) (nf_I _) dX3_gather_77 rfl ?_
        exact to_ext [(0, .ref 96), (1, .ref a1), (2, .ref a2), (3, .int x3), (4, .int x4)] (ext_cons rfl (ext_cons rfl (ext_cons rfl (ext_cons rfl (ext_cons rfl ext_nil))))) (kX3_gather_80 hS ih hf (ha1) (ha2) hI)
      · have hf := ite_neg h3 hf
        refine to_icT (q := 80) (op := .ne) h3 dX3_gather_32 rfl ?_
        exact to_ext [(0, .ref 96), (1, .ref a1), (2, .ref a2), (3, .int x3), (4, .int x4)] (ext_cons rfl (ext_cons rfl (ext_cons rfl (ext_cons rfl (ext_cons rfl ext_nil))))) (kX3_gather_80 hS ih hf (ha1) (ha2) hI)
def fX3_gather (a1 : Nat) (a2 : Nat) (x3 : Int32) (m : Me) : Option (Me) := fX3_gather_8 FU a1 a2 x3 ((0 : Int32)) (setI m 96 2 (0 : Int32))
set_option maxRecDepth 20000 in
theorem kX3_gather {S : Sh} (hS : ShOK S) {res : Me} {a1 : Nat} {a2 : Nat} {x3 : Int32} {m : Me} (hf : fX3_gather a1 a2 x3 m = some res) (ha1 : kd a1 = 2) (ha2 : kd a2 = 5) (hI : Inv m) : Call 5 mX3_gather [.ref 96, .ref a1, .ref a2, .int x3] (S, m) none (S, res) ∧ Inv res := by
  refine call_of (P := InvS) (Nat.le_of_ble_eq_true rfl) (by simp [Value.category]) ?_
  show TT InvS (Call 4) mX3_gather (0, [(0, .ref 96), (1, .ref a1), (2, .ref a2), (3, .int x3)], [], S, m) _ _
  unfold fX3_gather at hf
  refine to_aload_n (q := 1) rfl (by decide) dX3_gather_0 rfl ?_
  refine to_iconst (q := 2) ic_0 dX3_gather_1 rfl ?_
  refine to_putI (q := 5) (ty := .int) (k0 := 3) (C := RX3) (T := TX3) (N := 7) (j := 2) rfl fx_X3_50 (h_96 hS) rfl pD_I (Or.inl rfl) (nf_I _) dX3_gather_2 rfl ?_
  refine to_iconst (q := 6) ic_0 dX3_gather_5 rfl ?_
  refine to_istore (q := 8) [(4, .int (0 : Int32)), (0, .ref 96), (1, .ref a1), (2, .ref a2), (3, .int x3)] rfl (by decide) dX3_gather_6 rfl ?_
  exact to_ext [(0, .ref 96), (1, .ref a1), (2, .ref a2), (3, .int x3), (4, .int (0 : Int32))] (ext_cons rfl (ext_cons rfl (ext_cons rfl (ext_cons rfl (ext_cons rfl ext_nil))))) (kX3_gather_8 hS FU hf (ha1) (ha2) hI)
def fX3_countUnshared_65 (k6 : Int32 → Int32 → Int32 → Int32 → Int32 → Me → Option (Int32 × Me)) (x1 : Int32) (x2 : Int32) (x3 : Int32) (x4 : Int32) (x5 : Int32) (m : Me) : Option (Int32 × Me) := k6 x1 x2 x3 x4 ((x5 + (1 : Int32))) m
set_option maxRecDepth 20000 in
theorem kX3_countUnshared_65 {S : Sh} (hS : ShOK S) {res : Int32 × Me} {k6 : Int32 → Int32 → Int32 → Int32 → Int32 → Me → Option (Int32 × Me)} (hk6 : ∀ {x1 : Int32} {x2 : Int32} {x3 : Int32} {x4 : Int32} {x5 : Int32} {m : Me}, k6 x1 x2 x3 x4 x5 m = some res → Inv m → TT InvS (Call 0) mX3_countUnshared (6, [(0, .ref 96), (1, .int x1), (2, .int x2), (3, .int x3), (4, .int x4), (5, .int x5)], [], S, m) (some (.int res.1)) (S, res.2)) {x1 : Int32} {x2 : Int32} {x3 : Int32} {x4 : Int32} {x5 : Int32} {m : Me} (hf : fX3_countUnshared_65 k6 x1 x2 x3 x4 x5 m = some res) (hI : Inv m) : TT InvS (Call 0) mX3_countUnshared (65, [(0, .ref 96), (1, .int x1), (2, .int x2), (3, .int x3), (4, .int x4), (5, .int x5)], [], S, m) (some (.int res.1)) (S, res.2) := by
  unfold fX3_countUnshared_65 at hf
  refine to_iinc (q := 68) (v := (x5 + (1 : Int32))) rfl (congrArg (fun z => x5 + z) ic_1) [(5, .int (x5 + (1 : Int32))), (0, .ref 96), (1, .int x1), (2, .int x2), (3, .int x3), (4, .int x4)] rfl (by decide) dX3_countUnshared_65 rfl ?_
  refine to_goto (q := 6) dX3_countUnshared_68 rfl ?_
  exact to_ext [(0, .ref 96), (1, .int x1), (2, .int x2), (3, .int x3), (4, .int x4), (5, .int (x5 + (1 : Int32)))] (ext_cons rfl (ext_cons rfl (ext_cons rfl (ext_cons rfl (ext_cons rfl (ext_cons rfl ext_nil)))))) (hk6 hf hI)
def fX3_countUnshared_6 (n : Nat) (x1 : Int32) (x2 : Int32) (x3 : Int32) (x4 : Int32) (x5 : Int32) (m : Me) : Option (Int32 × Me) := match n with
  | 0 => none
  | n + 1 => ck (inb x1 4) (if (m.1 (rr m 98 x1.toNatClampNeg) 1) ≤ x5 then some (x4, m) else ck (inb x1 4) (ck (inb x5 8) (if ((x3 >>> ((m.1 ((rr m 98 x1.toNatClampNeg) + 1) x5.toNatClampNeg) &&& 31)) &&& (1 : Int32)) = (0 : Int32) then ck (inb x1 4) (ck (inb (x2 + x5) 30) (if (m.1 ((102 + 5 * x1.toNatClampNeg) + 2) (x2 + x5).toNatClampNeg) = (m.1 ((rr m 98 x1.toNatClampNeg) + 1) x5.toNatClampNeg) then fX3_countUnshared_65 (fX3_countUnshared_6 n) x1 x2 x3 x4 x5 m else fX3_countUnshared_65 (fX3_countUnshared_6 n) x1 x2 x3 ((x4 + (1 : Int32))) x5 m)) else fX3_countUnshared_65 (fX3_countUnshared_6 n) x1 x2 x3 x4 x5 m)))
set_option maxRecDepth 20000 in
theorem kX3_countUnshared_6 {S : Sh} (hS : ShOK S) {res : Int32 × Me} (n : Nat) : ∀ {x1 : Int32} {x2 : Int32} {x3 : Int32} {x4 : Int32} {x5 : Int32} {m : Me}, fX3_countUnshared_6 n x1 x2 x3 x4 x5 m = some res → Inv m → TT InvS (Call 0) mX3_countUnshared (6, [(0, .ref 96), (1, .int x1), (2, .int x2), (3, .int x3), (4, .int x4), (5, .int x5)], [], S, m) (some (.int res.1)) (S, res.2) := by
  induction n with
  | zero => intro x1 x2 x3 x4 x5 m hf; cases hf
  | succ n ih =>
    intro x1 x2 x3 x4 x5 m hf  hI
    unfold fX3_countUnshared_6 at hf
    refine to_iload (q := 8) rfl dX3_countUnshared_6 rfl ?_
    refine to_aload_n (q := 9) rfl (by decide) dX3_countUnshared_8 rfl ?_
    refine to_getR (q := 12) (b := 98) (k0 := 3) (C := RX3) (T := TX3) (N := 7) (j := 1) rfl fx_X3_19 (h_96 hS) rfl (iv_96_1 hI) dX3_countUnshared_9 rfl ?_
    refine to_iload_n (q := 13) rfl dX3_countUnshared_12 rfl ?_
    obtain ⟨hb1, hf⟩ := ck_some hf
    have hk2 : kd (rr m 98 x1.toNatClampNeg) = 8 := (ivM hI hb1).2
    refine to_aald (q := 14) (b := rr m 98 x1.toNatClampNeg) (h_98 hS) (by decide) hb1 ((ivM hI hb1).1) dX3_countUnshared_13 rfl ?_
    refine to_getI (q := 17) (k0 := 8) (C := RX8) (T := TX8) (N := 5) (j := 1) rfl fx_X3_82 (sh_kd hS hk2 (by decide)) rfl dX3_countUnshared_14 rfl ?_
    by_cases h3 : (m.1 (rr m 98 x1.toNatClampNeg) 1) ≤ x5
    · have hf := ite_pos h3 hf
      refine to_icT (q := 71) (op := .ge) h3 dX3_countUnshared_17 rfl ?_
      refine to_iload (q := 73) rfl dX3_countUnshared_71 rfl ?_
      cases hf
      exact to_iret dX3_countUnshared_73 rfl rfl rfl rfl hI
    · have hf := ite_neg h3 hf
      refine to_icF (q := 20) (op := .ge) 71 h3 dX3_countUnshared_17 rfl rfl ?_
      refine to_aload_n (q := 21) rfl (by decide) dX3_countUnshared_20 rfl ?_
      refine to_getR (q := 24) (b := 98) (k0 := 3) (C := RX3) (T := TX3) (N := 7) (j := 1) rfl fx_X3_19 (h_96 hS) rfl (iv_96_1 hI) dX3_countUnshared_21 rfl ?_
      refine to_iload_n (q := 25) rfl dX3_countUnshared_24 rfl ?_
      obtain ⟨hb4, hf⟩ := ck_some hf
      have hk5 : kd (rr m 98 x1.toNatClampNeg) = 8 := (ivM hI hb4).2
      refine to_aald (q := 26) (b := rr m 98 x1.toNatClampNeg) (h_98 hS) (by decide) hb4 ((ivM hI hb4).1) dX3_countUnshared_25 rfl ?_
      refine to_getR (q := 29) (b := (rr m 98 x1.toNatClampNeg) + 1) (k0 := 8) (C := RX8) (T := TX8) (N := 5) (j := 0) rfl fx_X3_96 (sh_kd hS hk5 (by decide)) rfl (iv8 hI (hk5)) dX3_countUnshared_26 rfl ?_
      refine to_iload (q := 31) rfl dX3_countUnshared_29 rfl ?_
      obtain ⟨hb6, hf⟩ := ck_some hf
      refine to_iaj (q := 32) (sh_ln hS (kd8 (hk5)) (by decide)) hb6 (rfl) dX3_countUnshared_31 rfl ?_
      refine to_istore (q := 34) [(6, .int (m.1 ((rr m 98 x1.toNatClampNeg) + 1) x5.toNatClampNeg)), (0, .ref 96), (1, .int x1), (2, .int x2), (3, .int x3), (4, .int x4), (5, .int x5)] rfl (by decide) dX3_countUnshared_32 rfl ?_
      refine to_iload_n (q := 35) rfl dX3_countUnshared_34 rfl ?_
      refine to_iload (q := 37) rfl dX3_countUnshared_35 rfl ?_
      refine to_ishr (q := 38) dX3_countUnshared_37 rfl ?_
      refine to_iconst (q := 39) ic_1 dX3_countUnshared_38 rfl ?_
      refine to_iand (q := 40) dX3_countUnshared_39 rfl ?_
      by_cases h7 : ((x3 >>> ((m.1 ((rr m 98 x1.toNatClampNeg) + 1) x5.toNatClampNeg) &&& 31)) &&& (1 : Int32)) = (0 : Int32)
      · have hf := ite_pos h7 hf
        refine to_ifF (q := 43) (op := .ne) 65 (fun z => z h7) dX3_countUnshared_40 rfl rfl ?_
        refine to_aload_n (q := 44) rfl (by decide) dX3_countUnshared_43 rfl ?_
        refine to_getR (q := 47) (b := 97) (k0 := 3) (C := RX3) (T := TX3) (N := 7) (j := 0) rfl fx_X3_11 (h_96 hS) rfl (iv_96_0 hI) dX3_countUnshared_44 rfl ?_
        refine to_iload_n (q := 48) rfl dX3_countUnshared_47 rfl ?_
        obtain ⟨hb8, hf⟩ := ck_some hf
        refine to_aald (q := 49) (b := 102 + 5 * x1.toNatClampNeg) (h_97 hS) (by decide) hb8 (ivR hI hb8) dX3_countUnshared_48 rfl ?_
        refine to_getR (q := 52) (b := (102 + 5 * x1.toNatClampNeg) + 2) (k0 := 7) (C := RX7) (T := TX7) (N := 3) (j := 1) rfl fx_X3_99 (sh_kd hS (kdR hb8) (by decide)) rfl (iv7b hI (kdR hb8)) dX3_countUnshared_49 rfl ?_
        refine to_iload_n (q := 53) rfl dX3_countUnshared_52 rfl ?_
        refine to_iload (q := 55) rfl dX3_countUnshared_53 rfl ?_
        refine to_iadd (q := 56) dX3_countUnshared_55 rfl ?_
        obtain ⟨hb9, hf⟩ := ck_some hf
        refine to_iaj (q := 57) (sh_ln hS (kd7b (kdR hb8)) (by decide)) hb9 (rfl) dX3_countUnshared_56 rfl ?_
        refine to_iload (q := 59) rfl dX3_countUnshared_57 rfl ?_
        by_cases h10 : (m.1 ((102 + 5 * x1.toNatClampNeg) + 2) (x2 + x5).toNatClampNeg) = (m.1 ((rr m 98 x1.toNatClampNeg) + 1) x5.toNatClampNeg)
        · have hf := ite_pos h10 hf
          refine to_icT (q := 65) (op := .eq) h10 dX3_countUnshared_59 rfl ?_
          exact to_ext [(0, .ref 96), (1, .int x1), (2, .int x2), (3, .int x3), (4, .int x4), (5, .int x5)] (ext_cons rfl (ext_cons rfl (ext_cons rfl (ext_cons rfl (ext_cons rfl (ext_cons rfl ext_nil)))))) (kX3_countUnshared_65 hS ih hf hI)
        · have hf := ite_neg h10 hf
          refine to_icF (q := 62) (op := .eq) 65 h10 dX3_countUnshared_59 rfl rfl ?_
          refine to_iinc (q := 65) (v := (x4 + (1 : Int32))) rfl (congrArg (fun z => x4 + z) ic_1) [(4, .int (x4 + (1 : Int32))), (6, .int (m.1 ((rr m 98 x1.toNatClampNeg) + 1) x5.toNatClampNeg)), (0, .ref 96), (1, .int x1), (2, .int x2), (3, .int x3), (5, .int x5)] rfl (by decide) dX3_countUnshared_62 rfl ?_
          exact to_ext [(0, .ref 96), (1, .int x1), (2, .int x2), (3, .int x3), (4, .int (x4 + (1 : Int32))), (5, .int x5)] (ext_cons rfl (ext_cons rfl (ext_cons rfl (ext_cons rfl (ext_cons rfl (ext_cons rfl ext_nil)))))) (kX3_countUnshared_65 hS ih hf hI)
      · have hf := ite_neg h7 hf
        refine to_ifT (q := 65) (op := .ne) h7 dX3_countUnshared_40 rfl ?_
        exact to_ext [(0, .ref 96), (1, .int x1), (2, .int x2), (3, .int x3), (4, .int x4), (5, .int x5)] (ext_cons rfl (ext_cons rfl (ext_cons rfl (ext_cons rfl (ext_cons rfl (ext_cons rfl ext_nil)))))) (kX3_countUnshared_65 hS ih hf hI)
def fX3_countUnshared (x1 : Int32) (x2 : Int32) (x3 : Int32) (m : Me) : Option (Int32 × Me) := fX3_countUnshared_6 FU x1 x2 x3 ((0 : Int32)) ((0 : Int32)) m
set_option maxRecDepth 20000 in
theorem kX3_countUnshared {S : Sh} (hS : ShOK S) {res : Int32 × Me} {x1 : Int32} {x2 : Int32} {x3 : Int32} {m : Me} (hf : fX3_countUnshared x1 x2 x3 m = some res) (hI : Inv m) : Call 1 mX3_countUnshared [.ref 96, .int x1, .int x2, .int x3] (S, m) (some (.int res.1)) (S, res.2) ∧ Inv res.2 := by
  refine call_of (P := InvS) (Nat.le_of_ble_eq_true rfl) (by simp [Value.category]) ?_
  show TT InvS (Call 0) mX3_countUnshared (0, [(0, .ref 96), (1, .int x1), (2, .int x2), (3, .int x3)], [], S, m) _ _
  unfold fX3_countUnshared at hf
  refine to_iconst (q := 1) ic_0 dX3_countUnshared_0 rfl ?_
  refine to_istore (q := 3) [(4, .int (0 : Int32)), (0, .ref 96), (1, .int x1), (2, .int x2), (3, .int x3)] rfl (by decide) dX3_countUnshared_1 rfl ?_
  refine to_iconst (q := 4) ic_0 dX3_countUnshared_3 rfl ?_
  refine to_istore (q := 6) [(5, .int (0 : Int32)), (4, .int (0 : Int32)), (0, .ref 96), (1, .int x1), (2, .int x2), (3, .int x3)] rfl (by decide) dX3_countUnshared_4 rfl ?_
  exact to_ext [(0, .ref 96), (1, .int x1), (2, .int x2), (3, .int x3), (4, .int (0 : Int32)), (5, .int (0 : Int32))] (ext_cons rfl (ext_cons rfl (ext_cons rfl (ext_cons rfl (ext_cons rfl (ext_cons rfl ext_nil)))))) (kX3_countUnshared_6 hS FU hf hI)
def fX3_leastUnshared_33 (n : Nat) (x1 : Int32) (x2 : Int32) (x3 : Int32) (x4 : Int32) (m : Me) : Option (Int32 × Me) := match n with
  | 0 => none
  | n + 1 => ck (inb x1 4) (ck (inb x1 4) (if (m.1 (102 + 5 * x1.toNatClampNeg) 2) < (x4 + (m.1 (rr m 98 x1.toNatClampNeg) 1)) then some (x3, m) else cl2 (fX3_countUnshared x1 x4 x2 m) fun r14 m15 => fX3_leastUnshared_33 n x1 x2 ((if r14 < x3 then r14 else x3)) ((x4 + (1 : Int32))) m15))
set_option maxRecDepth 20000 in
theorem kX3_leastUnshared_33 {S : Sh} (hS : ShOK S) {res : Int32 × Me} (n : Nat) : ∀ {x1 : Int32} {x2 : Int32} {x3 : Int32} {x4 : Int32} {m : Me}, fX3_leastUnshared_33 n x1 x2 x3 x4 m = some res → Inv m → TT InvS (Call 1) mX3_leastUnshared (33, [(0, .ref 96), (1, .int x1), (2, .int x2), (3, .int x3), (4, .int x4)], [], S, m) (some (.int res.1)) (S, res.2) := by
  induction n with
  | zero => intro x1 x2 x3 x4 m hf; cases hf
  | succ n ih =>
    intro x1 x2 x3 x4 m hf  hI
    unfold fX3_leastUnshared_33 at hf
    refine to_iload (q := 35) rfl dX3_leastUnshared_33 rfl ?_
    refine to_aload_n (q := 36) rfl (by decide) dX3_leastUnshared_35 rfl ?_
    refine to_getR (q := 39) (b := 98) (k0 := 3) (C := RX3) (T := TX3) (N := 7) (j := 1) rfl fx_X3_19 (h_96 hS) rfl (iv_96_1 hI) dX3_leastUnshared_36 rfl ?_
    refine to_iload_n (q := 40) rfl dX3_leastUnshared_39 rfl ?_
    obtain ⟨hb8, hf⟩ := ck_some hf
    have hk9 : kd (rr m 98 x1.toNatClampNeg) = 8 := (ivM hI hb8).2
    refine to_aald (q := 41) (b := rr m 98 x1.toNatClampNeg) (h_98 hS) (by decide) hb8 ((ivM hI hb8).1) dX3_leastUnshared_40 rfl ?_
    refine to_getI (q := 44) (k0 := 8) (C := RX8) (T := TX8) (N := 5) (j := 1) rfl fx_X3_82 (sh_kd hS hk9 (by decide)) rfl dX3_leastUnshared_41 rfl ?_
    refine to_iadd (q := 45) dX3_leastUnshared_44 rfl ?_
    refine to_aload_n (q := 46) rfl (by decide) dX3_leastUnshared_45 rfl ?_
    refine to_getR (q := 49) (b := 97) (k0 := 3) (C := RX3) (T := TX3) (N := 7) (j := 0) rfl fx_X3_11 (h_96 hS) rfl (iv_96_0 hI) dX3_leastUnshared_46 rfl ?_
    refine to_iload_n (q := 50) rfl dX3_leastUnshared_49 rfl ?_
    obtain ⟨hb10, hf⟩ := ck_some hf
    refine to_aald (q := 51) (b := 102 + 5 * x1.toNatClampNeg) (h_97 hS) (by decide) hb10 (ivR hI hb10) dX3_leastUnshared_50 rfl ?_
    refine to_getI (q := 54) (k0 := 7) (C := RX7) (T := TX7) (N := 3) (j := 2) rfl fx_X3_85 (sh_kd hS (kdR hb10) (by decide)) rfl dX3_leastUnshared_51 rfl ?_
    by_cases h11 : (m.1 (102 + 5 * x1.toNatClampNeg) 2) < (x4 + (m.1 (rr m 98 x1.toNatClampNeg) 1))
    · have hf := ite_pos h11 hf
      refine to_icT (q := 76) (op := .gt) h11 dX3_leastUnshared_54 rfl ?_
      refine to_iload_n (q := 77) rfl dX3_leastUnshared_76 rfl ?_
      cases hf
      exact to_iret dX3_leastUnshared_77 rfl rfl rfl rfl hI
    · have hf := ite_neg h11 hf
      refine to_icF (q := 57) (op := .gt) 76 h11 dX3_leastUnshared_54 rfl rfl ?_
      refine to_iload_n (q := 58) rfl dX3_leastUnshared_57 rfl ?_
      refine to_aload_n (q := 59) rfl (by decide) dX3_leastUnshared_58 rfl ?_
      refine to_iload_n (q := 60) rfl dX3_leastUnshared_59 rfl ?_
      refine to_iload (q := 62) rfl dX3_leastUnshared_60 rfl ?_
      refine to_iload_n (q := 63) rfl dX3_leastUnshared_62 rfl ?_
      obtain ⟨r14, m15, hc12, hf⟩ := cl2_some hf
      have qc13 := kX3_countUnshared hS hc12 hI
      refine to_virtI (q := 66) mX3_countUnshared [.int x1, .int x4, .int x2] dX3_leastUnshared_63 rfl rfl (Nat.le_of_ble_eq_true rfl) mo_X3_countUnshared mv_X3_86 (Or.inl ⟨_, _, _, h_96 hS, rfl, rfl⟩) (Call_mono (by decide) qc13.1) ?_
      have hI := qc13.2
      refine to_min (q := 69) dX3_leastUnshared_66 rfl (Nat.le_of_ble_eq_true rfl) (lc_min lm_X3_90) ?_
      refine to_istore_n (q := 70) [(3, .int (if r14 < x3 then r14 else x3)), (0, .ref 96), (1, .int x1), (2, .int x2), (4, .int x4)] rfl (by decide) dX3_leastUnshared_69 rfl ?_
      refine to_iinc (q := 73) (v := (x4 + (1 : Int32))) rfl (congrArg (fun z => x4 + z) ic_1) [(4, .int (x4 + (1 : Int32))), (3, .int (if r14 < x3 then r14 else x3)), (0, .ref 96), (1, .int x1), (2, .int x2)] rfl (by decide) dX3_leastUnshared_70 rfl ?_
      refine to_goto (q := 33) dX3_leastUnshared_73 rfl ?_
      exact to_ext [(0, .ref 96), (1, .int x1), (2, .int x2), (3, .int (if r14 < x3 then r14 else x3)), (4, .int (x4 + (1 : Int32)))] (ext_cons rfl (ext_cons rfl (ext_cons rfl (ext_cons rfl (ext_cons rfl ext_nil))))) (ih hf hI)
def fX3_leastUnshared_4 (n : Nat) (x1 : Int32) (x2 : Int32) (x3 : Int32) (m : Me) : Option (Int32 × Me) := match n with
  | 0 => none
  | n + 1 => if x1 ≤ x3 then fX3_leastUnshared_33 FU x1 x2 ((8 : Int32)) ((0 : Int32)) m else ck (inb x3 4) (cl2 (fX8_letterBits (rr m 98 x3.toNatClampNeg) m) fun r6 m7 => fX3_leastUnshared_4 n x1 ((x2 ||| r6)) ((x3 + (1 : Int32))) m7)
set_option maxRecDepth 20000 in
theorem kX3_leastUnshared_4 {S : Sh} (hS : ShOK S) {res : Int32 × Me} (n : Nat) : ∀ {x1 : Int32} {x2 : Int32} {x3 : Int32} {m : Me}, fX3_leastUnshared_4 n x1 x2 x3 m = some res → Inv m → TT InvS (Call 1) mX3_leastUnshared (4, [(0, .ref 96), (1, .int x1), (2, .int x2), (3, .int x3)], [], S, m) (some (.int res.1)) (S, res.2) := by
  induction n with
  | zero => intro x1 x2 x3 m hf; cases hf
  | succ n ih =>
    intro x1 x2 x3 m hf  hI
    unfold fX3_leastUnshared_4 at hf
    refine to_iload_n (q := 5) rfl dX3_leastUnshared_4 rfl ?_
    refine to_iload_n (q := 6) rfl dX3_leastUnshared_5 rfl ?_
    by_cases h1 : x1 ≤ x3
    · have hf := ite_pos h1 hf
      refine to_icT (q := 27) (op := .ge) h1 dX3_leastUnshared_6 rfl ?_
      refine to_bipush (q := 29) bp_8 dX3_leastUnshared_27 rfl ?_
      refine to_istore_n (q := 30) [(3, .int (8 : Int32)), (0, .ref 96), (1, .int x1), (2, .int x2)] rfl (by decide) dX3_leastUnshared_29 rfl ?_
      refine to_iconst (q := 31) ic_0 dX3_leastUnshared_30 rfl ?_
      refine to_istore (q := 33) [(4, .int (0 : Int32)), (3, .int (8 : Int32)), (0, .ref 96), (1, .int x1), (2, .int x2)] rfl (by decide) dX3_leastUnshared_31 rfl ?_
      exact to_ext [(0, .ref 96), (1, .int x1), (2, .int x2), (3, .int (8 : Int32)), (4, .int (0 : Int32))] (ext_cons rfl (ext_cons rfl (ext_cons rfl (ext_cons rfl (ext_cons rfl ext_nil))))) (kX3_leastUnshared_33 hS FU hf hI)
    · have hf := ite_neg h1 hf
      refine to_icF (q := 9) (op := .ge) 27 h1 dX3_leastUnshared_6 rfl rfl ?_
      refine to_iload_n (q := 10) rfl dX3_leastUnshared_9 rfl ?_
      refine to_aload_n (q := 11) rfl (by decide) dX3_leastUnshared_10 rfl ?_
      refine to_getR (q := 14) (b := 98) (k0 := 3) (C := RX3) (T := TX3) (N := 7) (j := 1) rfl fx_X3_19 (h_96 hS) rfl (iv_96_1 hI) dX3_leastUnshared_11 rfl ?_
      refine to_iload_n (q := 15) rfl dX3_leastUnshared_14 rfl ?_
      obtain ⟨hb2, hf⟩ := ck_some hf
      have hk3 : kd (rr m 98 x3.toNatClampNeg) = 8 := (ivM hI hb2).2
      refine to_aald (q := 16) (b := rr m 98 x3.toNatClampNeg) (h_98 hS) (by decide) hb2 ((ivM hI hb2).1) dX3_leastUnshared_15 rfl ?_
      obtain ⟨r6, m7, hc4, hf⟩ := cl2_some hf
      have qc5 := kX8_letterBits hS hc4 (hk3) hI
      refine to_virtI (q := 19) mX8_letterBits [] dX3_leastUnshared_16 rfl rfl (Nat.le_of_ble_eq_true rfl) mo_X8_letterBits mv_X3_78 (Or.inl ⟨_, _, _, sh_kd hS hk3 (by decide), rfl, rfl⟩) (Call_mono (by decide) qc5.1) ?_
      have hI := qc5.2
      refine to_ior (q := 20) dX3_leastUnshared_19 rfl ?_
      refine to_istore_n (q := 21) [(2, .int (x2 ||| r6)), (0, .ref 96), (1, .int x1), (3, .int x3)] rfl (by decide) dX3_leastUnshared_20 rfl ?_
      refine to_iinc (q := 24) (v := (x3 + (1 : Int32))) rfl (congrArg (fun z => x3 + z) ic_1) [(3, .int (x3 + (1 : Int32))), (2, .int (x2 ||| r6)), (0, .ref 96), (1, .int x1)] rfl (by decide) dX3_leastUnshared_21 rfl ?_
      refine to_goto (q := 4) dX3_leastUnshared_24 rfl ?_
      exact to_ext [(0, .ref 96), (1, .int x1), (2, .int (x2 ||| r6)), (3, .int (x3 + (1 : Int32)))] (ext_cons rfl (ext_cons rfl (ext_cons rfl (ext_cons rfl ext_nil)))) (ih hf hI)
def fX3_leastUnshared (x1 : Int32) (m : Me) : Option (Int32 × Me) := fX3_leastUnshared_4 FU x1 ((0 : Int32)) ((0 : Int32)) m
set_option maxRecDepth 20000 in
theorem kX3_leastUnshared {S : Sh} (hS : ShOK S) {res : Int32 × Me} {x1 : Int32} {m : Me} (hf : fX3_leastUnshared x1 m = some res) (hI : Inv m) : Call 2 mX3_leastUnshared [.ref 96, .int x1] (S, m) (some (.int res.1)) (S, res.2) ∧ Inv res.2 := by
  refine call_of (P := InvS) (Nat.le_of_ble_eq_true rfl) (by simp [Value.category]) ?_
  show TT InvS (Call 1) mX3_leastUnshared (0, [(0, .ref 96), (1, .int x1)], [], S, m) _ _
  unfold fX3_leastUnshared at hf
  refine to_iconst (q := 1) ic_0 dX3_leastUnshared_0 rfl ?_
  refine to_istore_n (q := 2) [(2, .int (0 : Int32)), (0, .ref 96), (1, .int x1)] rfl (by decide) dX3_leastUnshared_1 rfl ?_
  refine to_iconst (q := 3) ic_0 dX3_leastUnshared_2 rfl ?_
  refine to_istore_n (q := 4) [(3, .int (0 : Int32)), (2, .int (0 : Int32)), (0, .ref 96), (1, .int x1)] rfl (by decide) dX3_leastUnshared_3 rfl ?_
  exact to_ext [(0, .ref 96), (1, .int x1), (2, .int (0 : Int32)), (3, .int (0 : Int32))] (ext_cons rfl (ext_cons rfl (ext_cons rfl (ext_cons rfl ext_nil)))) (kX3_leastUnshared_4 hS FU hf hI)
def fX3_boundRests_17 (n : Nat) (x1 : Int32) (m : Me) : Option (Me) := match n with
  | 0 => none
  | n + 1 => if x1 < (0 : Int32) then some m else ck (inb (x1 + (1 : Int32)) 5) (cl2 (fX3_leastUnshared x1 m) fun r6 m7 => ck (inb x1 5) (fX3_boundRests_17 n ((x1 + (-1 : Int32))) (setI m7 101 x1.toNatClampNeg ((m.1 101 (x1 + (1 : Int32)).toNatClampNeg) + r6))))
set_option maxRecDepth 20000 in
theorem kX3_boundRests_17 {S : Sh} (hS : ShOK S) {res : Me} (n : Nat) : ∀ {x1 : Int32} {m : Me}, fX3_boundRests_17 n x1 m = some res → Inv m → TT InvS (Call 2) mX3_boundRests (17, [(0, .ref 96), (1, .int x1)], [], S, m) none (S, res) := by
  induction n with
  | zero => intro x1 m hf; cases hf
  | succ n ih =>
    intro x1 m hf  hI
    unfold fX3_boundRests_17 at hf
    refine to_iload_n (q := 18) rfl dX3_boundRests_17 rfl ?_
    by_cases h2 : x1 < (0 : Int32)
    · have hf := ite_pos h2 hf
      refine to_ifT (q := 47) (op := .lt) h2 dX3_boundRests_18 rfl ?_
      cases hf
      exact to_vret dX3_boundRests_47 rfl rfl rfl hI
    · have hf := ite_neg h2 hf
      refine to_ifF (q := 21) (op := .lt) 47 h2 dX3_boundRests_18 rfl rfl ?_
      refine to_aload_n (q := 22) rfl (by decide) dX3_boundRests_21 rfl ?_
      refine to_getR (q := 25) (b := 101) (k0 := 3) (C := RX3) (T := TX3) (N := 7) (j := 5) rfl fx_X3_30 (h_96 hS) rfl (iv_96_5 hI) dX3_boundRests_22 rfl ?_
      refine to_iload_n (q := 26) rfl dX3_boundRests_25 rfl ?_
      refine to_aload_n (q := 27) rfl (by decide) dX3_boundRests_26 rfl ?_
      refine to_getR (q := 30) (b := 101) (k0 := 3) (C := RX3) (T := TX3) (N := 7) (j := 5) rfl fx_X3_30 (h_96 hS) rfl (iv_96_5 hI) dX3_boundRests_27 rfl ?_
      refine to_iload_n (q := 31) rfl dX3_boundRests_30 rfl ?_
      refine to_iconst (q := 32) ic_1 dX3_boundRests_31 rfl ?_
      refine to_iadd (q := 33) dX3_boundRests_32 rfl ?_
      obtain ⟨hb3, hf⟩ := ck_some hf
      refine to_iaj (q := 34) (h_101 hS) hb3 (rfl) dX3_boundRests_33 rfl ?_
      refine to_aload_n (q := 35) rfl (by decide) dX3_boundRests_34 rfl ?_
      refine to_iload_n (q := 36) rfl dX3_boundRests_35 rfl ?_
      obtain ⟨r6, m7, hc4, hf⟩ := cl2_some hf
      have qc5 := kX3_leastUnshared hS hc4 hI
      refine to_virtI (q := 39) mX3_leastUnshared [.int x1] dX3_boundRests_36 rfl rfl (Nat.le_of_ble_eq_true rfl) mo_X3_leastUnshared mv_X3_74 (Or.inl ⟨_, _, _, h_96 hS, rfl, rfl⟩) (Call_mono (by decide) qc5.1) ?_
      have hI := qc5.2
      refine to_iadd (q := 40) dX3_boundRests_39 rfl ?_
      obtain ⟨hb8, hf⟩ := ck_some hf
      refine to_iasj (q := 41) (h_101 hS) hb8 (rfl) dX3_boundRests_40 rfl ?_
      refine to_iinc (q := 44) (v := (x1 + (-1 : Int32))) rfl (congrArg (fun z => x1 + z) ic_m1) [(1, .int (x1 + (-1 : Int32))), (0, .ref 96)] rfl (by decide) dX3_boundRests_41 rfl ?_
      refine to_goto (q := 17) dX3_boundRests_44 rfl ?_
      exact to_ext [(0, .ref 96), (1, .int (x1 + (-1 : Int32)))] (ext_cons rfl (ext_cons rfl ext_nil)) (ih hf hI)
def fX3_boundRests (m : Me) : Option (Me) := ck (inb (m.1 96 2) 5) (fX3_boundRests_17 FU ((((setI m 101 (m.1 96 2).toNatClampNeg (0 : Int32)).1 96 2) - (1 : Int32))) (setI m 101 (m.1 96 2).toNatClampNeg (0 : Int32)))
set_option maxRecDepth 20000 in
theorem kX3_boundRests {S : Sh} (hS : ShOK S) {res : Me} {m : Me} (hf : fX3_boundRests m = some res) (hI : Inv m) : Call 3 mX3_boundRests [.ref 96] (S, m) none (S, res) ∧ Inv res := by
  refine call_of (P := InvS) (Nat.le_of_ble_eq_true rfl) (by simp [Value.category]) ?_
  show TT InvS (Call 2) mX3_boundRests (0, [(0, .ref 96)], [], S, m) _ _
  unfold fX3_boundRests at hf
  refine to_aload_n (q := 1) rfl (by decide) dX3_boundRests_0 rfl ?_
  refine to_getR (q := 4) (b := 101) (k0 := 3) (C := RX3) (T := TX3) (N := 7) (j := 5) rfl fx_X3_30 (h_96 hS) rfl (iv_96_5 hI) dX3_boundRests_1 rfl ?_
  refine to_aload_n (q := 5) rfl (by decide) dX3_boundRests_4 rfl ?_
  refine to_getI (q := 8) (k0 := 3) (C := RX3) (T := TX3) (N := 7) (j := 2) rfl fx_X3_50 (h_96 hS) rfl dX3_boundRests_5 rfl ?_
  refine to_iconst (q := 9) ic_0 dX3_boundRests_8 rfl ?_
  obtain ⟨hb1, hf⟩ := ck_some hf
  refine to_iasj (q := 10) (h_101 hS) hb1 (rfl) dX3_boundRests_9 rfl ?_
  refine to_aload_n (q := 11) rfl (by decide) dX3_boundRests_10 rfl ?_
  refine to_getI (q := 14) (k0 := 3) (C := RX3) (T := TX3) (N := 7) (j := 2) rfl fx_X3_50 (h_96 hS) rfl dX3_boundRests_11 rfl ?_
  refine to_iconst (q := 15) ic_1 dX3_boundRests_14 rfl ?_
  refine to_isub (q := 16) dX3_boundRests_15 rfl ?_
  refine to_istore_n (q := 17) [(1, .int (((setI m 101 (m.1 96 2).toNatClampNeg (0 : Int32)).1 96 2) - (1 : Int32))), (0, .ref 96)] rfl (by decide) dX3_boundRests_16 rfl ?_
  exact to_ext [(0, .ref 96), (1, .int (((setI m 101 (m.1 96 2).toNatClampNeg (0 : Int32)).1 96 2) - (1 : Int32)))] (ext_cons rfl (ext_cons rfl ext_nil)) (kX3_boundRests_17 hS FU hf hI)
def fX3_claim_129 (k21 : Int32 → Int32 → Nat → Nat → Int32 → Int32 → Me → Option (Int32 × Me)) (x1 : Int32) (x2 : Int32) (a3 : Nat) (a4 : Nat) (x5 : Int32) (x6 : Int32) (m : Me) : Option (Int32 × Me) := k21 x1 x2 a3 a4 x5 ((x6 + (1 : Int32))) m
set_option maxRecDepth 20000 in
theorem kX3_claim_129 {S : Sh} (hS : ShOK S) {res : Int32 × Me} {k21 : Int32 → Int32 → Nat → Nat → Int32 → Int32 → Me → Option (Int32 × Me)} (hk21 : ∀ {x1 : Int32} {x2 : Int32} {a3 : Nat} {a4 : Nat} {x5 : Int32} {x6 : Int32} {m : Me}, k21 x1 x2 a3 a4 x5 x6 m = some res → kd a3 = 7 → kd a4 = 8 → Inv m → TT InvS (Call 0) mX3_claim (21, [(0, .ref 96), (1, .int x1), (2, .int x2), (3, .ref a3), (4, .ref a4), (5, .int x5), (6, .int x6)], [], S, m) (some (.int res.1)) (S, res.2)) {x1 : Int32} {x2 : Int32} {a3 : Nat} {a4 : Nat} {x5 : Int32} {x6 : Int32} {m : Me} (hf : fX3_claim_129 k21 x1 x2 a3 a4 x5 x6 m = some res) (ha3 : kd a3 = 7) (ha4 : kd a4 = 8) (hI : Inv m) : TT InvS (Call 0) mX3_claim (129, [(0, .ref 96), (1, .int x1), (2, .int x2), (3, .ref a3), (4, .ref a4), (5, .int x5), (6, .int x6)], [], S, m) (some (.int res.1)) (S, res.2) := by
  unfold fX3_claim_129 at hf
  refine to_iinc (q := 132) (v := (x6 + (1 : Int32))) rfl (congrArg (fun z => x6 + z) ic_1) [(6, .int (x6 + (1 : Int32))), (0, .ref 96), (1, .int x1), (2, .int x2), (3, .ref a3), (4, .ref a4), (5, .int x5)] rfl (by decide) dX3_claim_129 rfl ?_
  refine to_goto (q := 21) dX3_claim_132 rfl ?_
  exact to_ext [(0, .ref 96), (1, .int x1), (2, .int x2), (3, .ref a3), (4, .ref a4), (5, .int x5), (6, .int (x6 + (1 : Int32)))] (ext_cons rfl (ext_cons rfl (ext_cons rfl (ext_cons rfl (ext_cons rfl (ext_cons rfl (ext_cons rfl ext_nil))))))) (hk21 hf (ha3) (ha4) hI)
def fX3_claim_103 (k21 : Int32 → Int32 → Nat → Nat → Int32 → Int32 → Me → Option (Int32 × Me)) (x1 : Int32) (x2 : Int32) (a3 : Nat) (a4 : Nat) (x6 : Int32) (t0 : Int32) (t1 : Int32) (m : Me) : Option (Int32 × Me) := fX3_claim_129 k21 x1 x2 a3 a4 ((t1 + t0)) x6 m
set_option maxRecDepth 20000 in
theorem kX3_claim_103 {S : Sh} (hS : ShOK S) {res : Int32 × Me} {k21 : Int32 → Int32 → Nat → Nat → Int32 → Int32 → Me → Option (Int32 × Me)} (hk21 : ∀ {x1 : Int32} {x2 : Int32} {a3 : Nat} {a4 : Nat} {x5 : Int32} {x6 : Int32} {m : Me}, k21 x1 x2 a3 a4 x5 x6 m = some res → kd a3 = 7 → kd a4 = 8 → Inv m → TT InvS (Call 0) mX3_claim (21, [(0, .ref 96), (1, .int x1), (2, .int x2), (3, .ref a3), (4, .ref a4), (5, .int x5), (6, .int x6)], [], S, m) (some (.int res.1)) (S, res.2)) {x1 : Int32} {x2 : Int32} {a3 : Nat} {a4 : Nat} {x6 : Int32} {t0 : Int32} {t1 : Int32} {m : Me} (hf : fX3_claim_103 k21 x1 x2 a3 a4 x6 t0 t1 m = some res) (ha3 : kd a3 = 7) (ha4 : kd a4 = 8) (hI : Inv m) : TT InvS (Call 0) mX3_claim (103, [(0, .ref 96), (1, .int x1), (2, .int x2), (3, .ref a3), (4, .ref a4), (6, .int x6)], [.int t0, .int t1], S, m) (some (.int res.1)) (S, res.2) := by
  unfold fX3_claim_103 at hf
  refine to_iadd (q := 104) dX3_claim_103 rfl ?_
  refine to_istore (q := 106) [(5, .int (t1 + t0)), (0, .ref 96), (1, .int x1), (2, .int x2), (3, .ref a3), (4, .ref a4), (6, .int x6)] rfl (by decide) dX3_claim_104 rfl ?_
  refine to_goto (q := 129) dX3_claim_106 rfl ?_
  exact to_ext [(0, .ref 96), (1, .int x1), (2, .int x2), (3, .ref a3), (4, .ref a4), (5, .int (t1 + t0)), (6, .int x6)] (ext_cons rfl (ext_cons rfl (ext_cons rfl (ext_cons rfl (ext_cons rfl (ext_cons rfl (ext_cons rfl ext_nil))))))) (kX3_claim_129 hS hk21 hf (ha3) (ha4) hI)
def fX3_claim_21 (n : Nat) (x1 : Int32) (x2 : Int32) (a3 : Nat) (a4 : Nat) (x5 : Int32) (x6 : Int32) (m : Me) : Option (Int32 × Me) := match n with
  | 0 => none
  | n + 1 => if (m.1 a4 1) ≤ x6 then some (x5, m) else ck (inb (x2 + x6) 30) (ck (inb (m.1 (a3 + 1) (x2 + x6).toNatClampNeg) 30) (if (m.1 99 (m.1 (a3 + 1) (x2 + x6).toNatClampNeg).toNatClampNeg) = (-1 : Int32) then ck (inb x6 8) (ck (inb (m.1 (a3 + 1) (x2 + x6).toNatClampNeg) 30) (ck (inb (m.1 (a3 + 1) (x2 + x6).toNatClampNeg) 30) (ck (inb (x2 + x6) 30) (ck (inb x6 8) (if ((setI (setI m 99 (m.1 (a3 + 1) (x2 + x6).toNatClampNeg).toNatClampNeg (m.1 (a4 + 1) x6.toNatClampNeg)) 100 (m.1 (a3 + 1) (x2 + x6).toNatClampNeg).toNatClampNeg x1).1 (a3 + 2) (x2 + x6).toNatClampNeg) = ((setI (setI m 99 (m.1 (a3 + 1) (x2 + x6).toNatClampNeg).toNatClampNeg (m.1 (a4 + 1) x6.toNatClampNeg)) 100 (m.1 (a3 + 1) (x2 + x6).toNatClampNeg).toNatClampNeg x1).1 (a4 + 1) x6.toNatClampNeg) then fX3_claim_103 (fX3_claim_21 n) x1 x2 a3 a4 x6 ((0 : Int32)) x5 (setI (setI m 99 (m.1 (a3 + 1) (x2 + x6).toNatClampNeg).toNatClampNeg (m.1 (a4 + 1) x6.toNatClampNeg)) 100 (m.1 (a3 + 1) (x2 + x6).toNatClampNeg).toNatClampNeg x1) else fX3_claim_103 (fX3_claim_21 n) x1 x2 a3 a4 x6 ((1 : Int32)) x5 (setI (setI m 99 (m.1 (a3 + 1) (x2 + x6).toNatClampNeg).toNatClampNeg (m.1 (a4 + 1) x6.toNatClampNeg)) 100 (m.1 (a3 + 1) (x2 + x6).toNatClampNeg).toNatClampNeg x1)))))) else ck (inb (m.1 (a3 + 1) (x2 + x6).toNatClampNeg) 30) (ck (inb x6 8) (if (m.1 99 (m.1 (a3 + 1) (x2 + x6).toNatClampNeg).toNatClampNeg) = (m.1 (a4 + 1) x6.toNatClampNeg) then fX3_claim_129 (fX3_claim_21 n) x1 x2 a3 a4 x5 x6 m else some ((-1 : Int32), m)))))
set_option maxRecDepth 20000 in
theorem kX3_claim_21 {S : Sh} (hS : ShOK S) {res : Int32 × Me} (n : Nat) : ∀ {x1 : Int32} {x2 : Int32} {a3 : Nat} {a4 : Nat} {x5 : Int32} {x6 : Int32} {m : Me}, fX3_claim_21 n x1 x2 a3 a4 x5 x6 m = some res → kd a3 = 7 → kd a4 = 8 → Inv m → TT InvS (Call 0) mX3_claim (21, [(0, .ref 96), (1, .int x1), (2, .int x2), (3, .ref a3), (4, .ref a4), (5, .int x5), (6, .int x6)], [], S, m) (some (.int res.1)) (S, res.2) := by
  induction n with
  | zero => intro x1 x2 a3 a4 x5 x6 m hf; cases hf
  | succ n ih =>
    intro x1 x2 a3 a4 x5 x6 m hf ha3 ha4 hI
    unfold fX3_claim_21 at hf
    refine to_iload (q := 23) rfl dX3_claim_21 rfl ?_
    refine to_aload (q := 25) rfl (kd_4 (ha4) (by decide)) dX3_claim_23 rfl ?_
    refine to_getI (q := 28) (k0 := 8) (C := RX8) (T := TX8) (N := 5) (j := 1) rfl fx_X3_82 (sh_kd hS ha4 (by decide)) rfl dX3_claim_25 rfl ?_
    by_cases h4 : (m.1 a4 1) ≤ x6
    · have hf := ite_pos h4 hf
      refine to_icT (q := 135) (op := .ge) h4 dX3_claim_28 rfl ?_
      refine to_iload (q := 137) rfl dX3_claim_135 rfl ?_
      cases hf
      exact to_iret dX3_claim_137 rfl rfl rfl rfl hI
    · have hf := ite_neg h4 hf
      refine to_icF (q := 31) (op := .ge) 135 h4 dX3_claim_28 rfl rfl ?_
      refine to_aload_n (q := 32) rfl (kd_4 (ha3) (by decide)) dX3_claim_31 rfl ?_
      refine to_getR (q := 35) (b := a3 + 1) (k0 := 7) (C := RX7) (T := TX7) (N := 3) (j := 0) rfl fx_X3_110 (sh_kd hS ha3 (by decide)) rfl (iv7a hI (ha3)) dX3_claim_32 rfl ?_
      refine to_iload_n (q := 36) rfl dX3_claim_35 rfl ?_
      refine to_iload (q := 38) rfl dX3_claim_36 rfl ?_
      refine to_iadd (q := 39) dX3_claim_38 rfl ?_
      obtain ⟨hb5, hf⟩ := ck_some hf
      refine to_iaj (q := 40) (sh_ln hS (kd7a (ha3)) (by decide)) hb5 (rfl) dX3_claim_39 rfl ?_
      refine to_istore (q := 42) [(7, .int (m.1 (a3 + 1) (x2 + x6).toNatClampNeg)), (0, .ref 96), (1, .int x1), (2, .int x2), (3, .ref a3), (4, .ref a4), (5, .int x5), (6, .int x6)] rfl (by decide) dX3_claim_40 rfl ?_
      refine to_aload_n (q := 43) rfl (by decide) dX3_claim_42 rfl ?_
      refine to_getR (q := 46) (b := 99) (k0 := 3) (C := RX3) (T := TX3) (N := 7) (j := 3) rfl fx_X3_23 (h_96 hS) rfl (iv_96_3 hI) dX3_claim_43 rfl ?_
      refine to_iload (q := 48) rfl dX3_claim_46 rfl ?_
      obtain ⟨hb6, hf⟩ := ck_some hf
      refine to_iaj (q := 49) (h_99 hS) hb6 (rfl) dX3_claim_48 rfl ?_
      refine to_iconst (q := 50) ic_m1 dX3_claim_49 rfl ?_
      by_cases h7 : (m.1 99 (m.1 (a3 + 1) (x2 + x6).toNatClampNeg).toNatClampNeg) = (-1 : Int32)
      · have hf := ite_pos h7 hf
        refine to_icF (q := 53) (op := .ne) 109 (fun z => z h7) dX3_claim_50 rfl rfl ?_
        refine to_aload_n (q := 54) rfl (by decide) dX3_claim_53 rfl ?_
        refine to_getR (q := 57) (b := 99) (k0 := 3) (C := RX3) (T := TX3) (N := 7) (j := 3) rfl fx_X3_23 (h_96 hS) rfl (iv_96_3 hI) dX3_claim_54 rfl ?_
        refine to_iload (q := 59) rfl dX3_claim_57 rfl ?_
        refine to_aload (q := 61) rfl (kd_4 (ha4) (by decide)) dX3_claim_59 rfl ?_
        refine to_getR (q := 64) (b := a4 + 1) (k0 := 8) (C := RX8) (T := TX8) (N := 5) (j := 0) rfl fx_X3_96 (sh_kd hS ha4 (by decide)) rfl (iv8 hI (ha4)) dX3_claim_61 rfl ?_
        refine to_iload (q := 66) rfl dX3_claim_64 rfl ?_
        obtain ⟨hb11, hf⟩ := ck_some hf
        refine to_iaj (q := 67) (sh_ln hS (kd8 (ha4)) (by decide)) hb11 (rfl) dX3_claim_66 rfl ?_
        obtain ⟨hb12, hf⟩ := ck_some hf
        refine to_iasj (q := 68) (h_99 hS) hb12 (rfl) dX3_claim_67 rfl ?_
        refine to_aload_n (q := 69) rfl (by decide) dX3_claim_68 rfl ?_
        refine to_getR (q := 72) (b := 100) (k0 := 3) (C := RX3) (T := TX3) (N := 7) (j := 4) rfl fx_X3_27 (h_96 hS) rfl (iv_96_4 hI) dX3_claim_69 rfl ?_
        refine to_iload (q := 74) rfl dX3_claim_72 rfl ?_
        refine to_iload_n (q := 75) rfl dX3_claim_74 rfl ?_
        obtain ⟨hb13, hf⟩ := ck_some hf
        refine to_iasj (q := 76) (h_100 hS) hb13 (rfl) dX3_claim_75 rfl ?_
        refine to_iload (q := 78) rfl dX3_claim_76 rfl ?_
        refine to_aload_n (q := 79) rfl (kd_4 (ha3) (by decide)) dX3_claim_78 rfl ?_
        refine to_getR (q := 82) (b := a3 + 2) (k0 := 7) (C := RX7) (T := TX7) (N := 3) (j := 1) rfl fx_X3_99 (sh_kd hS ha3 (by decide)) rfl (iv7b hI (ha3)) dX3_claim_79 rfl ?_
        refine to_iload_n (q := 83) rfl dX3_claim_82 rfl ?_
        refine to_iload (q := 85) rfl dX3_claim_83 rfl ?_
        refine to_iadd (q := 86) dX3_claim_85 rfl ?_
        obtain ⟨hb14, hf⟩ := ck_some hf
        refine to_iaj (q := 87) (sh_ln hS (kd7b (ha3)) (by decide)) hb14 (rfl) dX3_claim_86 rfl ?_
        refine to_aload (q := 89) rfl (kd_4 (ha4) (by decide)) dX3_claim_87 rfl ?_
        refine to_getR (q := 92) (b := a4 + 1) (k0 := 8) (C := RX8) (T := TX8) (N := 5) (j := 0) rfl fx_X3_96 (sh_kd hS ha4 (by decide)) rfl (iv8 hI (ha4)) dX3_claim_89 rfl ?_
        refine to_iload (q := 94) rfl dX3_claim_92 rfl ?_
        obtain ⟨hb15, hf⟩ := ck_some hf
        refine to_iaj (q := 95) (sh_ln hS (kd8 (ha4)) (by decide)) hb15 (rfl) dX3_claim_94 rfl ?_
        by_cases h16 : ((setI (setI m 99 (m.1 (a3 + 1) (x2 + x6).toNatClampNeg).toNatClampNeg (m.1 (a4 + 1) x6.toNatClampNeg)) 100 (m.1 (a3 + 1) (x2 + x6).toNatClampNeg).toNatClampNeg x1).1 (a3 + 2) (x2 + x6).toNatClampNeg) = ((setI (setI m 99 (m.1 (a3 + 1) (x2 + x6).toNatClampNeg).toNatClampNeg (m.1 (a4 + 1) x6.toNatClampNeg)) 100 (m.1 (a3 + 1) (x2 + x6).toNatClampNeg).toNatClampNeg x1).1 (a4 + 1) x6.toNatClampNeg)
        · have hf := ite_pos h16 hf
          refine to_icF (q := 98) (op := .ne) 102 (fun z => z h16) dX3_claim_95 rfl rfl ?_
          refine to_iconst (q := 99) ic_0 dX3_claim_98 rfl ?_
          refine to_goto (q := 103) dX3_claim_99 rfl ?_
          exact to_ext [(0, .ref 96), (1, .int x1), (2, .int x2), (3, .ref a3), (4, .ref a4), (6, .int x6)] (ext_cons rfl (ext_cons rfl (ext_cons rfl (ext_cons rfl (ext_cons rfl (ext_cons rfl ext_nil)))))) (kX3_claim_103 hS ih hf (ha3) (ha4) hI)
        · have hf := ite_neg h16 hf
          refine to_icT (q := 102) (op := .ne) h16 dX3_claim_95 rfl ?_
          refine to_iconst (q := 103) ic_1 dX3_claim_102 rfl ?_
          exact to_ext [(0, .ref 96), (1, .int x1), (2, .int x2), (3, .ref a3), (4, .ref a4), (6, .int x6)] (ext_cons rfl (ext_cons rfl (ext_cons rfl (ext_cons rfl (ext_cons rfl (ext_cons rfl ext_nil)))))) (kX3_claim_103 hS ih hf (ha3) (ha4) hI)
      · have hf := ite_neg h7 hf
        refine to_icT (q := 109) (op := .ne) h7 dX3_claim_50 rfl ?_
        refine to_aload_n (q := 110) rfl (by decide) dX3_claim_109 rfl ?_
        refine to_getR (q := 113) (b := 99) (k0 := 3) (C := RX3) (T := TX3) (N := 7) (j := 3) rfl fx_X3_23 (h_96 hS) rfl (iv_96_3 hI) dX3_claim_110 rfl ?_
        refine to_iload (q := 115) rfl dX3_claim_113 rfl ?_
        obtain ⟨hb8, hf⟩ := ck_some hf
        refine to_iaj (q := 116) (h_99 hS) hb8 (rfl) dX3_claim_115 rfl ?_
        refine to_aload (q := 118) rfl (kd_4 (ha4) (by decide)) dX3_claim_116 rfl ?_
        refine to_getR (q := 121) (b := a4 + 1) (k0 := 8) (C := RX8) (T := TX8) (N := 5) (j := 0) rfl fx_X3_96 (sh_kd hS ha4 (by decide)) rfl (iv8 hI (ha4)) dX3_claim_118 rfl ?_
        refine to_iload (q := 123) rfl dX3_claim_121 rfl ?_
        obtain ⟨hb9, hf⟩ := ck_some hf
        refine to_iaj (q := 124) (sh_ln hS (kd8 (ha4)) (by decide)) hb9 (rfl) dX3_claim_123 rfl ?_
        by_cases h10 : (m.1 99 (m.1 (a3 + 1) (x2 + x6).toNatClampNeg).toNatClampNeg) = (m.1 (a4 + 1) x6.toNatClampNeg)
        · have hf := ite_pos h10 hf
          refine to_icT (q := 129) (op := .eq) h10 dX3_claim_124 rfl ?_
          exact to_ext [(0, .ref 96), (1, .int x1), (2, .int x2), (3, .ref a3), (4, .ref a4), (5, .int x5), (6, .int x6)] (ext_cons rfl (ext_cons rfl (ext_cons rfl (ext_cons rfl (ext_cons rfl (ext_cons rfl (ext_cons rfl ext_nil))))))) (kX3_claim_129 hS ih hf (ha3) (ha4) hI)
        · have hf := ite_neg h10 hf
          refine to_icF (q := 127) (op := .eq) 129 h10 dX3_claim_124 rfl rfl ?_
          refine to_iconst (q := 128) ic_m1 dX3_claim_127 rfl ?_
          cases hf
          exact to_iret dX3_claim_128 rfl rfl rfl rfl hI
def fX3_claim (x1 : Int32) (x2 : Int32) (m : Me) : Option (Int32 × Me) := ck (inb x1 4) (ck (inb x1 4) (fX3_claim_21 FU x1 x2 (102 + 5 * x1.toNatClampNeg) (rr m 98 x1.toNatClampNeg) ((0 : Int32)) ((0 : Int32)) m))
set_option maxRecDepth 20000 in
theorem kX3_claim {S : Sh} (hS : ShOK S) {res : Int32 × Me} {x1 : Int32} {x2 : Int32} {m : Me} (hf : fX3_claim x1 x2 m = some res) (hI : Inv m) : Call 1 mX3_claim [.ref 96, .int x1, .int x2] (S, m) (some (.int res.1)) (S, res.2) ∧ Inv res.2 := by
  refine call_of (P := InvS) (Nat.le_of_ble_eq_true rfl) (by simp [Value.category]) ?_
  show TT InvS (Call 0) mX3_claim (0, [(0, .ref 96), (1, .int x1), (2, .int x2)], [], S, m) _ _
  unfold fX3_claim at hf
  refine to_aload_n (q := 1) rfl (by decide) dX3_claim_0 rfl ?_
  refine to_getR (q := 4) (b := 97) (k0 := 3) (C := RX3) (T := TX3) (N := 7) (j := 0) rfl fx_X3_11 (h_96 hS) rfl (iv_96_0 hI) dX3_claim_1 rfl ?_
  refine to_iload_n (q := 5) rfl dX3_claim_4 rfl ?_
  obtain ⟨hb1, hf⟩ := ck_some hf
  refine to_aald (q := 6) (b := 102 + 5 * x1.toNatClampNeg) (h_97 hS) (by decide) hb1 (ivR hI hb1) dX3_claim_5 rfl ?_
  refine to_astore_n (q := 7) [(3, .ref (102 + 5 * x1.toNatClampNeg)), (0, .ref 96), (1, .int x1), (2, .int x2)] rfl (kd_4 (kdR hb1) (by decide)) (by decide) dX3_claim_6 rfl ?_
  refine to_aload_n (q := 8) rfl (by decide) dX3_claim_7 rfl ?_
  refine to_getR (q := 11) (b := 98) (k0 := 3) (C := RX3) (T := TX3) (N := 7) (j := 1) rfl fx_X3_19 (h_96 hS) rfl (iv_96_1 hI) dX3_claim_8 rfl ?_
  refine to_iload_n (q := 12) rfl dX3_claim_11 rfl ?_
  obtain ⟨hb2, hf⟩ := ck_some hf
  have hk3 : kd (rr m 98 x1.toNatClampNeg) = 8 := (ivM hI hb2).2
  refine to_aald (q := 13) (b := rr m 98 x1.toNatClampNeg) (h_98 hS) (by decide) hb2 ((ivM hI hb2).1) dX3_claim_12 rfl ?_
  refine to_astore (q := 15) [(4, .ref (rr m 98 x1.toNatClampNeg)), (3, .ref (102 + 5 * x1.toNatClampNeg)), (0, .ref 96), (1, .int x1), (2, .int x2)] rfl (kd_4 (hk3) (by decide)) (by decide) dX3_claim_13 rfl ?_
  refine to_iconst (q := 16) ic_0 dX3_claim_15 rfl ?_
  refine to_istore (q := 18) [(5, .int (0 : Int32)), (4, .ref (rr m 98 x1.toNatClampNeg)), (3, .ref (102 + 5 * x1.toNatClampNeg)), (0, .ref 96), (1, .int x1), (2, .int x2)] rfl (by decide) dX3_claim_16 rfl ?_
  refine to_iconst (q := 19) ic_0 dX3_claim_18 rfl ?_
  refine to_istore (q := 21) [(6, .int (0 : Int32)), (5, .int (0 : Int32)), (4, .ref (rr m 98 x1.toNatClampNeg)), (3, .ref (102 + 5 * x1.toNatClampNeg)), (0, .ref 96), (1, .int x1), (2, .int x2)] rfl (by decide) dX3_claim_19 rfl ?_
  exact to_ext [(0, .ref 96), (1, .int x1), (2, .int x2), (3, .ref (102 + 5 * x1.toNatClampNeg)), (4, .ref (rr m 98 x1.toNatClampNeg)), (5, .int (0 : Int32)), (6, .int (0 : Int32))] (ext_cons rfl (ext_cons rfl (ext_cons rfl (ext_cons rfl (ext_cons rfl (ext_cons rfl (ext_cons rfl ext_nil))))))) (kX3_claim_21 hS FU hf (kdR hb1) (hk3) hI)
def fX3_release_57 (k2 : Int32 → Int32 → Int32 → Me → Option (Me)) (x1 : Int32) (x2 : Int32) (x3 : Int32) (m : Me) : Option (Me) := k2 x1 x2 ((x3 + (1 : Int32))) m
set_option maxRecDepth 20000 in
theorem kX3_release_57 {S : Sh} (hS : ShOK S) {res : Me} {k2 : Int32 → Int32 → Int32 → Me → Option (Me)} (hk2 : ∀ {x1 : Int32} {x2 : Int32} {x3 : Int32} {m : Me}, k2 x1 x2 x3 m = some res → Inv m → TT InvS (Call 0) mX3_release (2, [(0, .ref 96), (1, .int x1), (2, .int x2), (3, .int x3)], [], S, m) none (S, res)) {x1 : Int32} {x2 : Int32} {x3 : Int32} {m : Me} (hf : fX3_release_57 k2 x1 x2 x3 m = some res) (hI : Inv m) : TT InvS (Call 0) mX3_release (57, [(0, .ref 96), (1, .int x1), (2, .int x2), (3, .int x3)], [], S, m) none (S, res) := by
  unfold fX3_release_57 at hf
  refine to_iinc (q := 60) (v := (x3 + (1 : Int32))) rfl (congrArg (fun z => x3 + z) ic_1) [(3, .int (x3 + (1 : Int32))), (0, .ref 96), (1, .int x1), (2, .int x2)] rfl (by decide) dX3_release_57 rfl ?_
  refine to_goto (q := 2) dX3_release_60 rfl ?_
  exact to_ext [(0, .ref 96), (1, .int x1), (2, .int x2), (3, .int (x3 + (1 : Int32)))] (ext_cons rfl (ext_cons rfl (ext_cons rfl (ext_cons rfl ext_nil)))) (hk2 hf hI)
def fX3_release_2 (n : Nat) (x1 : Int32) (x2 : Int32) (x3 : Int32) (m : Me) : Option (Me) := match n with
  | 0 => none
  | n + 1 => ck (inb x1 4) (if (m.1 (rr m 98 x1.toNatClampNeg) 1) ≤ x3 then some m else ck (inb x1 4) (ck (inb (x2 + x3) 30) (ck (inb (m.1 ((102 + 5 * x1.toNatClampNeg) + 1) (x2 + x3).toNatClampNeg) 30) (if (m.1 100 (m.1 ((102 + 5 * x1.toNatClampNeg) + 1) (x2 + x3).toNatClampNeg).toNatClampNeg) = x1 then ck (inb (m.1 ((102 + 5 * x1.toNatClampNeg) + 1) (x2 + x3).toNatClampNeg) 30) (ck (inb (m.1 ((102 + 5 * x1.toNatClampNeg) + 1) (x2 + x3).toNatClampNeg) 30) (fX3_release_57 (fX3_release_2 n) x1 x2 x3 (setI (setI m 99 (m.1 ((102 + 5 * x1.toNatClampNeg) + 1) (x2 + x3).toNatClampNeg).toNatClampNeg (-1 : Int32)) 100 (m.1 ((102 + 5 * x1.toNatClampNeg) + 1) (x2 + x3).toNatClampNeg).toNatClampNeg (-1 : Int32)))) else fX3_release_57 (fX3_release_2 n) x1 x2 x3 m))))
set_option maxRecDepth 20000 in
theorem kX3_release_2 {S : Sh} (hS : ShOK S) {res : Me} (n : Nat) : ∀ {x1 : Int32} {x2 : Int32} {x3 : Int32} {m : Me}, fX3_release_2 n x1 x2 x3 m = some res → Inv m → TT InvS (Call 0) mX3_release (2, [(0, .ref 96), (1, .int x1), (2, .int x2), (3, .int x3)], [], S, m) none (S, res) := by
  induction n with
  | zero => intro x1 x2 x3 m hf; cases hf
  | succ n ih =>
    intro x1 x2 x3 m hf  hI
    unfold fX3_release_2 at hf
    refine to_iload_n (q := 3) rfl dX3_release_2 rfl ?_
    refine to_aload_n (q := 4) rfl (by decide) dX3_release_3 rfl ?_
    refine to_getR (q := 7) (b := 98) (k0 := 3) (C := RX3) (T := TX3) (N := 7) (j := 1) rfl fx_X3_19 (h_96 hS) rfl (iv_96_1 hI) dX3_release_4 rfl ?_
    refine to_iload_n (q := 8) rfl dX3_release_7 rfl ?_
    obtain ⟨hb1, hf⟩ := ck_some hf
    have hk2 : kd (rr m 98 x1.toNatClampNeg) = 8 := (ivM hI hb1).2
    refine to_aald (q := 9) (b := rr m 98 x1.toNatClampNeg) (h_98 hS) (by decide) hb1 ((ivM hI hb1).1) dX3_release_8 rfl ?_
    refine to_getI (q := 12) (k0 := 8) (C := RX8) (T := TX8) (N := 5) (j := 1) rfl fx_X3_82 (sh_kd hS hk2 (by decide)) rfl dX3_release_9 rfl ?_
    by_cases h3 : (m.1 (rr m 98 x1.toNatClampNeg) 1) ≤ x3
    · have hf := ite_pos h3 hf
      refine to_icT (q := 63) (op := .ge) h3 dX3_release_12 rfl ?_
      cases hf
      exact to_vret dX3_release_63 rfl rfl rfl hI
    · have hf := ite_neg h3 hf
      refine to_icF (q := 15) (op := .ge) 63 h3 dX3_release_12 rfl rfl ?_
      refine to_aload_n (q := 16) rfl (by decide) dX3_release_15 rfl ?_
      refine to_getR (q := 19) (b := 97) (k0 := 3) (C := RX3) (T := TX3) (N := 7) (j := 0) rfl fx_X3_11 (h_96 hS) rfl (iv_96_0 hI) dX3_release_16 rfl ?_
      refine to_iload_n (q := 20) rfl dX3_release_19 rfl ?_
      obtain ⟨hb4, hf⟩ := ck_some hf
      refine to_aald (q := 21) (b := 102 + 5 * x1.toNatClampNeg) (h_97 hS) (by decide) hb4 (ivR hI hb4) dX3_release_20 rfl ?_
      refine to_getR (q := 24) (b := (102 + 5 * x1.toNatClampNeg) + 1) (k0 := 7) (C := RX7) (T := TX7) (N := 3) (j := 0) rfl fx_X3_110 (sh_kd hS (kdR hb4) (by decide)) rfl (iv7a hI (kdR hb4)) dX3_release_21 rfl ?_
      refine to_iload_n (q := 25) rfl dX3_release_24 rfl ?_
      refine to_iload_n (q := 26) rfl dX3_release_25 rfl ?_
      refine to_iadd (q := 27) dX3_release_26 rfl ?_
      obtain ⟨hb5, hf⟩ := ck_some hf
      refine to_iaj (q := 28) (sh_ln hS (kd7a (kdR hb4)) (by decide)) hb5 (rfl) dX3_release_27 rfl ?_
      refine to_istore (q := 30) [(4, .int (m.1 ((102 + 5 * x1.toNatClampNeg) + 1) (x2 + x3).toNatClampNeg)), (0, .ref 96), (1, .int x1), (2, .int x2), (3, .int x3)] rfl (by decide) dX3_release_28 rfl ?_
      refine to_aload_n (q := 31) rfl (by decide) dX3_release_30 rfl ?_
      refine to_getR (q := 34) (b := 100) (k0 := 3) (C := RX3) (T := TX3) (N := 7) (j := 4) rfl fx_X3_27 (h_96 hS) rfl (iv_96_4 hI) dX3_release_31 rfl ?_
      refine to_iload (q := 36) rfl dX3_release_34 rfl ?_
      obtain ⟨hb6, hf⟩ := ck_some hf
      refine to_iaj (q := 37) (h_100 hS) hb6 (rfl) dX3_release_36 rfl ?_
      refine to_iload_n (q := 38) rfl dX3_release_37 rfl ?_
      by_cases h7 : (m.1 100 (m.1 ((102 + 5 * x1.toNatClampNeg) + 1) (x2 + x3).toNatClampNeg).toNatClampNeg) = x1
      · have hf := ite_pos h7 hf
        refine to_icF (q := 41) (op := .ne) 57 (fun z => z h7) dX3_release_38 rfl rfl ?_
        refine to_aload_n (q := 42) rfl (by decide) dX3_release_41 rfl ?_
        refine to_getR (q := 45) (b := 99) (k0 := 3) (C := RX3) (T := TX3) (N := 7) (j := 3) rfl fx_X3_23 (h_96 hS) rfl (iv_96_3 hI) dX3_release_42 rfl ?_
        refine to_iload (q := 47) rfl dX3_release_45 rfl ?_
        refine to_iconst (q := 48) ic_m1 dX3_release_47 rfl ?_
        obtain ⟨hb8, hf⟩ := ck_some hf
        refine to_iasj (q := 49) (h_99 hS) hb8 (rfl) dX3_release_48 rfl ?_
        refine to_aload_n (q := 50) rfl (by decide) dX3_release_49 rfl ?_
        refine to_getR (q := 53) (b := 100) (k0 := 3) (C := RX3) (T := TX3) (N := 7) (j := 4) rfl fx_X3_27 (h_96 hS) rfl (iv_96_4 hI) dX3_release_50 rfl ?_
        refine to_iload (q := 55) rfl dX3_release_53 rfl ?_
        refine to_iconst (q := 56) ic_m1 dX3_release_55 rfl ?_
        obtain ⟨hb9, hf⟩ := ck_some hf
        refine to_iasj (q := 57) (h_100 hS) hb9 (rfl) dX3_release_56 rfl ?_
        exact to_ext [(0, .ref 96), (1, .int x1), (2, .int x2), (3, .int x3)] (ext_cons rfl (ext_cons rfl (ext_cons rfl (ext_cons rfl ext_nil)))) (kX3_release_57 hS ih hf hI)
      · have hf := ite_neg h7 hf
        refine to_icT (q := 57) (op := .ne) h7 dX3_release_38 rfl ?_
        exact to_ext [(0, .ref 96), (1, .int x1), (2, .int x2), (3, .int x3)] (ext_cons rfl (ext_cons rfl (ext_cons rfl (ext_cons rfl ext_nil)))) (kX3_release_57 hS ih hf hI)
def fX3_release (x1 : Int32) (x2 : Int32) (m : Me) : Option (Me) := fX3_release_2 FU x1 x2 ((0 : Int32)) m
set_option maxRecDepth 20000 in
theorem kX3_release {S : Sh} (hS : ShOK S) {res : Me} {x1 : Int32} {x2 : Int32} {m : Me} (hf : fX3_release x1 x2 m = some res) (hI : Inv m) : Call 1 mX3_release [.ref 96, .int x1, .int x2] (S, m) none (S, res) ∧ Inv res := by
  refine call_of (P := InvS) (Nat.le_of_ble_eq_true rfl) (by simp [Value.category]) ?_
  show TT InvS (Call 0) mX3_release (0, [(0, .ref 96), (1, .int x1), (2, .int x2)], [], S, m) _ _
  unfold fX3_release at hf
  refine to_iconst (q := 1) ic_0 dX3_release_0 rfl ?_
  refine to_istore_n (q := 2) [(3, .int (0 : Int32)), (0, .ref 96), (1, .int x1), (2, .int x2)] rfl (by decide) dX3_release_1 rfl ?_
  exact to_ext [(0, .ref 96), (1, .int x1), (2, .int x2), (3, .int (0 : Int32))] (ext_cons rfl (ext_cons rfl (ext_cons rfl (ext_cons rfl ext_nil)))) (kX3_release_2 hS FU hf hI)
def fX3_tryPlaces_114 (rec : Int32 → Int32 → Me → Option (Me)) (k62 : Int32 → Int32 → Int32 → Int32 → Me → Option (Me)) (x1 : Int32) (x2 : Int32) (x3 : Int32) (x4 : Int32) (m : Me) : Option (Me) := cl1 (fX3_release x1 x4 m) fun m26 => k62 x1 x2 x3 ((x4 + (1 : Int32))) m26
set_option maxRecDepth 20000 in
theorem kX3_tryPlaces_114 {S : Sh} (hS : ShOK S) {dd : Nat} (hdd : 1 ≤ dd) {rec : Int32 → Int32 → Me → Option (Me)} (hrec : ∀ {x1 : Int32} {x2 : Int32} {m : Me} {res : Me}, rec x1 x2 m = some res → Inv m → Call dd mX3_tryPlaces [.ref 96, .int x1, .int x2] (S, m) none (S, res) ∧ Inv res) {res : Me} {k62 : Int32 → Int32 → Int32 → Int32 → Me → Option (Me)} (hk62 : ∀ {x1 : Int32} {x2 : Int32} {x3 : Int32} {x4 : Int32} {m : Me}, k62 x1 x2 x3 x4 m = some res → Inv m → TT InvS (Call dd) mX3_tryPlaces (62, [(0, .ref 96), (1, .int x1), (2, .int x2), (3, .int x3), (4, .int x4)], [], S, m) none (S, res)) {x1 : Int32} {x2 : Int32} {x3 : Int32} {x4 : Int32} {m : Me} (hf : fX3_tryPlaces_114 rec k62 x1 x2 x3 x4 m = some res) (hI : Inv m) : TT InvS (Call dd) mX3_tryPlaces (114, [(0, .ref 96), (1, .int x1), (2, .int x2), (3, .int x3), (4, .int x4)], [], S, m) none (S, res) := by
  unfold fX3_tryPlaces_114 at hf
  refine to_aload_n (q := 115) rfl (by decide) dX3_tryPlaces_114 rfl ?_
  refine to_iload_n (q := 116) rfl dX3_tryPlaces_115 rfl ?_
  refine to_iload (q := 118) rfl dX3_tryPlaces_116 rfl ?_
  obtain ⟨m26, hc24, hf⟩ := cl1_some hf
  have qc25 := kX3_release hS hc24 hI
  refine to_virtV (q := 121) mX3_release [.int x1, .int x4] dX3_tryPlaces_118 rfl rfl (Nat.le_of_ble_eq_true rfl) mo_X3_release mv_X3_107 (Or.inl ⟨_, _, _, h_96 hS, rfl, rfl⟩) (Call_mono (Nat.le_trans (by decide : 1 ≤ 1) hdd) qc25.1) ?_
  have hI := qc25.2
  refine to_iinc (q := 124) (v := (x4 + (1 : Int32))) rfl (congrArg (fun z => x4 + z) ic_1) [(4, .int (x4 + (1 : Int32))), (0, .ref 96), (1, .int x1), (2, .int x2), (3, .int x3)] rfl (by decide) dX3_tryPlaces_121 rfl ?_
  refine to_goto (q := 62) dX3_tryPlaces_124 rfl ?_
  exact to_ext [(0, .ref 96), (1, .int x1), (2, .int x2), (3, .int x3), (4, .int (x4 + (1 : Int32)))] (ext_cons rfl (ext_cons rfl (ext_cons rfl (ext_cons rfl (ext_cons rfl ext_nil))))) (hk62 hf hI)
def fX3_tryPlaces_62 (rec : Int32 → Int32 → Me → Option (Me)) (n : Nat) (x1 : Int32) (x2 : Int32) (x3 : Int32) (x4 : Int32) (m : Me) : Option (Me) := match n with
  | 0 => none
  | n + 1 => if x3 < x4 then some m else cl2 (fX3_claim x1 x4 m) fun r16 m17 => if r16 = (-1 : Int32) then fX3_tryPlaces_114 rec (fX3_tryPlaces_62 rec n) x1 x2 x3 x4 m17 else ck (inb (x1 + (1 : Int32)) 5) (if (m17.1 96 6) ≤ ((x2 + r16) + (m17.1 101 (x1 + (1 : Int32)).toNatClampNeg)) then fX3_tryPlaces_114 rec (fX3_tryPlaces_62 rec n) x1 x2 x3 x4 m17 else cl1 (rec ((x1 + (1 : Int32))) (x2 + r16) m17) fun m23 => fX3_tryPlaces_114 rec (fX3_tryPlaces_62 rec n) x1 x2 x3 x4 m23)
set_option maxRecDepth 20000 in
theorem kX3_tryPlaces_62 {S : Sh} (hS : ShOK S) {dd : Nat} (hdd : 1 ≤ dd) {rec : Int32 → Int32 → Me → Option (Me)} (hrec : ∀ {x1 : Int32} {x2 : Int32} {m : Me} {res : Me}, rec x1 x2 m = some res → Inv m → Call dd mX3_tryPlaces [.ref 96, .int x1, .int x2] (S, m) none (S, res) ∧ Inv res) {res : Me} (n : Nat) : ∀ {x1 : Int32} {x2 : Int32} {x3 : Int32} {x4 : Int32} {m : Me}, fX3_tryPlaces_62 rec n x1 x2 x3 x4 m = some res → Inv m → TT InvS (Call dd) mX3_tryPlaces (62, [(0, .ref 96), (1, .int x1), (2, .int x2), (3, .int x3), (4, .int x4)], [], S, m) none (S, res) := by
  induction n with
  | zero => intro x1 x2 x3 x4 m hf; cases hf
  | succ n ih =>
    intro x1 x2 x3 x4 m hf  hI
    unfold fX3_tryPlaces_62 at hf
    refine to_iload (q := 64) rfl dX3_tryPlaces_62 rfl ?_
    refine to_iload_n (q := 65) rfl dX3_tryPlaces_64 rfl ?_
    by_cases h13 : x3 < x4
    · have hf := ite_pos h13 hf
      refine to_icT (q := 127) (op := .gt) h13 dX3_tryPlaces_65 rfl ?_
      cases hf
      exact to_vret dX3_tryPlaces_127 rfl rfl rfl hI
    · have hf := ite_neg h13 hf
      refine to_icF (q := 68) (op := .gt) 127 h13 dX3_tryPlaces_65 rfl rfl ?_
      refine to_aload_n (q := 69) rfl (by decide) dX3_tryPlaces_68 rfl ?_
      refine to_iload_n (q := 70) rfl dX3_tryPlaces_69 rfl ?_
      refine to_iload (q := 72) rfl dX3_tryPlaces_70 rfl ?_
      obtain ⟨r16, m17, hc14, hf⟩ := cl2_some hf
      have qc15 := kX3_claim hS hc14 hI
      refine to_virtI (q := 75) mX3_claim [.int x1, .int x4] dX3_tryPlaces_72 rfl rfl (Nat.le_of_ble_eq_true rfl) mo_X3_claim mv_X3_104 (Or.inl ⟨_, _, _, h_96 hS, rfl, rfl⟩) (Call_mono (Nat.le_trans (by decide : 1 ≤ 1) hdd) qc15.1) ?_
      have hI := qc15.2
      refine to_istore (q := 77) [(5, .int r16), (0, .ref 96), (1, .int x1), (2, .int x2), (3, .int x3), (4, .int x4)] rfl (by decide) dX3_tryPlaces_75 rfl ?_
      refine to_iload (q := 79) rfl dX3_tryPlaces_77 rfl ?_
      refine to_iconst (q := 80) ic_m1 dX3_tryPlaces_79 rfl ?_
      by_cases h18 : r16 = (-1 : Int32)
      · have hf := ite_pos h18 hf
        refine to_icT (q := 114) (op := .eq) h18 dX3_tryPlaces_80 rfl ?_
        exact to_ext [(0, .ref 96), (1, .int x1), (2, .int x2), (3, .int x3), (4, .int x4)] (ext_cons rfl (ext_cons rfl (ext_cons rfl (ext_cons rfl (ext_cons rfl ext_nil))))) (kX3_tryPlaces_114 hS hdd hrec ih hf hI)
      · have hf := ite_neg h18 hf
        refine to_icF (q := 83) (op := .eq) 114 h18 dX3_tryPlaces_80 rfl rfl ?_
        refine to_iload_n (q := 84) rfl dX3_tryPlaces_83 rfl ?_
        refine to_iload (q := 86) rfl dX3_tryPlaces_84 rfl ?_
        refine to_iadd (q := 87) dX3_tryPlaces_86 rfl ?_
        refine to_aload_n (q := 88) rfl (by decide) dX3_tryPlaces_87 rfl ?_
        refine to_getR (q := 91) (b := 101) (k0 := 3) (C := RX3) (T := TX3) (N := 7) (j := 5) rfl fx_X3_30 (h_96 hS) rfl (iv_96_5 hI) dX3_tryPlaces_88 rfl ?_
        refine to_iload_n (q := 92) rfl dX3_tryPlaces_91 rfl ?_
        refine to_iconst (q := 93) ic_1 dX3_tryPlaces_92 rfl ?_
        refine to_iadd (q := 94) dX3_tryPlaces_93 rfl ?_
        obtain ⟨hb19, hf⟩ := ck_some hf
        refine to_iaj (q := 95) (h_101 hS) hb19 (rfl) dX3_tryPlaces_94 rfl ?_
        refine to_iadd (q := 96) dX3_tryPlaces_95 rfl ?_
        refine to_aload_n (q := 97) rfl (by decide) dX3_tryPlaces_96 rfl ?_
        refine to_getI (q := 100) (k0 := 3) (C := RX3) (T := TX3) (N := 7) (j := 6) rfl fx_X3_42 (h_96 hS) rfl dX3_tryPlaces_97 rfl ?_
        by_cases h20 : (m17.1 96 6) ≤ ((x2 + r16) + (m17.1 101 (x1 + (1 : Int32)).toNatClampNeg))
        · have hf := ite_pos h20 hf
          refine to_icT (q := 114) (op := .ge) h20 dX3_tryPlaces_100 rfl ?_
          exact to_ext [(0, .ref 96), (1, .int x1), (2, .int x2), (3, .int x3), (4, .int x4)] (ext_cons rfl (ext_cons rfl (ext_cons rfl (ext_cons rfl (ext_cons rfl ext_nil))))) (kX3_tryPlaces_114 hS hdd hrec ih hf hI)
        · have hf := ite_neg h20 hf
          refine to_icF (q := 103) (op := .ge) 114 h20 dX3_tryPlaces_100 rfl rfl ?_
          refine to_aload_n (q := 104) rfl (by decide) dX3_tryPlaces_103 rfl ?_
          refine to_iload_n (q := 105) rfl dX3_tryPlaces_104 rfl ?_
          refine to_iconst (q := 106) ic_1 dX3_tryPlaces_105 rfl ?_
          refine to_iadd (q := 107) dX3_tryPlaces_106 rfl ?_
          refine to_iload_n (q := 108) rfl dX3_tryPlaces_107 rfl ?_
          refine to_iload (q := 110) rfl dX3_tryPlaces_108 rfl ?_
          refine to_iadd (q := 111) dX3_tryPlaces_110 rfl ?_
          obtain ⟨m23, hc21, hf⟩ := cl1_some hf
          have qc22 := hrec hc21 hI
          refine to_virtV (q := 114) mX3_tryPlaces [.int (x1 + (1 : Int32)), .int (x2 + r16)] dX3_tryPlaces_111 rfl rfl (Nat.le_of_ble_eq_true rfl) mo_X3_tryPlaces mv_X3_46 (Or.inl ⟨_, _, _, h_96 hS, rfl, rfl⟩) qc22.1 ?_
          have hI := qc22.2
          exact to_ext [(0, .ref 96), (1, .int x1), (2, .int x2), (3, .int x3), (4, .int x4)] (ext_cons rfl (ext_cons rfl (ext_cons rfl (ext_cons rfl (ext_cons rfl ext_nil))))) (kX3_tryPlaces_114 hS hdd hrec ih hf hI)
def fX3_tryPlaces_13 (rec : Int32 → Int32 → Me → Option (Me)) (x2 : Int32) (m : Me) : Option (Me) := some (setI m 96 6 (if x2 < (m.1 96 6) then x2 else (m.1 96 6)))
set_option maxRecDepth 20000 in
theorem kX3_tryPlaces_13 {S : Sh} (hS : ShOK S) {dd : Nat} (hdd : 1 ≤ dd) {rec : Int32 → Int32 → Me → Option (Me)} (hrec : ∀ {x1 : Int32} {x2 : Int32} {m : Me} {res : Me}, rec x1 x2 m = some res → Inv m → Call dd mX3_tryPlaces [.ref 96, .int x1, .int x2] (S, m) none (S, res) ∧ Inv res) {res : Me} {x2 : Int32} {m : Me} (hf : fX3_tryPlaces_13 rec x2 m = some res) (hI : Inv m) : TT InvS (Call dd) mX3_tryPlaces (13, [(0, .ref 96), (2, .int x2)], [], S, m) none (S, res) := by
  unfold fX3_tryPlaces_13 at hf
  refine to_aload_n (q := 14) rfl (by decide) dX3_tryPlaces_13 rfl ?_
  refine to_aload_n (q := 15) rfl (by decide) dX3_tryPlaces_14 rfl ?_
  refine to_getI (q := 18) (k0 := 3) (C := RX3) (T := TX3) (N := 7) (j := 6) rfl fx_X3_42 (h_96 hS) rfl dX3_tryPlaces_15 rfl ?_
  refine to_iload_n (q := 19) rfl dX3_tryPlaces_18 rfl ?_
  refine to_min (q := 22) dX3_tryPlaces_19 rfl (Nat.le_of_ble_eq_true rfl) (lc_min lm_X3_90) ?_
  refine to_putI (q := 25) (ty := .int) (k0 := 3) (C := RX3) (T := TX3) (N := 7) (j := 6) rfl fx_X3_42 (h_96 hS) rfl pD_I (Or.inl rfl) (nf_I _) dX3_tryPlaces_22 rfl ?_
  cases hf
  exact to_vret dX3_tryPlaces_25 rfl rfl rfl hI
def fX3_tryPlaces (n : Nat) (x1 : Int32) (x2 : Int32) (m : Me) : Option (Me) := match n with
  | 0 => none
  | n + 1 => if (m.1 96 2) ≤ x1 then fX3_tryPlaces_13 (fX3_tryPlaces n) x2 m else if x1 < (4 : Int32) then ck (inb x1 4) (cl2 (fX8_hasBare (rr m 98 x1.toNatClampNeg) m) fun r7 m8 => if r7 = (0 : Int32) then ck (inb x1 4) (ck (inb x1 4) (fX3_tryPlaces_62 (fX3_tryPlaces n) FU x1 x2 (((m8.1 (102 + 5 * x1.toNatClampNeg) 2) - (m8.1 (rr m8 98 x1.toNatClampNeg) 1))) ((0 : Int32)) m8)) else some m8) else fX3_tryPlaces_13 (fX3_tryPlaces n) x2 m
set_option maxRecDepth 20000 in
theorem kX3_tryPlaces {S : Sh} (hS : ShOK S) (n : Nat) : ∀ {x1 : Int32} {x2 : Int32} {m : Me} {res : Me}, fX3_tryPlaces n x1 x2 m = some res → Inv m → Call (1 + n) mX3_tryPlaces [.ref 96, .int x1, .int x2] (S, m) none (S, res) ∧ Inv res := by
  induction n with
  | zero => intro x1 x2 m res hf; cases hf
  | succ n ih =>
    intro x1 x2 m res hf  hI
    unfold fX3_tryPlaces at hf
    refine call_of (P := InvS) (d := 1 + n) (Nat.le_of_ble_eq_true rfl) (by simp [Value.category]) ?_
    have hrec := @ih
    have hdd : 1 ≤ 1 + n := Nat.le_add_right _ _
    show TT InvS (Call (1 + n)) mX3_tryPlaces (0, [(0, .ref 96), (1, .int x1), (2, .int x2)], [], S, m) _ _
    refine to_iload_n (q := 1) rfl dX3_tryPlaces_0 rfl ?_
    refine to_aload_n (q := 2) rfl (by decide) dX3_tryPlaces_1 rfl ?_
    refine to_getI (q := 5) (k0 := 3) (C := RX3) (T := TX3) (N := 7) (j := 2) rfl fx_X3_50 (h_96 hS) rfl dX3_tryPlaces_2 rfl ?_
    by_cases h1 : (m.1 96 2) ≤ x1
    · have hf := ite_pos h1 hf
      refine to_icT (q := 13) (op := .ge) h1 dX3_tryPlaces_5 rfl ?_
      exact to_ext [(0, .ref 96), (2, .int x2)] (ext_cons rfl (ext_cons rfl ext_nil)) (kX3_tryPlaces_13 hS hdd hrec hf hI)
    · have hf := ite_neg h1 hf
      refine to_icF (q := 8) (op := .ge) 13 h1 dX3_tryPlaces_5 rfl rfl ?_
      refine to_iload_n (q := 9) rfl dX3_tryPlaces_8 rfl ?_
      refine to_iconst (q := 10) ic_4 dX3_tryPlaces_9 rfl ?_
      by_cases h2 : x1 < (4 : Int32)
      · have hf := ite_pos h2 hf
        refine to_icT (q := 26) (op := .lt) h2 dX3_tryPlaces_10 rfl ?_
        refine to_aload_n (q := 27) rfl (by decide) dX3_tryPlaces_26 rfl ?_
        refine to_getR (q := 30) (b := 98) (k0 := 3) (C := RX3) (T := TX3) (N := 7) (j := 1) rfl fx_X3_19 (h_96 hS) rfl (iv_96_1 hI) dX3_tryPlaces_27 rfl ?_
        refine to_iload_n (q := 31) rfl dX3_tryPlaces_30 rfl ?_
        obtain ⟨hb3, hf⟩ := ck_some hf
        have hk4 : kd (rr m 98 x1.toNatClampNeg) = 8 := (ivM hI hb3).2
        refine to_aald (q := 32) (b := rr m 98 x1.toNatClampNeg) (h_98 hS) (by decide) hb3 ((ivM hI hb3).1) dX3_tryPlaces_31 rfl ?_
        obtain ⟨r7, m8, hc5, hf⟩ := cl2_some hf
        have qc6 := kX8_hasBare hS hc5 (hk4) hI
        refine to_virtI (q := 35) mX8_hasBare [] dX3_tryPlaces_32 rfl rfl (Nat.le_of_ble_eq_true rfl) mo_X8_hasBare mv_X3_100 (Or.inl ⟨_, _, _, sh_kd hS hk4 (by decide), rfl, rfl⟩) (Call_mono (Nat.le_trans (by decide : 1 ≤ 1) hdd) qc6.1) ?_
        have hI := qc6.2
        by_cases h9 : r7 = (0 : Int32)
        · have hf := ite_pos h9 hf
          refine to_ifT (q := 39) (op := .eq) h9 dX3_tryPlaces_35 rfl ?_
          refine to_aload_n (q := 40) rfl (by decide) dX3_tryPlaces_39 rfl ?_
          refine to_getR (q := 43) (b := 97) (k0 := 3) (C := RX3) (T := TX3) (N := 7) (j := 0) rfl fx_X3_11 (h_96 hS) rfl (iv_96_0 hI) dX3_tryPlaces_40 rfl ?_
          refine to_iload_n (q := 44) rfl dX3_tryPlaces_43 rfl ?_
          obtain ⟨hb10, hf⟩ := ck_some hf
          refine to_aald (q := 45) (b := 102 + 5 * x1.toNatClampNeg) (h_97 hS) (by decide) hb10 (ivR hI hb10) dX3_tryPlaces_44 rfl ?_
          refine to_getI (q := 48) (k0 := 7) (C := RX7) (T := TX7) (N := 3) (j := 2) rfl fx_X3_85 (sh_kd hS (kdR hb10) (by decide)) rfl dX3_tryPlaces_45 rfl ?_
          refine to_aload_n (q := 49) rfl (by decide) dX3_tryPlaces_48 rfl ?_
          refine to_getR (q := 52) (b := 98) (k0 := 3) (C := RX3) (T := TX3) (N := 7) (j := 1) rfl fx_X3_19 (h_96 hS) rfl (iv_96_1 hI) dX3_tryPlaces_49 rfl ?_
          refine to_iload_n (q := 53) rfl dX3_tryPlaces_52 rfl ?_
          obtain ⟨hb11, hf⟩ := ck_some hf
          have hk12 : kd (rr m8 98 x1.toNatClampNeg) = 8 := (ivM hI hb11).2
          refine to_aald (q := 54) (b := rr m8 98 x1.toNatClampNeg) (h_98 hS) (by decide) hb11 ((ivM hI hb11).1) dX3_tryPlaces_53 rfl ?_
          refine to_getI (q := 57) (k0 := 8) (C := RX8) (T := TX8) (N := 5) (j := 1) rfl fx_X3_82 (sh_kd hS hk12 (by decide)) rfl dX3_tryPlaces_54 rfl ?_
          refine to_isub (q := 58) dX3_tryPlaces_57 rfl ?_
          refine to_istore_n (q := 59) [(3, .int ((m8.1 (102 + 5 * x1.toNatClampNeg) 2) - (m8.1 (rr m8 98 x1.toNatClampNeg) 1))), (0, .ref 96), (1, .int x1), (2, .int x2)] rfl (by decide) dX3_tryPlaces_58 rfl ?_
          refine to_iconst (q := 60) ic_0 dX3_tryPlaces_59 rfl ?_
          refine to_istore (q := 62) [(4, .int (0 : Int32)), (3, .int ((m8.1 (102 + 5 * x1.toNatClampNeg) 2) - (m8.1 (rr m8 98 x1.toNatClampNeg) 1))), (0, .ref 96), (1, .int x1), (2, .int x2)] rfl (by decide) dX3_tryPlaces_60 rfl ?_
          exact to_ext [(0, .ref 96), (1, .int x1), (2, .int x2), (3, .int ((m8.1 (102 + 5 * x1.toNatClampNeg) 2) - (m8.1 (rr m8 98 x1.toNatClampNeg) 1))), (4, .int (0 : Int32))] (ext_cons rfl (ext_cons rfl (ext_cons rfl (ext_cons rfl (ext_cons rfl ext_nil))))) (kX3_tryPlaces_62 hS hdd hrec FU hf hI)
        · have hf := ite_neg h9 hf
          refine to_ifF (q := 38) (op := .eq) 39 h9 dX3_tryPlaces_35 rfl rfl ?_
          cases hf
          exact to_vret dX3_tryPlaces_38 rfl rfl rfl hI
      · have hf := ite_neg h2 hf
        refine to_icF (q := 13) (op := .lt) 26 h2 dX3_tryPlaces_10 rfl rfl ?_
        exact to_ext [(0, .ref 96), (2, .int x2)] (ext_cons rfl (ext_cons rfl ext_nil)) (kX3_tryPlaces_13 hS hdd hrec hf hI)
def fX3_fewestForAll_5 (n : Nat) (a1 : Nat) (a2 : Nat) (x3 : Int32) (x4 : Int32) (m : Me) : Option (Int32 × Me) := match n with
  | 0 => none
  | n + 1 => if (1 : Int32) < x4 then some (x3, m) else cl1 (fX3_gather a1 a2 x4 m) fun m4 => cl1 (fX3_boundRests m4) fun m7 => cl1 (fX3_tryPlaces 8 (0 : Int32) (0 : Int32) (setI m7 96 6 (33 : Int32))) fun m10 => if (m10.1 96 6) = (33 : Int32) then some ((-2 : Int32), m10) else fX3_fewestForAll_5 n a1 a2 ((x3 + (m10.1 96 6))) ((x4 + (1 : Int32))) m10
set_option maxRecDepth 20000 in
theorem kX3_fewestForAll_5 {S : Sh} (hS : ShOK S) {res : Int32 × Me} (n : Nat) : ∀ {a1 : Nat} {a2 : Nat} {x3 : Int32} {x4 : Int32} {m : Me}, fX3_fewestForAll_5 n a1 a2 x3 x4 m = some res → kd a1 = 2 → kd a2 = 5 → Inv m → TT InvS (Call 10) mX3_fewestForAll (5, [(0, .ref 96), (1, .ref a1), (2, .ref a2), (3, .int x3), (4, .int x4)], [], S, m) (some (.int res.1)) (S, res.2) := by
  induction n with
  | zero => intro a1 a2 x3 x4 m hf; cases hf
  | succ n ih =>
    intro a1 a2 x3 x4 m hf ha1 ha2 hI
    unfold fX3_fewestForAll_5 at hf
    refine to_iload (q := 7) rfl dX3_fewestForAll_5 rfl ?_
    refine to_iconst (q := 8) ic_1 dX3_fewestForAll_7 rfl ?_
    by_cases h1 : (1 : Int32) < x4
    · have hf := ite_pos h1 hf
      refine to_icT (q := 60) (op := .gt) h1 dX3_fewestForAll_8 rfl ?_
      refine to_iload_n (q := 61) rfl dX3_fewestForAll_60 rfl ?_
      cases hf
      exact to_iret dX3_fewestForAll_61 rfl rfl rfl rfl hI
    · have hf := ite_neg h1 hf
      refine to_icF (q := 11) (op := .gt) 60 h1 dX3_fewestForAll_8 rfl rfl ?_
      refine to_aload_n (q := 12) rfl (by decide) dX3_fewestForAll_11 rfl ?_
      refine to_aload_n (q := 13) rfl (kd_4 (ha1) (by decide)) dX3_fewestForAll_12 rfl ?_
      refine to_aload_n (q := 14) rfl (kd_4 (ha2) (by decide)) dX3_fewestForAll_13 rfl ?_
      refine to_iload (q := 16) rfl dX3_fewestForAll_14 rfl ?_
      obtain ⟨m4, hc2, hf⟩ := cl1_some hf
      have qc3 := kX3_gather hS hc2 (ha1) (ha2) hI
      refine to_virtV (q := 19) mX3_gather [.ref a1, .ref a2, .int x4] dX3_fewestForAll_16 rfl rfl (Nat.le_of_ble_eq_true rfl) mo_X3_gather mv_X3_35 (Or.inl ⟨_, _, _, h_96 hS, rfl, rfl⟩) (Call_mono (by decide) qc3.1) ?_
      have hI := qc3.2
      refine to_aload_n (q := 20) rfl (by decide) dX3_fewestForAll_19 rfl ?_
      obtain ⟨m7, hc5, hf⟩ := cl1_some hf
      have qc6 := kX3_boundRests hS hc5 hI
      refine to_virtV (q := 23) mX3_boundRests [] dX3_fewestForAll_20 rfl rfl (Nat.le_of_ble_eq_true rfl) mo_X3_boundRests mv_X3_39 (Or.inl ⟨_, _, _, h_96 hS, rfl, rfl⟩) (Call_mono (by decide) qc6.1) ?_
      have hI := qc6.2
      refine to_aload_n (q := 24) rfl (by decide) dX3_fewestForAll_23 rfl ?_
      refine to_bipush (q := 26) bp_33 dX3_fewestForAll_24 rfl ?_
      refine to_putI (q := 29) (ty := .int) (k0 := 3) (C := RX3) (T := TX3) (N := 7) (j := 6) rfl fx_X3_42 (h_96 hS) rfl pD_I (Or.inl rfl) (nf_I _) dX3_fewestForAll_26 rfl ?_
      refine to_aload_n (q := 30) rfl (by decide) dX3_fewestForAll_29 rfl ?_
      refine to_iconst (q := 31) ic_0 dX3_fewestForAll_30 rfl ?_
      refine to_iconst (q := 32) ic_0 dX3_fewestForAll_31 rfl ?_
      obtain ⟨m10, hc8, hf⟩ := cl1_some hf
      have qc9 := kX3_tryPlaces hS 8 hc8 hI
      refine to_virtV (q := 35) mX3_tryPlaces [.int (0 : Int32), .int (0 : Int32)] dX3_fewestForAll_32 rfl rfl (Nat.le_of_ble_eq_true rfl) mo_X3_tryPlaces mv_X3_46 (Or.inl ⟨_, _, _, h_96 hS, rfl, rfl⟩) (Call_mono (by decide) qc9.1) ?_
      have hI := qc9.2
      refine to_aload_n (q := 36) rfl (by decide) dX3_fewestForAll_35 rfl ?_
      refine to_getI (q := 39) (k0 := 3) (C := RX3) (T := TX3) (N := 7) (j := 6) rfl fx_X3_42 (h_96 hS) rfl dX3_fewestForAll_36 rfl ?_
      refine to_bipush (q := 41) bp_33 dX3_fewestForAll_39 rfl ?_
      by_cases h11 : (m10.1 96 6) = (33 : Int32)
      · have hf := ite_pos h11 hf
        refine to_icF (q := 44) (op := .ne) 47 (fun z => z h11) dX3_fewestForAll_41 rfl rfl ?_
        refine to_bipush (q := 46) bp_m2 dX3_fewestForAll_44 rfl ?_
        cases hf
        exact to_iret dX3_fewestForAll_46 rfl rfl rfl rfl hI
      · have hf := ite_neg h11 hf
        refine to_icT (q := 47) (op := .ne) h11 dX3_fewestForAll_41 rfl ?_
        refine to_iload_n (q := 48) rfl dX3_fewestForAll_47 rfl ?_
        refine to_aload_n (q := 49) rfl (by decide) dX3_fewestForAll_48 rfl ?_
        refine to_getI (q := 52) (k0 := 3) (C := RX3) (T := TX3) (N := 7) (j := 6) rfl fx_X3_42 (h_96 hS) rfl dX3_fewestForAll_49 rfl ?_
        refine to_iadd (q := 53) dX3_fewestForAll_52 rfl ?_
        refine to_istore_n (q := 54) [(3, .int (x3 + (m10.1 96 6))), (0, .ref 96), (1, .ref a1), (2, .ref a2), (4, .int x4)] rfl (by decide) dX3_fewestForAll_53 rfl ?_
        refine to_iinc (q := 57) (v := (x4 + (1 : Int32))) rfl (congrArg (fun z => x4 + z) ic_1) [(4, .int (x4 + (1 : Int32))), (3, .int (x3 + (m10.1 96 6))), (0, .ref 96), (1, .ref a1), (2, .ref a2)] rfl (by decide) dX3_fewestForAll_54 rfl ?_
        refine to_goto (q := 5) dX3_fewestForAll_57 rfl ?_
        exact to_ext [(0, .ref 96), (1, .ref a1), (2, .ref a2), (3, .int (x3 + (m10.1 96 6))), (4, .int (x4 + (1 : Int32)))] (ext_cons rfl (ext_cons rfl (ext_cons rfl (ext_cons rfl (ext_cons rfl ext_nil))))) (ih hf (ha1) (ha2) hI)
def fX3_fewestForAll (a1 : Nat) (a2 : Nat) (m : Me) : Option (Int32 × Me) := fX3_fewestForAll_5 FU a1 a2 ((0 : Int32)) ((0 : Int32)) m
set_option maxRecDepth 20000 in
theorem kX3_fewestForAll {S : Sh} (hS : ShOK S) {res : Int32 × Me} {a1 : Nat} {a2 : Nat} {m : Me} (hf : fX3_fewestForAll a1 a2 m = some res) (ha1 : kd a1 = 2) (ha2 : kd a2 = 5) (hI : Inv m) : Call 11 mX3_fewestForAll [.ref 96, .ref a1, .ref a2] (S, m) (some (.int res.1)) (S, res.2) ∧ Inv res.2 := by
  refine call_of (P := InvS) (Nat.le_of_ble_eq_true rfl) (by simp [Value.category]) ?_
  show TT InvS (Call 10) mX3_fewestForAll (0, [(0, .ref 96), (1, .ref a1), (2, .ref a2)], [], S, m) _ _
  unfold fX3_fewestForAll at hf
  refine to_iconst (q := 1) ic_0 dX3_fewestForAll_0 rfl ?_
  refine to_istore_n (q := 2) [(3, .int (0 : Int32)), (0, .ref 96), (1, .ref a1), (2, .ref a2)] rfl (by decide) dX3_fewestForAll_1 rfl ?_
  refine to_iconst (q := 3) ic_0 dX3_fewestForAll_2 rfl ?_
  refine to_istore (q := 5) [(4, .int (0 : Int32)), (3, .int (0 : Int32)), (0, .ref 96), (1, .ref a1), (2, .ref a2)] rfl (by decide) dX3_fewestForAll_3 rfl ?_
  exact to_ext [(0, .ref 96), (1, .ref a1), (2, .ref a2), (3, .int (0 : Int32)), (4, .int (0 : Int32))] (ext_cons rfl (ext_cons rfl (ext_cons rfl (ext_cons rfl (ext_cons rfl ext_nil))))) (kX3_fewestForAll_5 hS FU hf (ha1) (ha2) hI)
def fX4_overlapOf_14 (n : Nat) (a0 : Nat) (a1 : Nat) (x2 : Int32) (m : Me) : Option (Int32 × Me) := match n with
  | 0 => none
  | n + 1 => if x2 ≤ (0 : Int32) then some ((0 : Int32), m) else cl2 (fX8_endsAsBegins a0 a1 x2 m) fun r4 m5 => if r4 = (0 : Int32) then fX4_overlapOf_14 n a0 a1 ((x2 + (-1 : Int32))) m5 else some (x2, m5)
set_option maxRecDepth 20000 in
theorem kX4_overlapOf_14 {S : Sh} (hS : ShOK S) {res : Int32 × Me} (n : Nat) : ∀ {a0 : Nat} {a1 : Nat} {x2 : Int32} {m : Me}, fX4_overlapOf_14 n a0 a1 x2 m = some res → kd a0 = 8 → kd a1 = 8 → Inv m → TT InvS (Call 1) mX4_overlapOf (14, [(0, .ref a0), (1, .ref a1), (2, .int x2)], [], S, m) (some (.int res.1)) (S, res.2) := by
  induction n with
  | zero => intro a0 a1 x2 m hf; cases hf
  | succ n ih =>
    intro a0 a1 x2 m hf ha0 ha1 hI
    unfold fX4_overlapOf_14 at hf
    refine to_iload_n (q := 15) rfl dX4_overlapOf_14 rfl ?_
    by_cases h1 : x2 ≤ (0 : Int32)
    · have hf := ite_pos h1 hf
      refine to_ifT (q := 35) (op := .le) h1 dX4_overlapOf_15 rfl ?_
      refine to_iconst (q := 36) ic_0 dX4_overlapOf_35 rfl ?_
      cases hf
      exact to_iret dX4_overlapOf_36 rfl rfl rfl rfl hI
    · have hf := ite_neg h1 hf
      refine to_ifF (q := 18) (op := .le) 35 h1 dX4_overlapOf_15 rfl rfl ?_
      refine to_aload_n (q := 19) rfl (kd_4 (ha0) (by decide)) dX4_overlapOf_18 rfl ?_
      refine to_aload_n (q := 20) rfl (kd_4 (ha1) (by decide)) dX4_overlapOf_19 rfl ?_
      refine to_iload_n (q := 21) rfl dX4_overlapOf_20 rfl ?_
      obtain ⟨r4, m5, hc2, hf⟩ := cl2_some hf
      have qc3 := kX8_endsAsBegins hS hc2 (ha0) (ha1) hI
      refine to_virtI (q := 24) mX8_endsAsBegins [.ref a1, .int x2] dX4_overlapOf_21 rfl rfl (Nat.le_of_ble_eq_true rfl) mo_X8_endsAsBegins mv_X4_85 (Or.inl ⟨_, _, _, sh_kd hS ha0 (by decide), rfl, rfl⟩) (Call_mono (by decide) qc3.1) ?_
      have hI := qc3.2
      by_cases h6 : r4 = (0 : Int32)
      · have hf := ite_pos h6 hf
        refine to_ifT (q := 29) (op := .eq) h6 dX4_overlapOf_24 rfl ?_
        refine to_iinc (q := 32) (v := (x2 + (-1 : Int32))) rfl (congrArg (fun z => x2 + z) ic_m1) [(2, .int (x2 + (-1 : Int32))), (0, .ref a0), (1, .ref a1)] rfl (by decide) dX4_overlapOf_29 rfl ?_
        refine to_goto (q := 14) dX4_overlapOf_32 rfl ?_
        exact to_ext [(0, .ref a0), (1, .ref a1), (2, .int (x2 + (-1 : Int32)))] (ext_cons rfl (ext_cons rfl (ext_cons rfl ext_nil))) (ih hf (ha0) (ha1) hI)
      · have hf := ite_neg h6 hf
        refine to_ifF (q := 27) (op := .eq) 29 h6 dX4_overlapOf_24 rfl rfl ?_
        refine to_iload_n (q := 28) rfl dX4_overlapOf_27 rfl ?_
        cases hf
        exact to_iret dX4_overlapOf_28 rfl rfl rfl rfl hI
def fX4_overlapOf (a0 : Nat) (a1 : Nat) (m : Me) : Option (Int32 × Me) := fX4_overlapOf_14 FU a0 a1 (((if (m.1 a1 1) < (m.1 a0 1) then (m.1 a1 1) else (m.1 a0 1)) - (1 : Int32))) m
set_option maxRecDepth 20000 in
theorem kX4_overlapOf {S : Sh} (hS : ShOK S) {res : Int32 × Me} {a0 : Nat} {a1 : Nat} {m : Me} (hf : fX4_overlapOf a0 a1 m = some res) (ha0 : kd a0 = 8) (ha1 : kd a1 = 8) (hI : Inv m) : Call 2 mX4_overlapOf [.ref a0, .ref a1] (S, m) (some (.int res.1)) (S, res.2) ∧ Inv res.2 := by
  refine call_of (P := InvS) (Nat.le_of_ble_eq_true rfl) (by simp [Value.category]) ?_
  show TT InvS (Call 1) mX4_overlapOf (0, [(0, .ref a0), (1, .ref a1)], [], S, m) _ _
  unfold fX4_overlapOf at hf
  refine to_aload_n (q := 1) rfl (kd_4 (ha0) (by decide)) dX4_overlapOf_0 rfl ?_
  refine to_getI (q := 4) (k0 := 8) (C := RX8) (T := TX8) (N := 5) (j := 1) rfl fx_X4_76 (sh_kd hS ha0 (by decide)) rfl dX4_overlapOf_1 rfl ?_
  refine to_aload_n (q := 5) rfl (kd_4 (ha1) (by decide)) dX4_overlapOf_4 rfl ?_
  refine to_getI (q := 8) (k0 := 8) (C := RX8) (T := TX8) (N := 5) (j := 1) rfl fx_X4_76 (sh_kd hS ha1 (by decide)) rfl dX4_overlapOf_5 rfl ?_
  refine to_min (q := 11) dX4_overlapOf_8 rfl (Nat.le_of_ble_eq_true rfl) (lc_min lm_X4_79) ?_
  refine to_iconst (q := 12) ic_1 dX4_overlapOf_11 rfl ?_
  refine to_isub (q := 13) dX4_overlapOf_12 rfl ?_
  refine to_istore_n (q := 14) [(2, .int ((if (m.1 a1 1) < (m.1 a0 1) then (m.1 a1 1) else (m.1 a0 1)) - (1 : Int32))), (0, .ref a0), (1, .ref a1)] rfl (by decide) dX4_overlapOf_13 rfl ?_
  exact to_ext [(0, .ref a0), (1, .ref a1), (2, .int ((if (m.1 a1 1) < (m.1 a0 1) then (m.1 a1 1) else (m.1 a0 1)) - (1 : Int32)))] (ext_cons rfl (ext_cons rfl (ext_cons rfl ext_nil))) (kX4_overlapOf_14 hS FU hf (ha0) (ha1) hI)
def fX4_compareWords_88 (k2 : Nat → Int32 → Me → Option (Me)) (k19 : Nat → Int32 → Int32 → Me → Option (Me)) (a1 : Nat) (x2 : Int32) (x3 : Int32) (m : Me) : Option (Me) := k19 a1 x2 ((x3 + (1 : Int32))) m
set_option maxRecDepth 20000 in
theorem kX4_compareWords_88 {S : Sh} (hS : ShOK S) {res : Me} {k2 : Nat → Int32 → Me → Option (Me)} (hk2 : ∀ {a1 : Nat} {x2 : Int32} {m : Me}, k2 a1 x2 m = some res → kd a1 = 2 → Inv m → TT InvS (Call 2) mX4_compareWords (2, [(0, .ref 122), (1, .ref a1), (2, .int x2)], [], S, m) none (S, res)) {k19 : Nat → Int32 → Int32 → Me → Option (Me)} (hk19 : ∀ {a1 : Nat} {x2 : Int32} {x3 : Int32} {m : Me}, k19 a1 x2 x3 m = some res → kd a1 = 2 → Inv m → TT InvS (Call 2) mX4_compareWords (19, [(0, .ref 122), (1, .ref a1), (2, .int x2), (3, .int x3)], [], S, m) none (S, res)) {a1 : Nat} {x2 : Int32} {x3 : Int32} {m : Me} (hf : fX4_compareWords_88 k2 k19 a1 x2 x3 m = some res) (ha1 : kd a1 = 2) (hI : Inv m) : TT InvS (Call 2) mX4_compareWords (88, [(0, .ref 122), (1, .ref a1), (2, .int x2), (3, .int x3)], [], S, m) none (S, res) := by
  unfold fX4_compareWords_88 at hf
  refine to_iinc (q := 91) (v := (x3 + (1 : Int32))) rfl (congrArg (fun z => x3 + z) ic_1) [(3, .int (x3 + (1 : Int32))), (0, .ref 122), (1, .ref a1), (2, .int x2)] rfl (by decide) dX4_compareWords_88 rfl ?_
  refine to_goto (q := 19) dX4_compareWords_91 rfl ?_
  exact to_ext [(0, .ref 122), (1, .ref a1), (2, .int x2), (3, .int (x3 + (1 : Int32)))] (ext_cons rfl (ext_cons rfl (ext_cons rfl (ext_cons rfl ext_nil)))) (hk19 hf (ha1) hI)
def fX4_compareWords_19 (n : Nat) (k2 : Nat → Int32 → Me → Option (Me)) (a1 : Nat) (x2 : Int32) (x3 : Int32) (m : Me) : Option (Me) := match n with
  | 0 => none
  | n + 1 => if (m.1 a1 7) ≤ x3 then k2 a1 ((x2 + (1 : Int32))) m else ck (inb x2 6) (ck (inb x3 6) (cl2 (fX4_overlapOf (a1 + 7 + 2 * x2.toNatClampNeg) (a1 + 7 + 2 * x3.toNatClampNeg) m) fun r8 m9 => ck (inb ((x2 * (6 : Int32)) + x3) 36) (if x2 = x3 then fX4_compareWords_88 k2 (fX4_compareWords_19 n k2) a1 x2 x3 (setI m9 123 ((x2 * (6 : Int32)) + x3).toNatClampNeg r8) else ck (inb x2 6) (ck (inb x3 6) (cl2 (fX8_liesIn (a1 + 7 + 2 * x2.toNatClampNeg) (a1 + 7 + 2 * x3.toNatClampNeg) (setI m9 123 ((x2 * (6 : Int32)) + x3).toNatClampNeg r8)) fun r16 m17 => if r16 = (0 : Int32) then fX4_compareWords_88 k2 (fX4_compareWords_19 n k2) a1 x2 x3 m17 else ck (inb x2 6) (ck (inb x2 6) (fX4_compareWords_88 k2 (fX4_compareWords_19 n k2) a1 x2 x3 (setI m17 124 x2.toNatClampNeg ((m17.1 124 x2.toNatClampNeg) ||| ((1 : Int32) <<< (x3 &&& 31)))))))))))
set_option maxRecDepth 20000 in
theorem kX4_compareWords_19 {S : Sh} (hS : ShOK S) {res : Me} {k2 : Nat → Int32 → Me → Option (Me)} (hk2 : ∀ {a1 : Nat} {x2 : Int32} {m : Me}, k2 a1 x2 m = some res → kd a1 = 2 → Inv m → TT InvS (Call 2) mX4_compareWords (2, [(0, .ref 122), (1, .ref a1), (2, .int x2)], [], S, m) none (S, res)) (n : Nat) : ∀ {a1 : Nat} {x2 : Int32} {x3 : Int32} {m : Me}, fX4_compareWords_19 n k2 a1 x2 x3 m = some res → kd a1 = 2 → Inv m → TT InvS (Call 2) mX4_compareWords (19, [(0, .ref 122), (1, .ref a1), (2, .int x2), (3, .int x3)], [], S, m) none (S, res) := by
  induction n with
  | zero => intro a1 x2 x3 m hf; cases hf
  | succ n ih =>
    intro a1 x2 x3 m hf ha1 hI
    unfold fX4_compareWords_19 at hf
    refine to_iload_n (q := 20) rfl dX4_compareWords_19 rfl ?_
    refine to_aload_n (q := 21) rfl (kd_4 (ha1) (by decide)) dX4_compareWords_20 rfl ?_
    refine to_getI (q := 24) (k0 := 2) (C := RX2) (T := TX2) (N := 14) (j := 7) rfl fx_X4_21 (sh_kd hS ha1 (by decide)) rfl dX4_compareWords_21 rfl ?_
    by_cases h3 : (m.1 a1 7) ≤ x3
    · have hf := ite_pos h3 hf
      refine to_icT (q := 94) (op := .ge) h3 dX4_compareWords_24 rfl ?_
      refine to_iinc (q := 97) (v := (x2 + (1 : Int32))) rfl (congrArg (fun z => x2 + z) ic_1) [(2, .int (x2 + (1 : Int32))), (0, .ref 122), (1, .ref a1), (3, .int x3)] rfl (by decide) dX4_compareWords_94 rfl ?_
      refine to_goto (q := 2) dX4_compareWords_97 rfl ?_
      exact to_ext [(0, .ref 122), (1, .ref a1), (2, .int (x2 + (1 : Int32)))] (ext_cons rfl (ext_cons rfl (ext_cons rfl ext_nil))) (hk2 hf (ha1) hI)
    · have hf := ite_neg h3 hf
      refine to_icF (q := 27) (op := .ge) 94 h3 dX4_compareWords_24 rfl rfl ?_
      refine to_aload_n (q := 28) rfl (by decide) dX4_compareWords_27 rfl ?_
      refine to_getR (q := 31) (b := 123) (k0 := 4) (C := RX4) (T := TX4) (N := 5) (j := 0) rfl fx_X4_9 (h_122 hS) rfl (iv_122_0 hI) dX4_compareWords_28 rfl ?_
      refine to_iload_n (q := 32) rfl dX4_compareWords_31 rfl ?_
      refine to_bipush (q := 34) bp_6 dX4_compareWords_32 rfl ?_
      refine to_imul (q := 35) dX4_compareWords_34 rfl ?_
      refine to_iload_n (q := 36) rfl dX4_compareWords_35 rfl ?_
      refine to_iadd (q := 37) dX4_compareWords_36 rfl ?_
      refine to_aload_n (q := 38) rfl (kd_4 (ha1) (by decide)) dX4_compareWords_37 rfl ?_
      refine to_getR (q := 41) (b := a1 + 3) (k0 := 2) (C := RX2) (T := TX2) (N := 14) (j := 6) rfl fx_X4_27 (sh_kd hS ha1 (by decide)) rfl (iv2w hI (ha1)) dX4_compareWords_38 rfl ?_
      refine to_iload_n (q := 42) rfl dX4_compareWords_41 rfl ?_
      obtain ⟨hb4, hf⟩ := ck_some hf
      refine to_aald (q := 43) (b := a1 + 7 + 2 * x2.toNatClampNeg) (sh_ln hS (kd2w (ha1)) (by decide)) (by decide) hb4 (ivW hI (ha1) hb4) dX4_compareWords_42 rfl ?_
      refine to_aload_n (q := 44) rfl (kd_4 (ha1) (by decide)) dX4_compareWords_43 rfl ?_
      refine to_getR (q := 47) (b := a1 + 3) (k0 := 2) (C := RX2) (T := TX2) (N := 14) (j := 6) rfl fx_X4_27 (sh_kd hS ha1 (by decide)) rfl (iv2w hI (ha1)) dX4_compareWords_44 rfl ?_
      refine to_iload_n (q := 48) rfl dX4_compareWords_47 rfl ?_
      obtain ⟨hb5, hf⟩ := ck_some hf
      refine to_aald (q := 49) (b := a1 + 7 + 2 * x3.toNatClampNeg) (sh_ln hS (kd2w (ha1)) (by decide)) (by decide) hb5 (ivW hI (ha1) hb5) dX4_compareWords_48 rfl ?_
      obtain ⟨r8, m9, hc6, hf⟩ := cl2_some hf
      have qc7 := kX4_overlapOf hS hc6 (kdW (ha1) hb4) (kdW (ha1) hb5) hI
      refine to_statI (q := 52) mX4_overlapOf [.ref (a1 + 7 + 2 * x2.toNatClampNeg), .ref (a1 + 7 + 2 * x3.toNatClampNeg)] dX4_compareWords_49 rfl rfl (Nat.le_of_ble_eq_true rfl) mo_X4_overlapOf (Or.inl ml_X4_68) sa_X4_overlapOf (Call_mono (by decide) qc7.1) ?_
      have hI := qc7.2
      obtain ⟨hb10, hf⟩ := ck_some hf
      refine to_iasj (q := 53) (h_123 hS) hb10 (rfl) dX4_compareWords_52 rfl ?_
      refine to_iload_n (q := 54) rfl dX4_compareWords_53 rfl ?_
      refine to_iload_n (q := 55) rfl dX4_compareWords_54 rfl ?_
      by_cases h11 : x2 = x3
      · have hf := ite_pos h11 hf
        refine to_icT (q := 88) (op := .eq) h11 dX4_compareWords_55 rfl ?_
        exact to_ext [(0, .ref 122), (1, .ref a1), (2, .int x2), (3, .int x3)] (ext_cons rfl (ext_cons rfl (ext_cons rfl (ext_cons rfl ext_nil)))) (kX4_compareWords_88 hS hk2 ih hf (ha1) hI)
      · have hf := ite_neg h11 hf
        refine to_icF (q := 58) (op := .eq) 88 h11 dX4_compareWords_55 rfl rfl ?_
        refine to_aload_n (q := 59) rfl (kd_4 (ha1) (by decide)) dX4_compareWords_58 rfl ?_
        refine to_getR (q := 62) (b := a1 + 3) (k0 := 2) (C := RX2) (T := TX2) (N := 14) (j := 6) rfl fx_X4_27 (sh_kd hS ha1 (by decide)) rfl (iv2w hI (ha1)) dX4_compareWords_59 rfl ?_
        refine to_iload_n (q := 63) rfl dX4_compareWords_62 rfl ?_
        obtain ⟨hb12, hf⟩ := ck_some hf
        refine to_aald (q := 64) (b := a1 + 7 + 2 * x2.toNatClampNeg) (sh_ln hS (kd2w (ha1)) (by decide)) (by decide) hb12 (ivW hI (ha1) hb12) dX4_compareWords_63 rfl ?_
        refine to_aload_n (q := 65) rfl (kd_4 (ha1) (by decide)) dX4_compareWords_64 rfl ?_
        refine to_getR (q := 68) (b := a1 + 3) (k0 := 2) (C := RX2) (T := TX2) (N := 14) (j := 6) rfl fx_X4_27 (sh_kd hS ha1 (by decide)) rfl (iv2w hI (ha1)) dX4_compareWords_65 rfl ?_
        refine to_iload_n (q := 69) rfl dX4_compareWords_68 rfl ?_
        obtain ⟨hb13, hf⟩ := ck_some hf
        refine to_aald (q := 70) (b := a1 + 7 + 2 * x3.toNatClampNeg) (sh_ln hS (kd2w (ha1)) (by decide)) (by decide) hb13 (ivW hI (ha1) hb13) dX4_compareWords_69 rfl ?_
        obtain ⟨r16, m17, hc14, hf⟩ := cl2_some hf
        have qc15 := kX8_liesIn hS hc14 (kdW (ha1) hb12) (kdW (ha1) hb13) hI
        refine to_virtI (q := 73) mX8_liesIn [.ref (a1 + 7 + 2 * x3.toNatClampNeg)] dX4_compareWords_70 rfl rfl (Nat.le_of_ble_eq_true rfl) mo_X8_liesIn mv_X4_72 (Or.inl ⟨_, _, _, sh_kd hS (kdW (ha1) hb12) (by decide), rfl, rfl⟩) (Call_mono (by decide) qc15.1) ?_
        have hI := qc15.2
        by_cases h18 : r16 = (0 : Int32)
        · have hf := ite_pos h18 hf
          refine to_ifT (q := 88) (op := .eq) h18 dX4_compareWords_73 rfl ?_
          exact to_ext [(0, .ref 122), (1, .ref a1), (2, .int x2), (3, .int x3)] (ext_cons rfl (ext_cons rfl (ext_cons rfl (ext_cons rfl ext_nil)))) (kX4_compareWords_88 hS hk2 ih hf (ha1) hI)
        · have hf := ite_neg h18 hf
          refine to_ifF (q := 76) (op := .eq) 88 h18 dX4_compareWords_73 rfl rfl ?_
          refine to_aload_n (q := 77) rfl (by decide) dX4_compareWords_76 rfl ?_
          refine to_getR (q := 80) (b := 124) (k0 := 4) (C := RX4) (T := TX4) (N := 5) (j := 1) rfl fx_X4_15 (h_122 hS) rfl (iv_122_1 hI) dX4_compareWords_77 rfl ?_
          refine to_iload_n (q := 81) rfl dX4_compareWords_80 rfl ?_
          refine to_dup2 (q := 82) rfl rfl dX4_compareWords_81 rfl ?_
          obtain ⟨hb19, hf⟩ := ck_some hf
          refine to_iaj (q := 83) (h_124 hS) hb19 (rfl) dX4_compareWords_82 rfl ?_
          refine to_iconst (q := 84) ic_1 dX4_compareWords_83 rfl ?_
          refine to_iload_n (q := 85) rfl dX4_compareWords_84 rfl ?_
          refine to_ishl (q := 86) dX4_compareWords_85 rfl ?_
          refine to_ior (q := 87) dX4_compareWords_86 rfl ?_
          obtain ⟨hb20, hf⟩ := ck_some hf
          refine to_iasj (q := 88) (h_124 hS) hb20 (rfl) dX4_compareWords_87 rfl ?_
          exact to_ext [(0, .ref 122), (1, .ref a1), (2, .int x2), (3, .int x3)] (ext_cons rfl (ext_cons rfl (ext_cons rfl (ext_cons rfl ext_nil)))) (kX4_compareWords_88 hS hk2 ih hf (ha1) hI)
def fX4_compareWords_2 (n : Nat) (a1 : Nat) (x2 : Int32) (m : Me) : Option (Me) := match n with
  | 0 => none
  | n + 1 => if (m.1 a1 7) ≤ x2 then some m else ck (inb x2 6) (fX4_compareWords_19 FU (fX4_compareWords_2 n) a1 x2 ((0 : Int32)) (setI m 124 x2.toNatClampNeg (0 : Int32)))
set_option maxRecDepth 20000 in
theorem kX4_compareWords_2 {S : Sh} (hS : ShOK S) {res : Me} (n : Nat) : ∀ {a1 : Nat} {x2 : Int32} {m : Me}, fX4_compareWords_2 n a1 x2 m = some res → kd a1 = 2 → Inv m → TT InvS (Call 2) mX4_compareWords (2, [(0, .ref 122), (1, .ref a1), (2, .int x2)], [], S, m) none (S, res) := by
  induction n with
  | zero => intro a1 x2 m hf; cases hf
  | succ n ih =>
    intro a1 x2 m hf ha1 hI
    unfold fX4_compareWords_2 at hf
    refine to_iload_n (q := 3) rfl dX4_compareWords_2 rfl ?_
    refine to_aload_n (q := 4) rfl (kd_4 (ha1) (by decide)) dX4_compareWords_3 rfl ?_
    refine to_getI (q := 7) (k0 := 2) (C := RX2) (T := TX2) (N := 14) (j := 7) rfl fx_X4_21 (sh_kd hS ha1 (by decide)) rfl dX4_compareWords_4 rfl ?_
    by_cases h1 : (m.1 a1 7) ≤ x2
    · have hf := ite_pos h1 hf
      refine to_icT (q := 100) (op := .ge) h1 dX4_compareWords_7 rfl ?_
      cases hf
      exact to_vret dX4_compareWords_100 rfl rfl rfl hI
    · have hf := ite_neg h1 hf
      refine to_icF (q := 10) (op := .ge) 100 h1 dX4_compareWords_7 rfl rfl ?_
      refine to_aload_n (q := 11) rfl (by decide) dX4_compareWords_10 rfl ?_
      refine to_getR (q := 14) (b := 124) (k0 := 4) (C := RX4) (T := TX4) (N := 5) (j := 1) rfl fx_X4_15 (h_122 hS) rfl (iv_122_1 hI) dX4_compareWords_11 rfl ?_
      refine to_iload_n (q := 15) rfl dX4_compareWords_14 rfl ?_
      refine to_iconst (q := 16) ic_0 dX4_compareWords_15 rfl ?_
      obtain ⟨hb2, hf⟩ := ck_some hf
      refine to_iasj (q := 17) (h_124 hS) hb2 (rfl) dX4_compareWords_16 rfl ?_
      refine to_iconst (q := 18) ic_0 dX4_compareWords_17 rfl ?_
      refine to_istore_n (q := 19) [(3, .int (0 : Int32)), (0, .ref 122), (1, .ref a1), (2, .int x2)] rfl (by decide) dX4_compareWords_18 rfl ?_
      exact to_ext [(0, .ref 122), (1, .ref a1), (2, .int x2), (3, .int (0 : Int32))] (ext_cons rfl (ext_cons rfl (ext_cons rfl (ext_cons rfl ext_nil)))) (kX4_compareWords_19 hS ih FU hf (ha1) hI)
def fX4_compareWords (a1 : Nat) (m : Me) : Option (Me) := fX4_compareWords_2 FU a1 ((0 : Int32)) m
set_option maxRecDepth 20000 in
theorem kX4_compareWords {S : Sh} (hS : ShOK S) {res : Me} {a1 : Nat} {m : Me} (hf : fX4_compareWords a1 m = some res) (ha1 : kd a1 = 2) (hI : Inv m) : Call 3 mX4_compareWords [.ref 122, .ref a1] (S, m) none (S, res) ∧ Inv res := by
  refine call_of (P := InvS) (Nat.le_of_ble_eq_true rfl) (by simp [Value.category]) ?_
  show TT InvS (Call 2) mX4_compareWords (0, [(0, .ref 122), (1, .ref a1)], [], S, m) _ _
  unfold fX4_compareWords at hf
  refine to_iconst (q := 1) ic_0 dX4_compareWords_0 rfl ?_
  refine to_istore_n (q := 2) [(2, .int (0 : Int32)), (0, .ref 122), (1, .ref a1)] rfl (by decide) dX4_compareWords_1 rfl ?_
  exact to_ext [(0, .ref 122), (1, .ref a1), (2, .int (0 : Int32))] (ext_cons rfl (ext_cons rfl (ext_cons rfl ext_nil))) (kX4_compareWords_2 hS FU hf (ha1) hI)
def fX4_shortestAhead_58 (k8 : Nat → Int32 → Int32 → Int32 → Int32 → Me → Option (Int32 × Me)) (a1 : Nat) (x2 : Int32) (x3 : Int32) (x4 : Int32) (x5 : Int32) (m : Me) : Option (Int32 × Me) := k8 a1 x2 x3 x4 ((x5 + (1 : Int32))) m
set_option maxRecDepth 20000 in
theorem kX4_shortestAhead_58 {S : Sh} (hS : ShOK S) {res : Int32 × Me} {k8 : Nat → Int32 → Int32 → Int32 → Int32 → Me → Option (Int32 × Me)} (hk8 : ∀ {a1 : Nat} {x2 : Int32} {x3 : Int32} {x4 : Int32} {x5 : Int32} {m : Me}, k8 a1 x2 x3 x4 x5 m = some res → kd a1 = 2 → Inv m → TT InvS (Call 0) mX4_shortestAhead (8, [(0, .ref 122), (1, .ref a1), (2, .int x2), (3, .int x3), (4, .int x4), (5, .int x5)], [], S, m) (some (.int res.1)) (S, res.2)) {a1 : Nat} {x2 : Int32} {x3 : Int32} {x4 : Int32} {x5 : Int32} {m : Me} (hf : fX4_shortestAhead_58 k8 a1 x2 x3 x4 x5 m = some res) (ha1 : kd a1 = 2) (hI : Inv m) : TT InvS (Call 0) mX4_shortestAhead (58, [(0, .ref 122), (1, .ref a1), (2, .int x2), (3, .int x3), (4, .int x4), (5, .int x5)], [], S, m) (some (.int res.1)) (S, res.2) := by
  unfold fX4_shortestAhead_58 at hf
  refine to_iinc (q := 61) (v := (x5 + (1 : Int32))) rfl (congrArg (fun z => x5 + z) ic_1) [(5, .int (x5 + (1 : Int32))), (0, .ref 122), (1, .ref a1), (2, .int x2), (3, .int x3), (4, .int x4)] rfl (by decide) dX4_shortestAhead_58 rfl ?_
  refine to_goto (q := 8) dX4_shortestAhead_61 rfl ?_
  exact to_ext [(0, .ref 122), (1, .ref a1), (2, .int x2), (3, .int x3), (4, .int x4), (5, .int (x5 + (1 : Int32)))] (ext_cons rfl (ext_cons rfl (ext_cons rfl (ext_cons rfl (ext_cons rfl (ext_cons rfl ext_nil)))))) (hk8 hf (ha1) hI)
def fX4_shortestAhead_8 (n : Nat) (a1 : Nat) (x2 : Int32) (x3 : Int32) (x4 : Int32) (x5 : Int32) (m : Me) : Option (Int32 × Me) := match n with
  | 0 => none
  | n + 1 => if (m.1 a1 7) ≤ x5 then some (x4, m) else if ((x2 >>> (x5 &&& 31)) &&& (1 : Int32)) = (0 : Int32) then fX4_shortestAhead_58 (fX4_shortestAhead_8 n) a1 x2 x3 x4 x5 m else ck (inb ((x2 * (6 : Int32)) + x5) 384) (ck (inb ((x5 * (6 : Int32)) + x3) 36) (fX4_shortestAhead_58 (fX4_shortestAhead_8 n) a1 x2 x3 ((if ((m.1 125 ((x2 * (6 : Int32)) + x5).toNatClampNeg) - (m.1 123 ((x5 * (6 : Int32)) + x3).toNatClampNeg)) < x4 then ((m.1 125 ((x2 * (6 : Int32)) + x5).toNatClampNeg) - (m.1 123 ((x5 * (6 : Int32)) + x3).toNatClampNeg)) else x4)) x5 m))
set_option maxRecDepth 20000 in
theorem kX4_shortestAhead_8 {S : Sh} (hS : ShOK S) {res : Int32 × Me} (n : Nat) : ∀ {a1 : Nat} {x2 : Int32} {x3 : Int32} {x4 : Int32} {x5 : Int32} {m : Me}, fX4_shortestAhead_8 n a1 x2 x3 x4 x5 m = some res → kd a1 = 2 → Inv m → TT InvS (Call 0) mX4_shortestAhead (8, [(0, .ref 122), (1, .ref a1), (2, .int x2), (3, .int x3), (4, .int x4), (5, .int x5)], [], S, m) (some (.int res.1)) (S, res.2) := by
  induction n with
  | zero => intro a1 x2 x3 x4 x5 m hf; cases hf
  | succ n ih =>
    intro a1 x2 x3 x4 x5 m hf ha1 hI
    unfold fX4_shortestAhead_8 at hf
    refine to_iload (q := 10) rfl dX4_shortestAhead_8 rfl ?_
    refine to_aload_n (q := 11) rfl (kd_4 (ha1) (by decide)) dX4_shortestAhead_10 rfl ?_
    refine to_getI (q := 14) (k0 := 2) (C := RX2) (T := TX2) (N := 14) (j := 7) rfl fx_X4_21 (sh_kd hS ha1 (by decide)) rfl dX4_shortestAhead_11 rfl ?_
    by_cases h1 : (m.1 a1 7) ≤ x5
    · have hf := ite_pos h1 hf
      refine to_icT (q := 64) (op := .ge) h1 dX4_shortestAhead_14 rfl ?_
      refine to_iload (q := 66) rfl dX4_shortestAhead_64 rfl ?_
      cases hf
      exact to_iret dX4_shortestAhead_66 rfl rfl rfl rfl hI
    · have hf := ite_neg h1 hf
      refine to_icF (q := 17) (op := .ge) 64 h1 dX4_shortestAhead_14 rfl rfl ?_
      refine to_iload_n (q := 18) rfl dX4_shortestAhead_17 rfl ?_
      refine to_iload (q := 20) rfl dX4_shortestAhead_18 rfl ?_
      refine to_ishr (q := 21) dX4_shortestAhead_20 rfl ?_
      refine to_iconst (q := 22) ic_1 dX4_shortestAhead_21 rfl ?_
      refine to_iand (q := 23) dX4_shortestAhead_22 rfl ?_
      by_cases h2 : ((x2 >>> (x5 &&& 31)) &&& (1 : Int32)) = (0 : Int32)
      · have hf := ite_pos h2 hf
        refine to_ifT (q := 58) (op := .eq) h2 dX4_shortestAhead_23 rfl ?_
        exact to_ext [(0, .ref 122), (1, .ref a1), (2, .int x2), (3, .int x3), (4, .int x4), (5, .int x5)] (ext_cons rfl (ext_cons rfl (ext_cons rfl (ext_cons rfl (ext_cons rfl (ext_cons rfl ext_nil)))))) (kX4_shortestAhead_58 hS ih hf (ha1) hI)
      · have hf := ite_neg h2 hf
        refine to_ifF (q := 26) (op := .eq) 58 h2 dX4_shortestAhead_23 rfl rfl ?_
        refine to_iload (q := 28) rfl dX4_shortestAhead_26 rfl ?_
        refine to_aload_n (q := 29) rfl (by decide) dX4_shortestAhead_28 rfl ?_
        refine to_getR (q := 32) (b := 125) (k0 := 4) (C := RX4) (T := TX4) (N := 5) (j := 2) rfl fx_X4_18 (h_122 hS) rfl (iv_122_2 hI) dX4_shortestAhead_29 rfl ?_
        refine to_iload_n (q := 33) rfl dX4_shortestAhead_32 rfl ?_
        refine to_bipush (q := 35) bp_6 dX4_shortestAhead_33 rfl ?_
        refine to_imul (q := 36) dX4_shortestAhead_35 rfl ?_
        refine to_iload (q := 38) rfl dX4_shortestAhead_36 rfl ?_
        refine to_iadd (q := 39) dX4_shortestAhead_38 rfl ?_
        obtain ⟨hb3, hf⟩ := ck_some hf
        refine to_iaj (q := 40) (h_125 hS) hb3 (rfl) dX4_shortestAhead_39 rfl ?_
        refine to_aload_n (q := 41) rfl (by decide) dX4_shortestAhead_40 rfl ?_
        refine to_getR (q := 44) (b := 123) (k0 := 4) (C := RX4) (T := TX4) (N := 5) (j := 0) rfl fx_X4_9 (h_122 hS) rfl (iv_122_0 hI) dX4_shortestAhead_41 rfl ?_
        refine to_iload (q := 46) rfl dX4_shortestAhead_44 rfl ?_
        refine to_bipush (q := 48) bp_6 dX4_shortestAhead_46 rfl ?_
        refine to_imul (q := 49) dX4_shortestAhead_48 rfl ?_
        refine to_iload_n (q := 50) rfl dX4_shortestAhead_49 rfl ?_
        refine to_iadd (q := 51) dX4_shortestAhead_50 rfl ?_
        obtain ⟨hb4, hf⟩ := ck_some hf
        refine to_iaj (q := 52) (h_123 hS) hb4 (rfl) dX4_shortestAhead_51 rfl ?_
        refine to_isub (q := 53) dX4_shortestAhead_52 rfl ?_
        refine to_min (q := 56) dX4_shortestAhead_53 rfl (Nat.le_of_ble_eq_true rfl) (lc_min lm_X4_79) ?_
        refine to_istore (q := 58) [(4, .int (if ((m.1 125 ((x2 * (6 : Int32)) + x5).toNatClampNeg) - (m.1 123 ((x5 * (6 : Int32)) + x3).toNatClampNeg)) < x4 then ((m.1 125 ((x2 * (6 : Int32)) + x5).toNatClampNeg) - (m.1 123 ((x5 * (6 : Int32)) + x3).toNatClampNeg)) else x4)), (0, .ref 122), (1, .ref a1), (2, .int x2), (3, .int x3), (5, .int x5)] rfl (by decide) dX4_shortestAhead_56 rfl ?_
        exact to_ext [(0, .ref 122), (1, .ref a1), (2, .int x2), (3, .int x3), (4, .int (if ((m.1 125 ((x2 * (6 : Int32)) + x5).toNatClampNeg) - (m.1 123 ((x5 * (6 : Int32)) + x3).toNatClampNeg)) < x4 then ((m.1 125 ((x2 * (6 : Int32)) + x5).toNatClampNeg) - (m.1 123 ((x5 * (6 : Int32)) + x3).toNatClampNeg)) else x4)), (5, .int x5)] (ext_cons rfl (ext_cons rfl (ext_cons rfl (ext_cons rfl (ext_cons rfl (ext_cons rfl ext_nil)))))) (kX4_shortestAhead_58 hS ih hf (ha1) hI)
def fX4_shortestAhead (a1 : Nat) (x2 : Int32) (x3 : Int32) (m : Me) : Option (Int32 × Me) := fX4_shortestAhead_8 FU a1 x2 x3 ((1000 : Int32)) ((0 : Int32)) m
set_option maxRecDepth 20000 in
theorem kX4_shortestAhead {S : Sh} (hS : ShOK S) {res : Int32 × Me} {a1 : Nat} {x2 : Int32} {x3 : Int32} {m : Me} (hf : fX4_shortestAhead a1 x2 x3 m = some res) (ha1 : kd a1 = 2) (hI : Inv m) : Call 1 mX4_shortestAhead [.ref 122, .ref a1, .int x2, .int x3] (S, m) (some (.int res.1)) (S, res.2) ∧ Inv res.2 := by
  refine call_of (P := InvS) (Nat.le_of_ble_eq_true rfl) (by simp [Value.category]) ?_
  show TT InvS (Call 0) mX4_shortestAhead (0, [(0, .ref 122), (1, .ref a1), (2, .int x2), (3, .int x3)], [], S, m) _ _
  unfold fX4_shortestAhead at hf
  refine to_sipush (q := 3) sp_1000 dX4_shortestAhead_0 rfl ?_
  refine to_istore (q := 5) [(4, .int (1000 : Int32)), (0, .ref 122), (1, .ref a1), (2, .int x2), (3, .int x3)] rfl (by decide) dX4_shortestAhead_3 rfl ?_
  refine to_iconst (q := 6) ic_0 dX4_shortestAhead_5 rfl ?_
  refine to_istore (q := 8) [(5, .int (0 : Int32)), (4, .int (1000 : Int32)), (0, .ref 122), (1, .ref a1), (2, .int x2), (3, .int x3)] rfl (by decide) dX4_shortestAhead_6 rfl ?_
  exact to_ext [(0, .ref 122), (1, .ref a1), (2, .int x2), (3, .int x3), (4, .int (1000 : Int32)), (5, .int (0 : Int32))] (ext_cons rfl (ext_cons rfl (ext_cons rfl (ext_cons rfl (ext_cons rfl (ext_cons rfl ext_nil)))))) (kX4_shortestAhead_8 hS FU hf (ha1) hI)
def fX4_findShortest_95 (k2 : Nat → Int32 → Int32 → Me → Option (Me)) (a1 : Nat) (x2 : Int32) (x3 : Int32) (m : Me) : Option (Me) := k2 a1 x2 ((x3 + (1 : Int32))) m
set_option maxRecDepth 20000 in
theorem kX4_findShortest_95 {S : Sh} (hS : ShOK S) {res : Me} {k2 : Nat → Int32 → Int32 → Me → Option (Me)} (hk2 : ∀ {a1 : Nat} {x2 : Int32} {x3 : Int32} {m : Me}, k2 a1 x2 x3 m = some res → kd a1 = 2 → Inv m → TT InvS (Call 1) mX4_findShortest (2, [(0, .ref 122), (1, .ref a1), (2, .int x2), (3, .int x3)], [], S, m) none (S, res)) {a1 : Nat} {x2 : Int32} {x3 : Int32} {m : Me} (hf : fX4_findShortest_95 k2 a1 x2 x3 m = some res) (ha1 : kd a1 = 2) (hI : Inv m) : TT InvS (Call 1) mX4_findShortest (95, [(0, .ref 122), (1, .ref a1), (2, .int x2), (3, .int x3)], [], S, m) none (S, res) := by
  unfold fX4_findShortest_95 at hf
  refine to_iinc (q := 98) (v := (x3 + (1 : Int32))) rfl (congrArg (fun z => x3 + z) ic_1) [(3, .int (x3 + (1 : Int32))), (0, .ref 122), (1, .ref a1), (2, .int x2)] rfl (by decide) dX4_findShortest_95 rfl ?_
  refine to_goto (q := 2) dX4_findShortest_98 rfl ?_
  exact to_ext [(0, .ref 122), (1, .ref a1), (2, .int x2), (3, .int (x3 + (1 : Int32)))] (ext_cons rfl (ext_cons rfl (ext_cons rfl (ext_cons rfl ext_nil)))) (hk2 hf (ha1) hI)
def fX4_findShortest_2 (n : Nat) (a1 : Nat) (x2 : Int32) (x3 : Int32) (m : Me) : Option (Me) := match n with
  | 0 => none
  | n + 1 => if (m.1 a1 7) ≤ x3 then some m else if (x2 &&& (((1 : Int32) <<< (x3 &&& 31)) ^^^ (-1 : Int32))) = x2 then ck (inb ((x2 * (6 : Int32)) + x3) 384) (fX4_findShortest_95 (fX4_findShortest_2 n) a1 x2 x3 (setI m 125 ((x2 * (6 : Int32)) + x3).toNatClampNeg (1000 : Int32))) else if (x2 &&& (((1 : Int32) <<< (x3 &&& 31)) ^^^ (-1 : Int32))) = (0 : Int32) then ck (inb x3 6) (ck (inb ((x2 * (6 : Int32)) + x3) 384) (fX4_findShortest_95 (fX4_findShortest_2 n) a1 x2 x3 (setI m 125 ((x2 * (6 : Int32)) + x3).toNatClampNeg (m.1 (a1 + 7 + 2 * x3.toNatClampNeg) 1)))) else ck (inb x3 6) (cl2 (fX4_shortestAhead a1 ((x2 &&& (((1 : Int32) <<< (x3 &&& 31)) ^^^ (-1 : Int32)))) x3 m) fun r7 m8 => ck (inb ((x2 * (6 : Int32)) + x3) 384) (fX4_findShortest_95 (fX4_findShortest_2 n) a1 x2 x3 (setI m8 125 ((x2 * (6 : Int32)) + x3).toNatClampNeg ((m.1 (a1 + 7 + 2 * x3.toNatClampNeg) 1) + r7))))
set_option maxRecDepth 20000 in
theorem kX4_findShortest_2 {S : Sh} (hS : ShOK S) {res : Me} (n : Nat) : ∀ {a1 : Nat} {x2 : Int32} {x3 : Int32} {m : Me}, fX4_findShortest_2 n a1 x2 x3 m = some res → kd a1 = 2 → Inv m → TT InvS (Call 1) mX4_findShortest (2, [(0, .ref 122), (1, .ref a1), (2, .int x2), (3, .int x3)], [], S, m) none (S, res) := by
  induction n with
  | zero => intro a1 x2 x3 m hf; cases hf
  | succ n ih =>
    intro a1 x2 x3 m hf ha1 hI
    unfold fX4_findShortest_2 at hf
    refine to_iload_n (q := 3) rfl dX4_findShortest_2 rfl ?_
    refine to_aload_n (q := 4) rfl (kd_4 (ha1) (by decide)) dX4_findShortest_3 rfl ?_
    refine to_getI (q := 7) (k0 := 2) (C := RX2) (T := TX2) (N := 14) (j := 7) rfl fx_X4_21 (sh_kd hS ha1 (by decide)) rfl dX4_findShortest_4 rfl ?_
    by_cases h1 : (m.1 a1 7) ≤ x3
    · have hf := ite_pos h1 hf
      refine to_icT (q := 101) (op := .ge) h1 dX4_findShortest_7 rfl ?_
      cases hf
      exact to_vret dX4_findShortest_101 rfl rfl rfl hI
    · have hf := ite_neg h1 hf
      refine to_icF (q := 10) (op := .ge) 101 h1 dX4_findShortest_7 rfl rfl ?_
      refine to_iload_n (q := 11) rfl dX4_findShortest_10 rfl ?_
      refine to_bipush (q := 13) bp_6 dX4_findShortest_11 rfl ?_
      refine to_imul (q := 14) dX4_findShortest_13 rfl ?_
      refine to_iload_n (q := 15) rfl dX4_findShortest_14 rfl ?_
      refine to_iadd (q := 16) dX4_findShortest_15 rfl ?_
      refine to_istore (q := 18) [(4, .int ((x2 * (6 : Int32)) + x3)), (0, .ref 122), (1, .ref a1), (2, .int x2), (3, .int x3)] rfl (by decide) dX4_findShortest_16 rfl ?_
      refine to_iload_n (q := 19) rfl dX4_findShortest_18 rfl ?_
      refine to_iconst (q := 20) ic_1 dX4_findShortest_19 rfl ?_
      refine to_iload_n (q := 21) rfl dX4_findShortest_20 rfl ?_
      refine to_ishl (q := 22) dX4_findShortest_21 rfl ?_
      refine to_iconst (q := 23) ic_m1 dX4_findShortest_22 rfl ?_
      refine to_ixor (q := 24) dX4_findShortest_23 rfl ?_
      refine to_iand (q := 25) dX4_findShortest_24 rfl ?_
      refine to_istore (q := 27) [(5, .int (x2 &&& (((1 : Int32) <<< (x3 &&& 31)) ^^^ (-1 : Int32)))), (4, .int ((x2 * (6 : Int32)) + x3)), (0, .ref 122), (1, .ref a1), (2, .int x2), (3, .int x3)] rfl (by decide) dX4_findShortest_25 rfl ?_
      refine to_iload (q := 29) rfl dX4_findShortest_27 rfl ?_
      refine to_iload_n (q := 30) rfl dX4_findShortest_29 rfl ?_
      by_cases h2 : (x2 &&& (((1 : Int32) <<< (x3 &&& 31)) ^^^ (-1 : Int32))) = x2
      · have hf := ite_pos h2 hf
        refine to_icF (q := 33) (op := .ne) 46 (fun z => z h2) dX4_findShortest_30 rfl rfl ?_
        refine to_aload_n (q := 34) rfl (by decide) dX4_findShortest_33 rfl ?_
        refine to_getR (q := 37) (b := 125) (k0 := 4) (C := RX4) (T := TX4) (N := 5) (j := 2) rfl fx_X4_18 (h_122 hS) rfl (iv_122_2 hI) dX4_findShortest_34 rfl ?_
        refine to_iload (q := 39) rfl dX4_findShortest_37 rfl ?_
        refine to_sipush (q := 42) sp_1000 dX4_findShortest_39 rfl ?_
        obtain ⟨hb12, hf⟩ := ck_some hf
        refine to_iasj (q := 43) (h_125 hS) hb12 (rfl) dX4_findShortest_42 rfl ?_
        refine to_goto (q := 95) dX4_findShortest_43 rfl ?_
        exact to_ext [(0, .ref 122), (1, .ref a1), (2, .int x2), (3, .int x3)] (ext_cons rfl (ext_cons rfl (ext_cons rfl (ext_cons rfl ext_nil)))) (kX4_findShortest_95 hS ih hf (ha1) hI)
      · have hf := ite_neg h2 hf
        refine to_icT (q := 46) (op := .ne) h2 dX4_findShortest_30 rfl ?_
        refine to_iload (q := 48) rfl dX4_findShortest_46 rfl ?_
        by_cases h3 : (x2 &&& (((1 : Int32) <<< (x3 &&& 31)) ^^^ (-1 : Int32))) = (0 : Int32)
        · have hf := ite_pos h3 hf
          refine to_ifF (q := 51) (op := .ne) 70 (fun z => z h3) dX4_findShortest_48 rfl rfl ?_
          refine to_aload_n (q := 52) rfl (by decide) dX4_findShortest_51 rfl ?_
          refine to_getR (q := 55) (b := 125) (k0 := 4) (C := RX4) (T := TX4) (N := 5) (j := 2) rfl fx_X4_18 (h_122 hS) rfl (iv_122_2 hI) dX4_findShortest_52 rfl ?_
          refine to_iload (q := 57) rfl dX4_findShortest_55 rfl ?_
          refine to_aload_n (q := 58) rfl (kd_4 (ha1) (by decide)) dX4_findShortest_57 rfl ?_
          refine to_getR (q := 61) (b := a1 + 3) (k0 := 2) (C := RX2) (T := TX2) (N := 14) (j := 6) rfl fx_X4_27 (sh_kd hS ha1 (by decide)) rfl (iv2w hI (ha1)) dX4_findShortest_58 rfl ?_
          refine to_iload_n (q := 62) rfl dX4_findShortest_61 rfl ?_
          obtain ⟨hb10, hf⟩ := ck_some hf
          refine to_aald (q := 63) (b := a1 + 7 + 2 * x3.toNatClampNeg) (sh_ln hS (kd2w (ha1)) (by decide)) (by decide) hb10 (ivW hI (ha1) hb10) dX4_findShortest_62 rfl ?_
          refine to_getI (q := 66) (k0 := 8) (C := RX8) (T := TX8) (N := 5) (j := 1) rfl fx_X4_76 (sh_kd hS (kdW (ha1) hb10) (by decide)) rfl dX4_findShortest_63 rfl ?_
          obtain ⟨hb11, hf⟩ := ck_some hf
          refine to_iasj (q := 67) (h_125 hS) hb11 (rfl) dX4_findShortest_66 rfl ?_
          refine to_goto (q := 95) dX4_findShortest_67 rfl ?_
          exact to_ext [(0, .ref 122), (1, .ref a1), (2, .int x2), (3, .int x3)] (ext_cons rfl (ext_cons rfl (ext_cons rfl (ext_cons rfl ext_nil)))) (kX4_findShortest_95 hS ih hf (ha1) hI)
        · have hf := ite_neg h3 hf
          refine to_ifT (q := 70) (op := .ne) h3 dX4_findShortest_48 rfl ?_
          refine to_aload_n (q := 71) rfl (by decide) dX4_findShortest_70 rfl ?_
          refine to_getR (q := 74) (b := 125) (k0 := 4) (C := RX4) (T := TX4) (N := 5) (j := 2) rfl fx_X4_18 (h_122 hS) rfl (iv_122_2 hI) dX4_findShortest_71 rfl ?_
          refine to_iload (q := 76) rfl dX4_findShortest_74 rfl ?_
          refine to_aload_n (q := 77) rfl (kd_4 (ha1) (by decide)) dX4_findShortest_76 rfl ?_
          refine to_getR (q := 80) (b := a1 + 3) (k0 := 2) (C := RX2) (T := TX2) (N := 14) (j := 6) rfl fx_X4_27 (sh_kd hS ha1 (by decide)) rfl (iv2w hI (ha1)) dX4_findShortest_77 rfl ?_
          refine to_iload_n (q := 81) rfl dX4_findShortest_80 rfl ?_
          obtain ⟨hb4, hf⟩ := ck_some hf
          refine to_aald (q := 82) (b := a1 + 7 + 2 * x3.toNatClampNeg) (sh_ln hS (kd2w (ha1)) (by decide)) (by decide) hb4 (ivW hI (ha1) hb4) dX4_findShortest_81 rfl ?_
          refine to_getI (q := 85) (k0 := 8) (C := RX8) (T := TX8) (N := 5) (j := 1) rfl fx_X4_76 (sh_kd hS (kdW (ha1) hb4) (by decide)) rfl dX4_findShortest_82 rfl ?_
          refine to_aload_n (q := 86) rfl (by decide) dX4_findShortest_85 rfl ?_
          refine to_aload_n (q := 87) rfl (kd_4 (ha1) (by decide)) dX4_findShortest_86 rfl ?_
          refine to_iload (q := 89) rfl dX4_findShortest_87 rfl ?_
          refine to_iload_n (q := 90) rfl dX4_findShortest_89 rfl ?_
          obtain ⟨r7, m8, hc5, hf⟩ := cl2_some hf
          have qc6 := kX4_shortestAhead hS hc5 (ha1) hI
          refine to_virtI (q := 93) mX4_shortestAhead [.ref a1, .int (x2 &&& (((1 : Int32) <<< (x3 &&& 31)) ^^^ (-1 : Int32))), .int x3] dX4_findShortest_90 rfl rfl (Nat.le_of_ble_eq_true rfl) mo_X4_shortestAhead mv_X4_89 (Or.inl ⟨_, _, _, h_122 hS, rfl, rfl⟩) (Call_mono (by decide) qc6.1) ?_
          have hI := qc6.2
          refine to_iadd (q := 94) dX4_findShortest_93 rfl ?_
          obtain ⟨hb9, hf⟩ := ck_some hf
          refine to_iasj (q := 95) (h_125 hS) hb9 (rfl) dX4_findShortest_94 rfl ?_
          exact to_ext [(0, .ref 122), (1, .ref a1), (2, .int x2), (3, .int x3)] (ext_cons rfl (ext_cons rfl (ext_cons rfl (ext_cons rfl ext_nil)))) (kX4_findShortest_95 hS ih hf (ha1) hI)
def fX4_findShortest (a1 : Nat) (x2 : Int32) (m : Me) : Option (Me) := fX4_findShortest_2 FU a1 x2 ((0 : Int32)) m
set_option maxRecDepth 20000 in
theorem kX4_findShortest {S : Sh} (hS : ShOK S) {res : Me} {a1 : Nat} {x2 : Int32} {m : Me} (hf : fX4_findShortest a1 x2 m = some res) (ha1 : kd a1 = 2) (hI : Inv m) : Call 2 mX4_findShortest [.ref 122, .ref a1, .int x2] (S, m) none (S, res) ∧ Inv res := by
  refine call_of (P := InvS) (Nat.le_of_ble_eq_true rfl) (by simp [Value.category]) ?_
  show TT InvS (Call 1) mX4_findShortest (0, [(0, .ref 122), (1, .ref a1), (2, .int x2)], [], S, m) _ _
  unfold fX4_findShortest at hf
  refine to_iconst (q := 1) ic_0 dX4_findShortest_0 rfl ?_
  refine to_istore_n (q := 2) [(3, .int (0 : Int32)), (0, .ref 122), (1, .ref a1), (2, .int x2)] rfl (by decide) dX4_findShortest_1 rfl ?_
  exact to_ext [(0, .ref 122), (1, .ref a1), (2, .int x2), (3, .int (0 : Int32))] (ext_cons rfl (ext_cons rfl (ext_cons rfl (ext_cons rfl ext_nil)))) (kX4_findShortest_2 hS FU hf (ha1) hI)
def fX4_withoutHeld_35 (k5 : Nat → Int32 → Int32 → Int32 → Me → Option (Int32 × Me)) (a1 : Nat) (x2 : Int32) (x3 : Int32) (x4 : Int32) (m : Me) : Option (Int32 × Me) := k5 a1 x2 x3 ((x4 + (1 : Int32))) m
set_option maxRecDepth 20000 in
theorem kX4_withoutHeld_35 {S : Sh} (hS : ShOK S) {res : Int32 × Me} {k5 : Nat → Int32 → Int32 → Int32 → Me → Option (Int32 × Me)} (hk5 : ∀ {a1 : Nat} {x2 : Int32} {x3 : Int32} {x4 : Int32} {m : Me}, k5 a1 x2 x3 x4 m = some res → kd a1 = 2 → Inv m → TT InvS (Call 0) mX4_withoutHeld (5, [(0, .ref 122), (1, .ref a1), (2, .int x2), (3, .int x3), (4, .int x4)], [], S, m) (some (.int res.1)) (S, res.2)) {a1 : Nat} {x2 : Int32} {x3 : Int32} {x4 : Int32} {m : Me} (hf : fX4_withoutHeld_35 k5 a1 x2 x3 x4 m = some res) (ha1 : kd a1 = 2) (hI : Inv m) : TT InvS (Call 0) mX4_withoutHeld (35, [(0, .ref 122), (1, .ref a1), (2, .int x2), (3, .int x3), (4, .int x4)], [], S, m) (some (.int res.1)) (S, res.2) := by
  unfold fX4_withoutHeld_35 at hf
  refine to_iinc (q := 38) (v := (x4 + (1 : Int32))) rfl (congrArg (fun z => x4 + z) ic_1) [(4, .int (x4 + (1 : Int32))), (0, .ref 122), (1, .ref a1), (2, .int x2), (3, .int x3)] rfl (by decide) dX4_withoutHeld_35 rfl ?_
  refine to_goto (q := 5) dX4_withoutHeld_38 rfl ?_
  exact to_ext [(0, .ref 122), (1, .ref a1), (2, .int x2), (3, .int x3), (4, .int (x4 + (1 : Int32)))] (ext_cons rfl (ext_cons rfl (ext_cons rfl (ext_cons rfl (ext_cons rfl ext_nil))))) (hk5 hf (ha1) hI)
def fX4_withoutHeld_5 (n : Nat) (a1 : Nat) (x2 : Int32) (x3 : Int32) (x4 : Int32) (m : Me) : Option (Int32 × Me) := match n with
  | 0 => none
  | n + 1 => if (m.1 a1 7) ≤ x4 then some (x3, m) else ck (inb x4 6) (if ((m.1 124 x4.toNatClampNeg) &&& x2) = (0 : Int32) then fX4_withoutHeld_35 (fX4_withoutHeld_5 n) a1 x2 x3 x4 m else fX4_withoutHeld_35 (fX4_withoutHeld_5 n) a1 x2 ((x3 &&& (((1 : Int32) <<< (x4 &&& 31)) ^^^ (-1 : Int32)))) x4 m)
set_option maxRecDepth 20000 in
theorem kX4_withoutHeld_5 {S : Sh} (hS : ShOK S) {res : Int32 × Me} (n : Nat) : ∀ {a1 : Nat} {x2 : Int32} {x3 : Int32} {x4 : Int32} {m : Me}, fX4_withoutHeld_5 n a1 x2 x3 x4 m = some res → kd a1 = 2 → Inv m → TT InvS (Call 0) mX4_withoutHeld (5, [(0, .ref 122), (1, .ref a1), (2, .int x2), (3, .int x3), (4, .int x4)], [], S, m) (some (.int res.1)) (S, res.2) := by
  induction n with
  | zero => intro a1 x2 x3 x4 m hf; cases hf
  | succ n ih =>
    intro a1 x2 x3 x4 m hf ha1 hI
    unfold fX4_withoutHeld_5 at hf
    refine to_iload (q := 7) rfl dX4_withoutHeld_5 rfl ?_
    refine to_aload_n (q := 8) rfl (kd_4 (ha1) (by decide)) dX4_withoutHeld_7 rfl ?_
    refine to_getI (q := 11) (k0 := 2) (C := RX2) (T := TX2) (N := 14) (j := 7) rfl fx_X4_21 (sh_kd hS ha1 (by decide)) rfl dX4_withoutHeld_8 rfl ?_
    by_cases h1 : (m.1 a1 7) ≤ x4
    · have hf := ite_pos h1 hf
      refine to_icT (q := 41) (op := .ge) h1 dX4_withoutHeld_11 rfl ?_
      refine to_iload_n (q := 42) rfl dX4_withoutHeld_41 rfl ?_
      cases hf
      exact to_iret dX4_withoutHeld_42 rfl rfl rfl rfl hI
    · have hf := ite_neg h1 hf
      refine to_icF (q := 14) (op := .ge) 41 h1 dX4_withoutHeld_11 rfl rfl ?_
      refine to_aload_n (q := 15) rfl (by decide) dX4_withoutHeld_14 rfl ?_
      refine to_getR (q := 18) (b := 124) (k0 := 4) (C := RX4) (T := TX4) (N := 5) (j := 1) rfl fx_X4_15 (h_122 hS) rfl (iv_122_1 hI) dX4_withoutHeld_15 rfl ?_
      refine to_iload (q := 20) rfl dX4_withoutHeld_18 rfl ?_
      obtain ⟨hb2, hf⟩ := ck_some hf
      refine to_iaj (q := 21) (h_124 hS) hb2 (rfl) dX4_withoutHeld_20 rfl ?_
      refine to_iload_n (q := 22) rfl dX4_withoutHeld_21 rfl ?_
      refine to_iand (q := 23) dX4_withoutHeld_22 rfl ?_
      by_cases h3 : ((m.1 124 x4.toNatClampNeg) &&& x2) = (0 : Int32)
      · have hf := ite_pos h3 hf
        refine to_ifT (q := 35) (op := .eq) h3 dX4_withoutHeld_23 rfl ?_
        exact to_ext [(0, .ref 122), (1, .ref a1), (2, .int x2), (3, .int x3), (4, .int x4)] (ext_cons rfl (ext_cons rfl (ext_cons rfl (ext_cons rfl (ext_cons rfl ext_nil))))) (kX4_withoutHeld_35 hS ih hf (ha1) hI)
      · have hf := ite_neg h3 hf
        refine to_ifF (q := 26) (op := .eq) 35 h3 dX4_withoutHeld_23 rfl rfl ?_
        refine to_iload_n (q := 27) rfl dX4_withoutHeld_26 rfl ?_
        refine to_iconst (q := 28) ic_1 dX4_withoutHeld_27 rfl ?_
        refine to_iload (q := 30) rfl dX4_withoutHeld_28 rfl ?_
        refine to_ishl (q := 31) dX4_withoutHeld_30 rfl ?_
        refine to_iconst (q := 32) ic_m1 dX4_withoutHeld_31 rfl ?_
        refine to_ixor (q := 33) dX4_withoutHeld_32 rfl ?_
        refine to_iand (q := 34) dX4_withoutHeld_33 rfl ?_
        refine to_istore_n (q := 35) [(3, .int (x3 &&& (((1 : Int32) <<< (x4 &&& 31)) ^^^ (-1 : Int32)))), (0, .ref 122), (1, .ref a1), (2, .int x2), (4, .int x4)] rfl (by decide) dX4_withoutHeld_34 rfl ?_
        exact to_ext [(0, .ref 122), (1, .ref a1), (2, .int x2), (3, .int (x3 &&& (((1 : Int32) <<< (x4 &&& 31)) ^^^ (-1 : Int32)))), (4, .int x4)] (ext_cons rfl (ext_cons rfl (ext_cons rfl (ext_cons rfl (ext_cons rfl ext_nil))))) (kX4_withoutHeld_35 hS ih hf (ha1) hI)
def fX4_withoutHeld (a1 : Nat) (x2 : Int32) (m : Me) : Option (Int32 × Me) := fX4_withoutHeld_5 FU a1 x2 x2 ((0 : Int32)) m
set_option maxRecDepth 20000 in
theorem kX4_withoutHeld {S : Sh} (hS : ShOK S) {res : Int32 × Me} {a1 : Nat} {x2 : Int32} {m : Me} (hf : fX4_withoutHeld a1 x2 m = some res) (ha1 : kd a1 = 2) (hI : Inv m) : Call 1 mX4_withoutHeld [.ref 122, .ref a1, .int x2] (S, m) (some (.int res.1)) (S, res.2) ∧ Inv res.2 := by
  refine call_of (P := InvS) (Nat.le_of_ble_eq_true rfl) (by simp [Value.category]) ?_
  show TT InvS (Call 0) mX4_withoutHeld (0, [(0, .ref 122), (1, .ref a1), (2, .int x2)], [], S, m) _ _
  unfold fX4_withoutHeld at hf
  refine to_iload_n (q := 1) rfl dX4_withoutHeld_0 rfl ?_
  refine to_istore_n (q := 2) [(3, .int x2), (0, .ref 122), (1, .ref a1), (2, .int x2)] rfl (by decide) dX4_withoutHeld_1 rfl ?_
  refine to_iconst (q := 3) ic_0 dX4_withoutHeld_2 rfl ?_
  refine to_istore (q := 5) [(4, .int (0 : Int32)), (3, .int x2), (0, .ref 122), (1, .ref a1), (2, .int x2)] rfl (by decide) dX4_withoutHeld_3 rfl ?_
  exact to_ext [(0, .ref 122), (1, .ref a1), (2, .int x2), (3, .int x2), (4, .int (0 : Int32))] (ext_cons rfl (ext_cons rfl (ext_cons rfl (ext_cons rfl (ext_cons rfl ext_nil))))) (kX4_withoutHeld_5 hS FU hf (ha1) hI)
def fX4_shortestOf_7 (n : Nat) (a1 : Nat) (x2 : Int32) (x3 : Int32) (x4 : Int32) (m : Me) : Option (Int32 × Me) := match n with
  | 0 => none
  | n + 1 => if (m.1 a1 7) ≤ x4 then some (x3, m) else ck (inb ((x2 * (6 : Int32)) + x4) 384) (fX4_shortestOf_7 n a1 x2 ((if (m.1 125 ((x2 * (6 : Int32)) + x4).toNatClampNeg) < x3 then (m.1 125 ((x2 * (6 : Int32)) + x4).toNatClampNeg) else x3)) ((x4 + (1 : Int32))) m)
set_option maxRecDepth 20000 in
theorem kX4_shortestOf_7 {S : Sh} (hS : ShOK S) {res : Int32 × Me} (n : Nat) : ∀ {a1 : Nat} {x2 : Int32} {x3 : Int32} {x4 : Int32} {m : Me}, fX4_shortestOf_7 n a1 x2 x3 x4 m = some res → kd a1 = 2 → Inv m → TT InvS (Call 0) mX4_shortestOf (7, [(0, .ref 122), (1, .ref a1), (2, .int x2), (3, .int x3), (4, .int x4)], [], S, m) (some (.int res.1)) (S, res.2) := by
  induction n with
  | zero => intro a1 x2 x3 x4 m hf; cases hf
  | succ n ih =>
    intro a1 x2 x3 x4 m hf ha1 hI
    unfold fX4_shortestOf_7 at hf
    refine to_iload (q := 9) rfl dX4_shortestOf_7 rfl ?_
    refine to_aload_n (q := 10) rfl (kd_4 (ha1) (by decide)) dX4_shortestOf_9 rfl ?_
    refine to_getI (q := 13) (k0 := 2) (C := RX2) (T := TX2) (N := 14) (j := 7) rfl fx_X4_21 (sh_kd hS ha1 (by decide)) rfl dX4_shortestOf_10 rfl ?_
    by_cases h1 : (m.1 a1 7) ≤ x4
    · have hf := ite_pos h1 hf
      refine to_icT (q := 39) (op := .ge) h1 dX4_shortestOf_13 rfl ?_
      refine to_iload_n (q := 40) rfl dX4_shortestOf_39 rfl ?_
      cases hf
      exact to_iret dX4_shortestOf_40 rfl rfl rfl rfl hI
    · have hf := ite_neg h1 hf
      refine to_icF (q := 16) (op := .ge) 39 h1 dX4_shortestOf_13 rfl rfl ?_
      refine to_iload_n (q := 17) rfl dX4_shortestOf_16 rfl ?_
      refine to_aload_n (q := 18) rfl (by decide) dX4_shortestOf_17 rfl ?_
      refine to_getR (q := 21) (b := 125) (k0 := 4) (C := RX4) (T := TX4) (N := 5) (j := 2) rfl fx_X4_18 (h_122 hS) rfl (iv_122_2 hI) dX4_shortestOf_18 rfl ?_
      refine to_iload_n (q := 22) rfl dX4_shortestOf_21 rfl ?_
      refine to_bipush (q := 24) bp_6 dX4_shortestOf_22 rfl ?_
      refine to_imul (q := 25) dX4_shortestOf_24 rfl ?_
      refine to_iload (q := 27) rfl dX4_shortestOf_25 rfl ?_
      refine to_iadd (q := 28) dX4_shortestOf_27 rfl ?_
      obtain ⟨hb2, hf⟩ := ck_some hf
      refine to_iaj (q := 29) (h_125 hS) hb2 (rfl) dX4_shortestOf_28 rfl ?_
      refine to_min (q := 32) dX4_shortestOf_29 rfl (Nat.le_of_ble_eq_true rfl) (lc_min lm_X4_79) ?_
      refine to_istore_n (q := 33) [(3, .int (if (m.1 125 ((x2 * (6 : Int32)) + x4).toNatClampNeg) < x3 then (m.1 125 ((x2 * (6 : Int32)) + x4).toNatClampNeg) else x3)), (0, .ref 122), (1, .ref a1), (2, .int x2), (4, .int x4)] rfl (by decide) dX4_shortestOf_32 rfl ?_
      refine to_iinc (q := 36) (v := (x4 + (1 : Int32))) rfl (congrArg (fun z => x4 + z) ic_1) [(4, .int (x4 + (1 : Int32))), (3, .int (if (m.1 125 ((x2 * (6 : Int32)) + x4).toNatClampNeg) < x3 then (m.1 125 ((x2 * (6 : Int32)) + x4).toNatClampNeg) else x3)), (0, .ref 122), (1, .ref a1), (2, .int x2)] rfl (by decide) dX4_shortestOf_33 rfl ?_
      refine to_goto (q := 7) dX4_shortestOf_36 rfl ?_
      exact to_ext [(0, .ref 122), (1, .ref a1), (2, .int x2), (3, .int (if (m.1 125 ((x2 * (6 : Int32)) + x4).toNatClampNeg) < x3 then (m.1 125 ((x2 * (6 : Int32)) + x4).toNatClampNeg) else x3)), (4, .int (x4 + (1 : Int32)))] (ext_cons rfl (ext_cons rfl (ext_cons rfl (ext_cons rfl (ext_cons rfl ext_nil))))) (ih hf (ha1) hI)
def fX4_shortestOf (a1 : Nat) (x2 : Int32) (m : Me) : Option (Int32 × Me) := fX4_shortestOf_7 FU a1 x2 ((1000 : Int32)) ((0 : Int32)) m
set_option maxRecDepth 20000 in
theorem kX4_shortestOf {S : Sh} (hS : ShOK S) {res : Int32 × Me} {a1 : Nat} {x2 : Int32} {m : Me} (hf : fX4_shortestOf a1 x2 m = some res) (ha1 : kd a1 = 2) (hI : Inv m) : Call 1 mX4_shortestOf [.ref 122, .ref a1, .int x2] (S, m) (some (.int res.1)) (S, res.2) ∧ Inv res.2 := by
  refine call_of (P := InvS) (Nat.le_of_ble_eq_true rfl) (by simp [Value.category]) ?_
  show TT InvS (Call 0) mX4_shortestOf (0, [(0, .ref 122), (1, .ref a1), (2, .int x2)], [], S, m) _ _
  unfold fX4_shortestOf at hf
  refine to_sipush (q := 3) sp_1000 dX4_shortestOf_0 rfl ?_
  refine to_istore_n (q := 4) [(3, .int (1000 : Int32)), (0, .ref 122), (1, .ref a1), (2, .int x2)] rfl (by decide) dX4_shortestOf_3 rfl ?_
  refine to_iconst (q := 5) ic_0 dX4_shortestOf_4 rfl ?_
  refine to_istore (q := 7) [(4, .int (0 : Int32)), (3, .int (1000 : Int32)), (0, .ref 122), (1, .ref a1), (2, .int x2)] rfl (by decide) dX4_shortestOf_5 rfl ?_
  exact to_ext [(0, .ref 122), (1, .ref a1), (2, .int x2), (3, .int (1000 : Int32)), (4, .int (0 : Int32))] (ext_cons rfl (ext_cons rfl (ext_cons rfl (ext_cons rfl (ext_cons rfl ext_nil))))) (kX4_shortestOf_7 hS FU hf (ha1) hI)
def fX4_weigh_47 (m : Me) : Option (Me) := some m
set_option maxRecDepth 20000 in
theorem kX4_weigh_47 {S : Sh} (hS : ShOK S) {res : Me} {m : Me} (hf : fX4_weigh_47 m = some res) (hI : Inv m) : TT InvS (Call 1) mX4_weigh (47, [], [], S, m) none (S, res) := by
  unfold fX4_weigh_47 at hf
  cases hf
  exact to_vret dX4_weigh_47 rfl rfl rfl hI
def fX4_weigh_37 (x1 : Int32) (x2 : Int32) (m : Me) : Option (Me) := fX4_weigh_47 (setI (setI m 122 3 x1) 122 4 x2)
set_option maxRecDepth 20000 in
theorem kX4_weigh_37 {S : Sh} (hS : ShOK S) {res : Me} {x1 : Int32} {x2 : Int32} {m : Me} (hf : fX4_weigh_37 x1 x2 m = some res) (hI : Inv m) : TT InvS (Call 1) mX4_weigh (37, [(0, .ref 122), (1, .int x1), (2, .int x2)], [], S, m) none (S, res) := by
  unfold fX4_weigh_37 at hf
  refine to_aload_n (q := 38) rfl (by decide) dX4_weigh_37 rfl ?_
  refine to_iload_n (q := 39) rfl dX4_weigh_38 rfl ?_
  refine to_putI (q := 42) (ty := .int) (k0 := 4) (C := RX4) (T := TX4) (N := 5) (j := 3) rfl fx_X4_41 (h_122 hS) rfl pD_I (Or.inl rfl) (nf_I _) dX4_weigh_39 rfl ?_
  refine to_aload_n (q := 43) rfl (by decide) dX4_weigh_42 rfl ?_
  refine to_iload_n (q := 44) rfl dX4_weigh_43 rfl ?_
  refine to_putI (q := 47) (ty := .int) (k0 := 4) (C := RX4) (T := TX4) (N := 5) (j := 4) rfl fx_X4_44 (h_122 hS) rfl pD_I (Or.inl rfl) (nf_I _) dX4_weigh_44 rfl ?_
  exact to_ext [] ext_nil (kX4_weigh_47 hS hf hI)
def fX4_weigh (x1 : Int32) (x2 : Int32) (x3 : Int32) (m : Me) : Option (Me) := cl2 (fJ6_bitCount_0f7a4 x1 m) fun r3 m4 => cl2 (fJ6_bitCount_0f7a4 (m4.1 122 3) m4) fun r7 m8 => if x3 < x2 then fX4_weigh_47 m8 else if (0 : Int32) < (r3 - r7) then fX4_weigh_37 x1 x2 m8 else if (r3 - r7) = (0 : Int32) then if (m8.1 122 4) ≤ x2 then fX4_weigh_47 m8 else fX4_weigh_37 x1 x2 m8 else fX4_weigh_47 m8
set_option maxRecDepth 20000 in
theorem kX4_weigh {S : Sh} (hS : ShOK S) {res : Me} {x1 : Int32} {x2 : Int32} {x3 : Int32} {m : Me} (hf : fX4_weigh x1 x2 x3 m = some res) (hI : Inv m) : Call 2 mX4_weigh [.ref 122, .int x1, .int x2, .int x3] (S, m) none (S, res) ∧ Inv res := by
  refine call_of (P := InvS) (Nat.le_of_ble_eq_true rfl) (by simp [Value.category]) ?_
  show TT InvS (Call 1) mX4_weigh (0, [(0, .ref 122), (1, .int x1), (2, .int x2), (3, .int x3)], [], S, m) _ _
  unfold fX4_weigh at hf
  refine to_iload_n (q := 1) rfl dX4_weigh_0 rfl ?_
  obtain ⟨r3, m4, hc1, hf⟩ := cl2_some hf
  have qc2 := kJ6_bitCount_0f7a4 hS hc1 hI
  refine to_statI (q := 4) mJ6_bitCount_0f7a4 [.int x1] dX4_weigh_1 rfl rfl (Nat.le_of_ble_eq_true rfl) mo_J6_bitCount_0f7a4 (Or.inl ml_X4_93) sa_J6_bitCount_0f7a4 (Call_mono (by decide) qc2.1) ?_
  have hI := qc2.2
  refine to_aload_n (q := 5) rfl (by decide) dX4_weigh_4 rfl ?_
  refine to_getI (q := 8) (k0 := 4) (C := RX4) (T := TX4) (N := 5) (j := 3) rfl fx_X4_41 (h_122 hS) rfl dX4_weigh_5 rfl ?_
  obtain ⟨r7, m8, hc5, hf⟩ := cl2_some hf
  have qc6 := kJ6_bitCount_0f7a4 hS hc5 hI
  refine to_statI (q := 11) mJ6_bitCount_0f7a4 [.int (m4.1 122 3)] dX4_weigh_8 rfl rfl (Nat.le_of_ble_eq_true rfl) mo_J6_bitCount_0f7a4 (Or.inl ml_X4_93) sa_J6_bitCount_0f7a4 (Call_mono (by decide) qc6.1) ?_
  have hI := qc6.2
  refine to_isub (q := 12) dX4_weigh_11 rfl ?_
  refine to_istore (q := 14) [(4, .int (r3 - r7)), (0, .ref 122), (1, .int x1), (2, .int x2), (3, .int x3)] rfl (by decide) dX4_weigh_12 rfl ?_
  refine to_iload_n (q := 15) rfl dX4_weigh_14 rfl ?_
  refine to_iload_n (q := 16) rfl dX4_weigh_15 rfl ?_
  by_cases h9 : x3 < x2
  · have hf := ite_pos h9 hf
    refine to_icT (q := 47) (op := .gt) h9 dX4_weigh_16 rfl ?_
    exact to_ext [] ext_nil (kX4_weigh_47 hS hf hI)
  · have hf := ite_neg h9 hf
    refine to_icF (q := 19) (op := .gt) 47 h9 dX4_weigh_16 rfl rfl ?_
    refine to_iload (q := 21) rfl dX4_weigh_19 rfl ?_
    by_cases h10 : (0 : Int32) < (r3 - r7)
    · have hf := ite_pos h10 hf
      refine to_ifT (q := 37) (op := .gt) h10 dX4_weigh_21 rfl ?_
      exact to_ext [(0, .ref 122), (1, .int x1), (2, .int x2)] (ext_cons rfl (ext_cons rfl (ext_cons rfl ext_nil))) (kX4_weigh_37 hS hf hI)
    · have hf := ite_neg h10 hf
      refine to_ifF (q := 24) (op := .gt) 37 h10 dX4_weigh_21 rfl rfl ?_
      refine to_iload (q := 26) rfl dX4_weigh_24 rfl ?_
      by_cases h11 : (r3 - r7) = (0 : Int32)
      · have hf := ite_pos h11 hf
        refine to_ifF (q := 29) (op := .ne) 47 (fun z => z h11) dX4_weigh_26 rfl rfl ?_
        refine to_iload_n (q := 30) rfl dX4_weigh_29 rfl ?_
        refine to_aload_n (q := 31) rfl (by decide) dX4_weigh_30 rfl ?_
        refine to_getI (q := 34) (k0 := 4) (C := RX4) (T := TX4) (N := 5) (j := 4) rfl fx_X4_44 (h_122 hS) rfl dX4_weigh_31 rfl ?_
        by_cases h12 : (m8.1 122 4) ≤ x2
        · have hf := ite_pos h12 hf
          refine to_icT (q := 47) (op := .ge) h12 dX4_weigh_34 rfl ?_
          exact to_ext [] ext_nil (kX4_weigh_47 hS hf hI)
        · have hf := ite_neg h12 hf
          refine to_icF (q := 37) (op := .ge) 47 h12 dX4_weigh_34 rfl rfl ?_
          exact to_ext [(0, .ref 122), (1, .int x1), (2, .int x2)] (ext_cons rfl (ext_cons rfl (ext_cons rfl ext_nil))) (kX4_weigh_37 hS hf hI)
      · have hf := ite_neg h11 hf
        refine to_ifT (q := 47) (op := .ne) h11 dX4_weigh_26 rfl ?_
        exact to_ext [] ext_nil (kX4_weigh_47 hS hf hI)
def fX4_packWords_102 (k53 : Nat → Int32 → Int32 → Me → Option (Me)) (a1 : Nat) (x2 : Int32) (x3 : Int32) (m : Me) : Option (Me) := k53 a1 x2 ((x3 + (1 : Int32))) m
set_option maxRecDepth 20000 in
theorem kX4_packWords_102 {S : Sh} (hS : ShOK S) {res : Me} {k53 : Nat → Int32 → Int32 → Me → Option (Me)} (hk53 : ∀ {a1 : Nat} {x2 : Int32} {x3 : Int32} {m : Me}, k53 a1 x2 x3 m = some res → kd a1 = 2 → Inv m → TT InvS (Call 3) mX4_packWords (53, [(0, .ref 122), (1, .ref a1), (2, .int x2), (3, .int x3)], [], S, m) none (S, res)) {a1 : Nat} {x2 : Int32} {x3 : Int32} {m : Me} (hf : fX4_packWords_102 k53 a1 x2 x3 m = some res) (ha1 : kd a1 = 2) (hI : Inv m) : TT InvS (Call 3) mX4_packWords (102, [(0, .ref 122), (1, .ref a1), (2, .int x2), (3, .int x3)], [], S, m) none (S, res) := by
  unfold fX4_packWords_102 at hf
  refine to_iinc (q := 105) (v := (x3 + (1 : Int32))) rfl (congrArg (fun z => x3 + z) ic_1) [(3, .int (x3 + (1 : Int32))), (0, .ref 122), (1, .ref a1), (2, .int x2)] rfl (by decide) dX4_packWords_102 rfl ?_
  refine to_goto (q := 53) dX4_packWords_105 rfl ?_
  exact to_ext [(0, .ref 122), (1, .ref a1), (2, .int x2), (3, .int (x3 + (1 : Int32)))] (ext_cons rfl (ext_cons rfl (ext_cons rfl (ext_cons rfl ext_nil)))) (hk53 hf (ha1) hI)
def fX4_packWords_53 (n : Nat) (a1 : Nat) (x2 : Int32) (x3 : Int32) (m : Me) : Option (Me) := match n with
  | 0 => none
  | n + 1 => if ((1 : Int32) <<< ((m.1 a1 7) &&& 31)) ≤ x3 then some m else if (x3 &&& (x2 ^^^ (-1 : Int32))) = (0 : Int32) then cl1 (fX4_findShortest a1 x3 m) fun m15 => cl2 (fX4_withoutHeld a1 x3 m15) fun r18 m19 => cl2 (fX4_shortestOf a1 r18 m19) fun r22 m23 => cl1 (fX4_weigh x3 r22 (((m23.1 a1 0) * (m23.1 a1 1))) m23) fun m26 => fX4_packWords_102 (fX4_packWords_53 n) a1 x2 x3 m26 else fX4_packWords_102 (fX4_packWords_53 n) a1 x2 x3 m
set_option maxRecDepth 20000 in
theorem kX4_packWords_53 {S : Sh} (hS : ShOK S) {res : Me} (n : Nat) : ∀ {a1 : Nat} {x2 : Int32} {x3 : Int32} {m : Me}, fX4_packWords_53 n a1 x2 x3 m = some res → kd a1 = 2 → Inv m → TT InvS (Call 3) mX4_packWords (53, [(0, .ref 122), (1, .ref a1), (2, .int x2), (3, .int x3)], [], S, m) none (S, res) := by
  induction n with
  | zero => intro a1 x2 x3 m hf; cases hf
  | succ n ih =>
    intro a1 x2 x3 m hf ha1 hI
    unfold fX4_packWords_53 at hf
    refine to_iload_n (q := 54) rfl dX4_packWords_53 rfl ?_
    refine to_iconst (q := 55) ic_1 dX4_packWords_54 rfl ?_
    refine to_aload_n (q := 56) rfl (kd_4 (ha1) (by decide)) dX4_packWords_55 rfl ?_
    refine to_getI (q := 59) (k0 := 2) (C := RX2) (T := TX2) (N := 14) (j := 7) rfl fx_X4_21 (sh_kd hS ha1 (by decide)) rfl dX4_packWords_56 rfl ?_
    refine to_ishl (q := 60) dX4_packWords_59 rfl ?_
    by_cases h11 : ((1 : Int32) <<< ((m.1 a1 7) &&& 31)) ≤ x3
    · have hf := ite_pos h11 hf
      refine to_icT (q := 108) (op := .ge) h11 dX4_packWords_60 rfl ?_
      cases hf
      exact to_vret dX4_packWords_108 rfl rfl rfl hI
    · have hf := ite_neg h11 hf
      refine to_icF (q := 63) (op := .ge) 108 h11 dX4_packWords_60 rfl rfl ?_
      refine to_iload_n (q := 64) rfl dX4_packWords_63 rfl ?_
      refine to_iload_n (q := 65) rfl dX4_packWords_64 rfl ?_
      refine to_iconst (q := 66) ic_m1 dX4_packWords_65 rfl ?_
      refine to_ixor (q := 67) dX4_packWords_66 rfl ?_
      refine to_iand (q := 68) dX4_packWords_67 rfl ?_
      by_cases h12 : (x3 &&& (x2 ^^^ (-1 : Int32))) = (0 : Int32)
      · have hf := ite_pos h12 hf
        refine to_ifF (q := 71) (op := .ne) 102 (fun z => z h12) dX4_packWords_68 rfl rfl ?_
        refine to_aload_n (q := 72) rfl (by decide) dX4_packWords_71 rfl ?_
        refine to_aload_n (q := 73) rfl (kd_4 (ha1) (by decide)) dX4_packWords_72 rfl ?_
        refine to_iload_n (q := 74) rfl dX4_packWords_73 rfl ?_
        obtain ⟨m15, hc13, hf⟩ := cl1_some hf
        have qc14 := kX4_findShortest hS hc13 (ha1) hI
        refine to_virtV (q := 77) mX4_findShortest [.ref a1, .int x3] dX4_packWords_74 rfl rfl (Nat.le_of_ble_eq_true rfl) mo_X4_findShortest mv_X4_47 (Or.inl ⟨_, _, _, h_122 hS, rfl, rfl⟩) (Call_mono (by decide) qc14.1) ?_
        have hI := qc14.2
        refine to_aload_n (q := 78) rfl (by decide) dX4_packWords_77 rfl ?_
        refine to_iload_n (q := 79) rfl dX4_packWords_78 rfl ?_
        refine to_aload_n (q := 80) rfl (by decide) dX4_packWords_79 rfl ?_
        refine to_aload_n (q := 81) rfl (kd_4 (ha1) (by decide)) dX4_packWords_80 rfl ?_
        refine to_aload_n (q := 82) rfl (by decide) dX4_packWords_81 rfl ?_
        refine to_aload_n (q := 83) rfl (kd_4 (ha1) (by decide)) dX4_packWords_82 rfl ?_
        refine to_iload_n (q := 84) rfl dX4_packWords_83 rfl ?_
        obtain ⟨r18, m19, hc16, hf⟩ := cl2_some hf
        have qc17 := kX4_withoutHeld hS hc16 (ha1) hI
        refine to_virtI (q := 87) mX4_withoutHeld [.ref a1, .int x3] dX4_packWords_84 rfl rfl (Nat.le_of_ble_eq_true rfl) mo_X4_withoutHeld mv_X4_51 (Or.inl ⟨_, _, _, h_122 hS, rfl, rfl⟩) (Call_mono (by decide) qc17.1) ?_
        have hI := qc17.2
        obtain ⟨r22, m23, hc20, hf⟩ := cl2_some hf
        have qc21 := kX4_shortestOf hS hc20 (ha1) hI
        refine to_virtI (q := 90) mX4_shortestOf [.ref a1, .int r18] dX4_packWords_87 rfl rfl (Nat.le_of_ble_eq_true rfl) mo_X4_shortestOf mv_X4_55 (Or.inl ⟨_, _, _, h_122 hS, rfl, rfl⟩) (Call_mono (by decide) qc21.1) ?_
        have hI := qc21.2
        refine to_aload_n (q := 91) rfl (kd_4 (ha1) (by decide)) dX4_packWords_90 rfl ?_
        refine to_getI (q := 94) (k0 := 2) (C := RX2) (T := TX2) (N := 14) (j := 0) rfl fx_X4_58 (sh_kd hS ha1 (by decide)) rfl dX4_packWords_91 rfl ?_
        refine to_aload_n (q := 95) rfl (kd_4 (ha1) (by decide)) dX4_packWords_94 rfl ?_
        refine to_getI (q := 98) (k0 := 2) (C := RX2) (T := TX2) (N := 14) (j := 1) rfl fx_X4_61 (sh_kd hS ha1 (by decide)) rfl dX4_packWords_95 rfl ?_
        refine to_imul (q := 99) dX4_packWords_98 rfl ?_
        obtain ⟨m26, hc24, hf⟩ := cl1_some hf
        have qc25 := kX4_weigh hS hc24 hI
        refine to_virtV (q := 102) mX4_weigh [.int x3, .int r22, .int ((m23.1 a1 0) * (m23.1 a1 1))] dX4_packWords_99 rfl rfl (Nat.le_of_ble_eq_true rfl) mo_X4_weigh mv_X4_64 (Or.inl ⟨_, _, _, h_122 hS, rfl, rfl⟩) (Call_mono (by decide) qc25.1) ?_
        have hI := qc25.2
        exact to_ext [(0, .ref 122), (1, .ref a1), (2, .int x2), (3, .int x3)] (ext_cons rfl (ext_cons rfl (ext_cons rfl (ext_cons rfl ext_nil)))) (kX4_packWords_102 hS ih hf (ha1) hI)
      · have hf := ite_neg h12 hf
        refine to_ifT (q := 102) (op := .ne) h12 dX4_packWords_68 rfl ?_
        exact to_ext [(0, .ref 122), (1, .ref a1), (2, .int x2), (3, .int x3)] (ext_cons rfl (ext_cons rfl (ext_cons rfl (ext_cons rfl ext_nil)))) (kX4_packWords_102 hS ih hf (ha1) hI)
def fX4_packWords_30 (k4 : Nat → Int32 → Int32 → Me → Option (Me)) (a1 : Nat) (x2 : Int32) (x3 : Int32) (m : Me) : Option (Me) := k4 a1 x2 ((x3 + (1 : Int32))) m
set_option maxRecDepth 20000 in
theorem kX4_packWords_30 {S : Sh} (hS : ShOK S) {res : Me} {k4 : Nat → Int32 → Int32 → Me → Option (Me)} (hk4 : ∀ {a1 : Nat} {x2 : Int32} {x3 : Int32} {m : Me}, k4 a1 x2 x3 m = some res → kd a1 = 2 → Inv m → TT InvS (Call 3) mX4_packWords (4, [(0, .ref 122), (1, .ref a1), (2, .int x2), (3, .int x3)], [], S, m) none (S, res)) {a1 : Nat} {x2 : Int32} {x3 : Int32} {m : Me} (hf : fX4_packWords_30 k4 a1 x2 x3 m = some res) (ha1 : kd a1 = 2) (hI : Inv m) : TT InvS (Call 3) mX4_packWords (30, [(0, .ref 122), (1, .ref a1), (2, .int x2), (3, .int x3)], [], S, m) none (S, res) := by
  unfold fX4_packWords_30 at hf
  refine to_iinc (q := 33) (v := (x3 + (1 : Int32))) rfl (congrArg (fun z => x3 + z) ic_1) [(3, .int (x3 + (1 : Int32))), (0, .ref 122), (1, .ref a1), (2, .int x2)] rfl (by decide) dX4_packWords_30 rfl ?_
  refine to_goto (q := 4) dX4_packWords_33 rfl ?_
  exact to_ext [(0, .ref 122), (1, .ref a1), (2, .int x2), (3, .int (x3 + (1 : Int32)))] (ext_cons rfl (ext_cons rfl (ext_cons rfl (ext_cons rfl ext_nil)))) (hk4 hf (ha1) hI)
def fX4_packWords_4 (n : Nat) (a1 : Nat) (x2 : Int32) (x3 : Int32) (m : Me) : Option (Me) := match n with
  | 0 => none
  | n + 1 => if (m.1 a1 7) ≤ x3 then cl1 (fX4_compareWords a1 m) fun m4 => fX4_packWords_53 FU a1 x2 ((1 : Int32)) (setI (setI m4 122 3 (0 : Int32)) 122 4 (0 : Int32)) else ck (inb x3 6) (cl2 (fX8_hasBare (a1 + 7 + 2 * x3.toNatClampNeg) m) fun r8 m9 => if r8 = (0 : Int32) then fX4_packWords_30 (fX4_packWords_4 n) a1 ((x2 ||| ((1 : Int32) <<< (x3 &&& 31)))) x3 m9 else fX4_packWords_30 (fX4_packWords_4 n) a1 x2 x3 m9)
set_option maxRecDepth 20000 in
theorem kX4_packWords_4 {S : Sh} (hS : ShOK S) {res : Me} (n : Nat) : ∀ {a1 : Nat} {x2 : Int32} {x3 : Int32} {m : Me}, fX4_packWords_4 n a1 x2 x3 m = some res → kd a1 = 2 → Inv m → TT InvS (Call 3) mX4_packWords (4, [(0, .ref 122), (1, .ref a1), (2, .int x2), (3, .int x3)], [], S, m) none (S, res) := by
  induction n with
  | zero => intro a1 x2 x3 m hf; cases hf
  | succ n ih =>
    intro a1 x2 x3 m hf ha1 hI
    unfold fX4_packWords_4 at hf
    refine to_iload_n (q := 5) rfl dX4_packWords_4 rfl ?_
    refine to_aload_n (q := 6) rfl (kd_4 (ha1) (by decide)) dX4_packWords_5 rfl ?_
    refine to_getI (q := 9) (k0 := 2) (C := RX2) (T := TX2) (N := 14) (j := 7) rfl fx_X4_21 (sh_kd hS ha1 (by decide)) rfl dX4_packWords_6 rfl ?_
    by_cases h1 : (m.1 a1 7) ≤ x3
    · have hf := ite_pos h1 hf
      refine to_icT (q := 36) (op := .ge) h1 dX4_packWords_9 rfl ?_
      refine to_aload_n (q := 37) rfl (by decide) dX4_packWords_36 rfl ?_
      refine to_aload_n (q := 38) rfl (kd_4 (ha1) (by decide)) dX4_packWords_37 rfl ?_
      obtain ⟨m4, hc2, hf⟩ := cl1_some hf
      have qc3 := kX4_compareWords hS hc2 (ha1) hI
      refine to_virtV (q := 41) mX4_compareWords [.ref a1] dX4_packWords_38 rfl rfl (Nat.le_of_ble_eq_true rfl) mo_X4_compareWords mv_X4_37 (Or.inl ⟨_, _, _, h_122 hS, rfl, rfl⟩) (Call_mono (by decide) qc3.1) ?_
      have hI := qc3.2
      refine to_aload_n (q := 42) rfl (by decide) dX4_packWords_41 rfl ?_
      refine to_iconst (q := 43) ic_0 dX4_packWords_42 rfl ?_
      refine to_putI (q := 46) (ty := .int) (k0 := 4) (C := RX4) (T := TX4) (N := 5) (j := 3) rfl fx_X4_41 (h_122 hS) rfl pD_I (Or.inl rfl) (nf_I _) dX4_packWords_43 rfl ?_
      refine to_aload_n (q := 47) rfl (by decide) dX4_packWords_46 rfl ?_
      refine to_iconst (q := 48) ic_0 dX4_packWords_47 rfl ?_
      refine to_putI (q := 51) (ty := .int) (k0 := 4) (C := RX4) (T := TX4) (N := 5) (j := 4) rfl fx_X4_44 (h_122 hS) rfl pD_I (Or.inl rfl) (nf_I _) dX4_packWords_48 rfl ?_
      refine to_iconst (q := 52) ic_1 dX4_packWords_51 rfl ?_
      refine to_istore_n (q := 53) [(3, .int (1 : Int32)), (0, .ref 122), (1, .ref a1), (2, .int x2)] rfl (by decide) dX4_packWords_52 rfl ?_
      exact to_ext [(0, .ref 122), (1, .ref a1), (2, .int x2), (3, .int (1 : Int32))] (ext_cons rfl (ext_cons rfl (ext_cons rfl (ext_cons rfl ext_nil)))) (kX4_packWords_53 hS FU hf (ha1) hI)
    · have hf := ite_neg h1 hf
      refine to_icF (q := 12) (op := .ge) 36 h1 dX4_packWords_9 rfl rfl ?_
      refine to_aload_n (q := 13) rfl (kd_4 (ha1) (by decide)) dX4_packWords_12 rfl ?_
      refine to_getR (q := 16) (b := a1 + 3) (k0 := 2) (C := RX2) (T := TX2) (N := 14) (j := 6) rfl fx_X4_27 (sh_kd hS ha1 (by decide)) rfl (iv2w hI (ha1)) dX4_packWords_13 rfl ?_
      refine to_iload_n (q := 17) rfl dX4_packWords_16 rfl ?_
      obtain ⟨hb5, hf⟩ := ck_some hf
      refine to_aald (q := 18) (b := a1 + 7 + 2 * x3.toNatClampNeg) (sh_ln hS (kd2w (ha1)) (by decide)) (by decide) hb5 (ivW hI (ha1) hb5) dX4_packWords_17 rfl ?_
      obtain ⟨r8, m9, hc6, hf⟩ := cl2_some hf
      have qc7 := kX8_hasBare hS hc6 (kdW (ha1) hb5) hI
      refine to_virtI (q := 21) mX8_hasBare [] dX4_packWords_18 rfl rfl (Nat.le_of_ble_eq_true rfl) mo_X8_hasBare mv_X4_31 (Or.inl ⟨_, _, _, sh_kd hS (kdW (ha1) hb5) (by decide), rfl, rfl⟩) (Call_mono (by decide) qc7.1) ?_
      have hI := qc7.2
      by_cases h10 : r8 = (0 : Int32)
      · have hf := ite_pos h10 hf
        refine to_ifF (q := 24) (op := .ne) 30 (fun z => z h10) dX4_packWords_21 rfl rfl ?_
        refine to_iload_n (q := 25) rfl dX4_packWords_24 rfl ?_
        refine to_iconst (q := 26) ic_1 dX4_packWords_25 rfl ?_
        refine to_iload_n (q := 27) rfl dX4_packWords_26 rfl ?_
        refine to_ishl (q := 28) dX4_packWords_27 rfl ?_
        refine to_ior (q := 29) dX4_packWords_28 rfl ?_
        refine to_istore_n (q := 30) [(2, .int (x2 ||| ((1 : Int32) <<< (x3 &&& 31)))), (0, .ref 122), (1, .ref a1), (3, .int x3)] rfl (by decide) dX4_packWords_29 rfl ?_
        exact to_ext [(0, .ref 122), (1, .ref a1), (2, .int (x2 ||| ((1 : Int32) <<< (x3 &&& 31)))), (3, .int x3)] (ext_cons rfl (ext_cons rfl (ext_cons rfl (ext_cons rfl ext_nil)))) (kX4_packWords_30 hS ih hf (ha1) hI)
      · have hf := ite_neg h10 hf
        refine to_ifT (q := 30) (op := .ne) h10 dX4_packWords_21 rfl ?_
        exact to_ext [(0, .ref 122), (1, .ref a1), (2, .int x2), (3, .int x3)] (ext_cons rfl (ext_cons rfl (ext_cons rfl (ext_cons rfl ext_nil)))) (kX4_packWords_30 hS ih hf (ha1) hI)
def fX4_packWords (a1 : Nat) (m : Me) : Option (Me) := fX4_packWords_4 FU a1 ((0 : Int32)) ((0 : Int32)) m
set_option maxRecDepth 20000 in
theorem kX4_packWords {S : Sh} (hS : ShOK S) {res : Me} {a1 : Nat} {m : Me} (hf : fX4_packWords a1 m = some res) (ha1 : kd a1 = 2) (hI : Inv m) : Call 4 mX4_packWords [.ref 122, .ref a1] (S, m) none (S, res) ∧ Inv res := by
  refine call_of (P := InvS) (Nat.le_of_ble_eq_true rfl) (by simp [Value.category]) ?_
  show TT InvS (Call 3) mX4_packWords (0, [(0, .ref 122), (1, .ref a1)], [], S, m) _ _
  unfold fX4_packWords at hf
  refine to_iconst (q := 1) ic_0 dX4_packWords_0 rfl ?_
  refine to_istore_n (q := 2) [(2, .int (0 : Int32)), (0, .ref 122), (1, .ref a1)] rfl (by decide) dX4_packWords_1 rfl ?_
  refine to_iconst (q := 3) ic_0 dX4_packWords_2 rfl ?_
  refine to_istore_n (q := 4) [(3, .int (0 : Int32)), (2, .int (0 : Int32)), (0, .ref 122), (1, .ref a1)] rfl (by decide) dX4_packWords_3 rfl ?_
  exact to_ext [(0, .ref 122), (1, .ref a1), (2, .int (0 : Int32)), (3, .int (0 : Int32))] (ext_cons rfl (ext_cons rfl (ext_cons rfl (ext_cons rfl ext_nil)))) (kX4_packWords_4 hS FU hf (ha1) hI)
def fX9_sureLetter_30 (t0 : Int32) (m : Me) : Option (Int32 × Me) := some (t0, m)
set_option maxRecDepth 20000 in
theorem kX9_sureLetter_30 {S : Sh} (hS : ShOK S) {res : Int32 × Me} {t0 : Int32} {m : Me} (hf : fX9_sureLetter_30 t0 m = some res) (hI : Inv m) : TT InvS (Call 1) mX9_sureLetter (30, [], [.int t0], S, m) (some (.int res.1)) (S, res.2) := by
  unfold fX9_sureLetter_30 at hf
  cases hf
  exact to_iret dX9_sureLetter_30 rfl rfl rfl rfl hI
def fX9_sureLetter_19 (m : Me) : Option (Int32 × Me) := fX9_sureLetter_30 ((-3 : Int32)) m
set_option maxRecDepth 20000 in
theorem kX9_sureLetter_19 {S : Sh} (hS : ShOK S) {res : Int32 × Me} {m : Me} (hf : fX9_sureLetter_19 m = some res) (hI : Inv m) : TT InvS (Call 1) mX9_sureLetter (19, [], [], S, m) (some (.int res.1)) (S, res.2) := by
  unfold fX9_sureLetter_19 at hf
  refine to_bipush (q := 21) bp_m3 dX9_sureLetter_19 rfl ?_
  refine to_goto (q := 30) dX9_sureLetter_21 rfl ?_
  exact to_ext [] ext_nil (kX9_sureLetter_30 hS hf hI)
def fX9_sureLetter (x1 : Int32) (x2 : Int32) (m : Me) : Option (Int32 × Me) := cl2 (fX10_cellIndex x1 x2 m) fun r3 m4 => if r3 < (0 : Int32) then fX9_sureLetter_19 m4 else if r3 < (60 : Int32) then ck (inb r3 60) (fX9_sureLetter_30 ((m4.1 95 r3.toNatClampNeg)) m4) else fX9_sureLetter_19 m4
set_option maxRecDepth 20000 in
theorem kX9_sureLetter {S : Sh} (hS : ShOK S) {res : Int32 × Me} {x1 : Int32} {x2 : Int32} {m : Me} (hf : fX9_sureLetter x1 x2 m = some res) (hI : Inv m) : Call 2 mX9_sureLetter [.ref 94, .int x1, .int x2] (S, m) (some (.int res.1)) (S, res.2) ∧ Inv res.2 := by
  refine call_of (P := InvS) (Nat.le_of_ble_eq_true rfl) (by simp [Value.category]) ?_
  show TT InvS (Call 1) mX9_sureLetter (0, [(0, .ref 94), (1, .int x1), (2, .int x2)], [], S, m) _ _
  unfold fX9_sureLetter at hf
  refine to_iload_n (q := 1) rfl dX9_sureLetter_0 rfl ?_
  refine to_iload_n (q := 2) rfl dX9_sureLetter_1 rfl ?_
  obtain ⟨r3, m4, hc1, hf⟩ := cl2_some hf
  have qc2 := kX10_cellIndex hS hc1 hI
  refine to_statI (q := 5) mX10_cellIndex [.int x1, .int x2] dX9_sureLetter_2 rfl rfl (Nat.le_of_ble_eq_true rfl) mo_X10_cellIndex (Or.inr (by decide)) sa_X10_cellIndex (Call_mono (by decide) qc2.1) ?_
  have hI := qc2.2
  refine to_istore_n (q := 6) [(3, .int r3), (0, .ref 94), (1, .int x1), (2, .int x2)] rfl (by decide) dX9_sureLetter_5 rfl ?_
  refine to_iload_n (q := 7) rfl dX9_sureLetter_6 rfl ?_
  by_cases h5 : r3 < (0 : Int32)
  · have hf := ite_pos h5 hf
    refine to_ifT (q := 19) (op := .lt) h5 dX9_sureLetter_7 rfl ?_
    exact to_ext [] ext_nil (kX9_sureLetter_19 hS hf hI)
  · have hf := ite_neg h5 hf
    refine to_ifF (q := 10) (op := .lt) 19 h5 dX9_sureLetter_7 rfl rfl ?_
    refine to_iload_n (q := 11) rfl dX9_sureLetter_10 rfl ?_
    refine to_aload_n (q := 12) rfl (by decide) dX9_sureLetter_11 rfl ?_
    refine to_getR (q := 15) (b := 95) (k0 := 9) (C := RX9) (T := TX9) (N := 2) (j := 0) rfl fx_X9_9 (h_94 hS) rfl (iv_94_0 hI) dX9_sureLetter_12 rfl ?_
    refine to_alen (q := 16) (h_95 hS) (by decide) on_60 dX9_sureLetter_15 rfl ?_
    by_cases h6 : r3 < (60 : Int32)
    · have hf := ite_pos h6 hf
      refine to_icT (q := 24) (op := .lt) h6 dX9_sureLetter_16 rfl ?_
      refine to_aload_n (q := 25) rfl (by decide) dX9_sureLetter_24 rfl ?_
      refine to_getR (q := 28) (b := 95) (k0 := 9) (C := RX9) (T := TX9) (N := 2) (j := 0) rfl fx_X9_9 (h_94 hS) rfl (iv_94_0 hI) dX9_sureLetter_25 rfl ?_
      refine to_iload_n (q := 29) rfl dX9_sureLetter_28 rfl ?_
      obtain ⟨hb7, hf⟩ := ck_some hf
      refine to_iaj (q := 30) (h_95 hS) hb7 (rfl) dX9_sureLetter_29 rfl ?_
      exact to_ext [] ext_nil (kX9_sureLetter_30 hS hf hI)
    · have hf := ite_neg h6 hf
      refine to_icF (q := 19) (op := .lt) 24 h6 dX9_sureLetter_16 rfl rfl ?_
      exact to_ext [] ext_nil (kX9_sureLetter_19 hS hf hI)
def fX9_contradicts_70 (m : Me) : Option (Int32 × Me) := some ((0 : Int32), m)
set_option maxRecDepth 20000 in
theorem kX9_contradicts_70 {S : Sh} (hS : ShOK S) {res : Int32 × Me} {m : Me} (hf : fX9_contradicts_70 m = some res) (hI : Inv m) : TT InvS (Call 2) mX9_contradicts (70, [], [], S, m) (some (.int res.1)) (S, res.2) := by
  unfold fX9_contradicts_70 at hf
  refine to_iconst (q := 71) ic_0 dX9_contradicts_70 rfl ?_
  cases hf
  exact to_iret dX9_contradicts_71 rfl (by decide) rfl rfl hI
def fX9_contradicts_64 (k2 : Nat → Nat → Int32 → Me → Option (Int32 × Me)) (a1 : Nat) (a2 : Nat) (x3 : Int32) (m : Me) : Option (Int32 × Me) := k2 a1 a2 ((x3 + (1 : Int32))) m
set_option maxRecDepth 20000 in
theorem kX9_contradicts_64 {S : Sh} (hS : ShOK S) {res : Int32 × Me} {k2 : Nat → Nat → Int32 → Me → Option (Int32 × Me)} (hk2 : ∀ {a1 : Nat} {a2 : Nat} {x3 : Int32} {m : Me}, k2 a1 a2 x3 m = some res → kd a1 = 8 → kd a2 = 7 → Inv m → TT InvS (Call 2) mX9_contradicts (2, [(0, .ref 94), (1, .ref a1), (2, .ref a2), (3, .int x3)], [], S, m) (some (.int res.1)) (S, res.2)) {a1 : Nat} {a2 : Nat} {x3 : Int32} {m : Me} (hf : fX9_contradicts_64 k2 a1 a2 x3 m = some res) (ha1 : kd a1 = 8) (ha2 : kd a2 = 7) (hI : Inv m) : TT InvS (Call 2) mX9_contradicts (64, [(0, .ref 94), (1, .ref a1), (2, .ref a2), (3, .int x3)], [], S, m) (some (.int res.1)) (S, res.2) := by
  unfold fX9_contradicts_64 at hf
  refine to_iinc (q := 67) (v := (x3 + (1 : Int32))) rfl (congrArg (fun z => x3 + z) ic_1) [(3, .int (x3 + (1 : Int32))), (0, .ref 94), (1, .ref a1), (2, .ref a2)] rfl (by decide) dX9_contradicts_64 rfl ?_
  refine to_goto (q := 2) dX9_contradicts_67 rfl ?_
  exact to_ext [(0, .ref 94), (1, .ref a1), (2, .ref a2), (3, .int (x3 + (1 : Int32)))] (ext_cons rfl (ext_cons rfl (ext_cons rfl (ext_cons rfl ext_nil)))) (hk2 hf (ha1) (ha2) hI)
def fX9_contradicts_2 (n : Nat) (a1 : Nat) (a2 : Nat) (x3 : Int32) (m : Me) : Option (Int32 × Me) := match n with
  | 0 => none
  | n + 1 => if (m.1 a1 1) ≤ x3 then fX9_contradicts_70 m else if (m.1 a2 2) ≤ ((m.1 a1 4) + x3) then fX9_contradicts_70 m else ck (inb ((m.1 a1 4) + x3) 30) (cl2 (fX9_sureLetter (m.1 a1 2) ((m.1 (a2 + 1) ((m.1 a1 4) + x3).toNatClampNeg)) m) fun r6 m7 => if r6 = (-3 : Int32) then fX9_contradicts_64 (fX9_contradicts_2 n) a1 a2 x3 m7 else ck (inb x3 8) (if r6 = (m7.1 (a1 + 1) x3.toNatClampNeg) then fX9_contradicts_64 (fX9_contradicts_2 n) a1 a2 x3 m7 else some ((1 : Int32), m7)))
set_option maxRecDepth 20000 in
theorem kX9_contradicts_2 {S : Sh} (hS : ShOK S) {res : Int32 × Me} (n : Nat) : ∀ {a1 : Nat} {a2 : Nat} {x3 : Int32} {m : Me}, fX9_contradicts_2 n a1 a2 x3 m = some res → kd a1 = 8 → kd a2 = 7 → Inv m → TT InvS (Call 2) mX9_contradicts (2, [(0, .ref 94), (1, .ref a1), (2, .ref a2), (3, .int x3)], [], S, m) (some (.int res.1)) (S, res.2) := by
  induction n with
  | zero => intro a1 a2 x3 m hf; cases hf
  | succ n ih =>
    intro a1 a2 x3 m hf ha1 ha2 hI
    unfold fX9_contradicts_2 at hf
    refine to_iload_n (q := 3) rfl dX9_contradicts_2 rfl ?_
    refine to_aload_n (q := 4) rfl (kd_4 (ha1) (by decide)) dX9_contradicts_3 rfl ?_
    refine to_getI (q := 7) (k0 := 8) (C := RX8) (T := TX8) (N := 5) (j := 1) rfl fx_X9_54 (sh_kd hS ha1 (by decide)) rfl dX9_contradicts_4 rfl ?_
    by_cases h1 : (m.1 a1 1) ≤ x3
    · have hf := ite_pos h1 hf
      refine to_icT (q := 70) (op := .ge) h1 dX9_contradicts_7 rfl ?_
      exact to_ext [] ext_nil (kX9_contradicts_70 hS hf hI)
    · have hf := ite_neg h1 hf
      refine to_icF (q := 10) (op := .ge) 70 h1 dX9_contradicts_7 rfl rfl ?_
      refine to_aload_n (q := 11) rfl (kd_4 (ha1) (by decide)) dX9_contradicts_10 rfl ?_
      refine to_getI (q := 14) (k0 := 8) (C := RX8) (T := TX8) (N := 5) (j := 4) rfl fx_X9_57 (sh_kd hS ha1 (by decide)) rfl dX9_contradicts_11 rfl ?_
      refine to_iload_n (q := 15) rfl dX9_contradicts_14 rfl ?_
      refine to_iadd (q := 16) dX9_contradicts_15 rfl ?_
      refine to_aload_n (q := 17) rfl (kd_4 (ha2) (by decide)) dX9_contradicts_16 rfl ?_
      refine to_getI (q := 20) (k0 := 7) (C := RX7) (T := TX7) (N := 3) (j := 2) rfl fx_X9_60 (sh_kd hS ha2 (by decide)) rfl dX9_contradicts_17 rfl ?_
      by_cases h2 : (m.1 a2 2) ≤ ((m.1 a1 4) + x3)
      · have hf := ite_pos h2 hf
        refine to_icT (q := 70) (op := .ge) h2 dX9_contradicts_20 rfl ?_
        exact to_ext [] ext_nil (kX9_contradicts_70 hS hf hI)
      · have hf := ite_neg h2 hf
        refine to_icF (q := 23) (op := .ge) 70 h2 dX9_contradicts_20 rfl rfl ?_
        refine to_aload_n (q := 24) rfl (by decide) dX9_contradicts_23 rfl ?_
        refine to_aload_n (q := 25) rfl (kd_4 (ha1) (by decide)) dX9_contradicts_24 rfl ?_
        refine to_getI (q := 28) (k0 := 8) (C := RX8) (T := TX8) (N := 5) (j := 2) rfl fx_X9_32 (sh_kd hS ha1 (by decide)) rfl dX9_contradicts_25 rfl ?_
        refine to_aload_n (q := 29) rfl (kd_4 (ha2) (by decide)) dX9_contradicts_28 rfl ?_
        refine to_getR (q := 32) (b := a2 + 1) (k0 := 7) (C := RX7) (T := TX7) (N := 3) (j := 0) rfl fx_X9_61 (sh_kd hS ha2 (by decide)) rfl (iv7a hI (ha2)) dX9_contradicts_29 rfl ?_
        refine to_aload_n (q := 33) rfl (kd_4 (ha1) (by decide)) dX9_contradicts_32 rfl ?_
        refine to_getI (q := 36) (k0 := 8) (C := RX8) (T := TX8) (N := 5) (j := 4) rfl fx_X9_57 (sh_kd hS ha1 (by decide)) rfl dX9_contradicts_33 rfl ?_
        refine to_iload_n (q := 37) rfl dX9_contradicts_36 rfl ?_
        refine to_iadd (q := 38) dX9_contradicts_37 rfl ?_
        obtain ⟨hb3, hf⟩ := ck_some hf
        refine to_iaj (q := 39) (sh_ln hS (kd7a (ha2)) (by decide)) hb3 (rfl) dX9_contradicts_38 rfl ?_
        obtain ⟨r6, m7, hc4, hf⟩ := cl2_some hf
        have qc5 := kX9_sureLetter hS hc4 hI
        refine to_virtI (q := 42) mX9_sureLetter [.int (m.1 a1 2), .int (m.1 (a2 + 1) ((m.1 a1 4) + x3).toNatClampNeg)] dX9_contradicts_39 rfl rfl (Nat.le_of_ble_eq_true rfl) mo_X9_sureLetter mv_X9_64 (Or.inl ⟨_, _, _, h_94 hS, rfl, rfl⟩) (Call_mono (by decide) qc5.1) ?_
        have hI := qc5.2
        refine to_istore (q := 44) [(4, .int r6), (0, .ref 94), (1, .ref a1), (2, .ref a2), (3, .int x3)] rfl (by decide) dX9_contradicts_42 rfl ?_
        refine to_iload (q := 46) rfl dX9_contradicts_44 rfl ?_
        refine to_bipush (q := 48) bp_m3 dX9_contradicts_46 rfl ?_
        by_cases h8 : r6 = (-3 : Int32)
        · have hf := ite_pos h8 hf
          refine to_icT (q := 64) (op := .eq) h8 dX9_contradicts_48 rfl ?_
          exact to_ext [(0, .ref 94), (1, .ref a1), (2, .ref a2), (3, .int x3)] (ext_cons rfl (ext_cons rfl (ext_cons rfl (ext_cons rfl ext_nil)))) (kX9_contradicts_64 hS ih hf (ha1) (ha2) hI)
        · have hf := ite_neg h8 hf
          refine to_icF (q := 51) (op := .eq) 64 h8 dX9_contradicts_48 rfl rfl ?_
          refine to_iload (q := 53) rfl dX9_contradicts_51 rfl ?_
          refine to_aload_n (q := 54) rfl (kd_4 (ha1) (by decide)) dX9_contradicts_53 rfl ?_
          refine to_getR (q := 57) (b := a1 + 1) (k0 := 8) (C := RX8) (T := TX8) (N := 5) (j := 0) rfl fx_X9_68 (sh_kd hS ha1 (by decide)) rfl (iv8 hI (ha1)) dX9_contradicts_54 rfl ?_
          refine to_iload_n (q := 58) rfl dX9_contradicts_57 rfl ?_
          obtain ⟨hb9, hf⟩ := ck_some hf
          refine to_iaj (q := 59) (sh_ln hS (kd8 (ha1)) (by decide)) hb9 (rfl) dX9_contradicts_58 rfl ?_
          by_cases h10 : r6 = (m7.1 (a1 + 1) x3.toNatClampNeg)
          · have hf := ite_pos h10 hf
            refine to_icT (q := 64) (op := .eq) h10 dX9_contradicts_59 rfl ?_
            exact to_ext [(0, .ref 94), (1, .ref a1), (2, .ref a2), (3, .int x3)] (ext_cons rfl (ext_cons rfl (ext_cons rfl (ext_cons rfl ext_nil)))) (kX9_contradicts_64 hS ih hf (ha1) (ha2) hI)
          · have hf := ite_neg h10 hf
            refine to_icF (q := 62) (op := .eq) 64 h10 dX9_contradicts_59 rfl rfl ?_
            refine to_iconst (q := 63) ic_1 dX9_contradicts_62 rfl ?_
            cases hf
            exact to_iret dX9_contradicts_63 rfl (by decide) rfl rfl hI
def fX9_contradicts (a1 : Nat) (a2 : Nat) (m : Me) : Option (Int32 × Me) := fX9_contradicts_2 FU a1 a2 ((0 : Int32)) m
set_option maxRecDepth 20000 in
theorem kX9_contradicts {S : Sh} (hS : ShOK S) {res : Int32 × Me} {a1 : Nat} {a2 : Nat} {m : Me} (hf : fX9_contradicts a1 a2 m = some res) (ha1 : kd a1 = 8) (ha2 : kd a2 = 7) (hI : Inv m) : Call 3 mX9_contradicts [.ref 94, .ref a1, .ref a2] (S, m) (some (.int res.1)) (S, res.2) ∧ Inv res.2 := by
  refine call_of (P := InvS) (Nat.le_of_ble_eq_true rfl) (by simp [Value.category]) ?_
  show TT InvS (Call 2) mX9_contradicts (0, [(0, .ref 94), (1, .ref a1), (2, .ref a2)], [], S, m) _ _
  unfold fX9_contradicts at hf
  refine to_iconst (q := 1) ic_0 dX9_contradicts_0 rfl ?_
  refine to_istore_n (q := 2) [(3, .int (0 : Int32)), (0, .ref 94), (1, .ref a1), (2, .ref a2)] rfl (by decide) dX9_contradicts_1 rfl ?_
  exact to_ext [(0, .ref 94), (1, .ref a1), (2, .ref a2), (3, .int (0 : Int32))] (ext_cons rfl (ext_cons rfl (ext_cons rfl (ext_cons rfl ext_nil)))) (kX9_contradicts_2 hS FU hf (ha1) (ha2) hI)
def fX9_learn_77 (m : Me) : Option (Me) := some m
set_option maxRecDepth 20000 in
theorem kX9_learn_77 {S : Sh} (hS : ShOK S) {res : Me} {m : Me} (hf : fX9_learn_77 m = some res) (hI : Inv m) : TT InvS (Call 1) mX9_learn (77, [], [], S, m) none (S, res) := by
  unfold fX9_learn_77 at hf
  cases hf
  exact to_vret dX9_learn_77 rfl rfl rfl hI
def fX9_learn_71 (k2 : Nat → Nat → Int32 → Me → Option (Me)) (a1 : Nat) (a2 : Nat) (x3 : Int32) (m : Me) : Option (Me) := k2 a1 a2 ((x3 + (1 : Int32))) m
set_option maxRecDepth 20000 in
theorem kX9_learn_71 {S : Sh} (hS : ShOK S) {res : Me} {k2 : Nat → Nat → Int32 → Me → Option (Me)} (hk2 : ∀ {a1 : Nat} {a2 : Nat} {x3 : Int32} {m : Me}, k2 a1 a2 x3 m = some res → kd a1 = 8 → kd a2 = 7 → Inv m → TT InvS (Call 1) mX9_learn (2, [(0, .ref 94), (1, .ref a1), (2, .ref a2), (3, .int x3)], [], S, m) none (S, res)) {a1 : Nat} {a2 : Nat} {x3 : Int32} {m : Me} (hf : fX9_learn_71 k2 a1 a2 x3 m = some res) (ha1 : kd a1 = 8) (ha2 : kd a2 = 7) (hI : Inv m) : TT InvS (Call 1) mX9_learn (71, [(0, .ref 94), (1, .ref a1), (2, .ref a2), (3, .int x3)], [], S, m) none (S, res) := by
  unfold fX9_learn_71 at hf
  refine to_iinc (q := 74) (v := (x3 + (1 : Int32))) rfl (congrArg (fun z => x3 + z) ic_1) [(3, .int (x3 + (1 : Int32))), (0, .ref 94), (1, .ref a1), (2, .ref a2)] rfl (by decide) dX9_learn_71 rfl ?_
  refine to_goto (q := 2) dX9_learn_74 rfl ?_
  exact to_ext [(0, .ref 94), (1, .ref a1), (2, .ref a2), (3, .int (x3 + (1 : Int32)))] (ext_cons rfl (ext_cons rfl (ext_cons rfl (ext_cons rfl ext_nil)))) (hk2 hf (ha1) (ha2) hI)
def fX9_learn_2 (n : Nat) (a1 : Nat) (a2 : Nat) (x3 : Int32) (m : Me) : Option (Me) := match n with
  | 0 => none
  | n + 1 => if (m.1 a1 1) ≤ x3 then fX9_learn_77 m else if (m.1 a2 2) ≤ ((m.1 a1 4) + x3) then fX9_learn_77 m else ck (inb ((m.1 a1 4) + x3) 30) (cl2 (fX10_cellIndex (m.1 a1 2) ((m.1 (a2 + 1) ((m.1 a1 4) + x3).toNatClampNeg)) m) fun r6 m7 => if r6 < (0 : Int32) then fX9_learn_71 (fX9_learn_2 n) a1 a2 x3 m7 else if (60 : Int32) ≤ r6 then fX9_learn_71 (fX9_learn_2 n) a1 a2 x3 m7 else ck (inb x3 8) (ck (inb r6 60) (fX9_learn_71 (fX9_learn_2 n) a1 a2 x3 (setI m7 95 r6.toNatClampNeg (m7.1 (a1 + 1) x3.toNatClampNeg)))))
set_option maxRecDepth 20000 in
theorem kX9_learn_2 {S : Sh} (hS : ShOK S) {res : Me} (n : Nat) : ∀ {a1 : Nat} {a2 : Nat} {x3 : Int32} {m : Me}, fX9_learn_2 n a1 a2 x3 m = some res → kd a1 = 8 → kd a2 = 7 → Inv m → TT InvS (Call 1) mX9_learn (2, [(0, .ref 94), (1, .ref a1), (2, .ref a2), (3, .int x3)], [], S, m) none (S, res) := by
  induction n with
  | zero => intro a1 a2 x3 m hf; cases hf
  | succ n ih =>
    intro a1 a2 x3 m hf ha1 ha2 hI
    unfold fX9_learn_2 at hf
    refine to_iload_n (q := 3) rfl dX9_learn_2 rfl ?_
    refine to_aload_n (q := 4) rfl (kd_4 (ha1) (by decide)) dX9_learn_3 rfl ?_
    refine to_getI (q := 7) (k0 := 8) (C := RX8) (T := TX8) (N := 5) (j := 1) rfl fx_X9_54 (sh_kd hS ha1 (by decide)) rfl dX9_learn_4 rfl ?_
    by_cases h1 : (m.1 a1 1) ≤ x3
    · have hf := ite_pos h1 hf
      refine to_icT (q := 77) (op := .ge) h1 dX9_learn_7 rfl ?_
      exact to_ext [] ext_nil (kX9_learn_77 hS hf hI)
    · have hf := ite_neg h1 hf
      refine to_icF (q := 10) (op := .ge) 77 h1 dX9_learn_7 rfl rfl ?_
      refine to_aload_n (q := 11) rfl (kd_4 (ha1) (by decide)) dX9_learn_10 rfl ?_
      refine to_getI (q := 14) (k0 := 8) (C := RX8) (T := TX8) (N := 5) (j := 4) rfl fx_X9_57 (sh_kd hS ha1 (by decide)) rfl dX9_learn_11 rfl ?_
      refine to_iload_n (q := 15) rfl dX9_learn_14 rfl ?_
      refine to_iadd (q := 16) dX9_learn_15 rfl ?_
      refine to_aload_n (q := 17) rfl (kd_4 (ha2) (by decide)) dX9_learn_16 rfl ?_
      refine to_getI (q := 20) (k0 := 7) (C := RX7) (T := TX7) (N := 3) (j := 2) rfl fx_X9_60 (sh_kd hS ha2 (by decide)) rfl dX9_learn_17 rfl ?_
      by_cases h2 : (m.1 a2 2) ≤ ((m.1 a1 4) + x3)
      · have hf := ite_pos h2 hf
        refine to_icT (q := 77) (op := .ge) h2 dX9_learn_20 rfl ?_
        exact to_ext [] ext_nil (kX9_learn_77 hS hf hI)
      · have hf := ite_neg h2 hf
        refine to_icF (q := 23) (op := .ge) 77 h2 dX9_learn_20 rfl rfl ?_
        refine to_aload_n (q := 24) rfl (kd_4 (ha1) (by decide)) dX9_learn_23 rfl ?_
        refine to_getI (q := 27) (k0 := 8) (C := RX8) (T := TX8) (N := 5) (j := 2) rfl fx_X9_32 (sh_kd hS ha1 (by decide)) rfl dX9_learn_24 rfl ?_
        refine to_aload_n (q := 28) rfl (kd_4 (ha2) (by decide)) dX9_learn_27 rfl ?_
        refine to_getR (q := 31) (b := a2 + 1) (k0 := 7) (C := RX7) (T := TX7) (N := 3) (j := 0) rfl fx_X9_61 (sh_kd hS ha2 (by decide)) rfl (iv7a hI (ha2)) dX9_learn_28 rfl ?_
        refine to_aload_n (q := 32) rfl (kd_4 (ha1) (by decide)) dX9_learn_31 rfl ?_
        refine to_getI (q := 35) (k0 := 8) (C := RX8) (T := TX8) (N := 5) (j := 4) rfl fx_X9_57 (sh_kd hS ha1 (by decide)) rfl dX9_learn_32 rfl ?_
        refine to_iload_n (q := 36) rfl dX9_learn_35 rfl ?_
        refine to_iadd (q := 37) dX9_learn_36 rfl ?_
        obtain ⟨hb3, hf⟩ := ck_some hf
        refine to_iaj (q := 38) (sh_ln hS (kd7a (ha2)) (by decide)) hb3 (rfl) dX9_learn_37 rfl ?_
        obtain ⟨r6, m7, hc4, hf⟩ := cl2_some hf
        have qc5 := kX10_cellIndex hS hc4 hI
        refine to_statI (q := 41) mX10_cellIndex [.int (m.1 a1 2), .int (m.1 (a2 + 1) ((m.1 a1 4) + x3).toNatClampNeg)] dX9_learn_38 rfl rfl (Nat.le_of_ble_eq_true rfl) mo_X10_cellIndex (Or.inr (by decide)) sa_X10_cellIndex (Call_mono (by decide) qc5.1) ?_
        have hI := qc5.2
        refine to_istore (q := 43) [(4, .int r6), (0, .ref 94), (1, .ref a1), (2, .ref a2), (3, .int x3)] rfl (by decide) dX9_learn_41 rfl ?_
        refine to_iload (q := 45) rfl dX9_learn_43 rfl ?_
        by_cases h8 : r6 < (0 : Int32)
        · have hf := ite_pos h8 hf
          refine to_ifT (q := 71) (op := .lt) h8 dX9_learn_45 rfl ?_
          exact to_ext [(0, .ref 94), (1, .ref a1), (2, .ref a2), (3, .int x3)] (ext_cons rfl (ext_cons rfl (ext_cons rfl (ext_cons rfl ext_nil)))) (kX9_learn_71 hS ih hf (ha1) (ha2) hI)
        · have hf := ite_neg h8 hf
          refine to_ifF (q := 48) (op := .lt) 71 h8 dX9_learn_45 rfl rfl ?_
          refine to_iload (q := 50) rfl dX9_learn_48 rfl ?_
          refine to_aload_n (q := 51) rfl (by decide) dX9_learn_50 rfl ?_
          refine to_getR (q := 54) (b := 95) (k0 := 9) (C := RX9) (T := TX9) (N := 2) (j := 0) rfl fx_X9_9 (h_94 hS) rfl (iv_94_0 hI) dX9_learn_51 rfl ?_
          refine to_alen (q := 55) (h_95 hS) (by decide) on_60 dX9_learn_54 rfl ?_
          by_cases h9 : (60 : Int32) ≤ r6
          · have hf := ite_pos h9 hf
            refine to_icT (q := 71) (op := .ge) h9 dX9_learn_55 rfl ?_
            exact to_ext [(0, .ref 94), (1, .ref a1), (2, .ref a2), (3, .int x3)] (ext_cons rfl (ext_cons rfl (ext_cons rfl (ext_cons rfl ext_nil)))) (kX9_learn_71 hS ih hf (ha1) (ha2) hI)
          · have hf := ite_neg h9 hf
            refine to_icF (q := 58) (op := .ge) 71 h9 dX9_learn_55 rfl rfl ?_
            refine to_aload_n (q := 59) rfl (by decide) dX9_learn_58 rfl ?_
            refine to_getR (q := 62) (b := 95) (k0 := 9) (C := RX9) (T := TX9) (N := 2) (j := 0) rfl fx_X9_9 (h_94 hS) rfl (iv_94_0 hI) dX9_learn_59 rfl ?_
            refine to_iload (q := 64) rfl dX9_learn_62 rfl ?_
            refine to_aload_n (q := 65) rfl (kd_4 (ha1) (by decide)) dX9_learn_64 rfl ?_
            refine to_getR (q := 68) (b := a1 + 1) (k0 := 8) (C := RX8) (T := TX8) (N := 5) (j := 0) rfl fx_X9_68 (sh_kd hS ha1 (by decide)) rfl (iv8 hI (ha1)) dX9_learn_65 rfl ?_
            refine to_iload_n (q := 69) rfl dX9_learn_68 rfl ?_
            obtain ⟨hb10, hf⟩ := ck_some hf
            refine to_iaj (q := 70) (sh_ln hS (kd8 (ha1)) (by decide)) hb10 (rfl) dX9_learn_69 rfl ?_
            obtain ⟨hb11, hf⟩ := ck_some hf
            refine to_iasj (q := 71) (h_95 hS) hb11 (rfl) dX9_learn_70 rfl ?_
            exact to_ext [(0, .ref 94), (1, .ref a1), (2, .ref a2), (3, .int x3)] (ext_cons rfl (ext_cons rfl (ext_cons rfl (ext_cons rfl ext_nil)))) (kX9_learn_71 hS ih hf (ha1) (ha2) hI)
def fX9_learn (a1 : Nat) (a2 : Nat) (m : Me) : Option (Me) := fX9_learn_2 FU a1 a2 ((0 : Int32)) m
set_option maxRecDepth 20000 in
theorem kX9_learn {S : Sh} (hS : ShOK S) {res : Me} {a1 : Nat} {a2 : Nat} {m : Me} (hf : fX9_learn a1 a2 m = some res) (ha1 : kd a1 = 8) (ha2 : kd a2 = 7) (hI : Inv m) : Call 2 mX9_learn [.ref 94, .ref a1, .ref a2] (S, m) none (S, res) ∧ Inv res := by
  refine call_of (P := InvS) (Nat.le_of_ble_eq_true rfl) (by simp [Value.category]) ?_
  show TT InvS (Call 1) mX9_learn (0, [(0, .ref 94), (1, .ref a1), (2, .ref a2)], [], S, m) _ _
  unfold fX9_learn at hf
  refine to_iconst (q := 1) ic_0 dX9_learn_0 rfl ?_
  refine to_istore_n (q := 2) [(3, .int (0 : Int32)), (0, .ref 94), (1, .ref a1), (2, .ref a2)] rfl (by decide) dX9_learn_1 rfl ?_
  exact to_ext [(0, .ref 94), (1, .ref a1), (2, .ref a2), (3, .int (0 : Int32))] (ext_cons rfl (ext_cons rfl (ext_cons rfl (ext_cons rfl ext_nil)))) (kX9_learn_2 hS FU hf (ha1) (ha2) hI)
def fX9_study_109 (m : Me) : Option (Me) := some m
set_option maxRecDepth 20000 in
theorem kX9_study_109 {S : Sh} (hS : ShOK S) {res : Me} {m : Me} (hf : fX9_study_109 m = some res) (hI : Inv m) : TT InvS (Call 4) mX9_study (109, [], [], S, m) none (S, res) := by
  unfold fX9_study_109 at hf
  cases hf
  exact to_vret dX9_study_109 rfl rfl rfl hI
def fX9_study_103 (k33 : Nat → Nat → Int32 → Me → Option (Me)) (a1 : Nat) (a2 : Nat) (x3 : Int32) (m : Me) : Option (Me) := k33 a1 a2 ((x3 + (1 : Int32))) m
set_option maxRecDepth 20000 in
theorem kX9_study_103 {S : Sh} (hS : ShOK S) {res : Me} {k33 : Nat → Nat → Int32 → Me → Option (Me)} (hk33 : ∀ {a1 : Nat} {a2 : Nat} {x3 : Int32} {m : Me}, k33 a1 a2 x3 m = some res → kd a1 = 2 → kd a2 = 7 → Inv m → TT InvS (Call 4) mX9_study (33, [(0, .ref 94), (1, .ref a1), (2, .ref a2), (3, .int x3)], [], S, m) none (S, res)) {a1 : Nat} {a2 : Nat} {x3 : Int32} {m : Me} (hf : fX9_study_103 k33 a1 a2 x3 m = some res) (ha1 : kd a1 = 2) (ha2 : kd a2 = 7) (hI : Inv m) : TT InvS (Call 4) mX9_study (103, [(0, .ref 94), (1, .ref a1), (2, .ref a2), (3, .int x3)], [], S, m) none (S, res) := by
  unfold fX9_study_103 at hf
  refine to_iinc (q := 106) (v := (x3 + (1 : Int32))) rfl (congrArg (fun z => x3 + z) ic_1) [(3, .int (x3 + (1 : Int32))), (0, .ref 94), (1, .ref a1), (2, .ref a2)] rfl (by decide) dX9_study_103 rfl ?_
  refine to_goto (q := 33) dX9_study_106 rfl ?_
  exact to_ext [(0, .ref 94), (1, .ref a1), (2, .ref a2), (3, .int (x3 + (1 : Int32)))] (ext_cons rfl (ext_cons rfl (ext_cons rfl (ext_cons rfl ext_nil)))) (hk33 hf (ha1) (ha2) hI)
def fX9_study_33 (n : Nat) (a1 : Nat) (a2 : Nat) (x3 : Int32) (m : Me) : Option (Me) := match n with
  | 0 => none
  | n + 1 => if (m.1 a1 11) ≤ x3 then fX9_study_109 m else if (m.1 94 1) = (-2 : Int32) then ck (inb x3 6) (cl1 (fX7_look a2 a1 (a1 + 1) (0 : Int32) ((m.1 (a1 + 27 + 2 * x3.toNatClampNeg) 2)) ((m.1 (a1 + 27 + 2 * x3.toNatClampNeg) 3)) m) fun m8 => cl2 (fX9_contradicts (a1 + 27 + 2 * x3.toNatClampNeg) a2 m8) fun r11 m12 => if r11 = (0 : Int32) then cl1 (fX9_learn (a1 + 27 + 2 * x3.toNatClampNeg) a2 m12) fun m16 => fX9_study_103 (fX9_study_33 n) a1 a2 x3 m16 else fX9_study_103 (fX9_study_33 n) a1 a2 x3 (setI m12 94 1 x3)) else fX9_study_109 m
set_option maxRecDepth 20000 in
theorem kX9_study_33 {S : Sh} (hS : ShOK S) {res : Me} (n : Nat) : ∀ {a1 : Nat} {a2 : Nat} {x3 : Int32} {m : Me}, fX9_study_33 n a1 a2 x3 m = some res → kd a1 = 2 → kd a2 = 7 → Inv m → TT InvS (Call 4) mX9_study (33, [(0, .ref 94), (1, .ref a1), (2, .ref a2), (3, .int x3)], [], S, m) none (S, res) := by
  induction n with
  | zero => intro a1 a2 x3 m hf; cases hf
  | succ n ih =>
    intro a1 a2 x3 m hf ha1 ha2 hI
    unfold fX9_study_33 at hf
    refine to_iload_n (q := 34) rfl dX9_study_33 rfl ?_
    refine to_aload_n (q := 35) rfl (kd_4 (ha1) (by decide)) dX9_study_34 rfl ?_
    refine to_getI (q := 38) (k0 := 2) (C := RX2) (T := TX2) (N := 14) (j := 11) rfl fx_X9_19 (sh_kd hS ha1 (by decide)) rfl dX9_study_35 rfl ?_
    by_cases h3 : (m.1 a1 11) ≤ x3
    · have hf := ite_pos h3 hf
      refine to_icT (q := 109) (op := .ge) h3 dX9_study_38 rfl ?_
      exact to_ext [] ext_nil (kX9_study_109 hS hf hI)
    · have hf := ite_neg h3 hf
      refine to_icF (q := 41) (op := .ge) 109 h3 dX9_study_38 rfl rfl ?_
      refine to_aload_n (q := 42) rfl (by decide) dX9_study_41 rfl ?_
      refine to_getI (q := 45) (k0 := 9) (C := RX9) (T := TX9) (N := 2) (j := 1) rfl fx_X9_15 (h_94 hS) rfl dX9_study_42 rfl ?_
      refine to_bipush (q := 47) bp_m2 dX9_study_45 rfl ?_
      by_cases h4 : (m.1 94 1) = (-2 : Int32)
      · have hf := ite_pos h4 hf
        refine to_icF (q := 50) (op := .ne) 109 (fun z => z h4) dX9_study_47 rfl rfl ?_
        refine to_aload_n (q := 51) rfl (kd_4 (ha1) (by decide)) dX9_study_50 rfl ?_
        refine to_getR (q := 54) (b := a1 + 5) (k0 := 2) (C := RX2) (T := TX2) (N := 14) (j := 10) rfl fx_X9_24 (sh_kd hS ha1 (by decide)) rfl (iv2n hI (ha1)) dX9_study_51 rfl ?_
        refine to_iload_n (q := 55) rfl dX9_study_54 rfl ?_
        obtain ⟨hb5, hf⟩ := ck_some hf
        refine to_aald (q := 56) (b := a1 + 27 + 2 * x3.toNatClampNeg) (sh_ln hS (kd2n (ha1)) (by decide)) (by decide) hb5 (ivN hI (ha1) hb5) dX9_study_55 rfl ?_
        refine to_astore (q := 58) [(4, .ref (a1 + 27 + 2 * x3.toNatClampNeg)), (0, .ref 94), (1, .ref a1), (2, .ref a2), (3, .int x3)] rfl (kd_4 (kdN (ha1) hb5) (by decide)) (by decide) dX9_study_56 rfl ?_
        refine to_aload_n (q := 59) rfl (kd_4 (ha2) (by decide)) dX9_study_58 rfl ?_
        refine to_aload_n (q := 60) rfl (kd_4 (ha1) (by decide)) dX9_study_59 rfl ?_
        refine to_aload_n (q := 61) rfl (kd_4 (ha1) (by decide)) dX9_study_60 rfl ?_
        refine to_getR (q := 64) (b := a1 + 1) (k0 := 2) (C := RX2) (T := TX2) (N := 14) (j := 5) rfl fx_X9_28 (sh_kd hS ha1 (by decide)) rfl (iv2s hI (ha1)) dX9_study_61 rfl ?_
        refine to_iconst (q := 65) ic_0 dX9_study_64 rfl ?_
        refine to_aload (q := 67) rfl (kd_4 (kdN (ha1) hb5) (by decide)) dX9_study_65 rfl ?_
        refine to_getI (q := 70) (k0 := 8) (C := RX8) (T := TX8) (N := 5) (j := 2) rfl fx_X9_32 (sh_kd hS (kdN (ha1) hb5) (by decide)) rfl dX9_study_67 rfl ?_
        refine to_aload (q := 72) rfl (kd_4 (kdN (ha1) hb5) (by decide)) dX9_study_70 rfl ?_
        refine to_getI (q := 75) (k0 := 8) (C := RX8) (T := TX8) (N := 5) (j := 3) rfl fx_X9_37 (sh_kd hS (kdN (ha1) hb5) (by decide)) rfl dX9_study_72 rfl ?_
        obtain ⟨m8, hc6, hf⟩ := cl1_some hf
        have qc7 := kX7_look hS hc6 (ha2) (ha1) ((kd2s (ha1))) hI
        refine to_virtV (q := 78) mX7_look [.ref a1, .ref (a1 + 1), .int (0 : Int32), .int (m.1 (a1 + 27 + 2 * x3.toNatClampNeg) 2), .int (m.1 (a1 + 27 + 2 * x3.toNatClampNeg) 3)] dX9_study_75 rfl rfl (Nat.le_of_ble_eq_true rfl) mo_X7_look mv_X9_40 (Or.inl ⟨_, _, _, sh_kd hS ha2 (by decide), rfl, rfl⟩) (Call_mono (by decide) qc7.1) ?_
        have hI := qc7.2
        refine to_aload_n (q := 79) rfl (by decide) dX9_study_78 rfl ?_
        refine to_aload (q := 81) rfl (kd_4 (kdN (ha1) hb5) (by decide)) dX9_study_79 rfl ?_
        refine to_aload_n (q := 82) rfl (kd_4 (ha2) (by decide)) dX9_study_81 rfl ?_
        obtain ⟨r11, m12, hc9, hf⟩ := cl2_some hf
        have qc10 := kX9_contradicts hS hc9 (kdN (ha1) hb5) (ha2) hI
        refine to_virtI (q := 85) mX9_contradicts [.ref (a1 + 27 + 2 * x3.toNatClampNeg), .ref a2] dX9_study_82 rfl rfl (Nat.le_of_ble_eq_true rfl) mo_X9_contradicts mv_X9_46 (Or.inl ⟨_, _, _, h_94 hS, rfl, rfl⟩) (Call_mono (by decide) qc10.1) ?_
        have hI := qc10.2
        by_cases h13 : r11 = (0 : Int32)
        · have hf := ite_pos h13 hf
          refine to_ifT (q := 96) (op := .eq) h13 dX9_study_85 rfl ?_
          refine to_aload_n (q := 97) rfl (by decide) dX9_study_96 rfl ?_
          refine to_aload (q := 99) rfl (kd_4 (kdN (ha1) hb5) (by decide)) dX9_study_97 rfl ?_
          refine to_aload_n (q := 100) rfl (kd_4 (ha2) (by decide)) dX9_study_99 rfl ?_
          obtain ⟨m16, hc14, hf⟩ := cl1_some hf
          have qc15 := kX9_learn hS hc14 (kdN (ha1) hb5) (ha2) hI
          refine to_virtV (q := 103) mX9_learn [.ref (a1 + 27 + 2 * x3.toNatClampNeg), .ref a2] dX9_study_100 rfl rfl (Nat.le_of_ble_eq_true rfl) mo_X9_learn mv_X9_50 (Or.inl ⟨_, _, _, h_94 hS, rfl, rfl⟩) (Call_mono (by decide) qc15.1) ?_
          have hI := qc15.2
          exact to_ext [(0, .ref 94), (1, .ref a1), (2, .ref a2), (3, .int x3)] (ext_cons rfl (ext_cons rfl (ext_cons rfl (ext_cons rfl ext_nil)))) (kX9_study_103 hS ih hf (ha1) (ha2) hI)
        · have hf := ite_neg h13 hf
          refine to_ifF (q := 88) (op := .eq) 96 h13 dX9_study_85 rfl rfl ?_
          refine to_aload_n (q := 89) rfl (by decide) dX9_study_88 rfl ?_
          refine to_iload_n (q := 90) rfl dX9_study_89 rfl ?_
          refine to_putI (q := 93) (ty := .int) (k0 := 9) (C := RX9) (T := TX9) (N := 2) (j := 1) rfl fx_X9_15 (h_94 hS) rfl pD_I (Or.inl rfl) (nf_I _) dX9_study_90 rfl ?_
          refine to_goto (q := 103) dX9_study_93 rfl ?_
          exact to_ext [(0, .ref 94), (1, .ref a1), (2, .ref a2), (3, .int x3)] (ext_cons rfl (ext_cons rfl (ext_cons rfl (ext_cons rfl ext_nil)))) (kX9_study_103 hS ih hf (ha1) (ha2) hI)
      · have hf := ite_neg h4 hf
        refine to_icT (q := 109) (op := .ne) h4 dX9_study_47 rfl ?_
        exact to_ext [] ext_nil (kX9_study_109 hS hf hI)
def fX9_study_2 (n : Nat) (a1 : Nat) (a2 : Nat) (x3 : Int32) (m : Me) : Option (Me) := match n with
  | 0 => none
  | n + 1 => if (60 : Int32) ≤ x3 then fX9_study_33 FU a1 a2 ((0 : Int32)) (setI m 94 1 (-2 : Int32)) else ck (inb x3 60) (fX9_study_2 n a1 a2 ((x3 + (1 : Int32))) (setI m 95 x3.toNatClampNeg (-3 : Int32)))
set_option maxRecDepth 20000 in
theorem kX9_study_2 {S : Sh} (hS : ShOK S) {res : Me} (n : Nat) : ∀ {a1 : Nat} {a2 : Nat} {x3 : Int32} {m : Me}, fX9_study_2 n a1 a2 x3 m = some res → kd a1 = 2 → kd a2 = 7 → Inv m → TT InvS (Call 4) mX9_study (2, [(0, .ref 94), (1, .ref a1), (2, .ref a2), (3, .int x3)], [], S, m) none (S, res) := by
  induction n with
  | zero => intro a1 a2 x3 m hf; cases hf
  | succ n ih =>
    intro a1 a2 x3 m hf ha1 ha2 hI
    unfold fX9_study_2 at hf
    refine to_iload_n (q := 3) rfl dX9_study_2 rfl ?_
    refine to_aload_n (q := 4) rfl (by decide) dX9_study_3 rfl ?_
    refine to_getR (q := 7) (b := 95) (k0 := 9) (C := RX9) (T := TX9) (N := 2) (j := 0) rfl fx_X9_9 (h_94 hS) rfl (iv_94_0 hI) dX9_study_4 rfl ?_
    refine to_alen (q := 8) (h_95 hS) (by decide) on_60 dX9_study_7 rfl ?_
    by_cases h1 : (60 : Int32) ≤ x3
    · have hf := ite_pos h1 hf
      refine to_icT (q := 25) (op := .ge) h1 dX9_study_8 rfl ?_
      refine to_aload_n (q := 26) rfl (by decide) dX9_study_25 rfl ?_
      refine to_bipush (q := 28) bp_m2 dX9_study_26 rfl ?_
      refine to_putI (q := 31) (ty := .int) (k0 := 9) (C := RX9) (T := TX9) (N := 2) (j := 1) rfl fx_X9_15 (h_94 hS) rfl pD_I (Or.inl rfl) (nf_I _) dX9_study_28 rfl ?_
      refine to_iconst (q := 32) ic_0 dX9_study_31 rfl ?_
      refine to_istore_n (q := 33) [(3, .int (0 : Int32)), (0, .ref 94), (1, .ref a1), (2, .ref a2)] rfl (by decide) dX9_study_32 rfl ?_
      exact to_ext [(0, .ref 94), (1, .ref a1), (2, .ref a2), (3, .int (0 : Int32))] (ext_cons rfl (ext_cons rfl (ext_cons rfl (ext_cons rfl ext_nil)))) (kX9_study_33 hS FU hf (ha1) (ha2) hI)
    · have hf := ite_neg h1 hf
      refine to_icF (q := 11) (op := .ge) 25 h1 dX9_study_8 rfl rfl ?_
      refine to_aload_n (q := 12) rfl (by decide) dX9_study_11 rfl ?_
      refine to_getR (q := 15) (b := 95) (k0 := 9) (C := RX9) (T := TX9) (N := 2) (j := 0) rfl fx_X9_9 (h_94 hS) rfl (iv_94_0 hI) dX9_study_12 rfl ?_
      refine to_iload_n (q := 16) rfl dX9_study_15 rfl ?_
      refine to_bipush (q := 18) bp_m3 dX9_study_16 rfl ?_
      obtain ⟨hb2, hf⟩ := ck_some hf
      refine to_iasj (q := 19) (h_95 hS) hb2 (rfl) dX9_study_18 rfl ?_
      refine to_iinc (q := 22) (v := (x3 + (1 : Int32))) rfl (congrArg (fun z => x3 + z) ic_1) [(3, .int (x3 + (1 : Int32))), (0, .ref 94), (1, .ref a1), (2, .ref a2)] rfl (by decide) dX9_study_19 rfl ?_
      refine to_goto (q := 2) dX9_study_22 rfl ?_
      exact to_ext [(0, .ref 94), (1, .ref a1), (2, .ref a2), (3, .int (x3 + (1 : Int32)))] (ext_cons rfl (ext_cons rfl (ext_cons rfl (ext_cons rfl ext_nil)))) (ih hf (ha1) (ha2) hI)
def fX9_study (a1 : Nat) (a2 : Nat) (m : Me) : Option (Me) := fX9_study_2 FU a1 a2 ((0 : Int32)) m
set_option maxRecDepth 20000 in
theorem kX9_study {S : Sh} (hS : ShOK S) {res : Me} {a1 : Nat} {a2 : Nat} {m : Me} (hf : fX9_study a1 a2 m = some res) (ha1 : kd a1 = 2) (ha2 : kd a2 = 7) (hI : Inv m) : Call 5 mX9_study [.ref 94, .ref a1, .ref a2] (S, m) none (S, res) ∧ Inv res := by
  refine call_of (P := InvS) (Nat.le_of_ble_eq_true rfl) (by simp [Value.category]) ?_
  show TT InvS (Call 4) mX9_study (0, [(0, .ref 94), (1, .ref a1), (2, .ref a2)], [], S, m) _ _
  unfold fX9_study at hf
  refine to_iconst (q := 1) ic_0 dX9_study_0 rfl ?_
  refine to_istore_n (q := 2) [(3, .int (0 : Int32)), (0, .ref 94), (1, .ref a1), (2, .ref a2)] rfl (by decide) dX9_study_1 rfl ?_
  exact to_ext [(0, .ref 94), (1, .ref a1), (2, .ref a2), (3, .int (0 : Int32))] (ext_cons rfl (ext_cons rfl (ext_cons rfl (ext_cons rfl ext_nil)))) (kX9_study_2 hS FU hf (ha1) (ha2) hI)
def fX9_countSure_27 (k4 : Int32 → Int32 → Me → Option (Int32 × Me)) (x1 : Int32) (x2 : Int32) (m : Me) : Option (Int32 × Me) := k4 x1 ((x2 + (1 : Int32))) m
set_option maxRecDepth 20000 in
theorem kX9_countSure_27 {S : Sh} (hS : ShOK S) {res : Int32 × Me} {k4 : Int32 → Int32 → Me → Option (Int32 × Me)} (hk4 : ∀ {x1 : Int32} {x2 : Int32} {m : Me}, k4 x1 x2 m = some res → Inv m → TT InvS (Call 0) mX9_countSure (4, [(0, .ref 94), (1, .int x1), (2, .int x2)], [], S, m) (some (.int res.1)) (S, res.2)) {x1 : Int32} {x2 : Int32} {m : Me} (hf : fX9_countSure_27 k4 x1 x2 m = some res) (hI : Inv m) : TT InvS (Call 0) mX9_countSure (27, [(0, .ref 94), (1, .int x1), (2, .int x2)], [], S, m) (some (.int res.1)) (S, res.2) := by
  unfold fX9_countSure_27 at hf
  refine to_iinc (q := 30) (v := (x2 + (1 : Int32))) rfl (congrArg (fun z => x2 + z) ic_1) [(2, .int (x2 + (1 : Int32))), (0, .ref 94), (1, .int x1)] rfl (by decide) dX9_countSure_27 rfl ?_
  refine to_goto (q := 4) dX9_countSure_30 rfl ?_
  exact to_ext [(0, .ref 94), (1, .int x1), (2, .int (x2 + (1 : Int32)))] (ext_cons rfl (ext_cons rfl (ext_cons rfl ext_nil))) (hk4 hf hI)
def fX9_countSure_4 (n : Nat) (x1 : Int32) (x2 : Int32) (m : Me) : Option (Int32 × Me) := match n with
  | 0 => none
  | n + 1 => if (60 : Int32) ≤ x2 then some (x1, m) else ck (inb x2 60) (if (m.1 95 x2.toNatClampNeg) = (-3 : Int32) then fX9_countSure_27 (fX9_countSure_4 n) x1 x2 m else fX9_countSure_27 (fX9_countSure_4 n) ((x1 + (1 : Int32))) x2 m)
set_option maxRecDepth 20000 in
theorem kX9_countSure_4 {S : Sh} (hS : ShOK S) {res : Int32 × Me} (n : Nat) : ∀ {x1 : Int32} {x2 : Int32} {m : Me}, fX9_countSure_4 n x1 x2 m = some res → Inv m → TT InvS (Call 0) mX9_countSure (4, [(0, .ref 94), (1, .int x1), (2, .int x2)], [], S, m) (some (.int res.1)) (S, res.2) := by
  induction n with
  | zero => intro x1 x2 m hf; cases hf
  | succ n ih =>
    intro x1 x2 m hf  hI
    unfold fX9_countSure_4 at hf
    refine to_iload_n (q := 5) rfl dX9_countSure_4 rfl ?_
    refine to_aload_n (q := 6) rfl (by decide) dX9_countSure_5 rfl ?_
    refine to_getR (q := 9) (b := 95) (k0 := 9) (C := RX9) (T := TX9) (N := 2) (j := 0) rfl fx_X9_9 (h_94 hS) rfl (iv_94_0 hI) dX9_countSure_6 rfl ?_
    refine to_alen (q := 10) (h_95 hS) (by decide) on_60 dX9_countSure_9 rfl ?_
    by_cases h1 : (60 : Int32) ≤ x2
    · have hf := ite_pos h1 hf
      refine to_icT (q := 33) (op := .ge) h1 dX9_countSure_10 rfl ?_
      refine to_iload_n (q := 34) rfl dX9_countSure_33 rfl ?_
      cases hf
      exact to_iret dX9_countSure_34 rfl rfl rfl rfl hI
    · have hf := ite_neg h1 hf
      refine to_icF (q := 13) (op := .ge) 33 h1 dX9_countSure_10 rfl rfl ?_
      refine to_aload_n (q := 14) rfl (by decide) dX9_countSure_13 rfl ?_
      refine to_getR (q := 17) (b := 95) (k0 := 9) (C := RX9) (T := TX9) (N := 2) (j := 0) rfl fx_X9_9 (h_94 hS) rfl (iv_94_0 hI) dX9_countSure_14 rfl ?_
      refine to_iload_n (q := 18) rfl dX9_countSure_17 rfl ?_
      obtain ⟨hb2, hf⟩ := ck_some hf
      refine to_iaj (q := 19) (h_95 hS) hb2 (rfl) dX9_countSure_18 rfl ?_
      refine to_bipush (q := 21) bp_m3 dX9_countSure_19 rfl ?_
      by_cases h3 : (m.1 95 x2.toNatClampNeg) = (-3 : Int32)
      · have hf := ite_pos h3 hf
        refine to_icT (q := 27) (op := .eq) h3 dX9_countSure_21 rfl ?_
        exact to_ext [(0, .ref 94), (1, .int x1), (2, .int x2)] (ext_cons rfl (ext_cons rfl (ext_cons rfl ext_nil))) (kX9_countSure_27 hS ih hf hI)
      · have hf := ite_neg h3 hf
        refine to_icF (q := 24) (op := .eq) 27 h3 dX9_countSure_21 rfl rfl ?_
        refine to_iinc (q := 27) (v := (x1 + (1 : Int32))) rfl (congrArg (fun z => x1 + z) ic_1) [(1, .int (x1 + (1 : Int32))), (0, .ref 94), (2, .int x2)] rfl (by decide) dX9_countSure_24 rfl ?_
        exact to_ext [(0, .ref 94), (1, .int (x1 + (1 : Int32))), (2, .int x2)] (ext_cons rfl (ext_cons rfl (ext_cons rfl ext_nil))) (kX9_countSure_27 hS ih hf hI)
def fX9_countSure (m : Me) : Option (Int32 × Me) := fX9_countSure_4 FU ((0 : Int32)) ((0 : Int32)) m
set_option maxRecDepth 20000 in
theorem kX9_countSure {S : Sh} (hS : ShOK S) {res : Int32 × Me} {m : Me} (hf : fX9_countSure m = some res) (hI : Inv m) : Call 1 mX9_countSure [.ref 94] (S, m) (some (.int res.1)) (S, res.2) ∧ Inv res.2 := by
  refine call_of (P := InvS) (Nat.le_of_ble_eq_true rfl) (by simp [Value.category]) ?_
  show TT InvS (Call 0) mX9_countSure (0, [(0, .ref 94)], [], S, m) _ _
  unfold fX9_countSure at hf
  refine to_iconst (q := 1) ic_0 dX9_countSure_0 rfl ?_
  refine to_istore_n (q := 2) [(1, .int (0 : Int32)), (0, .ref 94)] rfl (by decide) dX9_countSure_1 rfl ?_
  refine to_iconst (q := 3) ic_0 dX9_countSure_2 rfl ?_
  refine to_istore_n (q := 4) [(2, .int (0 : Int32)), (1, .int (0 : Int32)), (0, .ref 94)] rfl (by decide) dX9_countSure_3 rfl ?_
  exact to_ext [(0, .ref 94), (1, .int (0 : Int32)), (2, .int (0 : Int32))] (ext_cons rfl (ext_cons rfl (ext_cons rfl ext_nil))) (kX9_countSure_4 hS FU hf hI)
def fX9_countUnsure_34 (k5 : Nat → Int32 → Int32 → Int32 → Me → Option (Int32 × Me)) (a1 : Nat) (x2 : Int32) (x3 : Int32) (x4 : Int32) (m : Me) : Option (Int32 × Me) := k5 a1 x2 x3 ((x4 + (1 : Int32))) m
set_option maxRecDepth 20000 in
theorem kX9_countUnsure_34 {S : Sh} (hS : ShOK S) {res : Int32 × Me} {k5 : Nat → Int32 → Int32 → Int32 → Me → Option (Int32 × Me)} (hk5 : ∀ {a1 : Nat} {x2 : Int32} {x3 : Int32} {x4 : Int32} {m : Me}, k5 a1 x2 x3 x4 m = some res → kd a1 = 7 → Inv m → TT InvS (Call 2) mX9_countUnsure (5, [(0, .ref 94), (1, .ref a1), (2, .int x2), (3, .int x3), (4, .int x4)], [], S, m) (some (.int res.1)) (S, res.2)) {a1 : Nat} {x2 : Int32} {x3 : Int32} {x4 : Int32} {m : Me} (hf : fX9_countUnsure_34 k5 a1 x2 x3 x4 m = some res) (ha1 : kd a1 = 7) (hI : Inv m) : TT InvS (Call 2) mX9_countUnsure (34, [(0, .ref 94), (1, .ref a1), (2, .int x2), (3, .int x3), (4, .int x4)], [], S, m) (some (.int res.1)) (S, res.2) := by
  unfold fX9_countUnsure_34 at hf
  refine to_iinc (q := 37) (v := (x4 + (1 : Int32))) rfl (congrArg (fun z => x4 + z) ic_1) [(4, .int (x4 + (1 : Int32))), (0, .ref 94), (1, .ref a1), (2, .int x2), (3, .int x3)] rfl (by decide) dX9_countUnsure_34 rfl ?_
  refine to_goto (q := 5) dX9_countUnsure_37 rfl ?_
  exact to_ext [(0, .ref 94), (1, .ref a1), (2, .int x2), (3, .int x3), (4, .int (x4 + (1 : Int32)))] (ext_cons rfl (ext_cons rfl (ext_cons rfl (ext_cons rfl (ext_cons rfl ext_nil))))) (hk5 hf (ha1) hI)
def fX9_countUnsure_5 (n : Nat) (a1 : Nat) (x2 : Int32) (x3 : Int32) (x4 : Int32) (m : Me) : Option (Int32 × Me) := match n with
  | 0 => none
  | n + 1 => if (m.1 a1 2) ≤ x4 then some (x3, m) else ck (inb x4 30) (cl2 (fX9_sureLetter x2 ((m.1 (a1 + 1) x4.toNatClampNeg)) m) fun r5 m6 => if r5 = (-3 : Int32) then fX9_countUnsure_34 (fX9_countUnsure_5 n) a1 x2 ((x3 + (1 : Int32))) x4 m6 else fX9_countUnsure_34 (fX9_countUnsure_5 n) a1 x2 x3 x4 m6)
set_option maxRecDepth 20000 in
theorem kX9_countUnsure_5 {S : Sh} (hS : ShOK S) {res : Int32 × Me} (n : Nat) : ∀ {a1 : Nat} {x2 : Int32} {x3 : Int32} {x4 : Int32} {m : Me}, fX9_countUnsure_5 n a1 x2 x3 x4 m = some res → kd a1 = 7 → Inv m → TT InvS (Call 2) mX9_countUnsure (5, [(0, .ref 94), (1, .ref a1), (2, .int x2), (3, .int x3), (4, .int x4)], [], S, m) (some (.int res.1)) (S, res.2) := by
  induction n with
  | zero => intro a1 x2 x3 x4 m hf; cases hf
  | succ n ih =>
    intro a1 x2 x3 x4 m hf ha1 hI
    unfold fX9_countUnsure_5 at hf
    refine to_iload (q := 7) rfl dX9_countUnsure_5 rfl ?_
    refine to_aload_n (q := 8) rfl (kd_4 (ha1) (by decide)) dX9_countUnsure_7 rfl ?_
    refine to_getI (q := 11) (k0 := 7) (C := RX7) (T := TX7) (N := 3) (j := 2) rfl fx_X9_60 (sh_kd hS ha1 (by decide)) rfl dX9_countUnsure_8 rfl ?_
    by_cases h1 : (m.1 a1 2) ≤ x4
    · have hf := ite_pos h1 hf
      refine to_icT (q := 40) (op := .ge) h1 dX9_countUnsure_11 rfl ?_
      refine to_iload_n (q := 41) rfl dX9_countUnsure_40 rfl ?_
      cases hf
      exact to_iret dX9_countUnsure_41 rfl rfl rfl rfl hI
    · have hf := ite_neg h1 hf
      refine to_icF (q := 14) (op := .ge) 40 h1 dX9_countUnsure_11 rfl rfl ?_
      refine to_aload_n (q := 15) rfl (by decide) dX9_countUnsure_14 rfl ?_
      refine to_iload_n (q := 16) rfl dX9_countUnsure_15 rfl ?_
      refine to_aload_n (q := 17) rfl (kd_4 (ha1) (by decide)) dX9_countUnsure_16 rfl ?_
      refine to_getR (q := 20) (b := a1 + 1) (k0 := 7) (C := RX7) (T := TX7) (N := 3) (j := 0) rfl fx_X9_61 (sh_kd hS ha1 (by decide)) rfl (iv7a hI (ha1)) dX9_countUnsure_17 rfl ?_
      refine to_iload (q := 22) rfl dX9_countUnsure_20 rfl ?_
      obtain ⟨hb2, hf⟩ := ck_some hf
      refine to_iaj (q := 23) (sh_ln hS (kd7a (ha1)) (by decide)) hb2 (rfl) dX9_countUnsure_22 rfl ?_
      obtain ⟨r5, m6, hc3, hf⟩ := cl2_some hf
      have qc4 := kX9_sureLetter hS hc3 hI
      refine to_virtI (q := 26) mX9_sureLetter [.int x2, .int (m.1 (a1 + 1) x4.toNatClampNeg)] dX9_countUnsure_23 rfl rfl (Nat.le_of_ble_eq_true rfl) mo_X9_sureLetter mv_X9_64 (Or.inl ⟨_, _, _, h_94 hS, rfl, rfl⟩) (Call_mono (by decide) qc4.1) ?_
      have hI := qc4.2
      refine to_bipush (q := 28) bp_m3 dX9_countUnsure_26 rfl ?_
      by_cases h7 : r5 = (-3 : Int32)
      · have hf := ite_pos h7 hf
        refine to_icF (q := 31) (op := .ne) 34 (fun z => z h7) dX9_countUnsure_28 rfl rfl ?_
        refine to_iinc (q := 34) (v := (x3 + (1 : Int32))) rfl (congrArg (fun z => x3 + z) ic_1) [(3, .int (x3 + (1 : Int32))), (0, .ref 94), (1, .ref a1), (2, .int x2), (4, .int x4)] rfl (by decide) dX9_countUnsure_31 rfl ?_
        exact to_ext [(0, .ref 94), (1, .ref a1), (2, .int x2), (3, .int (x3 + (1 : Int32))), (4, .int x4)] (ext_cons rfl (ext_cons rfl (ext_cons rfl (ext_cons rfl (ext_cons rfl ext_nil))))) (kX9_countUnsure_34 hS ih hf (ha1) hI)
      · have hf := ite_neg h7 hf
        refine to_icT (q := 34) (op := .ne) h7 dX9_countUnsure_28 rfl ?_
        exact to_ext [(0, .ref 94), (1, .ref a1), (2, .int x2), (3, .int x3), (4, .int x4)] (ext_cons rfl (ext_cons rfl (ext_cons rfl (ext_cons rfl (ext_cons rfl ext_nil))))) (kX9_countUnsure_34 hS ih hf (ha1) hI)
def fX9_countUnsure (a1 : Nat) (x2 : Int32) (m : Me) : Option (Int32 × Me) := fX9_countUnsure_5 FU a1 x2 ((0 : Int32)) ((0 : Int32)) m
set_option maxRecDepth 20000 in
theorem kX9_countUnsure {S : Sh} (hS : ShOK S) {res : Int32 × Me} {a1 : Nat} {x2 : Int32} {m : Me} (hf : fX9_countUnsure a1 x2 m = some res) (ha1 : kd a1 = 7) (hI : Inv m) : Call 3 mX9_countUnsure [.ref 94, .ref a1, .int x2] (S, m) (some (.int res.1)) (S, res.2) ∧ Inv res.2 := by
  refine call_of (P := InvS) (Nat.le_of_ble_eq_true rfl) (by simp [Value.category]) ?_
  show TT InvS (Call 2) mX9_countUnsure (0, [(0, .ref 94), (1, .ref a1), (2, .int x2)], [], S, m) _ _
  unfold fX9_countUnsure at hf
  refine to_iconst (q := 1) ic_0 dX9_countUnsure_0 rfl ?_
  refine to_istore_n (q := 2) [(3, .int (0 : Int32)), (0, .ref 94), (1, .ref a1), (2, .int x2)] rfl (by decide) dX9_countUnsure_1 rfl ?_
  refine to_iconst (q := 3) ic_0 dX9_countUnsure_2 rfl ?_
  refine to_istore (q := 5) [(4, .int (0 : Int32)), (3, .int (0 : Int32)), (0, .ref 94), (1, .ref a1), (2, .int x2)] rfl (by decide) dX9_countUnsure_3 rfl ?_
  exact to_ext [(0, .ref 94), (1, .ref a1), (2, .int x2), (3, .int (0 : Int32)), (4, .int (0 : Int32))] (ext_cons rfl (ext_cons rfl (ext_cons rfl (ext_cons rfl (ext_cons rfl ext_nil))))) (kX9_countUnsure_5 hS FU hf (ha1) hI)
