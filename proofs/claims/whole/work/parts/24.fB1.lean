def fX1_tryOrders_116 (rec : Int32 → Int32 → Int32 → Me → Option (Me)) (k44 : Int32 → Int32 → Int32 → Int32 → Me → Option (Me)) (x1 : Int32) (x2 : Int32) (x3 : Int32) (x4 : Int32) (m : Me) : Option (Me) := k44 x1 x2 x3 ((x4 + (1 : Int32))) m
set_option maxRecDepth 20000 in
theorem kX1_tryOrders_116 {S : Sh} (hS : ShOK S) {dd : Nat} (hdd : 0 ≤ dd) {rec : Int32 → Int32 → Int32 → Me → Option (Me)} (hrec : ∀ {x1 : Int32} {x2 : Int32} {x3 : Int32} {m : Me} {res : Me}, rec x1 x2 x3 m = some res → Inv m → Call dd mX1_tryOrders [.ref 127, .int x1, .int x2, .int x3] (S, m) none (S, res) ∧ Inv res) {res : Me} {k44 : Int32 → Int32 → Int32 → Int32 → Me → Option (Me)} (hk44 : ∀ {x1 : Int32} {x2 : Int32} {x3 : Int32} {x4 : Int32} {m : Me}, k44 x1 x2 x3 x4 m = some res → Inv m → TT InvS (Call dd) mX1_tryOrders (44, [(0, .ref 127), (1, .int x1), (2, .int x2), (3, .int x3), (4, .int x4)], [], S, m) none (S, res)) {x1 : Int32} {x2 : Int32} {x3 : Int32} {x4 : Int32} {m : Me} (hf : fX1_tryOrders_116 rec k44 x1 x2 x3 x4 m = some res) (hI : Inv m) : TT InvS (Call dd) mX1_tryOrders (116, [(0, .ref 127), (1, .int x1), (2, .int x2), (3, .int x3), (4, .int x4)], [], S, m) none (S, res) := by
  unfold fX1_tryOrders_116 at hf
  refine to_iinc (q := 119) (v := (x4 + (1 : Int32))) rfl (congrArg (fun z => x4 + z) ic_1) [(4, .int (x4 + (1 : Int32))), (0, .ref 127), (1, .int x1), (2, .int x2), (3, .int x3)] rfl (by decide) dX1_tryOrders_116 rfl ?_
  refine to_goto (q := 44) dX1_tryOrders_119 rfl ?_
  exact to_ext [(0, .ref 127), (1, .int x1), (2, .int x2), (3, .int x3), (4, .int (x4 + (1 : Int32)))] (ext_cons rfl (ext_cons rfl (ext_cons rfl (ext_cons rfl (ext_cons rfl ext_nil))))) (hk44 hf hI)
def fX1_tryOrders_97 (rec : Int32 → Int32 → Int32 → Me → Option (Me)) (k44 : Int32 → Int32 → Int32 → Int32 → Me → Option (Me)) (x1 : Int32) (x2 : Int32) (x3 : Int32) (x4 : Int32) (t0 : Int32) (m : Me) : Option (Me) := cl1 (rec ((x1 + (1 : Int32))) ((x2 ||| ((1 : Int32) <<< (x4 &&& 31)))) (x3 + t0) m) fun m11 => fX1_tryOrders_116 rec k44 x1 x2 x3 x4 m11
set_option maxRecDepth 20000 in
theorem kX1_tryOrders_97 {S : Sh} (hS : ShOK S) {dd : Nat} (hdd : 0 ≤ dd) {rec : Int32 → Int32 → Int32 → Me → Option (Me)} (hrec : ∀ {x1 : Int32} {x2 : Int32} {x3 : Int32} {m : Me} {res : Me}, rec x1 x2 x3 m = some res → Inv m → Call dd mX1_tryOrders [.ref 127, .int x1, .int x2, .int x3] (S, m) none (S, res) ∧ Inv res) {res : Me} {k44 : Int32 → Int32 → Int32 → Int32 → Me → Option (Me)} (hk44 : ∀ {x1 : Int32} {x2 : Int32} {x3 : Int32} {x4 : Int32} {m : Me}, k44 x1 x2 x3 x4 m = some res → Inv m → TT InvS (Call dd) mX1_tryOrders (44, [(0, .ref 127), (1, .int x1), (2, .int x2), (3, .int x3), (4, .int x4)], [], S, m) none (S, res)) {x1 : Int32} {x2 : Int32} {x3 : Int32} {x4 : Int32} {t0 : Int32} {m : Me} (hf : fX1_tryOrders_97 rec k44 x1 x2 x3 x4 t0 m = some res) (hI : Inv m) : TT InvS (Call dd) mX1_tryOrders (97, [(0, .ref 127), (1, .int x1), (2, .int x2), (3, .int x3), (4, .int x4)], [.int t0], S, m) none (S, res) := by
  unfold fX1_tryOrders_97 at hf
  refine to_istore (q := 99) [(5, .int t0), (0, .ref 127), (1, .int x1), (2, .int x2), (3, .int x3), (4, .int x4)] rfl (by decide) dX1_tryOrders_97 rfl ?_
  refine to_aload_n (q := 100) rfl (by decide) dX1_tryOrders_99 rfl ?_
  refine to_iload_n (q := 101) rfl dX1_tryOrders_100 rfl ?_
  refine to_iconst (q := 102) ic_1 dX1_tryOrders_101 rfl ?_
  refine to_iadd (q := 103) dX1_tryOrders_102 rfl ?_
  refine to_iload_n (q := 104) rfl dX1_tryOrders_103 rfl ?_
  refine to_iconst (q := 105) ic_1 dX1_tryOrders_104 rfl ?_
  refine to_iload (q := 107) rfl dX1_tryOrders_105 rfl ?_
  refine to_ishl (q := 108) dX1_tryOrders_107 rfl ?_
  refine to_ior (q := 109) dX1_tryOrders_108 rfl ?_
  refine to_iload_n (q := 110) rfl dX1_tryOrders_109 rfl ?_
  refine to_iload (q := 112) rfl dX1_tryOrders_110 rfl ?_
  refine to_iadd (q := 113) dX1_tryOrders_112 rfl ?_
  obtain ⟨m11, hc9, hf⟩ := cl1_some hf
  have qc10 := hrec hc9 hI
  refine to_virtV (q := 116) mX1_tryOrders [.int (x1 + (1 : Int32)), .int (x2 ||| ((1 : Int32) <<< (x4 &&& 31))), .int (x3 + t0)] dX1_tryOrders_113 rfl rfl (Nat.le_of_ble_eq_true rfl) mo_X1_tryOrders mv_X1_34 (Or.inl ⟨_, _, _, h_127 hS, rfl, rfl⟩) qc10.1 ?_
  have hI := qc10.2
  exact to_ext [(0, .ref 127), (1, .int x1), (2, .int x2), (3, .int x3), (4, .int x4)] (ext_cons rfl (ext_cons rfl (ext_cons rfl (ext_cons rfl (ext_cons rfl ext_nil))))) (kX1_tryOrders_116 hS hdd hrec hk44 hf hI)
def fX1_tryOrders_44 (rec : Int32 → Int32 → Int32 → Me → Option (Me)) (n : Nat) (x1 : Int32) (x2 : Int32) (x3 : Int32) (x4 : Int32) (m : Me) : Option (Me) := match n with
  | 0 => none
  | n + 1 => if (m.1 127 3) ≤ x4 then some m else if ((x2 >>> (x4 &&& 31)) &&& (1 : Int32)) = (0 : Int32) then ck (inb x1 6) (if x1 = (0 : Int32) then fX1_tryOrders_97 rec (fX1_tryOrders_44 rec n) x1 x2 x3 x4 ((0 : Int32)) (setI m 130 x1.toNatClampNeg x4) else ck (inb (x1 - (1 : Int32)) 6) (ck (inb ((((setI m 130 x1.toNatClampNeg x4).1 130 (x1 - (1 : Int32)).toNatClampNeg) * (6 : Int32)) + x4) 36) (fX1_tryOrders_97 rec (fX1_tryOrders_44 rec n) x1 x2 x3 x4 (((setI m 130 x1.toNatClampNeg x4).1 128 ((((setI m 130 x1.toNatClampNeg x4).1 130 (x1 - (1 : Int32)).toNatClampNeg) * (6 : Int32)) + x4).toNatClampNeg)) (setI m 130 x1.toNatClampNeg x4)))) else fX1_tryOrders_116 rec (fX1_tryOrders_44 rec n) x1 x2 x3 x4 m
set_option maxRecDepth 20000 in
theorem kX1_tryOrders_44 {S : Sh} (hS : ShOK S) {dd : Nat} (hdd : 0 ≤ dd) {rec : Int32 → Int32 → Int32 → Me → Option (Me)} (hrec : ∀ {x1 : Int32} {x2 : Int32} {x3 : Int32} {m : Me} {res : Me}, rec x1 x2 x3 m = some res → Inv m → Call dd mX1_tryOrders [.ref 127, .int x1, .int x2, .int x3] (S, m) none (S, res) ∧ Inv res) {res : Me} (n : Nat) : ∀ {x1 : Int32} {x2 : Int32} {x3 : Int32} {x4 : Int32} {m : Me}, fX1_tryOrders_44 rec n x1 x2 x3 x4 m = some res → Inv m → TT InvS (Call dd) mX1_tryOrders (44, [(0, .ref 127), (1, .int x1), (2, .int x2), (3, .int x3), (4, .int x4)], [], S, m) none (S, res) := by
  induction n with
  | zero => intro x1 x2 x3 x4 m hf; cases hf
  | succ n ih =>
    intro x1 x2 x3 x4 m hf  hI
    unfold fX1_tryOrders_44 at hf
    refine to_iload (q := 46) rfl dX1_tryOrders_44 rfl ?_
    refine to_aload_n (q := 47) rfl (by decide) dX1_tryOrders_46 rfl ?_
    refine to_getI (q := 50) (k0 := 1) (C := RX1) (T := TX1) (N := 5) (j := 3) rfl fx_X1_27 (h_127 hS) rfl dX1_tryOrders_47 rfl ?_
    by_cases h3 : (m.1 127 3) ≤ x4
    · have hf := ite_pos h3 hf
      refine to_icT (q := 122) (op := .ge) h3 dX1_tryOrders_50 rfl ?_
      cases hf
      exact to_vret dX1_tryOrders_122 rfl rfl rfl hI
    · have hf := ite_neg h3 hf
      refine to_icF (q := 53) (op := .ge) 122 h3 dX1_tryOrders_50 rfl rfl ?_
      refine to_iload_n (q := 54) rfl dX1_tryOrders_53 rfl ?_
      refine to_iload (q := 56) rfl dX1_tryOrders_54 rfl ?_
      refine to_ishr (q := 57) dX1_tryOrders_56 rfl ?_
      refine to_iconst (q := 58) ic_1 dX1_tryOrders_57 rfl ?_
      refine to_iand (q := 59) dX1_tryOrders_58 rfl ?_
      by_cases h4 : ((x2 >>> (x4 &&& 31)) &&& (1 : Int32)) = (0 : Int32)
      · have hf := ite_pos h4 hf
        refine to_ifF (q := 62) (op := .ne) 116 (fun z => z h4) dX1_tryOrders_59 rfl rfl ?_
        refine to_aload_n (q := 63) rfl (by decide) dX1_tryOrders_62 rfl ?_
        refine to_getR (q := 66) (b := 130) (k0 := 1) (C := RX1) (T := TX1) (N := 5) (j := 2) rfl fx_X1_18 (h_127 hS) rfl (iv_127_2 hI) dX1_tryOrders_63 rfl ?_
        refine to_iload_n (q := 67) rfl dX1_tryOrders_66 rfl ?_
        refine to_iload (q := 69) rfl dX1_tryOrders_67 rfl ?_
        obtain ⟨hb5, hf⟩ := ck_some hf
        refine to_iasj (q := 70) (h_130 hS) hb5 (rfl) dX1_tryOrders_69 rfl ?_
        refine to_iload_n (q := 71) rfl dX1_tryOrders_70 rfl ?_
        by_cases h6 : x1 = (0 : Int32)
        · have hf := ite_pos h6 hf
          refine to_ifF (q := 74) (op := .ne) 78 (fun z => z h6) dX1_tryOrders_71 rfl rfl ?_
          refine to_iconst (q := 75) ic_0 dX1_tryOrders_74 rfl ?_
          refine to_goto (q := 97) dX1_tryOrders_75 rfl ?_
          exact to_ext [(0, .ref 127), (1, .int x1), (2, .int x2), (3, .int x3), (4, .int x4)] (ext_cons rfl (ext_cons rfl (ext_cons rfl (ext_cons rfl (ext_cons rfl ext_nil))))) (kX1_tryOrders_97 hS hdd hrec ih hf hI)
        · have hf := ite_neg h6 hf
          refine to_ifT (q := 78) (op := .ne) h6 dX1_tryOrders_71 rfl ?_
          refine to_aload_n (q := 79) rfl (by decide) dX1_tryOrders_78 rfl ?_
          refine to_getR (q := 82) (b := 128) (k0 := 1) (C := RX1) (T := TX1) (N := 5) (j := 0) rfl fx_X1_9 (h_127 hS) rfl (iv_127_0 hI) dX1_tryOrders_79 rfl ?_
          refine to_aload_n (q := 83) rfl (by decide) dX1_tryOrders_82 rfl ?_
          refine to_getR (q := 86) (b := 130) (k0 := 1) (C := RX1) (T := TX1) (N := 5) (j := 2) rfl fx_X1_18 (h_127 hS) rfl (iv_127_2 hI) dX1_tryOrders_83 rfl ?_
          refine to_iload_n (q := 87) rfl dX1_tryOrders_86 rfl ?_
          refine to_iconst (q := 88) ic_1 dX1_tryOrders_87 rfl ?_
          refine to_isub (q := 89) dX1_tryOrders_88 rfl ?_
          obtain ⟨hb7, hf⟩ := ck_some hf
          refine to_iaj (q := 90) (h_130 hS) hb7 (rfl) dX1_tryOrders_89 rfl ?_
          refine to_bipush (q := 92) bp_6 dX1_tryOrders_90 rfl ?_
          refine to_imul (q := 93) dX1_tryOrders_92 rfl ?_
          refine to_iload (q := 95) rfl dX1_tryOrders_93 rfl ?_
          refine to_iadd (q := 96) dX1_tryOrders_95 rfl ?_
          obtain ⟨hb8, hf⟩ := ck_some hf
          refine to_iaj (q := 97) (h_128 hS) hb8 (rfl) dX1_tryOrders_96 rfl ?_
          exact to_ext [(0, .ref 127), (1, .int x1), (2, .int x2), (3, .int x3), (4, .int x4)] (ext_cons rfl (ext_cons rfl (ext_cons rfl (ext_cons rfl (ext_cons rfl ext_nil))))) (kX1_tryOrders_97 hS hdd hrec ih hf hI)
      · have hf := ite_neg h4 hf
        refine to_ifT (q := 116) (op := .ne) h4 dX1_tryOrders_59 rfl ?_
        exact to_ext [(0, .ref 127), (1, .int x1), (2, .int x2), (3, .int x3), (4, .int x4)] (ext_cons rfl (ext_cons rfl (ext_cons rfl (ext_cons rfl (ext_cons rfl ext_nil))))) (kX1_tryOrders_116 hS hdd hrec ih hf hI)
def fX1_tryOrders (n : Nat) (x1 : Int32) (x2 : Int32) (x3 : Int32) (m : Me) : Option (Me) := match n with
  | 0 => none
  | n + 1 => if x3 < (m.1 127 4) then if x1 < (m.1 127 3) then fX1_tryOrders_44 (fX1_tryOrders n) FU x1 x2 x3 ((0 : Int32)) m else some (cpyI (setI m 127 4 x3) 130 129 0 0 6) else some m
set_option maxRecDepth 20000 in
theorem kX1_tryOrders {S : Sh} (hS : ShOK S) (n : Nat) : ∀ {x1 : Int32} {x2 : Int32} {x3 : Int32} {m : Me} {res : Me}, fX1_tryOrders n x1 x2 x3 m = some res → Inv m → Call (0 + n) mX1_tryOrders [.ref 127, .int x1, .int x2, .int x3] (S, m) none (S, res) ∧ Inv res := by
  induction n with
  | zero => intro x1 x2 x3 m res hf; cases hf
  | succ n ih =>
    intro x1 x2 x3 m res hf  hI
    unfold fX1_tryOrders at hf
    refine call_of (P := InvS) (d := 0 + n) (Nat.le_of_ble_eq_true rfl) (by simp [Value.category]) ?_
    have hrec := @ih
    have hdd : 0 ≤ 0 + n := Nat.le_add_right _ _
    show TT InvS (Call (0 + n)) mX1_tryOrders (0, [(0, .ref 127), (1, .int x1), (2, .int x2), (3, .int x3)], [], S, m) _ _
    refine to_iload_n (q := 1) rfl dX1_tryOrders_0 rfl ?_
    refine to_aload_n (q := 2) rfl (by decide) dX1_tryOrders_1 rfl ?_
    refine to_getI (q := 5) (k0 := 1) (C := RX1) (T := TX1) (N := 5) (j := 4) rfl fx_X1_31 (h_127 hS) rfl dX1_tryOrders_2 rfl ?_
    by_cases h1 : x3 < (m.1 127 4)
    · have hf := ite_pos h1 hf
      refine to_icT (q := 9) (op := .lt) h1 dX1_tryOrders_5 rfl ?_
      refine to_iload_n (q := 10) rfl dX1_tryOrders_9 rfl ?_
      refine to_aload_n (q := 11) rfl (by decide) dX1_tryOrders_10 rfl ?_
      refine to_getI (q := 14) (k0 := 1) (C := RX1) (T := TX1) (N := 5) (j := 3) rfl fx_X1_27 (h_127 hS) rfl dX1_tryOrders_11 rfl ?_
      by_cases h2 : x1 < (m.1 127 3)
      · have hf := ite_pos h2 hf
        refine to_icT (q := 41) (op := .lt) h2 dX1_tryOrders_14 rfl ?_
        refine to_iconst (q := 42) ic_0 dX1_tryOrders_41 rfl ?_
        refine to_istore (q := 44) [(4, .int (0 : Int32)), (0, .ref 127), (1, .int x1), (2, .int x2), (3, .int x3)] rfl (by decide) dX1_tryOrders_42 rfl ?_
        exact to_ext [(0, .ref 127), (1, .int x1), (2, .int x2), (3, .int x3), (4, .int (0 : Int32))] (ext_cons rfl (ext_cons rfl (ext_cons rfl (ext_cons rfl (ext_cons rfl ext_nil))))) (kX1_tryOrders_44 hS hdd hrec FU hf hI)
      · have hf := ite_neg h2 hf
        refine to_icF (q := 17) (op := .lt) 41 h2 dX1_tryOrders_14 rfl rfl ?_
        refine to_aload_n (q := 18) rfl (by decide) dX1_tryOrders_17 rfl ?_
        refine to_iload_n (q := 19) rfl dX1_tryOrders_18 rfl ?_
        refine to_putI (q := 22) (ty := .int) (k0 := 1) (C := RX1) (T := TX1) (N := 5) (j := 4) rfl fx_X1_31 (h_127 hS) rfl pD_I (Or.inl rfl) (nf_I _) dX1_tryOrders_19 rfl ?_
        refine to_aload_n (q := 23) rfl (by decide) dX1_tryOrders_22 rfl ?_
        refine to_getR (q := 26) (b := 130) (k0 := 1) (C := RX1) (T := TX1) (N := 5) (j := 2) rfl fx_X1_18 (h_127 hS) rfl (iv_127_2 hI) dX1_tryOrders_23 rfl ?_
        refine to_iconst (q := 27) ic_0 dX1_tryOrders_26 rfl ?_
        refine to_aload_n (q := 28) rfl (by decide) dX1_tryOrders_27 rfl ?_
        refine to_getR (q := 31) (b := 129) (k0 := 1) (C := RX1) (T := TX1) (N := 5) (j := 1) rfl fx_X1_15 (h_127 hS) rfl (iv_127_1 hI) dX1_tryOrders_28 rfl ?_
        refine to_iconst (q := 32) ic_0 dX1_tryOrders_31 rfl ?_
        refine to_aload_n (q := 33) rfl (by decide) dX1_tryOrders_32 rfl ?_
        refine to_getR (q := 36) (b := 129) (k0 := 1) (C := RX1) (T := TX1) (N := 5) (j := 1) rfl fx_X1_15 (h_127 hS) rfl (iv_127_1 hI) dX1_tryOrders_33 rfl ?_
        refine to_alen (q := 37) (h_129 hS) (by decide) on_6 dX1_tryOrders_36 rfl ?_
        refine to_cpj (q := 40) dX1_tryOrders_37 rfl (Nat.le_of_ble_eq_true rfl) (lc_copy ml_X1_38) (h_130 hS) (h_129 hS) (by decide) (by decide) (by decide) tn_0 tn_0 tn_6 (by decide) (by decide) ?_
        cases hf
        exact to_vret dX1_tryOrders_40 rfl rfl rfl hI
    · have hf := ite_neg h1 hf
      refine to_icF (q := 8) (op := .lt) 9 h1 dX1_tryOrders_5 rfl rfl ?_
      cases hf
      exact to_vret dX1_tryOrders_8 rfl rfl rfl hI
def fX1_settle (x1 : Int32) (m : Me) : Option (Me) := cl1 (fX1_tryOrders 8 (0 : Int32) (0 : Int32) (0 : Int32) (setI (setI m 127 3 (if (6 : Int32) < x1 then (6 : Int32) else x1)) 127 4 (181 : Int32))) fun m3 => some m3
set_option maxRecDepth 20000 in
theorem kX1_settle {S : Sh} (hS : ShOK S) {res : Me} {x1 : Int32} {m : Me} (hf : fX1_settle x1 m = some res) (hI : Inv m) : Call 10 mX1_settle [.ref 127, .int x1] (S, m) none (S, res) ∧ Inv res := by
  refine call_of (P := InvS) (Nat.le_of_ble_eq_true rfl) (by simp [Value.category]) ?_
  show TT InvS (Call 9) mX1_settle (0, [(0, .ref 127), (1, .int x1)], [], S, m) _ _
  unfold fX1_settle at hf
  refine to_aload_n (q := 1) rfl (by decide) dX1_settle_0 rfl ?_
  refine to_iload_n (q := 2) rfl dX1_settle_1 rfl ?_
  refine to_bipush (q := 4) bp_6 dX1_settle_2 rfl ?_
  refine to_min (q := 7) dX1_settle_4 rfl (Nat.le_of_ble_eq_true rfl) (lc_min lm_X1_21) ?_
  refine to_putI (q := 10) (ty := .int) (k0 := 1) (C := RX1) (T := TX1) (N := 5) (j := 3) rfl fx_X1_27 (h_127 hS) rfl pD_I (Or.inl rfl) (nf_I _) dX1_settle_7 rfl ?_
  refine to_aload_n (q := 11) rfl (by decide) dX1_settle_10 rfl ?_
  refine to_sipush (q := 14) sp_181 dX1_settle_11 rfl ?_
  refine to_putI (q := 17) (ty := .int) (k0 := 1) (C := RX1) (T := TX1) (N := 5) (j := 4) rfl fx_X1_31 (h_127 hS) rfl pD_I (Or.inl rfl) (nf_I _) dX1_settle_14 rfl ?_
  refine to_aload_n (q := 18) rfl (by decide) dX1_settle_17 rfl ?_
  refine to_iconst (q := 19) ic_0 dX1_settle_18 rfl ?_
  refine to_iconst (q := 20) ic_0 dX1_settle_19 rfl ?_
  refine to_iconst (q := 21) ic_0 dX1_settle_20 rfl ?_
  obtain ⟨m3, hc1, hf⟩ := cl1_some hf
  have qc2 := kX1_tryOrders hS 8 hc1 hI
  refine to_virtV (q := 24) mX1_tryOrders [.int (0 : Int32), .int (0 : Int32), .int (0 : Int32)] dX1_settle_21 rfl rfl (Nat.le_of_ble_eq_true rfl) mo_X1_tryOrders mv_X1_34 (Or.inl ⟨_, _, _, h_127 hS, rfl, rfl⟩) (Call_mono (by decide) qc2.1) ?_
  have hI := qc2.2
  cases hf
  exact to_vret dX1_settle_24 rfl rfl rfl hI
def fX3_gather_114 (n : Nat) (x4 : Int32) (m : Me) : Option (Me) := match n with
  | 0 => none
  | n + 1 => if (30 : Int32) ≤ x4 then some m else ck (inb x4 30) (ck (inb x4 30) (fX3_gather_114 n ((x4 + (1 : Int32))) (setI (setI m 99 x4.toNatClampNeg (-1 : Int32)) 100 x4.toNatClampNeg (-1 : Int32))))
set_option maxRecDepth 20000 in
theorem kX3_gather_114 {S : Sh} (hS : ShOK S) {res : Me} (n : Nat) : ∀ {x4 : Int32} {m : Me}, fX3_gather_114 n x4 m = some res → Inv m → TT InvS (Call 4) mX3_gather (114, [(0, .ref 96), (4, .int x4)], [], S, m) none (S, res) := by
  induction n with
  | zero => intro x4 m hf; cases hf
  | succ n ih =>
    intro x4 m hf  hI
    unfold fX3_gather_114 at hf
    refine to_iload (q := 116) rfl dX3_gather_114 rfl ?_
    refine to_aload_n (q := 117) rfl (by decide) dX3_gather_116 rfl ?_
    refine to_getR (q := 120) (b := 99) (k0 := 3) (C := RX3) (T := TX3) (N := 8) (j := 3) rfl fx_X3_23 (h_96 hS) rfl (iv_96_3 hI) dX3_gather_117 rfl ?_
    refine to_alen (q := 121) (h_99 hS) (by decide) on_30 dX3_gather_120 rfl ?_
    by_cases h2 : (30 : Int32) ≤ x4
    · have hf := ite_pos h2 hf
      refine to_icT (q := 146) (op := .ge) h2 dX3_gather_121 rfl ?_
      cases hf
      exact to_vret dX3_gather_146 rfl rfl rfl hI
    · have hf := ite_neg h2 hf
      refine to_icF (q := 124) (op := .ge) 146 h2 dX3_gather_121 rfl rfl ?_
      refine to_aload_n (q := 125) rfl (by decide) dX3_gather_124 rfl ?_
      refine to_getR (q := 128) (b := 99) (k0 := 3) (C := RX3) (T := TX3) (N := 8) (j := 3) rfl fx_X3_23 (h_96 hS) rfl (iv_96_3 hI) dX3_gather_125 rfl ?_
      refine to_iload (q := 130) rfl dX3_gather_128 rfl ?_
      refine to_iconst (q := 131) ic_m1 dX3_gather_130 rfl ?_
      obtain ⟨hb3, hf⟩ := ck_some hf
      refine to_iasj (q := 132) (h_99 hS) hb3 (rfl) dX3_gather_131 rfl ?_
      refine to_aload_n (q := 133) rfl (by decide) dX3_gather_132 rfl ?_
      refine to_getR (q := 136) (b := 100) (k0 := 3) (C := RX3) (T := TX3) (N := 8) (j := 4) rfl fx_X3_27 (h_96 hS) rfl (iv_96_4 hI) dX3_gather_133 rfl ?_
      refine to_iload (q := 138) rfl dX3_gather_136 rfl ?_
      refine to_iconst (q := 139) ic_m1 dX3_gather_138 rfl ?_
      obtain ⟨hb4, hf⟩ := ck_some hf
      refine to_iasj (q := 140) (h_100 hS) hb4 (rfl) dX3_gather_139 rfl ?_
      refine to_iinc (q := 143) (v := (x4 + (1 : Int32))) rfl (congrArg (fun z => x4 + z) ic_1) [(4, .int (x4 + (1 : Int32))), (0, .ref 96)] rfl (by decide) dX3_gather_140 rfl ?_
      refine to_goto (q := 114) dX3_gather_143 rfl ?_
      exact to_ext [(0, .ref 96), (4, .int (x4 + (1 : Int32)))] (ext_cons rfl (ext_cons rfl ext_nil)) (ih hf hI)
def fX3_gather_99 (k9 : Nat → Nat → Int32 → Int32 → Me → Option (Me)) (k17 : Nat → Nat → Int32 → Int32 → Int32 → Me → Option (Me)) (a1 : Nat) (a2 : Nat) (x3 : Int32) (x4 : Int32) (x5 : Int32) (m : Me) : Option (Me) := k17 a1 a2 x3 x4 ((x5 + (1 : Int32))) m
set_option maxRecDepth 20000 in
theorem kX3_gather_99 {S : Sh} (hS : ShOK S) {res : Me} {k9 : Nat → Nat → Int32 → Int32 → Me → Option (Me)} (hk9 : ∀ {a1 : Nat} {a2 : Nat} {x3 : Int32} {x4 : Int32} {m : Me}, k9 a1 a2 x3 x4 m = some res → kd a1 = 2 → kd a2 = 5 → Inv m → TT InvS (Call 4) mX3_gather (9, [(0, .ref 96), (1, .ref a1), (2, .ref a2), (3, .int x3), (4, .int x4)], [], S, m) none (S, res)) {k17 : Nat → Nat → Int32 → Int32 → Int32 → Me → Option (Me)} (hk17 : ∀ {a1 : Nat} {a2 : Nat} {x3 : Int32} {x4 : Int32} {x5 : Int32} {m : Me}, k17 a1 a2 x3 x4 x5 m = some res → kd a1 = 2 → kd a2 = 5 → Inv m → TT InvS (Call 4) mX3_gather (17, [(0, .ref 96), (1, .ref a1), (2, .ref a2), (3, .int x3), (4, .int x4), (5, .int x5)], [], S, m) none (S, res)) {a1 : Nat} {a2 : Nat} {x3 : Int32} {x4 : Int32} {x5 : Int32} {m : Me} (hf : fX3_gather_99 k9 k17 a1 a2 x3 x4 x5 m = some res) (ha1 : kd a1 = 2) (ha2 : kd a2 = 5) (hI : Inv m) : TT InvS (Call 4) mX3_gather (99, [(0, .ref 96), (1, .ref a1), (2, .ref a2), (3, .int x3), (4, .int x4), (5, .int x5)], [], S, m) none (S, res) := by
  unfold fX3_gather_99 at hf
  refine to_iinc (q := 102) (v := (x5 + (1 : Int32))) rfl (congrArg (fun z => x5 + z) ic_1) [(5, .int (x5 + (1 : Int32))), (0, .ref 96), (1, .ref a1), (2, .ref a2), (3, .int x3), (4, .int x4)] rfl (by decide) dX3_gather_99 rfl ?_
  refine to_goto (q := 17) dX3_gather_102 rfl ?_
  exact to_ext [(0, .ref 96), (1, .ref a1), (2, .ref a2), (3, .int x3), (4, .int x4), (5, .int (x5 + (1 : Int32)))] (ext_cons rfl (ext_cons rfl (ext_cons rfl (ext_cons rfl (ext_cons rfl (ext_cons rfl ext_nil)))))) (hk17 hf (ha1) (ha2) hI)
def fX3_gather_17 (n : Nat) (k9 : Nat → Nat → Int32 → Int32 → Me → Option (Me)) (a1 : Nat) (a2 : Nat) (x3 : Int32) (x4 : Int32) (x5 : Int32) (m : Me) : Option (Me) := match n with
  | 0 => none
  | n + 1 => if (m.1 a1 9) ≤ x5 then k9 a1 a2 x3 ((x4 + (-1 : Int32))) m else ck (inb x5 4) (if (m.1 (a1 + 19 + 2 * x5.toNatClampNeg) 2) = x3 then if (m.1 (a1 + 19 + 2 * x5.toNatClampNeg) 1) = x4 then ck (inb (m.1 96 2) 4) (ck (inb ((setR m 98 (m.1 96 2).toNatClampNeg (some (a1 + 19 + 2 * x5.toNatClampNeg))).1 96 2) 4) (cl1 (fX7_look (103 + 5 * ((setR m 98 (m.1 96 2).toNatClampNeg (some (a1 + 19 + 2 * x5.toNatClampNeg))).1 96 2).toNatClampNeg) a1 a2 (((setR m 98 (m.1 96 2).toNatClampNeg (some (a1 + 19 + 2 * x5.toNatClampNeg))).1 a2 1)) x3 (((setR m 98 (m.1 96 2).toNatClampNeg (some (a1 + 19 + 2 * x5.toNatClampNeg))).1 (a1 + 19 + 2 * x5.toNatClampNeg) 3)) (setR m 98 (m.1 96 2).toNatClampNeg (some (a1 + 19 + 2 * x5.toNatClampNeg)))) fun m13 => fX3_gather_99 k9 (fX3_gather_17 n k9) a1 a2 x3 x4 x5 (setI m13 96 2 ((m13.1 96 2) + (1 : Int32))))) else fX3_gather_99 k9 (fX3_gather_17 n k9) a1 a2 x3 x4 x5 m else fX3_gather_99 k9 (fX3_gather_17 n k9) a1 a2 x3 x4 x5 m)
set_option maxRecDepth 20000 in
theorem kX3_gather_17 {S : Sh} (hS : ShOK S) {res : Me} {k9 : Nat → Nat → Int32 → Int32 → Me → Option (Me)} (hk9 : ∀ {a1 : Nat} {a2 : Nat} {x3 : Int32} {x4 : Int32} {m : Me}, k9 a1 a2 x3 x4 m = some res → kd a1 = 2 → kd a2 = 5 → Inv m → TT InvS (Call 4) mX3_gather (9, [(0, .ref 96), (1, .ref a1), (2, .ref a2), (3, .int x3), (4, .int x4)], [], S, m) none (S, res)) (n : Nat) : ∀ {a1 : Nat} {a2 : Nat} {x3 : Int32} {x4 : Int32} {x5 : Int32} {m : Me}, fX3_gather_17 n k9 a1 a2 x3 x4 x5 m = some res → kd a1 = 2 → kd a2 = 5 → Inv m → TT InvS (Call 4) mX3_gather (17, [(0, .ref 96), (1, .ref a1), (2, .ref a2), (3, .int x3), (4, .int x4), (5, .int x5)], [], S, m) none (S, res) := by
  induction n with
  | zero => intro a1 a2 x3 x4 x5 m hf; cases hf
  | succ n ih =>
    intro a1 a2 x3 x4 x5 m hf ha1 ha2 hI
    unfold fX3_gather_17 at hf
    refine to_iload (q := 19) rfl dX3_gather_17 rfl ?_
    refine to_aload_n (q := 20) rfl (kd_4 (ha1) (by decide)) dX3_gather_19 rfl ?_
    refine to_getI (q := 23) (k0 := 2) (C := RX2) (T := TX2) (N := 14) (j := 9) rfl fx_X3_60 (sh_kd hS ha1 (by decide)) rfl dX3_gather_20 rfl ?_
    by_cases h5 : (m.1 a1 9) ≤ x5
    · have hf := ite_pos h5 hf
      refine to_icT (q := 105) (op := .ge) h5 dX3_gather_23 rfl ?_
      refine to_iinc (q := 108) (v := (x4 + (-1 : Int32))) rfl (congrArg (fun z => x4 + z) ic_m1) [(4, .int (x4 + (-1 : Int32))), (0, .ref 96), (1, .ref a1), (2, .ref a2), (3, .int x3), (5, .int x5)] rfl (by decide) dX3_gather_105 rfl ?_
      refine to_goto (q := 9) dX3_gather_108 rfl ?_
      exact to_ext [(0, .ref 96), (1, .ref a1), (2, .ref a2), (3, .int x3), (4, .int (x4 + (-1 : Int32)))] (ext_cons rfl (ext_cons rfl (ext_cons rfl (ext_cons rfl (ext_cons rfl ext_nil))))) (hk9 hf (ha1) (ha2) hI)
    · have hf := ite_neg h5 hf
      refine to_icF (q := 26) (op := .ge) 105 h5 dX3_gather_23 rfl rfl ?_
      refine to_aload_n (q := 27) rfl (kd_4 (ha1) (by decide)) dX3_gather_26 rfl ?_
      refine to_getR (q := 30) (b := a1 + 4) (k0 := 2) (C := RX2) (T := TX2) (N := 14) (j := 8) rfl fx_X3_65 (sh_kd hS ha1 (by decide)) rfl (iv2i hI (ha1)) dX3_gather_27 rfl ?_
      refine to_iload (q := 32) rfl dX3_gather_30 rfl ?_
      obtain ⟨hb6, hf⟩ := ck_some hf
      refine to_aald (q := 33) (b := a1 + 19 + 2 * x5.toNatClampNeg) (sh_ln hS (kd2i (ha1)) (by decide)) (by decide) hb6 (ivI hI (ha1) hb6) dX3_gather_32 rfl ?_
      refine to_astore (q := 35) [(6, .ref (a1 + 19 + 2 * x5.toNatClampNeg)), (0, .ref 96), (1, .ref a1), (2, .ref a2), (3, .int x3), (4, .int x4), (5, .int x5)] rfl (kd_4 (kdI (ha1) hb6) (by decide)) (by decide) dX3_gather_33 rfl ?_
      refine to_aload (q := 37) rfl (kd_4 (kdI (ha1) hb6) (by decide)) dX3_gather_35 rfl ?_
      refine to_getI (q := 40) (k0 := 8) (C := RX8) (T := TX8) (N := 5) (j := 2) rfl fx_X3_66 (sh_kd hS (kdI (ha1) hb6) (by decide)) rfl dX3_gather_37 rfl ?_
      refine to_iload_n (q := 41) rfl dX3_gather_40 rfl ?_
      by_cases h7 : (m.1 (a1 + 19 + 2 * x5.toNatClampNeg) 2) = x3
      · have hf := ite_pos h7 hf
        refine to_icF (q := 44) (op := .ne) 99 (fun z => z h7) dX3_gather_41 rfl rfl ?_
        refine to_aload (q := 46) rfl (kd_4 (kdI (ha1) hb6) (by decide)) dX3_gather_44 rfl ?_
        refine to_getI (q := 49) (k0 := 8) (C := RX8) (T := TX8) (N := 5) (j := 1) rfl fx_X3_69 (sh_kd hS (kdI (ha1) hb6) (by decide)) rfl dX3_gather_46 rfl ?_
        refine to_iload (q := 51) rfl dX3_gather_49 rfl ?_
        by_cases h8 : (m.1 (a1 + 19 + 2 * x5.toNatClampNeg) 1) = x4
        · have hf := ite_pos h8 hf
          refine to_icF (q := 54) (op := .ne) 99 (fun z => z h8) dX3_gather_51 rfl rfl ?_
          refine to_aload_n (q := 55) rfl (by decide) dX3_gather_54 rfl ?_
          refine to_getR (q := 58) (b := 98) (k0 := 3) (C := RX3) (T := TX3) (N := 8) (j := 1) rfl fx_X3_19 (h_96 hS) rfl (iv_96_1 hI) dX3_gather_55 rfl ?_
          refine to_aload_n (q := 59) rfl (by decide) dX3_gather_58 rfl ?_
          refine to_getI (q := 62) (k0 := 3) (C := RX3) (T := TX3) (N := 8) (j := 2) rfl fx_X3_57 (h_96 hS) rfl dX3_gather_59 rfl ?_
          refine to_aload (q := 64) rfl (kd_4 (kdI (ha1) hb6) (by decide)) dX3_gather_62 rfl ?_
          obtain ⟨hb9, hf⟩ := ck_some hf
          refine to_aast (q := 65) (h_98 hS) (by decide) hb9 (sh_kd hS (kdI (ha1) hb6) (by decide)) dX3_gather_64 rfl ?_
          have hI : Inv (setR m 98 (m.1 96 2).toNatClampNeg (some (a1 + 19 + 2 * x5.toNatClampNeg))) := inv_wish hI (kdI (ha1) hb6)
          refine to_aload_n (q := 66) rfl (by decide) dX3_gather_65 rfl ?_
          refine to_getR (q := 69) (b := 97) (k0 := 3) (C := RX3) (T := TX3) (N := 8) (j := 0) rfl fx_X3_11 (h_96 hS) rfl (iv_96_0 hI) dX3_gather_66 rfl ?_
          refine to_aload_n (q := 70) rfl (by decide) dX3_gather_69 rfl ?_
          refine to_getI (q := 73) (k0 := 3) (C := RX3) (T := TX3) (N := 8) (j := 2) rfl fx_X3_57 (h_96 hS) rfl dX3_gather_70 rfl ?_
          obtain ⟨hb10, hf⟩ := ck_some hf
          refine to_aald (q := 74) (b := 103 + 5 * ((setR m 98 (m.1 96 2).toNatClampNeg (some (a1 + 19 + 2 * x5.toNatClampNeg))).1 96 2).toNatClampNeg) (h_97 hS) (by decide) hb10 (ivR hI hb10) dX3_gather_73 rfl ?_
          refine to_aload_n (q := 75) rfl (kd_4 (ha1) (by decide)) dX3_gather_74 rfl ?_
          refine to_aload_n (q := 76) rfl (kd_4 (ha2) (by decide)) dX3_gather_75 rfl ?_
          refine to_aload_n (q := 77) rfl (kd_4 (ha2) (by decide)) dX3_gather_76 rfl ?_
          refine to_getI (q := 80) (k0 := 5) (C := RX5) (T := TX5) (N := 3) (j := 1) rfl fx_X3_72 (sh_kd hS ha2 (by decide)) rfl dX3_gather_77 rfl ?_
          refine to_iload_n (q := 81) rfl dX3_gather_80 rfl ?_
          refine to_aload (q := 83) rfl (kd_4 (kdI (ha1) hb6) (by decide)) dX3_gather_81 rfl ?_
          refine to_getI (q := 86) (k0 := 8) (C := RX8) (T := TX8) (N := 5) (j := 3) rfl fx_X3_77 (sh_kd hS (kdI (ha1) hb6) (by decide)) rfl dX3_gather_83 rfl ?_
          obtain ⟨m13, hc11, hf⟩ := cl1_some hf
          have qc12 := kX7_look hS hc11 (kdR hb10) (ha1) (ha2) hI
          refine to_virtV (q := 89) mX7_look [.ref a1, .ref a2, .int ((setR m 98 (m.1 96 2).toNatClampNeg (some (a1 + 19 + 2 * x5.toNatClampNeg))).1 a2 1), .int x3, .int ((setR m 98 (m.1 96 2).toNatClampNeg (some (a1 + 19 + 2 * x5.toNatClampNeg))).1 (a1 + 19 + 2 * x5.toNatClampNeg) 3)] dX3_gather_86 rfl rfl (Nat.le_of_ble_eq_true rfl) mo_X7_look mv_X3_80 (Or.inl ⟨_, _, _, sh_kd hS (kdR hb10) (by decide), rfl, rfl⟩) (Call_mono (by decide) qc12.1) ?_
          have hI := qc12.2
          refine to_aload_n (q := 90) rfl (by decide) dX3_gather_89 rfl ?_
          refine to_dup (q := 91) rfl dX3_gather_90 rfl ?_
          refine to_getI (q := 94) (k0 := 3) (C := RX3) (T := TX3) (N := 8) (j := 2) rfl fx_X3_57 (h_96 hS) rfl dX3_gather_91 rfl ?_
          refine to_iconst (q := 95) ic_1 dX3_gather_94 rfl ?_
          refine to_iadd (q := 96) dX3_gather_95 rfl ?_
          refine to_putI (q := 99) (ty := .int) (k0 := 3) (C := RX3) (T := TX3) (N := 8) (j := 2) rfl fx_X3_57 (h_96 hS) rfl pD_I (Or.inl rfl) (nf_I _) dX3_gather_96 rfl ?_
          exact to_ext [(0, .ref 96), (1, .ref a1), (2, .ref a2), (3, .int x3), (4, .int x4), (5, .int x5)] (ext_cons rfl (ext_cons rfl (ext_cons rfl (ext_cons rfl (ext_cons rfl (ext_cons rfl ext_nil)))))) (kX3_gather_99 hS hk9 ih hf (ha1) (ha2) hI)
        · have hf := ite_neg h8 hf
          refine to_icT (q := 99) (op := .ne) h8 dX3_gather_51 rfl ?_
          exact to_ext [(0, .ref 96), (1, .ref a1), (2, .ref a2), (3, .int x3), (4, .int x4), (5, .int x5)] (ext_cons rfl (ext_cons rfl (ext_cons rfl (ext_cons rfl (ext_cons rfl (ext_cons rfl ext_nil)))))) (kX3_gather_99 hS hk9 ih hf (ha1) (ha2) hI)
      · have hf := ite_neg h7 hf
        refine to_icT (q := 99) (op := .ne) h7 dX3_gather_41 rfl ?_
        exact to_ext [(0, .ref 96), (1, .ref a1), (2, .ref a2), (3, .int x3), (4, .int x4), (5, .int x5)] (ext_cons rfl (ext_cons rfl (ext_cons rfl (ext_cons rfl (ext_cons rfl (ext_cons rfl ext_nil)))))) (kX3_gather_99 hS hk9 ih hf (ha1) (ha2) hI)
def fX3_gather_9 (n : Nat) (a1 : Nat) (a2 : Nat) (x3 : Int32) (x4 : Int32) (m : Me) : Option (Me) := match n with
  | 0 => none
  | n + 1 => if x4 ≤ (0 : Int32) then fX3_gather_114 FU ((0 : Int32)) m else fX3_gather_17 FU (fX3_gather_9 n) a1 a2 x3 x4 ((0 : Int32)) m
set_option maxRecDepth 20000 in
theorem kX3_gather_9 {S : Sh} (hS : ShOK S) {res : Me} (n : Nat) : ∀ {a1 : Nat} {a2 : Nat} {x3 : Int32} {x4 : Int32} {m : Me}, fX3_gather_9 n a1 a2 x3 x4 m = some res → kd a1 = 2 → kd a2 = 5 → Inv m → TT InvS (Call 4) mX3_gather (9, [(0, .ref 96), (1, .ref a1), (2, .ref a2), (3, .int x3), (4, .int x4)], [], S, m) none (S, res) := by
  induction n with
  | zero => intro a1 a2 x3 x4 m hf; cases hf
  | succ n ih =>
    intro a1 a2 x3 x4 m hf ha1 ha2 hI
    unfold fX3_gather_9 at hf
    refine to_iload (q := 11) rfl dX3_gather_9 rfl ?_
    by_cases h1 : x4 ≤ (0 : Int32)
    · have hf := ite_pos h1 hf
      refine to_ifT (q := 111) (op := .le) h1 dX3_gather_11 rfl ?_
      refine to_iconst (q := 112) ic_0 dX3_gather_111 rfl ?_
      refine to_istore (q := 114) [(4, .int (0 : Int32)), (0, .ref 96), (1, .ref a1), (2, .ref a2), (3, .int x3)] rfl (by decide) dX3_gather_112 rfl ?_
      exact to_ext [(0, .ref 96), (4, .int (0 : Int32))] (ext_cons rfl (ext_cons rfl ext_nil)) (kX3_gather_114 hS FU hf hI)
    · have hf := ite_neg h1 hf
      refine to_ifF (q := 14) (op := .le) 111 h1 dX3_gather_11 rfl rfl ?_
      refine to_iconst (q := 15) ic_0 dX3_gather_14 rfl ?_
      refine to_istore (q := 17) [(5, .int (0 : Int32)), (0, .ref 96), (1, .ref a1), (2, .ref a2), (3, .int x3), (4, .int x4)] rfl (by decide) dX3_gather_15 rfl ?_
      exact to_ext [(0, .ref 96), (1, .ref a1), (2, .ref a2), (3, .int x3), (4, .int x4), (5, .int (0 : Int32))] (ext_cons rfl (ext_cons rfl (ext_cons rfl (ext_cons rfl (ext_cons rfl (ext_cons rfl ext_nil)))))) (kX3_gather_17 hS ih FU hf (ha1) (ha2) hI)
def fX3_gather (a1 : Nat) (a2 : Nat) (x3 : Int32) (m : Me) : Option (Me) := fX3_gather_9 FU a1 a2 x3 ((8 : Int32)) (setI m 96 2 (0 : Int32))
set_option maxRecDepth 20000 in
theorem kX3_gather {S : Sh} (hS : ShOK S) {res : Me} {a1 : Nat} {a2 : Nat} {x3 : Int32} {m : Me} (hf : fX3_gather a1 a2 x3 m = some res) (ha1 : kd a1 = 2) (ha2 : kd a2 = 5) (hI : Inv m) : Call 5 mX3_gather [.ref 96, .ref a1, .ref a2, .int x3] (S, m) none (S, res) ∧ Inv res := by
  refine call_of (P := InvS) (Nat.le_of_ble_eq_true rfl) (by simp [Value.category]) ?_
  show TT InvS (Call 4) mX3_gather (0, [(0, .ref 96), (1, .ref a1), (2, .ref a2), (3, .int x3)], [], S, m) _ _
  unfold fX3_gather at hf
  refine to_aload_n (q := 1) rfl (by decide) dX3_gather_0 rfl ?_
  refine to_iconst (q := 2) ic_0 dX3_gather_1 rfl ?_
  refine to_putI (q := 5) (ty := .int) (k0 := 3) (C := RX3) (T := TX3) (N := 8) (j := 2) rfl fx_X3_57 (h_96 hS) rfl pD_I (Or.inl rfl) (nf_I _) dX3_gather_2 rfl ?_
  refine to_bipush (q := 7) bp_8 dX3_gather_5 rfl ?_
  refine to_istore (q := 9) [(4, .int (8 : Int32)), (0, .ref 96), (1, .ref a1), (2, .ref a2), (3, .int x3)] rfl (by decide) dX3_gather_7 rfl ?_
  exact to_ext [(0, .ref 96), (1, .ref a1), (2, .ref a2), (3, .int x3), (4, .int (8 : Int32))] (ext_cons rfl (ext_cons rfl (ext_cons rfl (ext_cons rfl (ext_cons rfl ext_nil))))) (kX3_gather_9 hS FU hf (ha1) (ha2) hI)
def fX3_lastPlace (x1 : Int32) (m : Me) : Option (Int32 × Me) := ck (inb x1 4) (ck (inb x1 4) (some (((m.1 (103 + 5 * x1.toNatClampNeg) 2) - (m.1 (rr m 98 x1.toNatClampNeg) 1)), m)))
set_option maxRecDepth 20000 in
theorem kX3_lastPlace {S : Sh} (hS : ShOK S) {res : Int32 × Me} {x1 : Int32} {m : Me} (hf : fX3_lastPlace x1 m = some res) (hI : Inv m) : Call 1 mX3_lastPlace [.ref 96, .int x1] (S, m) (some (.int res.1)) (S, res.2) ∧ Inv res.2 := by
  refine call_of (P := InvS) (Nat.le_of_ble_eq_true rfl) (by simp [Value.category]) ?_
  show TT InvS (Call 0) mX3_lastPlace (0, [(0, .ref 96), (1, .int x1)], [], S, m) _ _
  unfold fX3_lastPlace at hf
  refine to_aload_n (q := 1) rfl (by decide) dX3_lastPlace_0 rfl ?_
  refine to_getR (q := 4) (b := 97) (k0 := 3) (C := RX3) (T := TX3) (N := 8) (j := 0) rfl fx_X3_11 (h_96 hS) rfl (iv_96_0 hI) dX3_lastPlace_1 rfl ?_
  refine to_iload_n (q := 5) rfl dX3_lastPlace_4 rfl ?_
  obtain ⟨hb1, hf⟩ := ck_some hf
  refine to_aald (q := 6) (b := 103 + 5 * x1.toNatClampNeg) (h_97 hS) (by decide) hb1 (ivR hI hb1) dX3_lastPlace_5 rfl ?_
  refine to_getI (q := 9) (k0 := 7) (C := RX7) (T := TX7) (N := 3) (j := 2) rfl fx_X3_91 (sh_kd hS (kdR hb1) (by decide)) rfl dX3_lastPlace_6 rfl ?_
  refine to_aload_n (q := 10) rfl (by decide) dX3_lastPlace_9 rfl ?_
  refine to_getR (q := 13) (b := 98) (k0 := 3) (C := RX3) (T := TX3) (N := 8) (j := 1) rfl fx_X3_19 (h_96 hS) rfl (iv_96_1 hI) dX3_lastPlace_10 rfl ?_
  refine to_iload_n (q := 14) rfl dX3_lastPlace_13 rfl ?_
  obtain ⟨hb2, hf⟩ := ck_some hf
  have hk3 : kd (rr m 98 x1.toNatClampNeg) = 8 := (ivM hI hb2).2
  refine to_aald (q := 15) (b := rr m 98 x1.toNatClampNeg) (h_98 hS) (by decide) hb2 ((ivM hI hb2).1) dX3_lastPlace_14 rfl ?_
  refine to_getI (q := 18) (k0 := 8) (C := RX8) (T := TX8) (N := 5) (j := 1) rfl fx_X3_69 (sh_kd hS hk3 (by decide)) rfl dX3_lastPlace_15 rfl ?_
  refine to_isub (q := 19) dX3_lastPlace_18 rfl ?_
  cases hf
  exact to_iret dX3_lastPlace_19 rfl rfl rfl rfl hI
def fX3_lacksPlace_30 (m : Me) : Option (Int32 × Me) := some ((1 : Int32), m)
set_option maxRecDepth 20000 in
theorem kX3_lacksPlace_30 {S : Sh} (hS : ShOK S) {res : Int32 × Me} {m : Me} (hf : fX3_lacksPlace_30 m = some res) (hI : Inv m) : TT InvS (Call 1) mX3_lacksPlace (30, [], [], S, m) (some (.int res.1)) (S, res.2) := by
  unfold fX3_lacksPlace_30 at hf
  refine to_iconst (q := 31) ic_1 dX3_lacksPlace_30 rfl ?_
  cases hf
  exact to_iret dX3_lacksPlace_31 rfl (by decide) rfl rfl hI
def fX3_lacksPlace_2 (n : Nat) (x1 : Int32) (m : Me) : Option (Int32 × Me) := match n with
  | 0 => none
  | n + 1 => if (m.1 96 2) ≤ x1 then some ((0 : Int32), m) else ck (inb x1 4) (cl2 (fX8_hasBare (rr m 98 x1.toNatClampNeg) m) fun r6 m7 => if r6 = (0 : Int32) then cl2 (fX3_lastPlace x1 m7) fun r11 m12 => if (0 : Int32) ≤ r11 then fX3_lacksPlace_2 n ((x1 + (1 : Int32))) m12 else fX3_lacksPlace_30 m12 else fX3_lacksPlace_30 m7)
set_option maxRecDepth 20000 in
theorem kX3_lacksPlace_2 {S : Sh} (hS : ShOK S) {res : Int32 × Me} (n : Nat) : ∀ {x1 : Int32} {m : Me}, fX3_lacksPlace_2 n x1 m = some res → Inv m → TT InvS (Call 1) mX3_lacksPlace (2, [(0, .ref 96), (1, .int x1)], [], S, m) (some (.int res.1)) (S, res.2) := by
  induction n with
  | zero => intro x1 m hf; cases hf
  | succ n ih =>
    intro x1 m hf  hI
    unfold fX3_lacksPlace_2 at hf
    refine to_iload_n (q := 3) rfl dX3_lacksPlace_2 rfl ?_
    refine to_aload_n (q := 4) rfl (by decide) dX3_lacksPlace_3 rfl ?_
    refine to_getI (q := 7) (k0 := 3) (C := RX3) (T := TX3) (N := 8) (j := 2) rfl fx_X3_57 (h_96 hS) rfl dX3_lacksPlace_4 rfl ?_
    by_cases h1 : (m.1 96 2) ≤ x1
    · have hf := ite_pos h1 hf
      refine to_icT (q := 38) (op := .ge) h1 dX3_lacksPlace_7 rfl ?_
      refine to_iconst (q := 39) ic_0 dX3_lacksPlace_38 rfl ?_
      cases hf
      exact to_iret dX3_lacksPlace_39 rfl (by decide) rfl rfl hI
    · have hf := ite_neg h1 hf
      refine to_icF (q := 10) (op := .ge) 38 h1 dX3_lacksPlace_7 rfl rfl ?_
      refine to_aload_n (q := 11) rfl (by decide) dX3_lacksPlace_10 rfl ?_
      refine to_getR (q := 14) (b := 98) (k0 := 3) (C := RX3) (T := TX3) (N := 8) (j := 1) rfl fx_X3_19 (h_96 hS) rfl (iv_96_1 hI) dX3_lacksPlace_11 rfl ?_
      refine to_iload_n (q := 15) rfl dX3_lacksPlace_14 rfl ?_
      obtain ⟨hb2, hf⟩ := ck_some hf
      have hk3 : kd (rr m 98 x1.toNatClampNeg) = 8 := (ivM hI hb2).2
      refine to_aald (q := 16) (b := rr m 98 x1.toNatClampNeg) (h_98 hS) (by decide) hb2 ((ivM hI hb2).1) dX3_lacksPlace_15 rfl ?_
      obtain ⟨r6, m7, hc4, hf⟩ := cl2_some hf
      have qc5 := kX8_hasBare hS hc4 (hk3) hI
      refine to_virtI (q := 19) mX8_hasBare [] dX3_lacksPlace_16 rfl rfl (Nat.le_of_ble_eq_true rfl) mo_X8_hasBare mv_X3_84 (Or.inl ⟨_, _, _, sh_kd hS hk3 (by decide), rfl, rfl⟩) (Call_mono (by decide) qc5.1) ?_
      have hI := qc5.2
      by_cases h8 : r6 = (0 : Int32)
      · have hf := ite_pos h8 hf
        refine to_ifF (q := 22) (op := .ne) 30 (fun z => z h8) dX3_lacksPlace_19 rfl rfl ?_
        refine to_aload_n (q := 23) rfl (by decide) dX3_lacksPlace_22 rfl ?_
        refine to_iload_n (q := 24) rfl dX3_lacksPlace_23 rfl ?_
        obtain ⟨r11, m12, hc9, hf⟩ := cl2_some hf
        have qc10 := kX3_lastPlace hS hc9 hI
        refine to_virtI (q := 27) mX3_lastPlace [.int x1] dX3_lacksPlace_24 rfl rfl (Nat.le_of_ble_eq_true rfl) mo_X3_lastPlace mv_X3_87 (Or.inl ⟨_, _, _, h_96 hS, rfl, rfl⟩) (Call_mono (by decide) qc10.1) ?_
        have hI := qc10.2
        by_cases h13 : (0 : Int32) ≤ r11
        · have hf := ite_pos h13 hf
          refine to_ifT (q := 32) (op := .ge) h13 dX3_lacksPlace_27 rfl ?_
          refine to_iinc (q := 35) (v := (x1 + (1 : Int32))) rfl (congrArg (fun z => x1 + z) ic_1) [(1, .int (x1 + (1 : Int32))), (0, .ref 96)] rfl (by decide) dX3_lacksPlace_32 rfl ?_
          refine to_goto (q := 2) dX3_lacksPlace_35 rfl ?_
          exact to_ext [(0, .ref 96), (1, .int (x1 + (1 : Int32)))] (ext_cons rfl (ext_cons rfl ext_nil)) (ih hf hI)
        · have hf := ite_neg h13 hf
          refine to_ifF (q := 30) (op := .ge) 32 h13 dX3_lacksPlace_27 rfl rfl ?_
          exact to_ext [] ext_nil (kX3_lacksPlace_30 hS hf hI)
      · have hf := ite_neg h8 hf
        refine to_ifT (q := 30) (op := .ne) h8 dX3_lacksPlace_19 rfl ?_
        exact to_ext [] ext_nil (kX3_lacksPlace_30 hS hf hI)
def fX3_lacksPlace (m : Me) : Option (Int32 × Me) := fX3_lacksPlace_2 FU ((0 : Int32)) m
set_option maxRecDepth 20000 in
theorem kX3_lacksPlace {S : Sh} (hS : ShOK S) {res : Int32 × Me} {m : Me} (hf : fX3_lacksPlace m = some res) (hI : Inv m) : Call 2 mX3_lacksPlace [.ref 96] (S, m) (some (.int res.1)) (S, res.2) ∧ Inv res.2 := by
  refine call_of (P := InvS) (Nat.le_of_ble_eq_true rfl) (by simp [Value.category]) ?_
  show TT InvS (Call 1) mX3_lacksPlace (0, [(0, .ref 96)], [], S, m) _ _
  unfold fX3_lacksPlace at hf
  refine to_iconst (q := 1) ic_0 dX3_lacksPlace_0 rfl ?_
  refine to_istore_n (q := 2) [(1, .int (0 : Int32)), (0, .ref 96)] rfl (by decide) dX3_lacksPlace_1 rfl ?_
  exact to_ext [(0, .ref 96), (1, .int (0 : Int32))] (ext_cons rfl (ext_cons rfl ext_nil)) (kX3_lacksPlace_2 hS FU hf hI)
def fX3_claim_67 (k2 : Int32 → Int32 → Int32 → Me → Option (Me)) (x1 : Int32) (x2 : Int32) (x3 : Int32) (m : Me) : Option (Me) := k2 x1 x2 ((x3 + (1 : Int32))) m
set_option maxRecDepth 20000 in
theorem kX3_claim_67 {S : Sh} (hS : ShOK S) {res : Me} {k2 : Int32 → Int32 → Int32 → Me → Option (Me)} (hk2 : ∀ {x1 : Int32} {x2 : Int32} {x3 : Int32} {m : Me}, k2 x1 x2 x3 m = some res → Inv m → TT InvS (Call 0) mX3_claim (2, [(0, .ref 96), (1, .int x1), (2, .int x2), (3, .int x3)], [], S, m) none (S, res)) {x1 : Int32} {x2 : Int32} {x3 : Int32} {m : Me} (hf : fX3_claim_67 k2 x1 x2 x3 m = some res) (hI : Inv m) : TT InvS (Call 0) mX3_claim (67, [(0, .ref 96), (1, .int x1), (2, .int x2), (3, .int x3)], [], S, m) none (S, res) := by
  unfold fX3_claim_67 at hf
  refine to_iinc (q := 70) (v := (x3 + (1 : Int32))) rfl (congrArg (fun z => x3 + z) ic_1) [(3, .int (x3 + (1 : Int32))), (0, .ref 96), (1, .int x1), (2, .int x2)] rfl (by decide) dX3_claim_67 rfl ?_
  refine to_goto (q := 2) dX3_claim_70 rfl ?_
  exact to_ext [(0, .ref 96), (1, .int x1), (2, .int x2), (3, .int (x3 + (1 : Int32)))] (ext_cons rfl (ext_cons rfl (ext_cons rfl (ext_cons rfl ext_nil)))) (hk2 hf hI)
def fX3_claim_2 (n : Nat) (x1 : Int32) (x2 : Int32) (x3 : Int32) (m : Me) : Option (Me) := match n with
  | 0 => none
  | n + 1 => ck (inb x1 4) (if (m.1 (rr m 98 x1.toNatClampNeg) 1) ≤ x3 then some m else ck (inb x1 4) (ck (inb (x2 + x3) 30) (ck (inb (m.1 ((103 + 5 * x1.toNatClampNeg) + 1) (x2 + x3).toNatClampNeg) 30) (if (m.1 99 (m.1 ((103 + 5 * x1.toNatClampNeg) + 1) (x2 + x3).toNatClampNeg).toNatClampNeg) = (-1 : Int32) then ck (inb x1 4) (ck (inb x3 8) (ck (inb (m.1 ((103 + 5 * x1.toNatClampNeg) + 1) (x2 + x3).toNatClampNeg) 30) (ck (inb (m.1 ((103 + 5 * x1.toNatClampNeg) + 1) (x2 + x3).toNatClampNeg) 30) (fX3_claim_67 (fX3_claim_2 n) x1 x2 x3 (setI (setI m 99 (m.1 ((103 + 5 * x1.toNatClampNeg) + 1) (x2 + x3).toNatClampNeg).toNatClampNeg (m.1 ((rr m 98 x1.toNatClampNeg) + 1) x3.toNatClampNeg)) 100 (m.1 ((103 + 5 * x1.toNatClampNeg) + 1) (x2 + x3).toNatClampNeg).toNatClampNeg x1))))) else fX3_claim_67 (fX3_claim_2 n) x1 x2 x3 m))))
set_option maxRecDepth 20000 in
theorem kX3_claim_2 {S : Sh} (hS : ShOK S) {res : Me} (n : Nat) : ∀ {x1 : Int32} {x2 : Int32} {x3 : Int32} {m : Me}, fX3_claim_2 n x1 x2 x3 m = some res → Inv m → TT InvS (Call 0) mX3_claim (2, [(0, .ref 96), (1, .int x1), (2, .int x2), (3, .int x3)], [], S, m) none (S, res) := by
  induction n with
  | zero => intro x1 x2 x3 m hf; cases hf
  | succ n ih =>
    intro x1 x2 x3 m hf  hI
    unfold fX3_claim_2 at hf
    refine to_iload_n (q := 3) rfl dX3_claim_2 rfl ?_
    refine to_aload_n (q := 4) rfl (by decide) dX3_claim_3 rfl ?_
    refine to_getR (q := 7) (b := 98) (k0 := 3) (C := RX3) (T := TX3) (N := 8) (j := 1) rfl fx_X3_19 (h_96 hS) rfl (iv_96_1 hI) dX3_claim_4 rfl ?_
    refine to_iload_n (q := 8) rfl dX3_claim_7 rfl ?_
    obtain ⟨hb1, hf⟩ := ck_some hf
    have hk2 : kd (rr m 98 x1.toNatClampNeg) = 8 := (ivM hI hb1).2
    refine to_aald (q := 9) (b := rr m 98 x1.toNatClampNeg) (h_98 hS) (by decide) hb1 ((ivM hI hb1).1) dX3_claim_8 rfl ?_
    refine to_getI (q := 12) (k0 := 8) (C := RX8) (T := TX8) (N := 5) (j := 1) rfl fx_X3_69 (sh_kd hS hk2 (by decide)) rfl dX3_claim_9 rfl ?_
    by_cases h3 : (m.1 (rr m 98 x1.toNatClampNeg) 1) ≤ x3
    · have hf := ite_pos h3 hf
      refine to_icT (q := 73) (op := .ge) h3 dX3_claim_12 rfl ?_
      cases hf
      exact to_vret dX3_claim_73 rfl rfl rfl hI
    · have hf := ite_neg h3 hf
      refine to_icF (q := 15) (op := .ge) 73 h3 dX3_claim_12 rfl rfl ?_
      refine to_aload_n (q := 16) rfl (by decide) dX3_claim_15 rfl ?_
      refine to_getR (q := 19) (b := 97) (k0 := 3) (C := RX3) (T := TX3) (N := 8) (j := 0) rfl fx_X3_11 (h_96 hS) rfl (iv_96_0 hI) dX3_claim_16 rfl ?_
      refine to_iload_n (q := 20) rfl dX3_claim_19 rfl ?_
      obtain ⟨hb4, hf⟩ := ck_some hf
      refine to_aald (q := 21) (b := 103 + 5 * x1.toNatClampNeg) (h_97 hS) (by decide) hb4 (ivR hI hb4) dX3_claim_20 rfl ?_
      refine to_getR (q := 24) (b := (103 + 5 * x1.toNatClampNeg) + 1) (k0 := 7) (C := RX7) (T := TX7) (N := 3) (j := 0) rfl fx_X3_126 (sh_kd hS (kdR hb4) (by decide)) rfl (iv7a hI (kdR hb4)) dX3_claim_21 rfl ?_
      refine to_iload_n (q := 25) rfl dX3_claim_24 rfl ?_
      refine to_iload_n (q := 26) rfl dX3_claim_25 rfl ?_
      refine to_iadd (q := 27) dX3_claim_26 rfl ?_
      obtain ⟨hb5, hf⟩ := ck_some hf
      refine to_iaj (q := 28) (sh_ln hS (kd7a (kdR hb4)) (by decide)) hb5 (rfl) dX3_claim_27 rfl ?_
      refine to_istore (q := 30) [(4, .int (m.1 ((103 + 5 * x1.toNatClampNeg) + 1) (x2 + x3).toNatClampNeg)), (0, .ref 96), (1, .int x1), (2, .int x2), (3, .int x3)] rfl (by decide) dX3_claim_28 rfl ?_
      refine to_aload_n (q := 31) rfl (by decide) dX3_claim_30 rfl ?_
      refine to_getR (q := 34) (b := 99) (k0 := 3) (C := RX3) (T := TX3) (N := 8) (j := 3) rfl fx_X3_23 (h_96 hS) rfl (iv_96_3 hI) dX3_claim_31 rfl ?_
      refine to_iload (q := 36) rfl dX3_claim_34 rfl ?_
      obtain ⟨hb6, hf⟩ := ck_some hf
      refine to_iaj (q := 37) (h_99 hS) hb6 (rfl) dX3_claim_36 rfl ?_
      refine to_iconst (q := 38) ic_m1 dX3_claim_37 rfl ?_
      by_cases h7 : (m.1 99 (m.1 ((103 + 5 * x1.toNatClampNeg) + 1) (x2 + x3).toNatClampNeg).toNatClampNeg) = (-1 : Int32)
      · have hf := ite_pos h7 hf
        refine to_icF (q := 41) (op := .ne) 67 (fun z => z h7) dX3_claim_38 rfl rfl ?_
        refine to_aload_n (q := 42) rfl (by decide) dX3_claim_41 rfl ?_
        refine to_getR (q := 45) (b := 99) (k0 := 3) (C := RX3) (T := TX3) (N := 8) (j := 3) rfl fx_X3_23 (h_96 hS) rfl (iv_96_3 hI) dX3_claim_42 rfl ?_
        refine to_iload (q := 47) rfl dX3_claim_45 rfl ?_
        refine to_aload_n (q := 48) rfl (by decide) dX3_claim_47 rfl ?_
        refine to_getR (q := 51) (b := 98) (k0 := 3) (C := RX3) (T := TX3) (N := 8) (j := 1) rfl fx_X3_19 (h_96 hS) rfl (iv_96_1 hI) dX3_claim_48 rfl ?_
        refine to_iload_n (q := 52) rfl dX3_claim_51 rfl ?_
        obtain ⟨hb8, hf⟩ := ck_some hf
        have hk9 : kd (rr m 98 x1.toNatClampNeg) = 8 := (ivM hI hb8).2
        refine to_aald (q := 53) (b := rr m 98 x1.toNatClampNeg) (h_98 hS) (by decide) hb8 ((ivM hI hb8).1) dX3_claim_52 rfl ?_
        refine to_getR (q := 56) (b := (rr m 98 x1.toNatClampNeg) + 1) (k0 := 8) (C := RX8) (T := TX8) (N := 5) (j := 0) rfl fx_X3_123 (sh_kd hS hk9 (by decide)) rfl (iv8 hI (hk9)) dX3_claim_53 rfl ?_
        refine to_iload_n (q := 57) rfl dX3_claim_56 rfl ?_
        obtain ⟨hb10, hf⟩ := ck_some hf
        refine to_iaj (q := 58) (sh_ln hS (kd8 (hk9)) (by decide)) hb10 (rfl) dX3_claim_57 rfl ?_
        obtain ⟨hb11, hf⟩ := ck_some hf
        refine to_iasj (q := 59) (h_99 hS) hb11 (rfl) dX3_claim_58 rfl ?_
        refine to_aload_n (q := 60) rfl (by decide) dX3_claim_59 rfl ?_
        refine to_getR (q := 63) (b := 100) (k0 := 3) (C := RX3) (T := TX3) (N := 8) (j := 4) rfl fx_X3_27 (h_96 hS) rfl (iv_96_4 hI) dX3_claim_60 rfl ?_
        refine to_iload (q := 65) rfl dX3_claim_63 rfl ?_
        refine to_iload_n (q := 66) rfl dX3_claim_65 rfl ?_
        obtain ⟨hb12, hf⟩ := ck_some hf
        refine to_iasj (q := 67) (h_100 hS) hb12 (rfl) dX3_claim_66 rfl ?_
        exact to_ext [(0, .ref 96), (1, .int x1), (2, .int x2), (3, .int x3)] (ext_cons rfl (ext_cons rfl (ext_cons rfl (ext_cons rfl ext_nil)))) (kX3_claim_67 hS ih hf hI)
      · have hf := ite_neg h7 hf
        refine to_icT (q := 67) (op := .ne) h7 dX3_claim_38 rfl ?_
        exact to_ext [(0, .ref 96), (1, .int x1), (2, .int x2), (3, .int x3)] (ext_cons rfl (ext_cons rfl (ext_cons rfl (ext_cons rfl ext_nil)))) (kX3_claim_67 hS ih hf hI)
def fX3_claim (x1 : Int32) (x2 : Int32) (m : Me) : Option (Me) := fX3_claim_2 FU x1 x2 ((0 : Int32)) m
set_option maxRecDepth 20000 in
theorem kX3_claim {S : Sh} (hS : ShOK S) {res : Me} {x1 : Int32} {x2 : Int32} {m : Me} (hf : fX3_claim x1 x2 m = some res) (hI : Inv m) : Call 1 mX3_claim [.ref 96, .int x1, .int x2] (S, m) none (S, res) ∧ Inv res := by
  refine call_of (P := InvS) (Nat.le_of_ble_eq_true rfl) (by simp [Value.category]) ?_
  show TT InvS (Call 0) mX3_claim (0, [(0, .ref 96), (1, .int x1), (2, .int x2)], [], S, m) _ _
  unfold fX3_claim at hf
  refine to_iconst (q := 1) ic_0 dX3_claim_0 rfl ?_
  refine to_istore_n (q := 2) [(3, .int (0 : Int32)), (0, .ref 96), (1, .int x1), (2, .int x2)] rfl (by decide) dX3_claim_1 rfl ?_
  exact to_ext [(0, .ref 96), (1, .int x1), (2, .int x2), (3, .int (0 : Int32))] (ext_cons rfl (ext_cons rfl (ext_cons rfl (ext_cons rfl ext_nil)))) (kX3_claim_2 hS FU hf hI)
def fX3_costFrom_102 (k24 : Int32 → Int32 → Nat → Nat → Int32 → Int32 → Me → Option (Int32 × Me)) (x1 : Int32) (x2 : Int32) (a3 : Nat) (a4 : Nat) (x5 : Int32) (x6 : Int32) (m : Me) : Option (Int32 × Me) := k24 x1 x2 a3 a4 x5 ((x6 + (1 : Int32))) m
set_option maxRecDepth 20000 in
theorem kX3_costFrom_102 {S : Sh} (hS : ShOK S) {res : Int32 × Me} {k24 : Int32 → Int32 → Nat → Nat → Int32 → Int32 → Me → Option (Int32 × Me)} (hk24 : ∀ {x1 : Int32} {x2 : Int32} {a3 : Nat} {a4 : Nat} {x5 : Int32} {x6 : Int32} {m : Me}, k24 x1 x2 a3 a4 x5 x6 m = some res → kd a3 = 7 → kd a4 = 13 → Inv m → TT InvS (Call 0) mX3_costFrom (24, [(0, .ref 96), (1, .int x1), (2, .int x2), (3, .ref a3), (4, .ref a4), (5, .int x5), (6, .int x6)], [], S, m) (some (.int res.1)) (S, res.2)) {x1 : Int32} {x2 : Int32} {a3 : Nat} {a4 : Nat} {x5 : Int32} {x6 : Int32} {m : Me} (hf : fX3_costFrom_102 k24 x1 x2 a3 a4 x5 x6 m = some res) (ha3 : kd a3 = 7) (ha4 : kd a4 = 13) (hI : Inv m) : TT InvS (Call 0) mX3_costFrom (102, [(0, .ref 96), (1, .int x1), (2, .int x2), (3, .ref a3), (4, .ref a4), (5, .int x5), (6, .int x6)], [], S, m) (some (.int res.1)) (S, res.2) := by
  unfold fX3_costFrom_102 at hf
  refine to_iinc (q := 105) (v := (x6 + (1 : Int32))) rfl (congrArg (fun z => x6 + z) ic_1) [(6, .int (x6 + (1 : Int32))), (0, .ref 96), (1, .int x1), (2, .int x2), (3, .ref a3), (4, .ref a4), (5, .int x5)] rfl (by decide) dX3_costFrom_102 rfl ?_
  refine to_goto (q := 24) dX3_costFrom_105 rfl ?_
  exact to_ext [(0, .ref 96), (1, .int x1), (2, .int x2), (3, .ref a3), (4, .ref a4), (5, .int x5), (6, .int (x6 + (1 : Int32)))] (ext_cons rfl (ext_cons rfl (ext_cons rfl (ext_cons rfl (ext_cons rfl (ext_cons rfl (ext_cons rfl ext_nil))))))) (hk24 hf (ha3) (ha4) hI)
def fX3_costFrom_84 (k24 : Int32 → Int32 → Nat → Nat → Int32 → Int32 → Me → Option (Int32 × Me)) (x1 : Int32) (x2 : Int32) (a3 : Nat) (a4 : Nat) (x6 : Int32) (t0 : Int32) (t1 : Int32) (m : Me) : Option (Int32 × Me) := fX3_costFrom_102 k24 x1 x2 a3 a4 ((t1 + t0)) x6 m
set_option maxRecDepth 20000 in
theorem kX3_costFrom_84 {S : Sh} (hS : ShOK S) {res : Int32 × Me} {k24 : Int32 → Int32 → Nat → Nat → Int32 → Int32 → Me → Option (Int32 × Me)} (hk24 : ∀ {x1 : Int32} {x2 : Int32} {a3 : Nat} {a4 : Nat} {x5 : Int32} {x6 : Int32} {m : Me}, k24 x1 x2 a3 a4 x5 x6 m = some res → kd a3 = 7 → kd a4 = 13 → Inv m → TT InvS (Call 0) mX3_costFrom (24, [(0, .ref 96), (1, .int x1), (2, .int x2), (3, .ref a3), (4, .ref a4), (5, .int x5), (6, .int x6)], [], S, m) (some (.int res.1)) (S, res.2)) {x1 : Int32} {x2 : Int32} {a3 : Nat} {a4 : Nat} {x6 : Int32} {t0 : Int32} {t1 : Int32} {m : Me} (hf : fX3_costFrom_84 k24 x1 x2 a3 a4 x6 t0 t1 m = some res) (ha3 : kd a3 = 7) (ha4 : kd a4 = 13) (hI : Inv m) : TT InvS (Call 0) mX3_costFrom (84, [(0, .ref 96), (1, .int x1), (2, .int x2), (3, .ref a3), (4, .ref a4), (6, .int x6)], [.int t0, .int t1], S, m) (some (.int res.1)) (S, res.2) := by
  unfold fX3_costFrom_84 at hf
  refine to_iadd (q := 85) dX3_costFrom_84 rfl ?_
  refine to_istore (q := 87) [(5, .int (t1 + t0)), (0, .ref 96), (1, .int x1), (2, .int x2), (3, .ref a3), (4, .ref a4), (6, .int x6)] rfl (by decide) dX3_costFrom_85 rfl ?_
  refine to_goto (q := 102) dX3_costFrom_87 rfl ?_
  exact to_ext [(0, .ref 96), (1, .int x1), (2, .int x2), (3, .ref a3), (4, .ref a4), (5, .int (t1 + t0)), (6, .int x6)] (ext_cons rfl (ext_cons rfl (ext_cons rfl (ext_cons rfl (ext_cons rfl (ext_cons rfl (ext_cons rfl ext_nil))))))) (kX3_costFrom_102 hS hk24 hf (ha3) (ha4) hI)
def fX3_costFrom_24 (n : Nat) (x1 : Int32) (x2 : Int32) (a3 : Nat) (a4 : Nat) (x5 : Int32) (x6 : Int32) (m : Me) : Option (Int32 × Me) := match n with
  | 0 => none
  | n + 1 => ck (inb x1 4) (if (m.1 (rr m 98 x1.toNatClampNeg) 1) ≤ x6 then some (x5, m) else ck (inb (x2 + x6) 30) (ck (inb (m.1 (a3 + 1) (x2 + x6).toNatClampNeg) 30) (if (m.1 99 (m.1 (a3 + 1) (x2 + x6).toNatClampNeg).toNatClampNeg) = (-1 : Int32) then ck (inb (x2 + x6) 30) (ck (inb x6 (ln a4)) (if (m.1 (a3 + 2) (x2 + x6).toNatClampNeg) = (m.1 a4 x6.toNatClampNeg) then fX3_costFrom_84 (fX3_costFrom_24 n) x1 x2 a3 a4 x6 ((0 : Int32)) x5 m else fX3_costFrom_84 (fX3_costFrom_24 n) x1 x2 a3 a4 x6 ((1 : Int32)) x5 m)) else ck (inb x6 (ln a4)) (if (m.1 99 (m.1 (a3 + 1) (x2 + x6).toNatClampNeg).toNatClampNeg) = (m.1 a4 x6.toNatClampNeg) then fX3_costFrom_102 (fX3_costFrom_24 n) x1 x2 a3 a4 x5 x6 m else some ((-1 : Int32), m)))))
set_option maxRecDepth 20000 in
theorem kX3_costFrom_24 {S : Sh} (hS : ShOK S) {res : Int32 × Me} (n : Nat) : ∀ {x1 : Int32} {x2 : Int32} {a3 : Nat} {a4 : Nat} {x5 : Int32} {x6 : Int32} {m : Me}, fX3_costFrom_24 n x1 x2 a3 a4 x5 x6 m = some res → kd a3 = 7 → kd a4 = 13 → Inv m → TT InvS (Call 0) mX3_costFrom (24, [(0, .ref 96), (1, .int x1), (2, .int x2), (3, .ref a3), (4, .ref a4), (5, .int x5), (6, .int x6)], [], S, m) (some (.int res.1)) (S, res.2) := by
  induction n with
  | zero => intro x1 x2 a3 a4 x5 x6 m hf; cases hf
  | succ n ih =>
    intro x1 x2 a3 a4 x5 x6 m hf ha3 ha4 hI
    unfold fX3_costFrom_24 at hf
    refine to_iload (q := 26) rfl dX3_costFrom_24 rfl ?_
    refine to_aload_n (q := 27) rfl (by decide) dX3_costFrom_26 rfl ?_
    refine to_getR (q := 30) (b := 98) (k0 := 3) (C := RX3) (T := TX3) (N := 8) (j := 1) rfl fx_X3_19 (h_96 hS) rfl (iv_96_1 hI) dX3_costFrom_27 rfl ?_
    refine to_iload_n (q := 31) rfl dX3_costFrom_30 rfl ?_
    obtain ⟨hb4, hf⟩ := ck_some hf
    have hk5 : kd (rr m 98 x1.toNatClampNeg) = 8 := (ivM hI hb4).2
    refine to_aald (q := 32) (b := rr m 98 x1.toNatClampNeg) (h_98 hS) (by decide) hb4 ((ivM hI hb4).1) dX3_costFrom_31 rfl ?_
    refine to_getI (q := 35) (k0 := 8) (C := RX8) (T := TX8) (N := 5) (j := 1) rfl fx_X3_69 (sh_kd hS hk5 (by decide)) rfl dX3_costFrom_32 rfl ?_
    by_cases h6 : (m.1 (rr m 98 x1.toNatClampNeg) 1) ≤ x6
    · have hf := ite_pos h6 hf
      refine to_icT (q := 108) (op := .ge) h6 dX3_costFrom_35 rfl ?_
      refine to_iload (q := 110) rfl dX3_costFrom_108 rfl ?_
      cases hf
      exact to_iret dX3_costFrom_110 rfl rfl rfl rfl hI
    · have hf := ite_neg h6 hf
      refine to_icF (q := 38) (op := .ge) 108 h6 dX3_costFrom_35 rfl rfl ?_
      refine to_aload_n (q := 39) rfl (by decide) dX3_costFrom_38 rfl ?_
      refine to_getR (q := 42) (b := 99) (k0 := 3) (C := RX3) (T := TX3) (N := 8) (j := 3) rfl fx_X3_23 (h_96 hS) rfl (iv_96_3 hI) dX3_costFrom_39 rfl ?_
      refine to_aload_n (q := 43) rfl (kd_4 (ha3) (by decide)) dX3_costFrom_42 rfl ?_
      refine to_getR (q := 46) (b := a3 + 1) (k0 := 7) (C := RX7) (T := TX7) (N := 3) (j := 0) rfl fx_X3_126 (sh_kd hS ha3 (by decide)) rfl (iv7a hI (ha3)) dX3_costFrom_43 rfl ?_
      refine to_iload_n (q := 47) rfl dX3_costFrom_46 rfl ?_
      refine to_iload (q := 49) rfl dX3_costFrom_47 rfl ?_
      refine to_iadd (q := 50) dX3_costFrom_49 rfl ?_
      obtain ⟨hb7, hf⟩ := ck_some hf
      refine to_iaj (q := 51) (sh_ln hS (kd7a (ha3)) (by decide)) hb7 (rfl) dX3_costFrom_50 rfl ?_
      obtain ⟨hb8, hf⟩ := ck_some hf
      refine to_iaj (q := 52) (h_99 hS) hb8 (rfl) dX3_costFrom_51 rfl ?_
      refine to_istore (q := 54) [(7, .int (m.1 99 (m.1 (a3 + 1) (x2 + x6).toNatClampNeg).toNatClampNeg)), (0, .ref 96), (1, .int x1), (2, .int x2), (3, .ref a3), (4, .ref a4), (5, .int x5), (6, .int x6)] rfl (by decide) dX3_costFrom_52 rfl ?_
      refine to_iload (q := 56) rfl dX3_costFrom_54 rfl ?_
      refine to_iconst (q := 57) ic_m1 dX3_costFrom_56 rfl ?_
      by_cases h9 : (m.1 99 (m.1 (a3 + 1) (x2 + x6).toNatClampNeg).toNatClampNeg) = (-1 : Int32)
      · have hf := ite_pos h9 hf
        refine to_icF (q := 60) (op := .ne) 90 (fun z => z h9) dX3_costFrom_57 rfl rfl ?_
        refine to_iload (q := 62) rfl dX3_costFrom_60 rfl ?_
        refine to_aload_n (q := 63) rfl (kd_4 (ha3) (by decide)) dX3_costFrom_62 rfl ?_
        refine to_getR (q := 66) (b := a3 + 2) (k0 := 7) (C := RX7) (T := TX7) (N := 3) (j := 1) rfl fx_X3_129 (sh_kd hS ha3 (by decide)) rfl (iv7b hI (ha3)) dX3_costFrom_63 rfl ?_
        refine to_iload_n (q := 67) rfl dX3_costFrom_66 rfl ?_
        refine to_iload (q := 69) rfl dX3_costFrom_67 rfl ?_
        refine to_iadd (q := 70) dX3_costFrom_69 rfl ?_
        obtain ⟨hb12, hf⟩ := ck_some hf
        refine to_iaj (q := 71) (sh_ln hS (kd7b (ha3)) (by decide)) hb12 (rfl) dX3_costFrom_70 rfl ?_
        refine to_aload (q := 73) rfl (kd_4 (ha4) (by decide)) dX3_costFrom_71 rfl ?_
        refine to_iload (q := 75) rfl dX3_costFrom_73 rfl ?_
        obtain ⟨hb13, hf⟩ := ck_some hf
        refine to_iaj (q := 76) (sh_kd hS ha4 (by decide)) hb13 (rfl) dX3_costFrom_75 rfl ?_
        by_cases h14 : (m.1 (a3 + 2) (x2 + x6).toNatClampNeg) = (m.1 a4 x6.toNatClampNeg)
        · have hf := ite_pos h14 hf
          refine to_icF (q := 79) (op := .ne) 83 (fun z => z h14) dX3_costFrom_76 rfl rfl ?_
          refine to_iconst (q := 80) ic_0 dX3_costFrom_79 rfl ?_
          refine to_goto (q := 84) dX3_costFrom_80 rfl ?_
          exact to_ext [(0, .ref 96), (1, .int x1), (2, .int x2), (3, .ref a3), (4, .ref a4), (6, .int x6)] (ext_cons rfl (ext_cons rfl (ext_cons rfl (ext_cons rfl (ext_cons rfl (ext_cons rfl ext_nil)))))) (kX3_costFrom_84 hS ih hf (ha3) (ha4) hI)
        · have hf := ite_neg h14 hf
          refine to_icT (q := 83) (op := .ne) h14 dX3_costFrom_76 rfl ?_
          refine to_iconst (q := 84) ic_1 dX3_costFrom_83 rfl ?_
          exact to_ext [(0, .ref 96), (1, .int x1), (2, .int x2), (3, .ref a3), (4, .ref a4), (6, .int x6)] (ext_cons rfl (ext_cons rfl (ext_cons rfl (ext_cons rfl (ext_cons rfl (ext_cons rfl ext_nil)))))) (kX3_costFrom_84 hS ih hf (ha3) (ha4) hI)
      · have hf := ite_neg h9 hf
        refine to_icT (q := 90) (op := .ne) h9 dX3_costFrom_57 rfl ?_
        refine to_iload (q := 92) rfl dX3_costFrom_90 rfl ?_
        refine to_aload (q := 94) rfl (kd_4 (ha4) (by decide)) dX3_costFrom_92 rfl ?_
        refine to_iload (q := 96) rfl dX3_costFrom_94 rfl ?_
        obtain ⟨hb10, hf⟩ := ck_some hf
        refine to_iaj (q := 97) (sh_kd hS ha4 (by decide)) hb10 (rfl) dX3_costFrom_96 rfl ?_
        by_cases h11 : (m.1 99 (m.1 (a3 + 1) (x2 + x6).toNatClampNeg).toNatClampNeg) = (m.1 a4 x6.toNatClampNeg)
        · have hf := ite_pos h11 hf
          refine to_icT (q := 102) (op := .eq) h11 dX3_costFrom_97 rfl ?_
          exact to_ext [(0, .ref 96), (1, .int x1), (2, .int x2), (3, .ref a3), (4, .ref a4), (5, .int x5), (6, .int x6)] (ext_cons rfl (ext_cons rfl (ext_cons rfl (ext_cons rfl (ext_cons rfl (ext_cons rfl (ext_cons rfl ext_nil))))))) (kX3_costFrom_102 hS ih hf (ha3) (ha4) hI)
        · have hf := ite_neg h11 hf
          refine to_icF (q := 100) (op := .eq) 102 h11 dX3_costFrom_97 rfl rfl ?_
          refine to_iconst (q := 101) ic_m1 dX3_costFrom_100 rfl ?_
          cases hf
          exact to_iret dX3_costFrom_101 rfl rfl rfl rfl hI
def fX3_costFrom (x1 : Int32) (x2 : Int32) (m : Me) : Option (Int32 × Me) := ck (inb x1 4) (ck (inb x1 4) (fX3_costFrom_24 FU x1 x2 (103 + 5 * x1.toNatClampNeg) ((rr m 98 x1.toNatClampNeg) + 1) ((0 : Int32)) ((0 : Int32)) m))
set_option maxRecDepth 20000 in
theorem kX3_costFrom {S : Sh} (hS : ShOK S) {res : Int32 × Me} {x1 : Int32} {x2 : Int32} {m : Me} (hf : fX3_costFrom x1 x2 m = some res) (hI : Inv m) : Call 1 mX3_costFrom [.ref 96, .int x1, .int x2] (S, m) (some (.int res.1)) (S, res.2) ∧ Inv res.2 := by
  refine call_of (P := InvS) (Nat.le_of_ble_eq_true rfl) (by simp [Value.category]) ?_
  show TT InvS (Call 0) mX3_costFrom (0, [(0, .ref 96), (1, .int x1), (2, .int x2)], [], S, m) _ _
  unfold fX3_costFrom at hf
  refine to_aload_n (q := 1) rfl (by decide) dX3_costFrom_0 rfl ?_
  refine to_getR (q := 4) (b := 97) (k0 := 3) (C := RX3) (T := TX3) (N := 8) (j := 0) rfl fx_X3_11 (h_96 hS) rfl (iv_96_0 hI) dX3_costFrom_1 rfl ?_
  refine to_iload_n (q := 5) rfl dX3_costFrom_4 rfl ?_
  obtain ⟨hb1, hf⟩ := ck_some hf
  refine to_aald (q := 6) (b := 103 + 5 * x1.toNatClampNeg) (h_97 hS) (by decide) hb1 (ivR hI hb1) dX3_costFrom_5 rfl ?_
  refine to_astore_n (q := 7) [(3, .ref (103 + 5 * x1.toNatClampNeg)), (0, .ref 96), (1, .int x1), (2, .int x2)] rfl (kd_4 (kdR hb1) (by decide)) (by decide) dX3_costFrom_6 rfl ?_
  refine to_aload_n (q := 8) rfl (by decide) dX3_costFrom_7 rfl ?_
  refine to_getR (q := 11) (b := 98) (k0 := 3) (C := RX3) (T := TX3) (N := 8) (j := 1) rfl fx_X3_19 (h_96 hS) rfl (iv_96_1 hI) dX3_costFrom_8 rfl ?_
  refine to_iload_n (q := 12) rfl dX3_costFrom_11 rfl ?_
  obtain ⟨hb2, hf⟩ := ck_some hf
  have hk3 : kd (rr m 98 x1.toNatClampNeg) = 8 := (ivM hI hb2).2
  refine to_aald (q := 13) (b := rr m 98 x1.toNatClampNeg) (h_98 hS) (by decide) hb2 ((ivM hI hb2).1) dX3_costFrom_12 rfl ?_
  refine to_getR (q := 16) (b := (rr m 98 x1.toNatClampNeg) + 1) (k0 := 8) (C := RX8) (T := TX8) (N := 5) (j := 0) rfl fx_X3_123 (sh_kd hS hk3 (by decide)) rfl (iv8 hI (hk3)) dX3_costFrom_13 rfl ?_
  refine to_astore (q := 18) [(4, .ref ((rr m 98 x1.toNatClampNeg) + 1)), (3, .ref (103 + 5 * x1.toNatClampNeg)), (0, .ref 96), (1, .int x1), (2, .int x2)] rfl (kd_4 ((kd8 (hk3)).1) (by decide)) (by decide) dX3_costFrom_16 rfl ?_
  refine to_iconst (q := 19) ic_0 dX3_costFrom_18 rfl ?_
  refine to_istore (q := 21) [(5, .int (0 : Int32)), (4, .ref ((rr m 98 x1.toNatClampNeg) + 1)), (3, .ref (103 + 5 * x1.toNatClampNeg)), (0, .ref 96), (1, .int x1), (2, .int x2)] rfl (by decide) dX3_costFrom_19 rfl ?_
  refine to_iconst (q := 22) ic_0 dX3_costFrom_21 rfl ?_
  refine to_istore (q := 24) [(6, .int (0 : Int32)), (5, .int (0 : Int32)), (4, .ref ((rr m 98 x1.toNatClampNeg) + 1)), (3, .ref (103 + 5 * x1.toNatClampNeg)), (0, .ref 96), (1, .int x1), (2, .int x2)] rfl (by decide) dX3_costFrom_22 rfl ?_
  exact to_ext [(0, .ref 96), (1, .int x1), (2, .int x2), (3, .ref (103 + 5 * x1.toNatClampNeg)), (4, .ref ((rr m 98 x1.toNatClampNeg) + 1)), (5, .int (0 : Int32)), (6, .int (0 : Int32))] (ext_cons rfl (ext_cons rfl (ext_cons rfl (ext_cons rfl (ext_cons rfl (ext_cons rfl (ext_cons rfl ext_nil))))))) (kX3_costFrom_24 hS FU hf (kdR hb1) ((kd8 (hk3)).1) hI)
def fX3_release_57 (k2 : Int32 → Int32 → Int32 → Me → Option (Me)) (x1 : Int32) (x2 : Int32) (x3 : Int32) (m : Me) : Option (Me) := k2 x1 x2 ((x3 + (1 : Int32))) m
set_option maxRecDepth 20000 in
theorem kX3_release_57 {S : Sh} (hS : ShOK S) {res : Me} {k2 : Int32 → Int32 → Int32 → Me → Option (Me)} (hk2 : ∀ {x1 : Int32} {x2 : Int32} {x3 : Int32} {m : Me}, k2 x1 x2 x3 m = some res → Inv m → TT InvS (Call 0) mX3_release (2, [(0, .ref 96), (1, .int x1), (2, .int x2), (3, .int x3)], [], S, m) none (S, res)) {x1 : Int32} {x2 : Int32} {x3 : Int32} {m : Me} (hf : fX3_release_57 k2 x1 x2 x3 m = some res) (hI : Inv m) : TT InvS (Call 0) mX3_release (57, [(0, .ref 96), (1, .int x1), (2, .int x2), (3, .int x3)], [], S, m) none (S, res) := by
  unfold fX3_release_57 at hf
  refine to_iinc (q := 60) (v := (x3 + (1 : Int32))) rfl (congrArg (fun z => x3 + z) ic_1) [(3, .int (x3 + (1 : Int32))), (0, .ref 96), (1, .int x1), (2, .int x2)] rfl (by decide) dX3_release_57 rfl ?_
  refine to_goto (q := 2) dX3_release_60 rfl ?_
  exact to_ext [(0, .ref 96), (1, .int x1), (2, .int x2), (3, .int (x3 + (1 : Int32)))] (ext_cons rfl (ext_cons rfl (ext_cons rfl (ext_cons rfl ext_nil)))) (hk2 hf hI)
def fX3_release_2 (n : Nat) (x1 : Int32) (x2 : Int32) (x3 : Int32) (m : Me) : Option (Me) := match n with
  | 0 => none
  | n + 1 => ck (inb x1 4) (if (m.1 (rr m 98 x1.toNatClampNeg) 1) ≤ x3 then some m else ck (inb x1 4) (ck (inb (x2 + x3) 30) (ck (inb (m.1 ((103 + 5 * x1.toNatClampNeg) + 1) (x2 + x3).toNatClampNeg) 30) (if (m.1 100 (m.1 ((103 + 5 * x1.toNatClampNeg) + 1) (x2 + x3).toNatClampNeg).toNatClampNeg) = x1 then ck (inb (m.1 ((103 + 5 * x1.toNatClampNeg) + 1) (x2 + x3).toNatClampNeg) 30) (ck (inb (m.1 ((103 + 5 * x1.toNatClampNeg) + 1) (x2 + x3).toNatClampNeg) 30) (fX3_release_57 (fX3_release_2 n) x1 x2 x3 (setI (setI m 99 (m.1 ((103 + 5 * x1.toNatClampNeg) + 1) (x2 + x3).toNatClampNeg).toNatClampNeg (-1 : Int32)) 100 (m.1 ((103 + 5 * x1.toNatClampNeg) + 1) (x2 + x3).toNatClampNeg).toNatClampNeg (-1 : Int32)))) else fX3_release_57 (fX3_release_2 n) x1 x2 x3 m))))
set_option maxRecDepth 20000 in
theorem kX3_release_2 {S : Sh} (hS : ShOK S) {res : Me} (n : Nat) : ∀ {x1 : Int32} {x2 : Int32} {x3 : Int32} {m : Me}, fX3_release_2 n x1 x2 x3 m = some res → Inv m → TT InvS (Call 0) mX3_release (2, [(0, .ref 96), (1, .int x1), (2, .int x2), (3, .int x3)], [], S, m) none (S, res) := by
  induction n with
  | zero => intro x1 x2 x3 m hf; cases hf
  | succ n ih =>
    intro x1 x2 x3 m hf  hI
    unfold fX3_release_2 at hf
    refine to_iload_n (q := 3) rfl dX3_release_2 rfl ?_
    refine to_aload_n (q := 4) rfl (by decide) dX3_release_3 rfl ?_
    refine to_getR (q := 7) (b := 98) (k0 := 3) (C := RX3) (T := TX3) (N := 8) (j := 1) rfl fx_X3_19 (h_96 hS) rfl (iv_96_1 hI) dX3_release_4 rfl ?_
    refine to_iload_n (q := 8) rfl dX3_release_7 rfl ?_
    obtain ⟨hb1, hf⟩ := ck_some hf
    have hk2 : kd (rr m 98 x1.toNatClampNeg) = 8 := (ivM hI hb1).2
    refine to_aald (q := 9) (b := rr m 98 x1.toNatClampNeg) (h_98 hS) (by decide) hb1 ((ivM hI hb1).1) dX3_release_8 rfl ?_
    refine to_getI (q := 12) (k0 := 8) (C := RX8) (T := TX8) (N := 5) (j := 1) rfl fx_X3_69 (sh_kd hS hk2 (by decide)) rfl dX3_release_9 rfl ?_
    by_cases h3 : (m.1 (rr m 98 x1.toNatClampNeg) 1) ≤ x3
    · have hf := ite_pos h3 hf
      refine to_icT (q := 63) (op := .ge) h3 dX3_release_12 rfl ?_
      cases hf
      exact to_vret dX3_release_63 rfl rfl rfl hI
    · have hf := ite_neg h3 hf
      refine to_icF (q := 15) (op := .ge) 63 h3 dX3_release_12 rfl rfl ?_
      refine to_aload_n (q := 16) rfl (by decide) dX3_release_15 rfl ?_
      refine to_getR (q := 19) (b := 97) (k0 := 3) (C := RX3) (T := TX3) (N := 8) (j := 0) rfl fx_X3_11 (h_96 hS) rfl (iv_96_0 hI) dX3_release_16 rfl ?_
      refine to_iload_n (q := 20) rfl dX3_release_19 rfl ?_
      obtain ⟨hb4, hf⟩ := ck_some hf
      refine to_aald (q := 21) (b := 103 + 5 * x1.toNatClampNeg) (h_97 hS) (by decide) hb4 (ivR hI hb4) dX3_release_20 rfl ?_
      refine to_getR (q := 24) (b := (103 + 5 * x1.toNatClampNeg) + 1) (k0 := 7) (C := RX7) (T := TX7) (N := 3) (j := 0) rfl fx_X3_126 (sh_kd hS (kdR hb4) (by decide)) rfl (iv7a hI (kdR hb4)) dX3_release_21 rfl ?_
      refine to_iload_n (q := 25) rfl dX3_release_24 rfl ?_
      refine to_iload_n (q := 26) rfl dX3_release_25 rfl ?_
      refine to_iadd (q := 27) dX3_release_26 rfl ?_
      obtain ⟨hb5, hf⟩ := ck_some hf
      refine to_iaj (q := 28) (sh_ln hS (kd7a (kdR hb4)) (by decide)) hb5 (rfl) dX3_release_27 rfl ?_
      refine to_istore (q := 30) [(4, .int (m.1 ((103 + 5 * x1.toNatClampNeg) + 1) (x2 + x3).toNatClampNeg)), (0, .ref 96), (1, .int x1), (2, .int x2), (3, .int x3)] rfl (by decide) dX3_release_28 rfl ?_
      refine to_aload_n (q := 31) rfl (by decide) dX3_release_30 rfl ?_
      refine to_getR (q := 34) (b := 100) (k0 := 3) (C := RX3) (T := TX3) (N := 8) (j := 4) rfl fx_X3_27 (h_96 hS) rfl (iv_96_4 hI) dX3_release_31 rfl ?_
      refine to_iload (q := 36) rfl dX3_release_34 rfl ?_
      obtain ⟨hb6, hf⟩ := ck_some hf
      refine to_iaj (q := 37) (h_100 hS) hb6 (rfl) dX3_release_36 rfl ?_
      refine to_iload_n (q := 38) rfl dX3_release_37 rfl ?_
      by_cases h7 : (m.1 100 (m.1 ((103 + 5 * x1.toNatClampNeg) + 1) (x2 + x3).toNatClampNeg).toNatClampNeg) = x1
      · have hf := ite_pos h7 hf
        refine to_icF (q := 41) (op := .ne) 57 (fun z => z h7) dX3_release_38 rfl rfl ?_
        refine to_aload_n (q := 42) rfl (by decide) dX3_release_41 rfl ?_
        refine to_getR (q := 45) (b := 99) (k0 := 3) (C := RX3) (T := TX3) (N := 8) (j := 3) rfl fx_X3_23 (h_96 hS) rfl (iv_96_3 hI) dX3_release_42 rfl ?_
        refine to_iload (q := 47) rfl dX3_release_45 rfl ?_
        refine to_iconst (q := 48) ic_m1 dX3_release_47 rfl ?_
        obtain ⟨hb8, hf⟩ := ck_some hf
        refine to_iasj (q := 49) (h_99 hS) hb8 (rfl) dX3_release_48 rfl ?_
        refine to_aload_n (q := 50) rfl (by decide) dX3_release_49 rfl ?_
        refine to_getR (q := 53) (b := 100) (k0 := 3) (C := RX3) (T := TX3) (N := 8) (j := 4) rfl fx_X3_27 (h_96 hS) rfl (iv_96_4 hI) dX3_release_50 rfl ?_
        refine to_iload (q := 55) rfl dX3_release_53 rfl ?_
        refine to_iconst (q := 56) ic_m1 dX3_release_55 rfl ?_
        obtain ⟨hb9, hf⟩ := ck_some hf
        refine to_iasj (q := 57) (h_100 hS) hb9 (rfl) dX3_release_56 rfl ?_
        exact to_ext [(0, .ref 96), (1, .int x1), (2, .int x2), (3, .int x3)] (ext_cons rfl (ext_cons rfl (ext_cons rfl (ext_cons rfl ext_nil)))) (kX3_release_57 hS ih hf hI)
      · have hf := ite_neg h7 hf
        refine to_icT (q := 57) (op := .ne) h7 dX3_release_38 rfl ?_
        exact to_ext [(0, .ref 96), (1, .int x1), (2, .int x2), (3, .int x3)] (ext_cons rfl (ext_cons rfl (ext_cons rfl (ext_cons rfl ext_nil)))) (kX3_release_57 hS ih hf hI)
def fX3_release (x1 : Int32) (x2 : Int32) (m : Me) : Option (Me) := fX3_release_2 FU x1 x2 ((0 : Int32)) m
set_option maxRecDepth 20000 in
theorem kX3_release {S : Sh} (hS : ShOK S) {res : Me} {x1 : Int32} {x2 : Int32} {m : Me} (hf : fX3_release x1 x2 m = some res) (hI : Inv m) : Call 1 mX3_release [.ref 96, .int x1, .int x2] (S, m) none (S, res) ∧ Inv res := by
  refine call_of (P := InvS) (Nat.le_of_ble_eq_true rfl) (by simp [Value.category]) ?_
  show TT InvS (Call 0) mX3_release (0, [(0, .ref 96), (1, .int x1), (2, .int x2)], [], S, m) _ _
  unfold fX3_release at hf
  refine to_iconst (q := 1) ic_0 dX3_release_0 rfl ?_
  refine to_istore_n (q := 2) [(3, .int (0 : Int32)), (0, .ref 96), (1, .int x1), (2, .int x2)] rfl (by decide) dX3_release_1 rfl ?_
  exact to_ext [(0, .ref 96), (1, .int x1), (2, .int x2), (3, .int (0 : Int32))] (ext_cons rfl (ext_cons rfl (ext_cons rfl (ext_cons rfl ext_nil)))) (kX3_release_2 hS FU hf hI)
def fX3_mostSaved_75 (k5 : Int32 → Int32 → Int32 → Int32 → Me → Option (Int32 × Me)) (k25 : Int32 → Int32 → Int32 → Int32 → Int32 → Me → Option (Int32 × Me)) (x1 : Int32) (x2 : Int32) (x3 : Int32) (x4 : Int32) (x5 : Int32) (m : Me) : Option (Int32 × Me) := k25 x1 x2 x3 x4 ((x5 + (1 : Int32))) m
set_option maxRecDepth 20000 in
theorem kX3_mostSaved_75 {S : Sh} (hS : ShOK S) {res : Int32 × Me} {k5 : Int32 → Int32 → Int32 → Int32 → Me → Option (Int32 × Me)} (hk5 : ∀ {x1 : Int32} {x2 : Int32} {x3 : Int32} {x4 : Int32} {m : Me}, k5 x1 x2 x3 x4 m = some res → Inv m → TT InvS (Call 1) mX3_mostSaved (5, [(0, .ref 96), (1, .int x1), (2, .int x2), (3, .int x3), (4, .int x4)], [], S, m) (some (.int res.1)) (S, res.2)) {k25 : Int32 → Int32 → Int32 → Int32 → Int32 → Me → Option (Int32 × Me)} (hk25 : ∀ {x1 : Int32} {x2 : Int32} {x3 : Int32} {x4 : Int32} {x5 : Int32} {m : Me}, k25 x1 x2 x3 x4 x5 m = some res → Inv m → TT InvS (Call 1) mX3_mostSaved (25, [(0, .ref 96), (1, .int x1), (2, .int x2), (3, .int x3), (4, .int x4), (5, .int x5)], [], S, m) (some (.int res.1)) (S, res.2)) {x1 : Int32} {x2 : Int32} {x3 : Int32} {x4 : Int32} {x5 : Int32} {m : Me} (hf : fX3_mostSaved_75 k5 k25 x1 x2 x3 x4 x5 m = some res) (hI : Inv m) : TT InvS (Call 1) mX3_mostSaved (75, [(0, .ref 96), (1, .int x1), (2, .int x2), (3, .int x3), (4, .int x4), (5, .int x5)], [], S, m) (some (.int res.1)) (S, res.2) := by
  unfold fX3_mostSaved_75 at hf
  refine to_iinc (q := 78) (v := (x5 + (1 : Int32))) rfl (congrArg (fun z => x5 + z) ic_1) [(5, .int (x5 + (1 : Int32))), (0, .ref 96), (1, .int x1), (2, .int x2), (3, .int x3), (4, .int x4)] rfl (by decide) dX3_mostSaved_75 rfl ?_
  refine to_goto (q := 25) dX3_mostSaved_78 rfl ?_
  exact to_ext [(0, .ref 96), (1, .int x1), (2, .int x2), (3, .int x3), (4, .int x4), (5, .int (x5 + (1 : Int32)))] (ext_cons rfl (ext_cons rfl (ext_cons rfl (ext_cons rfl (ext_cons rfl (ext_cons rfl ext_nil)))))) (hk25 hf hI)
def fX3_mostSaved_25 (n : Nat) (k5 : Int32 → Int32 → Int32 → Int32 → Me → Option (Int32 × Me)) (x1 : Int32) (x2 : Int32) (x3 : Int32) (x4 : Int32) (x5 : Int32) (m : Me) : Option (Int32 × Me) := match n with
  | 0 => none
  | n + 1 => cl2 (fX3_lastPlace x2 m) fun r11 m12 => if r11 < x5 then cl1 (fX3_release x1 x4 m12) fun m16 => k5 x1 x2 x3 ((x4 + (1 : Int32))) m16 else cl2 (fX3_costFrom x2 x5 m12) fun r19 m20 => if r19 = (-1 : Int32) then fX3_mostSaved_75 k5 (fX3_mostSaved_25 n k5) x1 x2 x3 x4 x5 m20 else ck (inb x2 4) (ck (inb x2 4) (cl2 (fX7_strangeAt (103 + 5 * x2.toNatClampNeg) (rr m20 98 x2.toNatClampNeg) x5 m20) fun r27 m28 => fX3_mostSaved_75 k5 (fX3_mostSaved_25 n k5) x1 x2 ((if x3 < (r27 - r19) then (r27 - r19) else x3)) x4 x5 m28))
set_option maxRecDepth 20000 in
theorem kX3_mostSaved_25 {S : Sh} (hS : ShOK S) {res : Int32 × Me} {k5 : Int32 → Int32 → Int32 → Int32 → Me → Option (Int32 × Me)} (hk5 : ∀ {x1 : Int32} {x2 : Int32} {x3 : Int32} {x4 : Int32} {m : Me}, k5 x1 x2 x3 x4 m = some res → Inv m → TT InvS (Call 1) mX3_mostSaved (5, [(0, .ref 96), (1, .int x1), (2, .int x2), (3, .int x3), (4, .int x4)], [], S, m) (some (.int res.1)) (S, res.2)) (n : Nat) : ∀ {x1 : Int32} {x2 : Int32} {x3 : Int32} {x4 : Int32} {x5 : Int32} {m : Me}, fX3_mostSaved_25 n k5 x1 x2 x3 x4 x5 m = some res → Inv m → TT InvS (Call 1) mX3_mostSaved (25, [(0, .ref 96), (1, .int x1), (2, .int x2), (3, .int x3), (4, .int x4), (5, .int x5)], [], S, m) (some (.int res.1)) (S, res.2) := by
  induction n with
  | zero => intro x1 x2 x3 x4 x5 m hf; cases hf
  | succ n ih =>
    intro x1 x2 x3 x4 x5 m hf  hI
    unfold fX3_mostSaved_25 at hf
    refine to_iload (q := 27) rfl dX3_mostSaved_25 rfl ?_
    refine to_aload_n (q := 28) rfl (by decide) dX3_mostSaved_27 rfl ?_
    refine to_iload_n (q := 29) rfl dX3_mostSaved_28 rfl ?_
    obtain ⟨r11, m12, hc9, hf⟩ := cl2_some hf
    have qc10 := kX3_lastPlace hS hc9 hI
    refine to_virtI (q := 32) mX3_lastPlace [.int x2] dX3_mostSaved_29 rfl rfl (Nat.le_of_ble_eq_true rfl) mo_X3_lastPlace mv_X3_87 (Or.inl ⟨_, _, _, h_96 hS, rfl, rfl⟩) (Call_mono (by decide) qc10.1) ?_
    have hI := qc10.2
    by_cases h13 : r11 < x5
    · have hf := ite_pos h13 hf
      refine to_icT (q := 81) (op := .gt) h13 dX3_mostSaved_32 rfl ?_
      refine to_aload_n (q := 82) rfl (by decide) dX3_mostSaved_81 rfl ?_
      refine to_iload_n (q := 83) rfl dX3_mostSaved_82 rfl ?_
      refine to_iload (q := 85) rfl dX3_mostSaved_83 rfl ?_
      obtain ⟨m16, hc14, hf⟩ := cl1_some hf
      have qc15 := kX3_release hS hc14 hI
      refine to_virtV (q := 88) mX3_release [.int x1, .int x4] dX3_mostSaved_85 rfl rfl (Nat.le_of_ble_eq_true rfl) mo_X3_release mv_X3_111 (Or.inl ⟨_, _, _, h_96 hS, rfl, rfl⟩) (Call_mono (by decide) qc15.1) ?_
      have hI := qc15.2
      refine to_iinc (q := 91) (v := (x4 + (1 : Int32))) rfl (congrArg (fun z => x4 + z) ic_1) [(4, .int (x4 + (1 : Int32))), (0, .ref 96), (1, .int x1), (2, .int x2), (3, .int x3), (5, .int x5)] rfl (by decide) dX3_mostSaved_88 rfl ?_
      refine to_goto (q := 5) dX3_mostSaved_91 rfl ?_
      exact to_ext [(0, .ref 96), (1, .int x1), (2, .int x2), (3, .int x3), (4, .int (x4 + (1 : Int32)))] (ext_cons rfl (ext_cons rfl (ext_cons rfl (ext_cons rfl (ext_cons rfl ext_nil))))) (hk5 hf hI)
    · have hf := ite_neg h13 hf
      refine to_icF (q := 35) (op := .gt) 81 h13 dX3_mostSaved_32 rfl rfl ?_
      refine to_aload_n (q := 36) rfl (by decide) dX3_mostSaved_35 rfl ?_
      refine to_iload_n (q := 37) rfl dX3_mostSaved_36 rfl ?_
      refine to_iload (q := 39) rfl dX3_mostSaved_37 rfl ?_
      obtain ⟨r19, m20, hc17, hf⟩ := cl2_some hf
      have qc18 := kX3_costFrom hS hc17 hI
      refine to_virtI (q := 42) mX3_costFrom [.int x2, .int x5] dX3_mostSaved_39 rfl rfl (Nat.le_of_ble_eq_true rfl) mo_X3_costFrom mv_X3_99 (Or.inl ⟨_, _, _, h_96 hS, rfl, rfl⟩) (Call_mono (by decide) qc18.1) ?_
      have hI := qc18.2
      refine to_istore (q := 44) [(6, .int r19), (0, .ref 96), (1, .int x1), (2, .int x2), (3, .int x3), (4, .int x4), (5, .int x5)] rfl (by decide) dX3_mostSaved_42 rfl ?_
      refine to_iload (q := 46) rfl dX3_mostSaved_44 rfl ?_
      refine to_iconst (q := 47) ic_m1 dX3_mostSaved_46 rfl ?_
      by_cases h21 : r19 = (-1 : Int32)
      · have hf := ite_pos h21 hf
        refine to_icT (q := 75) (op := .eq) h21 dX3_mostSaved_47 rfl ?_
        exact to_ext [(0, .ref 96), (1, .int x1), (2, .int x2), (3, .int x3), (4, .int x4), (5, .int x5)] (ext_cons rfl (ext_cons rfl (ext_cons rfl (ext_cons rfl (ext_cons rfl (ext_cons rfl ext_nil)))))) (kX3_mostSaved_75 hS hk5 ih hf hI)
      · have hf := ite_neg h21 hf
        refine to_icF (q := 50) (op := .eq) 75 h21 dX3_mostSaved_47 rfl rfl ?_
        refine to_iload_n (q := 51) rfl dX3_mostSaved_50 rfl ?_
        refine to_aload_n (q := 52) rfl (by decide) dX3_mostSaved_51 rfl ?_
        refine to_getR (q := 55) (b := 97) (k0 := 3) (C := RX3) (T := TX3) (N := 8) (j := 0) rfl fx_X3_11 (h_96 hS) rfl (iv_96_0 hI) dX3_mostSaved_52 rfl ?_
        refine to_iload_n (q := 56) rfl dX3_mostSaved_55 rfl ?_
        obtain ⟨hb22, hf⟩ := ck_some hf
        refine to_aald (q := 57) (b := 103 + 5 * x2.toNatClampNeg) (h_97 hS) (by decide) hb22 (ivR hI hb22) dX3_mostSaved_56 rfl ?_
        refine to_aload_n (q := 58) rfl (by decide) dX3_mostSaved_57 rfl ?_
        refine to_getR (q := 61) (b := 98) (k0 := 3) (C := RX3) (T := TX3) (N := 8) (j := 1) rfl fx_X3_19 (h_96 hS) rfl (iv_96_1 hI) dX3_mostSaved_58 rfl ?_
        refine to_iload_n (q := 62) rfl dX3_mostSaved_61 rfl ?_
        obtain ⟨hb23, hf⟩ := ck_some hf
        have hk24 : kd (rr m20 98 x2.toNatClampNeg) = 8 := (ivM hI hb23).2
        refine to_aald (q := 63) (b := rr m20 98 x2.toNatClampNeg) (h_98 hS) (by decide) hb23 ((ivM hI hb23).1) dX3_mostSaved_62 rfl ?_
        refine to_iload (q := 65) rfl dX3_mostSaved_63 rfl ?_
        obtain ⟨r27, m28, hc25, hf⟩ := cl2_some hf
        have qc26 := kX7_strangeAt hS hc25 (kdR hb22) (hk24) hI
        refine to_virtI (q := 68) mX7_strangeAt [.ref (rr m20 98 x2.toNatClampNeg), .int x5] dX3_mostSaved_65 rfl rfl (Nat.le_of_ble_eq_true rfl) mo_X7_strangeAt mv_X3_102 (Or.inl ⟨_, _, _, sh_kd hS (kdR hb22) (by decide), rfl, rfl⟩) (Call_mono (by decide) qc26.1) ?_
        have hI := qc26.2
        refine to_iload (q := 70) rfl dX3_mostSaved_68 rfl ?_
        refine to_isub (q := 71) dX3_mostSaved_70 rfl ?_
        refine to_max (q := 74) dX3_mostSaved_71 rfl (Nat.le_of_ble_eq_true rfl) (lc_max lm_X3_106) ?_
        refine to_istore_n (q := 75) [(3, .int (if x3 < (r27 - r19) then (r27 - r19) else x3)), (6, .int r19), (0, .ref 96), (1, .int x1), (2, .int x2), (4, .int x4), (5, .int x5)] rfl (by decide) dX3_mostSaved_74 rfl ?_
        exact to_ext [(0, .ref 96), (1, .int x1), (2, .int x2), (3, .int (if x3 < (r27 - r19) then (r27 - r19) else x3)), (4, .int x4), (5, .int x5)] (ext_cons rfl (ext_cons rfl (ext_cons rfl (ext_cons rfl (ext_cons rfl (ext_cons rfl ext_nil)))))) (kX3_mostSaved_75 hS hk5 ih hf hI)
def fX3_mostSaved_5 (n : Nat) (x1 : Int32) (x2 : Int32) (x3 : Int32) (x4 : Int32) (m : Me) : Option (Int32 × Me) := match n with
  | 0 => none
  | n + 1 => cl2 (fX3_lastPlace x1 m) fun r3 m4 => if r3 < x4 then some (x3, m4) else cl1 (fX3_claim x1 x4 m4) fun m8 => fX3_mostSaved_25 FU (fX3_mostSaved_5 n) x1 x2 x3 x4 ((0 : Int32)) m8
set_option maxRecDepth 20000 in
theorem kX3_mostSaved_5 {S : Sh} (hS : ShOK S) {res : Int32 × Me} (n : Nat) : ∀ {x1 : Int32} {x2 : Int32} {x3 : Int32} {x4 : Int32} {m : Me}, fX3_mostSaved_5 n x1 x2 x3 x4 m = some res → Inv m → TT InvS (Call 1) mX3_mostSaved (5, [(0, .ref 96), (1, .int x1), (2, .int x2), (3, .int x3), (4, .int x4)], [], S, m) (some (.int res.1)) (S, res.2) := by
  induction n with
  | zero => intro x1 x2 x3 x4 m hf; cases hf
  | succ n ih =>
    intro x1 x2 x3 x4 m hf  hI
    unfold fX3_mostSaved_5 at hf
    refine to_iload (q := 7) rfl dX3_mostSaved_5 rfl ?_
    refine to_aload_n (q := 8) rfl (by decide) dX3_mostSaved_7 rfl ?_
    refine to_iload_n (q := 9) rfl dX3_mostSaved_8 rfl ?_
    obtain ⟨r3, m4, hc1, hf⟩ := cl2_some hf
    have qc2 := kX3_lastPlace hS hc1 hI
    refine to_virtI (q := 12) mX3_lastPlace [.int x1] dX3_mostSaved_9 rfl rfl (Nat.le_of_ble_eq_true rfl) mo_X3_lastPlace mv_X3_87 (Or.inl ⟨_, _, _, h_96 hS, rfl, rfl⟩) (Call_mono (by decide) qc2.1) ?_
    have hI := qc2.2
    by_cases h5 : r3 < x4
    · have hf := ite_pos h5 hf
      refine to_icT (q := 94) (op := .gt) h5 dX3_mostSaved_12 rfl ?_
      refine to_iload_n (q := 95) rfl dX3_mostSaved_94 rfl ?_
      cases hf
      exact to_iret dX3_mostSaved_95 rfl rfl rfl rfl hI
    · have hf := ite_neg h5 hf
      refine to_icF (q := 15) (op := .gt) 94 h5 dX3_mostSaved_12 rfl rfl ?_
      refine to_aload_n (q := 16) rfl (by decide) dX3_mostSaved_15 rfl ?_
      refine to_iload_n (q := 17) rfl dX3_mostSaved_16 rfl ?_
      refine to_iload (q := 19) rfl dX3_mostSaved_17 rfl ?_
      obtain ⟨m8, hc6, hf⟩ := cl1_some hf
      have qc7 := kX3_claim hS hc6 hI
      refine to_virtV (q := 22) mX3_claim [.int x1, .int x4] dX3_mostSaved_19 rfl rfl (Nat.le_of_ble_eq_true rfl) mo_X3_claim mv_X3_96 (Or.inl ⟨_, _, _, h_96 hS, rfl, rfl⟩) (Call_mono (by decide) qc7.1) ?_
      have hI := qc7.2
      refine to_iconst (q := 23) ic_0 dX3_mostSaved_22 rfl ?_
      refine to_istore (q := 25) [(5, .int (0 : Int32)), (0, .ref 96), (1, .int x1), (2, .int x2), (3, .int x3), (4, .int x4)] rfl (by decide) dX3_mostSaved_23 rfl ?_
      exact to_ext [(0, .ref 96), (1, .int x1), (2, .int x2), (3, .int x3), (4, .int x4), (5, .int (0 : Int32))] (ext_cons rfl (ext_cons rfl (ext_cons rfl (ext_cons rfl (ext_cons rfl (ext_cons rfl ext_nil)))))) (kX3_mostSaved_25 hS ih FU hf hI)
def fX3_mostSaved (x1 : Int32) (x2 : Int32) (m : Me) : Option (Int32 × Me) := fX3_mostSaved_5 FU x1 x2 ((0 : Int32)) ((0 : Int32)) m
set_option maxRecDepth 20000 in
theorem kX3_mostSaved {S : Sh} (hS : ShOK S) {res : Int32 × Me} {x1 : Int32} {x2 : Int32} {m : Me} (hf : fX3_mostSaved x1 x2 m = some res) (hI : Inv m) : Call 2 mX3_mostSaved [.ref 96, .int x1, .int x2] (S, m) (some (.int res.1)) (S, res.2) ∧ Inv res.2 := by
  refine call_of (P := InvS) (Nat.le_of_ble_eq_true rfl) (by simp [Value.category]) ?_
  show TT InvS (Call 1) mX3_mostSaved (0, [(0, .ref 96), (1, .int x1), (2, .int x2)], [], S, m) _ _
  unfold fX3_mostSaved at hf
  refine to_iconst (q := 1) ic_0 dX3_mostSaved_0 rfl ?_
  refine to_istore_n (q := 2) [(3, .int (0 : Int32)), (0, .ref 96), (1, .int x1), (2, .int x2)] rfl (by decide) dX3_mostSaved_1 rfl ?_
  refine to_iconst (q := 3) ic_0 dX3_mostSaved_2 rfl ?_
  refine to_istore (q := 5) [(4, .int (0 : Int32)), (3, .int (0 : Int32)), (0, .ref 96), (1, .int x1), (2, .int x2)] rfl (by decide) dX3_mostSaved_3 rfl ?_
  exact to_ext [(0, .ref 96), (1, .int x1), (2, .int x2), (3, .int (0 : Int32)), (4, .int (0 : Int32))] (ext_cons rfl (ext_cons rfl (ext_cons rfl (ext_cons rfl (ext_cons rfl ext_nil))))) (kX3_mostSaved_5 hS FU hf hI)
def fX3_compareWishes_14 (n : Nat) (k2 : Int32 → Me → Option (Me)) (x1 : Int32) (x2 : Int32) (m : Me) : Option (Me) := match n with
  | 0 => none
  | n + 1 => if (m.1 96 2) ≤ x2 then k2 ((x1 + (1 : Int32))) m else cl2 (fX3_mostSaved x1 x2 m) fun r5 m6 => ck (inb ((x1 * (4 : Int32)) + x2) 16) (fX3_compareWishes_14 n k2 x1 ((x2 + (1 : Int32))) (setI m6 102 ((x1 * (4 : Int32)) + x2).toNatClampNeg r5))
set_option maxRecDepth 20000 in
theorem kX3_compareWishes_14 {S : Sh} (hS : ShOK S) {res : Me} {k2 : Int32 → Me → Option (Me)} (hk2 : ∀ {x1 : Int32} {m : Me}, k2 x1 m = some res → Inv m → TT InvS (Call 2) mX3_compareWishes (2, [(0, .ref 96), (1, .int x1)], [], S, m) none (S, res)) (n : Nat) : ∀ {x1 : Int32} {x2 : Int32} {m : Me}, fX3_compareWishes_14 n k2 x1 x2 m = some res → Inv m → TT InvS (Call 2) mX3_compareWishes (14, [(0, .ref 96), (1, .int x1), (2, .int x2)], [], S, m) none (S, res) := by
  induction n with
  | zero => intro x1 x2 m hf; cases hf
  | succ n ih =>
    intro x1 x2 m hf  hI
    unfold fX3_compareWishes_14 at hf
    refine to_iload_n (q := 15) rfl dX3_compareWishes_14 rfl ?_
    refine to_aload_n (q := 16) rfl (by decide) dX3_compareWishes_15 rfl ?_
    refine to_getI (q := 19) (k0 := 3) (C := RX3) (T := TX3) (N := 8) (j := 2) rfl fx_X3_57 (h_96 hS) rfl dX3_compareWishes_16 rfl ?_
    by_cases h2 : (m.1 96 2) ≤ x2
    · have hf := ite_pos h2 hf
      refine to_icT (q := 44) (op := .ge) h2 dX3_compareWishes_19 rfl ?_
      refine to_iinc (q := 47) (v := (x1 + (1 : Int32))) rfl (congrArg (fun z => x1 + z) ic_1) [(1, .int (x1 + (1 : Int32))), (0, .ref 96), (2, .int x2)] rfl (by decide) dX3_compareWishes_44 rfl ?_
      refine to_goto (q := 2) dX3_compareWishes_47 rfl ?_
      exact to_ext [(0, .ref 96), (1, .int (x1 + (1 : Int32)))] (ext_cons rfl (ext_cons rfl ext_nil)) (hk2 hf hI)
    · have hf := ite_neg h2 hf
      refine to_icF (q := 22) (op := .ge) 44 h2 dX3_compareWishes_19 rfl rfl ?_
      refine to_aload_n (q := 23) rfl (by decide) dX3_compareWishes_22 rfl ?_
      refine to_getR (q := 26) (b := 102) (k0 := 3) (C := RX3) (T := TX3) (N := 8) (j := 6) rfl fx_X3_33 (h_96 hS) rfl (iv_96_6 hI) dX3_compareWishes_23 rfl ?_
      refine to_iload_n (q := 27) rfl dX3_compareWishes_26 rfl ?_
      refine to_iconst (q := 28) ic_4 dX3_compareWishes_27 rfl ?_
      refine to_imul (q := 29) dX3_compareWishes_28 rfl ?_
      refine to_iload_n (q := 30) rfl dX3_compareWishes_29 rfl ?_
      refine to_iadd (q := 31) dX3_compareWishes_30 rfl ?_
      refine to_aload_n (q := 32) rfl (by decide) dX3_compareWishes_31 rfl ?_
      refine to_iload_n (q := 33) rfl dX3_compareWishes_32 rfl ?_
      refine to_iload_n (q := 34) rfl dX3_compareWishes_33 rfl ?_
      obtain ⟨r5, m6, hc3, hf⟩ := cl2_some hf
      have qc4 := kX3_mostSaved hS hc3 hI
      refine to_virtI (q := 37) mX3_mostSaved [.int x1, .int x2] dX3_compareWishes_34 rfl rfl (Nat.le_of_ble_eq_true rfl) mo_X3_mostSaved mv_X3_92 (Or.inl ⟨_, _, _, h_96 hS, rfl, rfl⟩) (Call_mono (by decide) qc4.1) ?_
      have hI := qc4.2
      obtain ⟨hb7, hf⟩ := ck_some hf
      refine to_iasj (q := 38) (h_102 hS) hb7 (rfl) dX3_compareWishes_37 rfl ?_
      refine to_iinc (q := 41) (v := (x2 + (1 : Int32))) rfl (congrArg (fun z => x2 + z) ic_1) [(2, .int (x2 + (1 : Int32))), (0, .ref 96), (1, .int x1)] rfl (by decide) dX3_compareWishes_38 rfl ?_
      refine to_goto (q := 14) dX3_compareWishes_41 rfl ?_
      exact to_ext [(0, .ref 96), (1, .int x1), (2, .int (x2 + (1 : Int32)))] (ext_cons rfl (ext_cons rfl (ext_cons rfl ext_nil))) (ih hf hI)
def fX3_compareWishes_2 (n : Nat) (x1 : Int32) (m : Me) : Option (Me) := match n with
  | 0 => none
  | n + 1 => if (m.1 96 2) ≤ x1 then some m else fX3_compareWishes_14 FU (fX3_compareWishes_2 n) x1 ((x1 + (1 : Int32))) m
set_option maxRecDepth 20000 in
theorem kX3_compareWishes_2 {S : Sh} (hS : ShOK S) {res : Me} (n : Nat) : ∀ {x1 : Int32} {m : Me}, fX3_compareWishes_2 n x1 m = some res → Inv m → TT InvS (Call 2) mX3_compareWishes (2, [(0, .ref 96), (1, .int x1)], [], S, m) none (S, res) := by
  induction n with
  | zero => intro x1 m hf; cases hf
  | succ n ih =>
    intro x1 m hf  hI
    unfold fX3_compareWishes_2 at hf
    refine to_iload_n (q := 3) rfl dX3_compareWishes_2 rfl ?_
    refine to_aload_n (q := 4) rfl (by decide) dX3_compareWishes_3 rfl ?_
    refine to_getI (q := 7) (k0 := 3) (C := RX3) (T := TX3) (N := 8) (j := 2) rfl fx_X3_57 (h_96 hS) rfl dX3_compareWishes_4 rfl ?_
    by_cases h1 : (m.1 96 2) ≤ x1
    · have hf := ite_pos h1 hf
      refine to_icT (q := 50) (op := .ge) h1 dX3_compareWishes_7 rfl ?_
      cases hf
      exact to_vret dX3_compareWishes_50 rfl rfl rfl hI
    · have hf := ite_neg h1 hf
      refine to_icF (q := 10) (op := .ge) 50 h1 dX3_compareWishes_7 rfl rfl ?_
      refine to_iload_n (q := 11) rfl dX3_compareWishes_10 rfl ?_
      refine to_iconst (q := 12) ic_1 dX3_compareWishes_11 rfl ?_
      refine to_iadd (q := 13) dX3_compareWishes_12 rfl ?_
      refine to_istore_n (q := 14) [(2, .int (x1 + (1 : Int32))), (0, .ref 96), (1, .int x1)] rfl (by decide) dX3_compareWishes_13 rfl ?_
      exact to_ext [(0, .ref 96), (1, .int x1), (2, .int (x1 + (1 : Int32)))] (ext_cons rfl (ext_cons rfl (ext_cons rfl ext_nil))) (kX3_compareWishes_14 hS ih FU hf hI)
def fX3_compareWishes (m : Me) : Option (Me) := fX3_compareWishes_2 FU ((0 : Int32)) m
set_option maxRecDepth 20000 in
theorem kX3_compareWishes {S : Sh} (hS : ShOK S) {res : Me} {m : Me} (hf : fX3_compareWishes m = some res) (hI : Inv m) : Call 3 mX3_compareWishes [.ref 96] (S, m) none (S, res) ∧ Inv res := by
  refine call_of (P := InvS) (Nat.le_of_ble_eq_true rfl) (by simp [Value.category]) ?_
  show TT InvS (Call 2) mX3_compareWishes (0, [(0, .ref 96)], [], S, m) _ _
  unfold fX3_compareWishes at hf
  refine to_iconst (q := 1) ic_0 dX3_compareWishes_0 rfl ?_
  refine to_istore_n (q := 2) [(1, .int (0 : Int32)), (0, .ref 96)] rfl (by decide) dX3_compareWishes_1 rfl ?_
  exact to_ext [(0, .ref 96), (1, .int (0 : Int32))] (ext_cons rfl (ext_cons rfl ext_nil)) (kX3_compareWishes_2 hS FU hf hI)
def fX3_weighPlaces_48 (k5 : Int32 → Int32 → Int32 → Me → Option (Int32 × Me)) (x1 : Int32) (x2 : Int32) (x3 : Int32) (m : Me) : Option (Int32 × Me) := k5 x1 x2 ((x3 + (1 : Int32))) m
set_option maxRecDepth 20000 in
theorem kX3_weighPlaces_48 {S : Sh} (hS : ShOK S) {res : Int32 × Me} {k5 : Int32 → Int32 → Int32 → Me → Option (Int32 × Me)} (hk5 : ∀ {x1 : Int32} {x2 : Int32} {x3 : Int32} {m : Me}, k5 x1 x2 x3 m = some res → Inv m → TT InvS (Call 1) mX3_weighPlaces (5, [(0, .ref 96), (1, .int x1), (2, .int x2), (3, .int x3)], [], S, m) (some (.int res.1)) (S, res.2)) {x1 : Int32} {x2 : Int32} {x3 : Int32} {m : Me} (hf : fX3_weighPlaces_48 k5 x1 x2 x3 m = some res) (hI : Inv m) : TT InvS (Call 1) mX3_weighPlaces (48, [(0, .ref 96), (1, .int x1), (2, .int x2), (3, .int x3)], [], S, m) (some (.int res.1)) (S, res.2) := by
  unfold fX3_weighPlaces_48 at hf
  refine to_iinc (q := 51) (v := (x3 + (1 : Int32))) rfl (congrArg (fun z => x3 + z) ic_1) [(3, .int (x3 + (1 : Int32))), (0, .ref 96), (1, .int x1), (2, .int x2)] rfl (by decide) dX3_weighPlaces_48 rfl ?_
  refine to_goto (q := 5) dX3_weighPlaces_51 rfl ?_
  exact to_ext [(0, .ref 96), (1, .int x1), (2, .int x2), (3, .int (x3 + (1 : Int32)))] (ext_cons rfl (ext_cons rfl (ext_cons rfl (ext_cons rfl ext_nil)))) (hk5 hf hI)
def fX3_weighPlaces_5 (n : Nat) (x1 : Int32) (x2 : Int32) (x3 : Int32) (m : Me) : Option (Int32 × Me) := match n with
  | 0 => none
  | n + 1 => cl2 (fX3_lastPlace x1 m) fun r3 m4 => if r3 < x3 then some (x2, m4) else cl2 (fX3_costFrom x1 x3 m4) fun r8 m9 => ck (inb ((x1 * (30 : Int32)) + x3) 120) (if r8 = (-1 : Int32) then fX3_weighPlaces_48 (fX3_weighPlaces_5 n) x1 x2 x3 (setI m9 101 ((x1 * (30 : Int32)) + x3).toNatClampNeg r8) else fX3_weighPlaces_48 (fX3_weighPlaces_5 n) x1 ((if r8 < x2 then r8 else x2)) x3 (setI m9 101 ((x1 * (30 : Int32)) + x3).toNatClampNeg r8))
set_option maxRecDepth 20000 in
theorem kX3_weighPlaces_5 {S : Sh} (hS : ShOK S) {res : Int32 × Me} (n : Nat) : ∀ {x1 : Int32} {x2 : Int32} {x3 : Int32} {m : Me}, fX3_weighPlaces_5 n x1 x2 x3 m = some res → Inv m → TT InvS (Call 1) mX3_weighPlaces (5, [(0, .ref 96), (1, .int x1), (2, .int x2), (3, .int x3)], [], S, m) (some (.int res.1)) (S, res.2) := by
  induction n with
  | zero => intro x1 x2 x3 m hf; cases hf
  | succ n ih =>
    intro x1 x2 x3 m hf  hI
    unfold fX3_weighPlaces_5 at hf
    refine to_iload_n (q := 6) rfl dX3_weighPlaces_5 rfl ?_
    refine to_aload_n (q := 7) rfl (by decide) dX3_weighPlaces_6 rfl ?_
    refine to_iload_n (q := 8) rfl dX3_weighPlaces_7 rfl ?_
    obtain ⟨r3, m4, hc1, hf⟩ := cl2_some hf
    have qc2 := kX3_lastPlace hS hc1 hI
    refine to_virtI (q := 11) mX3_lastPlace [.int x1] dX3_weighPlaces_8 rfl rfl (Nat.le_of_ble_eq_true rfl) mo_X3_lastPlace mv_X3_87 (Or.inl ⟨_, _, _, h_96 hS, rfl, rfl⟩) (Call_mono (by decide) qc2.1) ?_
    have hI := qc2.2
    by_cases h5 : r3 < x3
    · have hf := ite_pos h5 hf
      refine to_icT (q := 54) (op := .gt) h5 dX3_weighPlaces_11 rfl ?_
      refine to_iload_n (q := 55) rfl dX3_weighPlaces_54 rfl ?_
      cases hf
      exact to_iret dX3_weighPlaces_55 rfl rfl rfl rfl hI
    · have hf := ite_neg h5 hf
      refine to_icF (q := 14) (op := .gt) 54 h5 dX3_weighPlaces_11 rfl rfl ?_
      refine to_aload_n (q := 15) rfl (by decide) dX3_weighPlaces_14 rfl ?_
      refine to_iload_n (q := 16) rfl dX3_weighPlaces_15 rfl ?_
      refine to_iload_n (q := 17) rfl dX3_weighPlaces_16 rfl ?_
      obtain ⟨r8, m9, hc6, hf⟩ := cl2_some hf
      have qc7 := kX3_costFrom hS hc6 hI
      refine to_virtI (q := 20) mX3_costFrom [.int x1, .int x3] dX3_weighPlaces_17 rfl rfl (Nat.le_of_ble_eq_true rfl) mo_X3_costFrom mv_X3_99 (Or.inl ⟨_, _, _, h_96 hS, rfl, rfl⟩) (Call_mono (by decide) qc7.1) ?_
      have hI := qc7.2
      refine to_istore (q := 22) [(4, .int r8), (0, .ref 96), (1, .int x1), (2, .int x2), (3, .int x3)] rfl (by decide) dX3_weighPlaces_20 rfl ?_
      refine to_aload_n (q := 23) rfl (by decide) dX3_weighPlaces_22 rfl ?_
      refine to_getR (q := 26) (b := 101) (k0 := 3) (C := RX3) (T := TX3) (N := 8) (j := 5) rfl fx_X3_30 (h_96 hS) rfl (iv_96_5 hI) dX3_weighPlaces_23 rfl ?_
      refine to_iload_n (q := 27) rfl dX3_weighPlaces_26 rfl ?_
      refine to_bipush (q := 29) bp_30 dX3_weighPlaces_27 rfl ?_
      refine to_imul (q := 30) dX3_weighPlaces_29 rfl ?_
      refine to_iload_n (q := 31) rfl dX3_weighPlaces_30 rfl ?_
      refine to_iadd (q := 32) dX3_weighPlaces_31 rfl ?_
      refine to_iload (q := 34) rfl dX3_weighPlaces_32 rfl ?_
      obtain ⟨hb10, hf⟩ := ck_some hf
      refine to_iasj (q := 35) (h_101 hS) hb10 (rfl) dX3_weighPlaces_34 rfl ?_
      refine to_iload (q := 37) rfl dX3_weighPlaces_35 rfl ?_
      refine to_iconst (q := 38) ic_m1 dX3_weighPlaces_37 rfl ?_
      by_cases h11 : r8 = (-1 : Int32)
      · have hf := ite_pos h11 hf
        refine to_icT (q := 48) (op := .eq) h11 dX3_weighPlaces_38 rfl ?_
        exact to_ext [(0, .ref 96), (1, .int x1), (2, .int x2), (3, .int x3)] (ext_cons rfl (ext_cons rfl (ext_cons rfl (ext_cons rfl ext_nil)))) (kX3_weighPlaces_48 hS ih hf hI)
      · have hf := ite_neg h11 hf
        refine to_icF (q := 41) (op := .eq) 48 h11 dX3_weighPlaces_38 rfl rfl ?_
        refine to_iload_n (q := 42) rfl dX3_weighPlaces_41 rfl ?_
        refine to_iload (q := 44) rfl dX3_weighPlaces_42 rfl ?_
        refine to_min (q := 47) dX3_weighPlaces_44 rfl (Nat.le_of_ble_eq_true rfl) (lc_min lm_X3_114) ?_
        refine to_istore_n (q := 48) [(2, .int (if r8 < x2 then r8 else x2)), (4, .int r8), (0, .ref 96), (1, .int x1), (3, .int x3)] rfl (by decide) dX3_weighPlaces_47 rfl ?_
        exact to_ext [(0, .ref 96), (1, .int x1), (2, .int (if r8 < x2 then r8 else x2)), (3, .int x3)] (ext_cons rfl (ext_cons rfl (ext_cons rfl (ext_cons rfl ext_nil)))) (kX3_weighPlaces_48 hS ih hf hI)
def fX3_weighPlaces (x1 : Int32) (m : Me) : Option (Int32 × Me) := fX3_weighPlaces_5 FU x1 ((33 : Int32)) ((0 : Int32)) m
set_option maxRecDepth 20000 in
theorem kX3_weighPlaces {S : Sh} (hS : ShOK S) {res : Int32 × Me} {x1 : Int32} {m : Me} (hf : fX3_weighPlaces x1 m = some res) (hI : Inv m) : Call 2 mX3_weighPlaces [.ref 96, .int x1] (S, m) (some (.int res.1)) (S, res.2) ∧ Inv res.2 := by
  refine call_of (P := InvS) (Nat.le_of_ble_eq_true rfl) (by simp [Value.category]) ?_
  show TT InvS (Call 1) mX3_weighPlaces (0, [(0, .ref 96), (1, .int x1)], [], S, m) _ _
  unfold fX3_weighPlaces at hf
  refine to_bipush (q := 2) bp_33 dX3_weighPlaces_0 rfl ?_
  refine to_istore_n (q := 3) [(2, .int (33 : Int32)), (0, .ref 96), (1, .int x1)] rfl (by decide) dX3_weighPlaces_2 rfl ?_
  refine to_iconst (q := 4) ic_0 dX3_weighPlaces_3 rfl ?_
  refine to_istore_n (q := 5) [(3, .int (0 : Int32)), (2, .int (33 : Int32)), (0, .ref 96), (1, .int x1)] rfl (by decide) dX3_weighPlaces_4 rfl ?_
  exact to_ext [(0, .ref 96), (1, .int x1), (2, .int (33 : Int32)), (3, .int (0 : Int32))] (ext_cons rfl (ext_cons rfl (ext_cons rfl (ext_cons rfl ext_nil)))) (kX3_weighPlaces_5 hS FU hf hI)
def fX3_leastBeside_18 (n : Nat) (x2 : Int32) (x3 : Int32) (x4 : Int32) (m : Me) : Option (Int32 × Me) := match n with
  | 0 => none
  | n + 1 => if x2 ≤ x4 then some ((if (0 : Int32) < x3 then x3 else (0 : Int32)), m) else ck (inb ((x4 * (4 : Int32)) + x2) 16) (fX3_leastBeside_18 n x2 ((x3 - (m.1 102 ((x4 * (4 : Int32)) + x2).toNatClampNeg))) ((x4 + (1 : Int32))) m)
set_option maxRecDepth 20000 in
theorem kX3_leastBeside_18 {S : Sh} (hS : ShOK S) {res : Int32 × Me} (n : Nat) : ∀ {x2 : Int32} {x3 : Int32} {x4 : Int32} {m : Me}, fX3_leastBeside_18 n x2 x3 x4 m = some res → Inv m → TT InvS (Call 2) mX3_leastBeside (18, [(0, .ref 96), (2, .int x2), (3, .int x3), (4, .int x4)], [], S, m) (some (.int res.1)) (S, res.2) := by
  induction n with
  | zero => intro x2 x3 x4 m hf; cases hf
  | succ n ih =>
    intro x2 x3 x4 m hf  hI
    unfold fX3_leastBeside_18 at hf
    refine to_iload (q := 20) rfl dX3_leastBeside_18 rfl ?_
    refine to_iload_n (q := 21) rfl dX3_leastBeside_20 rfl ?_
    by_cases h6 : x2 ≤ x4
    · have hf := ite_pos h6 hf
      refine to_icT (q := 44) (op := .ge) h6 dX3_leastBeside_21 rfl ?_
      refine to_iconst (q := 45) ic_0 dX3_leastBeside_44 rfl ?_
      refine to_iload_n (q := 46) rfl dX3_leastBeside_45 rfl ?_
      refine to_max (q := 49) dX3_leastBeside_46 rfl (Nat.le_of_ble_eq_true rfl) (lc_max lm_X3_106) ?_
      cases hf
      exact to_iret dX3_leastBeside_49 rfl rfl rfl rfl hI
    · have hf := ite_neg h6 hf
      refine to_icF (q := 24) (op := .ge) 44 h6 dX3_leastBeside_21 rfl rfl ?_
      refine to_iload_n (q := 25) rfl dX3_leastBeside_24 rfl ?_
      refine to_aload_n (q := 26) rfl (by decide) dX3_leastBeside_25 rfl ?_
      refine to_getR (q := 29) (b := 102) (k0 := 3) (C := RX3) (T := TX3) (N := 8) (j := 6) rfl fx_X3_33 (h_96 hS) rfl (iv_96_6 hI) dX3_leastBeside_26 rfl ?_
      refine to_iload (q := 31) rfl dX3_leastBeside_29 rfl ?_
      refine to_iconst (q := 32) ic_4 dX3_leastBeside_31 rfl ?_
      refine to_imul (q := 33) dX3_leastBeside_32 rfl ?_
      refine to_iload_n (q := 34) rfl dX3_leastBeside_33 rfl ?_
      refine to_iadd (q := 35) dX3_leastBeside_34 rfl ?_
      obtain ⟨hb7, hf⟩ := ck_some hf
      refine to_iaj (q := 36) (h_102 hS) hb7 (rfl) dX3_leastBeside_35 rfl ?_
      refine to_isub (q := 37) dX3_leastBeside_36 rfl ?_
      refine to_istore_n (q := 38) [(3, .int (x3 - (m.1 102 ((x4 * (4 : Int32)) + x2).toNatClampNeg))), (0, .ref 96), (2, .int x2), (4, .int x4)] rfl (by decide) dX3_leastBeside_37 rfl ?_
      refine to_iinc (q := 41) (v := (x4 + (1 : Int32))) rfl (congrArg (fun z => x4 + z) ic_1) [(4, .int (x4 + (1 : Int32))), (3, .int (x3 - (m.1 102 ((x4 * (4 : Int32)) + x2).toNatClampNeg))), (0, .ref 96), (2, .int x2)] rfl (by decide) dX3_leastBeside_38 rfl ?_
      refine to_goto (q := 18) dX3_leastBeside_41 rfl ?_
      exact to_ext [(0, .ref 96), (2, .int x2), (3, .int (x3 - (m.1 102 ((x4 * (4 : Int32)) + x2).toNatClampNeg))), (4, .int (x4 + (1 : Int32)))] (ext_cons rfl (ext_cons rfl (ext_cons rfl (ext_cons rfl ext_nil)))) (ih hf hI)
def fX3_leastBeside (x1 : Int32) (x2 : Int32) (m : Me) : Option (Int32 × Me) := cl2 (fX3_weighPlaces x2 m) fun r3 m4 => if r3 = (33 : Int32) then some ((33 : Int32), m4) else fX3_leastBeside_18 FU x2 r3 x1 m4
set_option maxRecDepth 20000 in
theorem kX3_leastBeside {S : Sh} (hS : ShOK S) {res : Int32 × Me} {x1 : Int32} {x2 : Int32} {m : Me} (hf : fX3_leastBeside x1 x2 m = some res) (hI : Inv m) : Call 3 mX3_leastBeside [.ref 96, .int x1, .int x2] (S, m) (some (.int res.1)) (S, res.2) ∧ Inv res.2 := by
  refine call_of (P := InvS) (Nat.le_of_ble_eq_true rfl) (by simp [Value.category]) ?_
  show TT InvS (Call 2) mX3_leastBeside (0, [(0, .ref 96), (1, .int x1), (2, .int x2)], [], S, m) _ _
  unfold fX3_leastBeside at hf
  refine to_aload_n (q := 1) rfl (by decide) dX3_leastBeside_0 rfl ?_
  refine to_iload_n (q := 2) rfl dX3_leastBeside_1 rfl ?_
  obtain ⟨r3, m4, hc1, hf⟩ := cl2_some hf
  have qc2 := kX3_weighPlaces hS hc1 hI
  refine to_virtI (q := 5) mX3_weighPlaces [.int x2] dX3_leastBeside_2 rfl rfl (Nat.le_of_ble_eq_true rfl) mo_X3_weighPlaces mv_X3_120 (Or.inl ⟨_, _, _, h_96 hS, rfl, rfl⟩) (Call_mono (by decide) qc2.1) ?_
  have hI := qc2.2
  refine to_istore_n (q := 6) [(3, .int r3), (0, .ref 96), (1, .int x1), (2, .int x2)] rfl (by decide) dX3_leastBeside_5 rfl ?_
  refine to_iload_n (q := 7) rfl dX3_leastBeside_6 rfl ?_
  refine to_bipush (q := 9) bp_33 dX3_leastBeside_7 rfl ?_
  by_cases h5 : r3 = (33 : Int32)
  · have hf := ite_pos h5 hf
    refine to_icF (q := 12) (op := .ne) 15 (fun z => z h5) dX3_leastBeside_9 rfl rfl ?_
    refine to_bipush (q := 14) bp_33 dX3_leastBeside_12 rfl ?_
    cases hf
    exact to_iret dX3_leastBeside_14 rfl rfl rfl rfl hI
  · have hf := ite_neg h5 hf
    refine to_icT (q := 15) (op := .ne) h5 dX3_leastBeside_9 rfl ?_
    refine to_iload_n (q := 16) rfl dX3_leastBeside_15 rfl ?_
    refine to_istore (q := 18) [(4, .int x1), (3, .int r3), (0, .ref 96), (1, .int x1), (2, .int x2)] rfl (by decide) dX3_leastBeside_16 rfl ?_
    exact to_ext [(0, .ref 96), (2, .int x2), (3, .int r3), (4, .int x1)] (ext_cons rfl (ext_cons rfl (ext_cons rfl (ext_cons rfl ext_nil)))) (kX3_leastBeside_18 hS FU hf hI)
def fX3_tryPlaces_163 (rec : Int32 → Int32 → Me → Option (Me)) (m : Me) : Option (Me) := some m
set_option maxRecDepth 20000 in
theorem kX3_tryPlaces_163 {S : Sh} (hS : ShOK S) {dd : Nat} (hdd : 3 ≤ dd) {rec : Int32 → Int32 → Me → Option (Me)} (hrec : ∀ {x1 : Int32} {x2 : Int32} {m : Me} {res : Me}, rec x1 x2 m = some res → Inv m → Call dd mX3_tryPlaces [.ref 96, .int x1, .int x2] (S, m) none (S, res) ∧ Inv res) {res : Me} {m : Me} (hf : fX3_tryPlaces_163 rec m = some res) (hI : Inv m) : TT InvS (Call dd) mX3_tryPlaces (163, [], [], S, m) none (S, res) := by
  unfold fX3_tryPlaces_163 at hf
  cases hf
  exact to_vret dX3_tryPlaces_163 rfl rfl rfl hI
def fX3_tryPlaces_157 (rec : Int32 → Int32 → Me → Option (Me)) (k67 : Int32 → Int32 → Int32 → Int32 → Me → Option (Me)) (x1 : Int32) (x2 : Int32) (x3 : Int32) (x4 : Int32) (m : Me) : Option (Me) := k67 x1 x2 x3 ((x4 + (1 : Int32))) m
set_option maxRecDepth 20000 in
theorem kX3_tryPlaces_157 {S : Sh} (hS : ShOK S) {dd : Nat} (hdd : 3 ≤ dd) {rec : Int32 → Int32 → Me → Option (Me)} (hrec : ∀ {x1 : Int32} {x2 : Int32} {m : Me} {res : Me}, rec x1 x2 m = some res → Inv m → Call dd mX3_tryPlaces [.ref 96, .int x1, .int x2] (S, m) none (S, res) ∧ Inv res) {res : Me} {k67 : Int32 → Int32 → Int32 → Int32 → Me → Option (Me)} (hk67 : ∀ {x1 : Int32} {x2 : Int32} {x3 : Int32} {x4 : Int32} {m : Me}, k67 x1 x2 x3 x4 m = some res → Inv m → TT InvS (Call dd) mX3_tryPlaces (67, [(0, .ref 96), (1, .int x1), (2, .int x2), (3, .int x3), (4, .int x4)], [], S, m) none (S, res)) {x1 : Int32} {x2 : Int32} {x3 : Int32} {x4 : Int32} {m : Me} (hf : fX3_tryPlaces_157 rec k67 x1 x2 x3 x4 m = some res) (hI : Inv m) : TT InvS (Call dd) mX3_tryPlaces (157, [(0, .ref 96), (1, .int x1), (2, .int x2), (3, .int x3), (4, .int x4)], [], S, m) none (S, res) := by
  unfold fX3_tryPlaces_157 at hf
  refine to_iinc (q := 160) (v := (x4 + (1 : Int32))) rfl (congrArg (fun z => x4 + z) ic_1) [(4, .int (x4 + (1 : Int32))), (0, .ref 96), (1, .int x1), (2, .int x2), (3, .int x3)] rfl (by decide) dX3_tryPlaces_157 rfl ?_
  refine to_goto (q := 67) dX3_tryPlaces_160 rfl ?_
  exact to_ext [(0, .ref 96), (1, .int x1), (2, .int x2), (3, .int x3), (4, .int (x4 + (1 : Int32)))] (ext_cons rfl (ext_cons rfl (ext_cons rfl (ext_cons rfl (ext_cons rfl ext_nil))))) (hk67 hf hI)
def fX3_tryPlaces_151 (rec : Int32 → Int32 → Me → Option (Me)) (k67 : Int32 → Int32 → Int32 → Int32 → Me → Option (Me)) (k88 : Int32 → Int32 → Int32 → Int32 → Int32 → Me → Option (Me)) (x1 : Int32) (x2 : Int32) (x3 : Int32) (x4 : Int32) (x5 : Int32) (m : Me) : Option (Me) := k88 x1 x2 x3 x4 ((x5 + (1 : Int32))) m
set_option maxRecDepth 20000 in
theorem kX3_tryPlaces_151 {S : Sh} (hS : ShOK S) {dd : Nat} (hdd : 3 ≤ dd) {rec : Int32 → Int32 → Me → Option (Me)} (hrec : ∀ {x1 : Int32} {x2 : Int32} {m : Me} {res : Me}, rec x1 x2 m = some res → Inv m → Call dd mX3_tryPlaces [.ref 96, .int x1, .int x2] (S, m) none (S, res) ∧ Inv res) {res : Me} {k67 : Int32 → Int32 → Int32 → Int32 → Me → Option (Me)} (hk67 : ∀ {x1 : Int32} {x2 : Int32} {x3 : Int32} {x4 : Int32} {m : Me}, k67 x1 x2 x3 x4 m = some res → Inv m → TT InvS (Call dd) mX3_tryPlaces (67, [(0, .ref 96), (1, .int x1), (2, .int x2), (3, .int x3), (4, .int x4)], [], S, m) none (S, res)) {k88 : Int32 → Int32 → Int32 → Int32 → Int32 → Me → Option (Me)} (hk88 : ∀ {x1 : Int32} {x2 : Int32} {x3 : Int32} {x4 : Int32} {x5 : Int32} {m : Me}, k88 x1 x2 x3 x4 x5 m = some res → Inv m → TT InvS (Call dd) mX3_tryPlaces (88, [(0, .ref 96), (1, .int x1), (2, .int x2), (3, .int x3), (4, .int x4), (5, .int x5)], [], S, m) none (S, res)) {x1 : Int32} {x2 : Int32} {x3 : Int32} {x4 : Int32} {x5 : Int32} {m : Me} (hf : fX3_tryPlaces_151 rec k67 k88 x1 x2 x3 x4 x5 m = some res) (hI : Inv m) : TT InvS (Call dd) mX3_tryPlaces (151, [(0, .ref 96), (1, .int x1), (2, .int x2), (3, .int x3), (4, .int x4), (5, .int x5)], [], S, m) none (S, res) := by
  unfold fX3_tryPlaces_151 at hf
  refine to_iinc (q := 154) (v := (x5 + (1 : Int32))) rfl (congrArg (fun z => x5 + z) ic_1) [(5, .int (x5 + (1 : Int32))), (0, .ref 96), (1, .int x1), (2, .int x2), (3, .int x3), (4, .int x4)] rfl (by decide) dX3_tryPlaces_151 rfl ?_
  refine to_goto (q := 88) dX3_tryPlaces_154 rfl ?_
  exact to_ext [(0, .ref 96), (1, .int x1), (2, .int x2), (3, .int x3), (4, .int x4), (5, .int (x5 + (1 : Int32)))] (ext_cons rfl (ext_cons rfl (ext_cons rfl (ext_cons rfl (ext_cons rfl (ext_cons rfl ext_nil)))))) (hk88 hf hI)
def fX3_tryPlaces_88 (rec : Int32 → Int32 → Me → Option (Me)) (n : Nat) (k67 : Int32 → Int32 → Int32 → Int32 → Me → Option (Me)) (x1 : Int32) (x2 : Int32) (x3 : Int32) (x4 : Int32) (x5 : Int32) (m : Me) : Option (Me) := match n with
  | 0 => none
  | n + 1 => cl2 (fX3_lastPlace x1 m) fun r16 m17 => if r16 < x5 then fX3_tryPlaces_157 rec k67 x1 x2 x3 x4 m17 else if (m17.1 96 7) ≤ (x3 + x4) then fX3_tryPlaces_157 rec k67 x1 x2 x3 x4 m17 else ck (inb ((x1 * (30 : Int32)) + x5) 120) (if (m17.1 101 ((x1 * (30 : Int32)) + x5).toNatClampNeg) = x4 then cl1 (fX3_claim x1 x5 m17) fun m24 => cl1 (rec ((x1 + (1 : Int32))) (x2 + x4) m24) fun m27 => cl1 (fX3_release x1 x5 m27) fun m30 => fX3_tryPlaces_151 rec k67 (fX3_tryPlaces_88 rec n k67) x1 x2 x3 x4 x5 m30 else fX3_tryPlaces_151 rec k67 (fX3_tryPlaces_88 rec n k67) x1 x2 x3 x4 x5 m17)
set_option maxRecDepth 20000 in
theorem kX3_tryPlaces_88 {S : Sh} (hS : ShOK S) {dd : Nat} (hdd : 3 ≤ dd) {rec : Int32 → Int32 → Me → Option (Me)} (hrec : ∀ {x1 : Int32} {x2 : Int32} {m : Me} {res : Me}, rec x1 x2 m = some res → Inv m → Call dd mX3_tryPlaces [.ref 96, .int x1, .int x2] (S, m) none (S, res) ∧ Inv res) {res : Me} {k67 : Int32 → Int32 → Int32 → Int32 → Me → Option (Me)} (hk67 : ∀ {x1 : Int32} {x2 : Int32} {x3 : Int32} {x4 : Int32} {m : Me}, k67 x1 x2 x3 x4 m = some res → Inv m → TT InvS (Call dd) mX3_tryPlaces (67, [(0, .ref 96), (1, .int x1), (2, .int x2), (3, .int x3), (4, .int x4)], [], S, m) none (S, res)) (n : Nat) : ∀ {x1 : Int32} {x2 : Int32} {x3 : Int32} {x4 : Int32} {x5 : Int32} {m : Me}, fX3_tryPlaces_88 rec n k67 x1 x2 x3 x4 x5 m = some res → Inv m → TT InvS (Call dd) mX3_tryPlaces (88, [(0, .ref 96), (1, .int x1), (2, .int x2), (3, .int x3), (4, .int x4), (5, .int x5)], [], S, m) none (S, res) := by
  induction n with
  | zero => intro x1 x2 x3 x4 x5 m hf; cases hf
  | succ n ih =>
    intro x1 x2 x3 x4 x5 m hf  hI
    unfold fX3_tryPlaces_88 at hf
    refine to_iload (q := 90) rfl dX3_tryPlaces_88 rfl ?_
    refine to_aload_n (q := 91) rfl (by decide) dX3_tryPlaces_90 rfl ?_
    refine to_iload_n (q := 92) rfl dX3_tryPlaces_91 rfl ?_
    obtain ⟨r16, m17, hc14, hf⟩ := cl2_some hf
    have qc15 := kX3_lastPlace hS hc14 hI
    refine to_virtI (q := 95) mX3_lastPlace [.int x1] dX3_tryPlaces_92 rfl rfl (Nat.le_of_ble_eq_true rfl) mo_X3_lastPlace mv_X3_87 (Or.inl ⟨_, _, _, h_96 hS, rfl, rfl⟩) (Call_mono (Nat.le_trans (by decide : 1 ≤ 3) hdd) qc15.1) ?_
    have hI := qc15.2
    by_cases h18 : r16 < x5
    · have hf := ite_pos h18 hf
      refine to_icT (q := 157) (op := .gt) h18 dX3_tryPlaces_95 rfl ?_
      exact to_ext [(0, .ref 96), (1, .int x1), (2, .int x2), (3, .int x3), (4, .int x4)] (ext_cons rfl (ext_cons rfl (ext_cons rfl (ext_cons rfl (ext_cons rfl ext_nil))))) (kX3_tryPlaces_157 hS hdd hrec hk67 hf hI)
    · have hf := ite_neg h18 hf
      refine to_icF (q := 98) (op := .gt) 157 h18 dX3_tryPlaces_95 rfl rfl ?_
      refine to_iload_n (q := 99) rfl dX3_tryPlaces_98 rfl ?_
      refine to_iload (q := 101) rfl dX3_tryPlaces_99 rfl ?_
      refine to_iadd (q := 102) dX3_tryPlaces_101 rfl ?_
      refine to_aload_n (q := 103) rfl (by decide) dX3_tryPlaces_102 rfl ?_
      refine to_getI (q := 106) (k0 := 3) (C := RX3) (T := TX3) (N := 8) (j := 7) rfl fx_X3_49 (h_96 hS) rfl dX3_tryPlaces_103 rfl ?_
      by_cases h19 : (m17.1 96 7) ≤ (x3 + x4)
      · have hf := ite_pos h19 hf
        refine to_icT (q := 157) (op := .ge) h19 dX3_tryPlaces_106 rfl ?_
        exact to_ext [(0, .ref 96), (1, .int x1), (2, .int x2), (3, .int x3), (4, .int x4)] (ext_cons rfl (ext_cons rfl (ext_cons rfl (ext_cons rfl (ext_cons rfl ext_nil))))) (kX3_tryPlaces_157 hS hdd hrec hk67 hf hI)
      · have hf := ite_neg h19 hf
        refine to_icF (q := 109) (op := .ge) 157 h19 dX3_tryPlaces_106 rfl rfl ?_
        refine to_aload_n (q := 110) rfl (by decide) dX3_tryPlaces_109 rfl ?_
        refine to_getR (q := 113) (b := 101) (k0 := 3) (C := RX3) (T := TX3) (N := 8) (j := 5) rfl fx_X3_30 (h_96 hS) rfl (iv_96_5 hI) dX3_tryPlaces_110 rfl ?_
        refine to_iload_n (q := 114) rfl dX3_tryPlaces_113 rfl ?_
        refine to_bipush (q := 116) bp_30 dX3_tryPlaces_114 rfl ?_
        refine to_imul (q := 117) dX3_tryPlaces_116 rfl ?_
        refine to_iload (q := 119) rfl dX3_tryPlaces_117 rfl ?_
        refine to_iadd (q := 120) dX3_tryPlaces_119 rfl ?_
        obtain ⟨hb20, hf⟩ := ck_some hf
        refine to_iaj (q := 121) (h_101 hS) hb20 (rfl) dX3_tryPlaces_120 rfl ?_
        refine to_iload (q := 123) rfl dX3_tryPlaces_121 rfl ?_
        by_cases h21 : (m17.1 101 ((x1 * (30 : Int32)) + x5).toNatClampNeg) = x4
        · have hf := ite_pos h21 hf
          refine to_icF (q := 126) (op := .ne) 151 (fun z => z h21) dX3_tryPlaces_123 rfl rfl ?_
          refine to_aload_n (q := 127) rfl (by decide) dX3_tryPlaces_126 rfl ?_
          refine to_iload_n (q := 128) rfl dX3_tryPlaces_127 rfl ?_
          refine to_iload (q := 130) rfl dX3_tryPlaces_128 rfl ?_
          obtain ⟨m24, hc22, hf⟩ := cl1_some hf
          have qc23 := kX3_claim hS hc22 hI
          refine to_virtV (q := 133) mX3_claim [.int x1, .int x5] dX3_tryPlaces_130 rfl rfl (Nat.le_of_ble_eq_true rfl) mo_X3_claim mv_X3_96 (Or.inl ⟨_, _, _, h_96 hS, rfl, rfl⟩) (Call_mono (Nat.le_trans (by decide : 1 ≤ 3) hdd) qc23.1) ?_
          have hI := qc23.2
          refine to_aload_n (q := 134) rfl (by decide) dX3_tryPlaces_133 rfl ?_
          refine to_iload_n (q := 135) rfl dX3_tryPlaces_134 rfl ?_
          refine to_iconst (q := 136) ic_1 dX3_tryPlaces_135 rfl ?_
          refine to_iadd (q := 137) dX3_tryPlaces_136 rfl ?_
          refine to_iload_n (q := 138) rfl dX3_tryPlaces_137 rfl ?_
          refine to_iload (q := 140) rfl dX3_tryPlaces_138 rfl ?_
          refine to_iadd (q := 141) dX3_tryPlaces_140 rfl ?_
          obtain ⟨m27, hc25, hf⟩ := cl1_some hf
          have qc26 := hrec hc25 hI
          refine to_virtV (q := 144) mX3_tryPlaces [.int (x1 + (1 : Int32)), .int (x2 + x4)] dX3_tryPlaces_141 rfl rfl (Nat.le_of_ble_eq_true rfl) mo_X3_tryPlaces mv_X3_53 (Or.inl ⟨_, _, _, h_96 hS, rfl, rfl⟩) qc26.1 ?_
          have hI := qc26.2
          refine to_aload_n (q := 145) rfl (by decide) dX3_tryPlaces_144 rfl ?_
          refine to_iload_n (q := 146) rfl dX3_tryPlaces_145 rfl ?_
          refine to_iload (q := 148) rfl dX3_tryPlaces_146 rfl ?_
          obtain ⟨m30, hc28, hf⟩ := cl1_some hf
          have qc29 := kX3_release hS hc28 hI
          refine to_virtV (q := 151) mX3_release [.int x1, .int x5] dX3_tryPlaces_148 rfl rfl (Nat.le_of_ble_eq_true rfl) mo_X3_release mv_X3_111 (Or.inl ⟨_, _, _, h_96 hS, rfl, rfl⟩) (Call_mono (Nat.le_trans (by decide : 1 ≤ 3) hdd) qc29.1) ?_
          have hI := qc29.2
          exact to_ext [(0, .ref 96), (1, .int x1), (2, .int x2), (3, .int x3), (4, .int x4), (5, .int x5)] (ext_cons rfl (ext_cons rfl (ext_cons rfl (ext_cons rfl (ext_cons rfl (ext_cons rfl ext_nil)))))) (kX3_tryPlaces_151 hS hdd hrec hk67 ih hf hI)
        · have hf := ite_neg h21 hf
          refine to_icT (q := 151) (op := .ne) h21 dX3_tryPlaces_123 rfl ?_
          exact to_ext [(0, .ref 96), (1, .int x1), (2, .int x2), (3, .int x3), (4, .int x4), (5, .int x5)] (ext_cons rfl (ext_cons rfl (ext_cons rfl (ext_cons rfl (ext_cons rfl (ext_cons rfl ext_nil)))))) (kX3_tryPlaces_151 hS hdd hrec hk67 ih hf hI)
def fX3_tryPlaces_67 (rec : Int32 → Int32 → Me → Option (Me)) (n : Nat) (x1 : Int32) (x2 : Int32) (x3 : Int32) (x4 : Int32) (m : Me) : Option (Me) := match n with
  | 0 => none
  | n + 1 => if (8 : Int32) < x4 then fX3_tryPlaces_163 rec m else if (m.1 96 7) ≤ (x3 + x4) then fX3_tryPlaces_163 rec m else fX3_tryPlaces_88 rec FU (fX3_tryPlaces_67 rec n) x1 x2 x3 x4 ((0 : Int32)) m
set_option maxRecDepth 20000 in
theorem kX3_tryPlaces_67 {S : Sh} (hS : ShOK S) {dd : Nat} (hdd : 3 ≤ dd) {rec : Int32 → Int32 → Me → Option (Me)} (hrec : ∀ {x1 : Int32} {x2 : Int32} {m : Me} {res : Me}, rec x1 x2 m = some res → Inv m → Call dd mX3_tryPlaces [.ref 96, .int x1, .int x2] (S, m) none (S, res) ∧ Inv res) {res : Me} (n : Nat) : ∀ {x1 : Int32} {x2 : Int32} {x3 : Int32} {x4 : Int32} {m : Me}, fX3_tryPlaces_67 rec n x1 x2 x3 x4 m = some res → Inv m → TT InvS (Call dd) mX3_tryPlaces (67, [(0, .ref 96), (1, .int x1), (2, .int x2), (3, .int x3), (4, .int x4)], [], S, m) none (S, res) := by
  induction n with
  | zero => intro x1 x2 x3 x4 m hf; cases hf
  | succ n ih =>
    intro x1 x2 x3 x4 m hf  hI
    unfold fX3_tryPlaces_67 at hf
    refine to_iload (q := 69) rfl dX3_tryPlaces_67 rfl ?_
    refine to_bipush (q := 71) bp_8 dX3_tryPlaces_69 rfl ?_
    by_cases h12 : (8 : Int32) < x4
    · have hf := ite_pos h12 hf
      refine to_icT (q := 163) (op := .gt) h12 dX3_tryPlaces_71 rfl ?_
      exact to_ext [] ext_nil (kX3_tryPlaces_163 hS hdd hrec hf hI)
    · have hf := ite_neg h12 hf
      refine to_icF (q := 74) (op := .gt) 163 h12 dX3_tryPlaces_71 rfl rfl ?_
      refine to_iload_n (q := 75) rfl dX3_tryPlaces_74 rfl ?_
      refine to_iload (q := 77) rfl dX3_tryPlaces_75 rfl ?_
      refine to_iadd (q := 78) dX3_tryPlaces_77 rfl ?_
      refine to_aload_n (q := 79) rfl (by decide) dX3_tryPlaces_78 rfl ?_
      refine to_getI (q := 82) (k0 := 3) (C := RX3) (T := TX3) (N := 8) (j := 7) rfl fx_X3_49 (h_96 hS) rfl dX3_tryPlaces_79 rfl ?_
      by_cases h13 : (m.1 96 7) ≤ (x3 + x4)
      · have hf := ite_pos h13 hf
        refine to_icT (q := 163) (op := .ge) h13 dX3_tryPlaces_82 rfl ?_
        exact to_ext [] ext_nil (kX3_tryPlaces_163 hS hdd hrec hf hI)
      · have hf := ite_neg h13 hf
        refine to_icF (q := 85) (op := .ge) 163 h13 dX3_tryPlaces_82 rfl rfl ?_
        refine to_iconst (q := 86) ic_0 dX3_tryPlaces_85 rfl ?_
        refine to_istore (q := 88) [(5, .int (0 : Int32)), (0, .ref 96), (1, .int x1), (2, .int x2), (3, .int x3), (4, .int x4)] rfl (by decide) dX3_tryPlaces_86 rfl ?_
        exact to_ext [(0, .ref 96), (1, .int x1), (2, .int x2), (3, .int x3), (4, .int x4), (5, .int (0 : Int32))] (ext_cons rfl (ext_cons rfl (ext_cons rfl (ext_cons rfl (ext_cons rfl (ext_cons rfl ext_nil)))))) (kX3_tryPlaces_88 hS hdd hrec ih FU hf hI)
def fX3_tryPlaces_33 (rec : Int32 → Int32 → Me → Option (Me)) (n : Nat) (x1 : Int32) (x2 : Int32) (x3 : Int32) (x4 : Int32) (m : Me) : Option (Me) := match n with
  | 0 => none
  | n + 1 => if (m.1 96 2) ≤ x4 then cl2 (fX3_weighPlaces x1 m) fun r6 m7 => fX3_tryPlaces_67 rec FU x1 x2 x3 ((0 : Int32)) m7 else cl2 (fX3_leastBeside x1 x4 m) fun r10 m11 => fX3_tryPlaces_33 rec n x1 x2 ((x3 + r10)) ((x4 + (1 : Int32))) m11
set_option maxRecDepth 20000 in
theorem kX3_tryPlaces_33 {S : Sh} (hS : ShOK S) {dd : Nat} (hdd : 3 ≤ dd) {rec : Int32 → Int32 → Me → Option (Me)} (hrec : ∀ {x1 : Int32} {x2 : Int32} {m : Me} {res : Me}, rec x1 x2 m = some res → Inv m → Call dd mX3_tryPlaces [.ref 96, .int x1, .int x2] (S, m) none (S, res) ∧ Inv res) {res : Me} (n : Nat) : ∀ {x1 : Int32} {x2 : Int32} {x3 : Int32} {x4 : Int32} {m : Me}, fX3_tryPlaces_33 rec n x1 x2 x3 x4 m = some res → Inv m → TT InvS (Call dd) mX3_tryPlaces (33, [(0, .ref 96), (1, .int x1), (2, .int x2), (3, .int x3), (4, .int x4)], [], S, m) none (S, res) := by
  induction n with
  | zero => intro x1 x2 x3 x4 m hf; cases hf
  | succ n ih =>
    intro x1 x2 x3 x4 m hf  hI
    unfold fX3_tryPlaces_33 at hf
    refine to_iload (q := 35) rfl dX3_tryPlaces_33 rfl ?_
    refine to_aload_n (q := 36) rfl (by decide) dX3_tryPlaces_35 rfl ?_
    refine to_getI (q := 39) (k0 := 3) (C := RX3) (T := TX3) (N := 8) (j := 2) rfl fx_X3_57 (h_96 hS) rfl dX3_tryPlaces_36 rfl ?_
    by_cases h3 : (m.1 96 2) ≤ x4
    · have hf := ite_pos h3 hf
      refine to_icT (q := 58) (op := .ge) h3 dX3_tryPlaces_39 rfl ?_
      refine to_aload_n (q := 59) rfl (by decide) dX3_tryPlaces_58 rfl ?_
      refine to_iload_n (q := 60) rfl dX3_tryPlaces_59 rfl ?_
      obtain ⟨r6, m7, hc4, hf⟩ := cl2_some hf
      have qc5 := kX3_weighPlaces hS hc4 hI
      refine to_virtI (q := 63) mX3_weighPlaces [.int x1] dX3_tryPlaces_60 rfl rfl (Nat.le_of_ble_eq_true rfl) mo_X3_weighPlaces mv_X3_120 (Or.inl ⟨_, _, _, h_96 hS, rfl, rfl⟩) (Call_mono (Nat.le_trans (by decide : 2 ≤ 3) hdd) qc5.1) ?_
      have hI := qc5.2
      refine to_pop (q := 64) rfl dX3_tryPlaces_63 rfl ?_
      refine to_iconst (q := 65) ic_0 dX3_tryPlaces_64 rfl ?_
      refine to_istore (q := 67) [(4, .int (0 : Int32)), (0, .ref 96), (1, .int x1), (2, .int x2), (3, .int x3)] rfl (by decide) dX3_tryPlaces_65 rfl ?_
      exact to_ext [(0, .ref 96), (1, .int x1), (2, .int x2), (3, .int x3), (4, .int (0 : Int32))] (ext_cons rfl (ext_cons rfl (ext_cons rfl (ext_cons rfl (ext_cons rfl ext_nil))))) (kX3_tryPlaces_67 hS hdd hrec FU hf hI)
    · have hf := ite_neg h3 hf
      refine to_icF (q := 42) (op := .ge) 58 h3 dX3_tryPlaces_39 rfl rfl ?_
      refine to_iload_n (q := 43) rfl dX3_tryPlaces_42 rfl ?_
      refine to_aload_n (q := 44) rfl (by decide) dX3_tryPlaces_43 rfl ?_
      refine to_iload_n (q := 45) rfl dX3_tryPlaces_44 rfl ?_
      refine to_iload (q := 47) rfl dX3_tryPlaces_45 rfl ?_
      obtain ⟨r10, m11, hc8, hf⟩ := cl2_some hf
      have qc9 := kX3_leastBeside hS hc8 hI
      refine to_virtI (q := 50) mX3_leastBeside [.int x1, .int x4] dX3_tryPlaces_47 rfl rfl (Nat.le_of_ble_eq_true rfl) mo_X3_leastBeside mv_X3_117 (Or.inl ⟨_, _, _, h_96 hS, rfl, rfl⟩) (Call_mono (Nat.le_trans (by decide : 3 ≤ 3) hdd) qc9.1) ?_
      have hI := qc9.2
      refine to_iadd (q := 51) dX3_tryPlaces_50 rfl ?_
      refine to_istore_n (q := 52) [(3, .int (x3 + r10)), (0, .ref 96), (1, .int x1), (2, .int x2), (4, .int x4)] rfl (by decide) dX3_tryPlaces_51 rfl ?_
      refine to_iinc (q := 55) (v := (x4 + (1 : Int32))) rfl (congrArg (fun z => x4 + z) ic_1) [(4, .int (x4 + (1 : Int32))), (3, .int (x3 + r10)), (0, .ref 96), (1, .int x1), (2, .int x2)] rfl (by decide) dX3_tryPlaces_52 rfl ?_
      refine to_goto (q := 33) dX3_tryPlaces_55 rfl ?_
      exact to_ext [(0, .ref 96), (1, .int x1), (2, .int x2), (3, .int (x3 + r10)), (4, .int (x4 + (1 : Int32)))] (ext_cons rfl (ext_cons rfl (ext_cons rfl (ext_cons rfl (ext_cons rfl ext_nil))))) (ih hf hI)
def fX3_tryPlaces_13 (rec : Int32 → Int32 → Me → Option (Me)) (x2 : Int32) (m : Me) : Option (Me) := some (setI m 96 7 (if x2 < (m.1 96 7) then x2 else (m.1 96 7)))
set_option maxRecDepth 20000 in
theorem kX3_tryPlaces_13 {S : Sh} (hS : ShOK S) {dd : Nat} (hdd : 3 ≤ dd) {rec : Int32 → Int32 → Me → Option (Me)} (hrec : ∀ {x1 : Int32} {x2 : Int32} {m : Me} {res : Me}, rec x1 x2 m = some res → Inv m → Call dd mX3_tryPlaces [.ref 96, .int x1, .int x2] (S, m) none (S, res) ∧ Inv res) {res : Me} {x2 : Int32} {m : Me} (hf : fX3_tryPlaces_13 rec x2 m = some res) (hI : Inv m) : TT InvS (Call dd) mX3_tryPlaces (13, [(0, .ref 96), (2, .int x2)], [], S, m) none (S, res) := by
  unfold fX3_tryPlaces_13 at hf
  refine to_aload_n (q := 14) rfl (by decide) dX3_tryPlaces_13 rfl ?_
  refine to_aload_n (q := 15) rfl (by decide) dX3_tryPlaces_14 rfl ?_
  refine to_getI (q := 18) (k0 := 3) (C := RX3) (T := TX3) (N := 8) (j := 7) rfl fx_X3_49 (h_96 hS) rfl dX3_tryPlaces_15 rfl ?_
  refine to_iload_n (q := 19) rfl dX3_tryPlaces_18 rfl ?_
  refine to_min (q := 22) dX3_tryPlaces_19 rfl (Nat.le_of_ble_eq_true rfl) (lc_min lm_X3_114) ?_
  refine to_putI (q := 25) (ty := .int) (k0 := 3) (C := RX3) (T := TX3) (N := 8) (j := 7) rfl fx_X3_49 (h_96 hS) rfl pD_I (Or.inl rfl) (nf_I _) dX3_tryPlaces_22 rfl ?_
  cases hf
  exact to_vret dX3_tryPlaces_25 rfl rfl rfl hI
def fX3_tryPlaces (n : Nat) (x1 : Int32) (x2 : Int32) (m : Me) : Option (Me) := match n with
  | 0 => none
  | n + 1 => if (m.1 96 2) ≤ x1 then fX3_tryPlaces_13 (fX3_tryPlaces n) x2 m else if x1 < (4 : Int32) then fX3_tryPlaces_33 (fX3_tryPlaces n) FU x1 x2 x2 ((x1 + (1 : Int32))) m else fX3_tryPlaces_13 (fX3_tryPlaces n) x2 m
set_option maxRecDepth 20000 in
theorem kX3_tryPlaces {S : Sh} (hS : ShOK S) (n : Nat) : ∀ {x1 : Int32} {x2 : Int32} {m : Me} {res : Me}, fX3_tryPlaces n x1 x2 m = some res → Inv m → Call (3 + n) mX3_tryPlaces [.ref 96, .int x1, .int x2] (S, m) none (S, res) ∧ Inv res := by
  induction n with
  | zero => intro x1 x2 m res hf; cases hf
  | succ n ih =>
    intro x1 x2 m res hf  hI
    unfold fX3_tryPlaces at hf
    refine call_of (P := InvS) (d := 3 + n) (Nat.le_of_ble_eq_true rfl) (by simp [Value.category]) ?_
    have hrec := @ih
    have hdd : 3 ≤ 3 + n := Nat.le_add_right _ _
    show TT InvS (Call (3 + n)) mX3_tryPlaces (0, [(0, .ref 96), (1, .int x1), (2, .int x2)], [], S, m) _ _
    refine to_iload_n (q := 1) rfl dX3_tryPlaces_0 rfl ?_
    refine to_aload_n (q := 2) rfl (by decide) dX3_tryPlaces_1 rfl ?_
    refine to_getI (q := 5) (k0 := 3) (C := RX3) (T := TX3) (N := 8) (j := 2) rfl fx_X3_57 (h_96 hS) rfl dX3_tryPlaces_2 rfl ?_
    by_cases h1 : (m.1 96 2) ≤ x1
    · have hf := ite_pos h1 hf
      refine to_icT (q := 13) (op := .ge) h1 dX3_tryPlaces_5 rfl ?_
      exact to_ext [(0, .ref 96), (2, .int x2)] (ext_cons rfl (ext_cons rfl ext_nil)) (kX3_tryPlaces_13 hS hdd hrec hf hI)
    · have hf := ite_neg h1 hf
      refine to_icF (q := 8) (op := .ge) 13 h1 dX3_tryPlaces_5 rfl rfl ?_
      refine to_iload_n (q := 9) rfl dX3_tryPlaces_8 rfl ?_
      refine to_iconst (q := 10) ic_4 dX3_tryPlaces_9 rfl ?_
      by_cases h2 : x1 < (4 : Int32)
      · have hf := ite_pos h2 hf
        refine to_icT (q := 26) (op := .lt) h2 dX3_tryPlaces_10 rfl ?_
        refine to_iload_n (q := 27) rfl dX3_tryPlaces_26 rfl ?_
        refine to_istore_n (q := 28) [(3, .int x2), (0, .ref 96), (1, .int x1), (2, .int x2)] rfl (by decide) dX3_tryPlaces_27 rfl ?_
        refine to_iload_n (q := 29) rfl dX3_tryPlaces_28 rfl ?_
        refine to_iconst (q := 30) ic_1 dX3_tryPlaces_29 rfl ?_
        refine to_iadd (q := 31) dX3_tryPlaces_30 rfl ?_
        refine to_istore (q := 33) [(4, .int (x1 + (1 : Int32))), (3, .int x2), (0, .ref 96), (1, .int x1), (2, .int x2)] rfl (by decide) dX3_tryPlaces_31 rfl ?_
        exact to_ext [(0, .ref 96), (1, .int x1), (2, .int x2), (3, .int x2), (4, .int (x1 + (1 : Int32)))] (ext_cons rfl (ext_cons rfl (ext_cons rfl (ext_cons rfl (ext_cons rfl ext_nil))))) (kX3_tryPlaces_33 hS hdd hrec FU hf hI)
      · have hf := ite_neg h2 hf
        refine to_icF (q := 13) (op := .lt) 26 h2 dX3_tryPlaces_10 rfl rfl ?_
        exact to_ext [(0, .ref 96), (2, .int x2)] (ext_cons rfl (ext_cons rfl ext_nil)) (kX3_tryPlaces_13 hS hdd hrec hf hI)
def fX3_fewestForAll_5 (n : Nat) (a1 : Nat) (a2 : Nat) (x3 : Int32) (x4 : Int32) (m : Me) : Option (Int32 × Me) := match n with
  | 0 => none
  | n + 1 => if (1 : Int32) < x4 then some (x3, m) else cl1 (fX3_gather a1 a2 x4 m) fun m4 => cl2 (fX3_lacksPlace m4) fun r7 m8 => if r7 = (0 : Int32) then cl1 (fX3_compareWishes m8) fun m12 => cl1 (fX3_tryPlaces 8 (0 : Int32) (0 : Int32) (setI m12 96 7 (33 : Int32))) fun m15 => if (m15.1 96 7) = (33 : Int32) then some ((-2 : Int32), m15) else fX3_fewestForAll_5 n a1 a2 ((x3 + (m15.1 96 7))) ((x4 + (1 : Int32))) m15 else some ((-2 : Int32), m8)
set_option maxRecDepth 20000 in
theorem kX3_fewestForAll_5 {S : Sh} (hS : ShOK S) {res : Int32 × Me} (n : Nat) : ∀ {a1 : Nat} {a2 : Nat} {x3 : Int32} {x4 : Int32} {m : Me}, fX3_fewestForAll_5 n a1 a2 x3 x4 m = some res → kd a1 = 2 → kd a2 = 5 → Inv m → TT InvS (Call 12) mX3_fewestForAll (5, [(0, .ref 96), (1, .ref a1), (2, .ref a2), (3, .int x3), (4, .int x4)], [], S, m) (some (.int res.1)) (S, res.2) := by
  induction n with
  | zero => intro a1 a2 x3 x4 m hf; cases hf
  | succ n ih =>
    intro a1 a2 x3 x4 m hf ha1 ha2 hI
    unfold fX3_fewestForAll_5 at hf
    refine to_iload (q := 7) rfl dX3_fewestForAll_5 rfl ?_
    refine to_iconst (q := 8) ic_1 dX3_fewestForAll_7 rfl ?_
    by_cases h1 : (1 : Int32) < x4
    · have hf := ite_pos h1 hf
      refine to_icT (q := 70) (op := .gt) h1 dX3_fewestForAll_8 rfl ?_
      refine to_iload_n (q := 71) rfl dX3_fewestForAll_70 rfl ?_
      cases hf
      exact to_iret dX3_fewestForAll_71 rfl rfl rfl rfl hI
    · have hf := ite_neg h1 hf
      refine to_icF (q := 11) (op := .gt) 70 h1 dX3_fewestForAll_8 rfl rfl ?_
      refine to_aload_n (q := 12) rfl (by decide) dX3_fewestForAll_11 rfl ?_
      refine to_aload_n (q := 13) rfl (kd_4 (ha1) (by decide)) dX3_fewestForAll_12 rfl ?_
      refine to_aload_n (q := 14) rfl (kd_4 (ha2) (by decide)) dX3_fewestForAll_13 rfl ?_
      refine to_iload (q := 16) rfl dX3_fewestForAll_14 rfl ?_
      obtain ⟨m4, hc2, hf⟩ := cl1_some hf
      have qc3 := kX3_gather hS hc2 (ha1) (ha2) hI
      refine to_virtV (q := 19) mX3_gather [.ref a1, .ref a2, .int x4] dX3_fewestForAll_16 rfl rfl (Nat.le_of_ble_eq_true rfl) mo_X3_gather mv_X3_38 (Or.inl ⟨_, _, _, h_96 hS, rfl, rfl⟩) (Call_mono (by decide) qc3.1) ?_
      have hI := qc3.2
      refine to_aload_n (q := 20) rfl (by decide) dX3_fewestForAll_19 rfl ?_
      obtain ⟨r7, m8, hc5, hf⟩ := cl2_some hf
      have qc6 := kX3_lacksPlace hS hc5 hI
      refine to_virtI (q := 23) mX3_lacksPlace [] dX3_fewestForAll_20 rfl rfl (Nat.le_of_ble_eq_true rfl) mo_X3_lacksPlace mv_X3_42 (Or.inl ⟨_, _, _, h_96 hS, rfl, rfl⟩) (Call_mono (by decide) qc6.1) ?_
      have hI := qc6.2
      by_cases h9 : r7 = (0 : Int32)
      · have hf := ite_pos h9 hf
        refine to_ifT (q := 29) (op := .eq) h9 dX3_fewestForAll_23 rfl ?_
        refine to_aload_n (q := 30) rfl (by decide) dX3_fewestForAll_29 rfl ?_
        obtain ⟨m12, hc10, hf⟩ := cl1_some hf
        have qc11 := kX3_compareWishes hS hc10 hI
        refine to_virtV (q := 33) mX3_compareWishes [] dX3_fewestForAll_30 rfl rfl (Nat.le_of_ble_eq_true rfl) mo_X3_compareWishes mv_X3_46 (Or.inl ⟨_, _, _, h_96 hS, rfl, rfl⟩) (Call_mono (by decide) qc11.1) ?_
        have hI := qc11.2
        refine to_aload_n (q := 34) rfl (by decide) dX3_fewestForAll_33 rfl ?_
        refine to_bipush (q := 36) bp_33 dX3_fewestForAll_34 rfl ?_
        refine to_putI (q := 39) (ty := .int) (k0 := 3) (C := RX3) (T := TX3) (N := 8) (j := 7) rfl fx_X3_49 (h_96 hS) rfl pD_I (Or.inl rfl) (nf_I _) dX3_fewestForAll_36 rfl ?_
        refine to_aload_n (q := 40) rfl (by decide) dX3_fewestForAll_39 rfl ?_
        refine to_iconst (q := 41) ic_0 dX3_fewestForAll_40 rfl ?_
        refine to_iconst (q := 42) ic_0 dX3_fewestForAll_41 rfl ?_
        obtain ⟨m15, hc13, hf⟩ := cl1_some hf
        have qc14 := kX3_tryPlaces hS 8 hc13 hI
        refine to_virtV (q := 45) mX3_tryPlaces [.int (0 : Int32), .int (0 : Int32)] dX3_fewestForAll_42 rfl rfl (Nat.le_of_ble_eq_true rfl) mo_X3_tryPlaces mv_X3_53 (Or.inl ⟨_, _, _, h_96 hS, rfl, rfl⟩) (Call_mono (by decide) qc14.1) ?_
        have hI := qc14.2
        refine to_aload_n (q := 46) rfl (by decide) dX3_fewestForAll_45 rfl ?_
        refine to_getI (q := 49) (k0 := 3) (C := RX3) (T := TX3) (N := 8) (j := 7) rfl fx_X3_49 (h_96 hS) rfl dX3_fewestForAll_46 rfl ?_
        refine to_bipush (q := 51) bp_33 dX3_fewestForAll_49 rfl ?_
        by_cases h16 : (m15.1 96 7) = (33 : Int32)
        · have hf := ite_pos h16 hf
          refine to_icF (q := 54) (op := .ne) 57 (fun z => z h16) dX3_fewestForAll_51 rfl rfl ?_
          refine to_bipush (q := 56) bp_m2 dX3_fewestForAll_54 rfl ?_
          cases hf
          exact to_iret dX3_fewestForAll_56 rfl rfl rfl rfl hI
        · have hf := ite_neg h16 hf
          refine to_icT (q := 57) (op := .ne) h16 dX3_fewestForAll_51 rfl ?_
          refine to_iload_n (q := 58) rfl dX3_fewestForAll_57 rfl ?_
          refine to_aload_n (q := 59) rfl (by decide) dX3_fewestForAll_58 rfl ?_
          refine to_getI (q := 62) (k0 := 3) (C := RX3) (T := TX3) (N := 8) (j := 7) rfl fx_X3_49 (h_96 hS) rfl dX3_fewestForAll_59 rfl ?_
          refine to_iadd (q := 63) dX3_fewestForAll_62 rfl ?_
          refine to_istore_n (q := 64) [(3, .int (x3 + (m15.1 96 7))), (0, .ref 96), (1, .ref a1), (2, .ref a2), (4, .int x4)] rfl (by decide) dX3_fewestForAll_63 rfl ?_
          refine to_iinc (q := 67) (v := (x4 + (1 : Int32))) rfl (congrArg (fun z => x4 + z) ic_1) [(4, .int (x4 + (1 : Int32))), (3, .int (x3 + (m15.1 96 7))), (0, .ref 96), (1, .ref a1), (2, .ref a2)] rfl (by decide) dX3_fewestForAll_64 rfl ?_
          refine to_goto (q := 5) dX3_fewestForAll_67 rfl ?_
          exact to_ext [(0, .ref 96), (1, .ref a1), (2, .ref a2), (3, .int (x3 + (m15.1 96 7))), (4, .int (x4 + (1 : Int32)))] (ext_cons rfl (ext_cons rfl (ext_cons rfl (ext_cons rfl (ext_cons rfl ext_nil))))) (ih hf (ha1) (ha2) hI)
      · have hf := ite_neg h9 hf
        refine to_ifF (q := 26) (op := .eq) 29 h9 dX3_fewestForAll_23 rfl rfl ?_
        refine to_bipush (q := 28) bp_m2 dX3_fewestForAll_26 rfl ?_
        cases hf
        exact to_iret dX3_fewestForAll_28 rfl rfl rfl rfl hI
def fX3_fewestForAll (a1 : Nat) (a2 : Nat) (m : Me) : Option (Int32 × Me) := fX3_fewestForAll_5 FU a1 a2 ((0 : Int32)) ((0 : Int32)) m
set_option maxRecDepth 20000 in
theorem kX3_fewestForAll {S : Sh} (hS : ShOK S) {res : Int32 × Me} {a1 : Nat} {a2 : Nat} {m : Me} (hf : fX3_fewestForAll a1 a2 m = some res) (ha1 : kd a1 = 2) (ha2 : kd a2 = 5) (hI : Inv m) : Call 13 mX3_fewestForAll [.ref 96, .ref a1, .ref a2] (S, m) (some (.int res.1)) (S, res.2) ∧ Inv res.2 := by
  refine call_of (P := InvS) (Nat.le_of_ble_eq_true rfl) (by simp [Value.category]) ?_
  show TT InvS (Call 12) mX3_fewestForAll (0, [(0, .ref 96), (1, .ref a1), (2, .ref a2)], [], S, m) _ _
  unfold fX3_fewestForAll at hf
  refine to_iconst (q := 1) ic_0 dX3_fewestForAll_0 rfl ?_
  refine to_istore_n (q := 2) [(3, .int (0 : Int32)), (0, .ref 96), (1, .ref a1), (2, .ref a2)] rfl (by decide) dX3_fewestForAll_1 rfl ?_
  refine to_iconst (q := 3) ic_0 dX3_fewestForAll_2 rfl ?_
  refine to_istore (q := 5) [(4, .int (0 : Int32)), (3, .int (0 : Int32)), (0, .ref 96), (1, .ref a1), (2, .ref a2)] rfl (by decide) dX3_fewestForAll_3 rfl ?_
  exact to_ext [(0, .ref 96), (1, .ref a1), (2, .ref a2), (3, .int (0 : Int32)), (4, .int (0 : Int32))] (ext_cons rfl (ext_cons rfl (ext_cons rfl (ext_cons rfl (ext_cons rfl ext_nil))))) (kX3_fewestForAll_5 hS FU hf (ha1) (ha2) hI)
def fX4_overlapOf_14 (n : Nat) (a0 : Nat) (a1 : Nat) (x2 : Int32) (m : Me) : Option (Int32 × Me) := match n with
  | 0 => none
  | n + 1 => if x2 ≤ (0 : Int32) then some ((0 : Int32), m) else cl2 (fX8_endsAsBegins a0 a1 x2 m) fun r4 m5 => if r4 = (0 : Int32) then fX4_overlapOf_14 n a0 a1 ((x2 + (-1 : Int32))) m5 else some (x2, m5)
set_option maxRecDepth 20000 in
theorem kX4_overlapOf_14 {S : Sh} (hS : ShOK S) {res : Int32 × Me} (n : Nat) : ∀ {a0 : Nat} {a1 : Nat} {x2 : Int32} {m : Me}, fX4_overlapOf_14 n a0 a1 x2 m = some res → kd a0 = 8 → kd a1 = 8 → Inv m → TT InvS (Call 1) mX4_overlapOf (14, [(0, .ref a0), (1, .ref a1), (2, .int x2)], [], S, m) (some (.int res.1)) (S, res.2) := by
  induction n with
  | zero => intro a0 a1 x2 m hf; cases hf
  | succ n ih =>
    intro a0 a1 x2 m hf ha0 ha1 hI
    unfold fX4_overlapOf_14 at hf
    refine to_iload_n (q := 15) rfl dX4_overlapOf_14 rfl ?_
    by_cases h1 : x2 ≤ (0 : Int32)
    · have hf := ite_pos h1 hf
      refine to_ifT (q := 35) (op := .le) h1 dX4_overlapOf_15 rfl ?_
      refine to_iconst (q := 36) ic_0 dX4_overlapOf_35 rfl ?_
      cases hf
      exact to_iret dX4_overlapOf_36 rfl rfl rfl rfl hI
    · have hf := ite_neg h1 hf
      refine to_ifF (q := 18) (op := .le) 35 h1 dX4_overlapOf_15 rfl rfl ?_
      refine to_aload_n (q := 19) rfl (kd_4 (ha0) (by decide)) dX4_overlapOf_18 rfl ?_
      refine to_aload_n (q := 20) rfl (kd_4 (ha1) (by decide)) dX4_overlapOf_19 rfl ?_
      refine to_iload_n (q := 21) rfl dX4_overlapOf_20 rfl ?_
      obtain ⟨r4, m5, hc2, hf⟩ := cl2_some hf
      have qc3 := kX8_endsAsBegins hS hc2 (ha0) (ha1) hI
      refine to_virtI (q := 24) mX8_endsAsBegins [.ref a1, .int x2] dX4_overlapOf_21 rfl rfl (Nat.le_of_ble_eq_true rfl) mo_X8_endsAsBegins mv_X4_85 (Or.inl ⟨_, _, _, sh_kd hS ha0 (by decide), rfl, rfl⟩) (Call_mono (by decide) qc3.1) ?_
      have hI := qc3.2
      by_cases h6 : r4 = (0 : Int32)
      · have hf := ite_pos h6 hf
        refine to_ifT (q := 29) (op := .eq) h6 dX4_overlapOf_24 rfl ?_
        refine to_iinc (q := 32) (v := (x2 + (-1 : Int32))) rfl (congrArg (fun z => x2 + z) ic_m1) [(2, .int (x2 + (-1 : Int32))), (0, .ref a0), (1, .ref a1)] rfl (by decide) dX4_overlapOf_29 rfl ?_
        refine to_goto (q := 14) dX4_overlapOf_32 rfl ?_
        exact to_ext [(0, .ref a0), (1, .ref a1), (2, .int (x2 + (-1 : Int32)))] (ext_cons rfl (ext_cons rfl (ext_cons rfl ext_nil))) (ih hf (ha0) (ha1) hI)
      · have hf := ite_neg h6 hf
        refine to_ifF (q := 27) (op := .eq) 29 h6 dX4_overlapOf_24 rfl rfl ?_
        refine to_iload_n (q := 28) rfl dX4_overlapOf_27 rfl ?_
        cases hf
        exact to_iret dX4_overlapOf_28 rfl rfl rfl rfl hI
def fX4_overlapOf (a0 : Nat) (a1 : Nat) (m : Me) : Option (Int32 × Me) := fX4_overlapOf_14 FU a0 a1 (((if (m.1 a1 1) < (m.1 a0 1) then (m.1 a1 1) else (m.1 a0 1)) - (1 : Int32))) m
set_option maxRecDepth 20000 in
theorem kX4_overlapOf {S : Sh} (hS : ShOK S) {res : Int32 × Me} {a0 : Nat} {a1 : Nat} {m : Me} (hf : fX4_overlapOf a0 a1 m = some res) (ha0 : kd a0 = 8) (ha1 : kd a1 = 8) (hI : Inv m) : Call 2 mX4_overlapOf [.ref a0, .ref a1] (S, m) (some (.int res.1)) (S, res.2) ∧ Inv res.2 := by
  refine call_of (P := InvS) (Nat.le_of_ble_eq_true rfl) (by simp [Value.category]) ?_
  show TT InvS (Call 1) mX4_overlapOf (0, [(0, .ref a0), (1, .ref a1)], [], S, m) _ _
  unfold fX4_overlapOf at hf
  refine to_aload_n (q := 1) rfl (kd_4 (ha0) (by decide)) dX4_overlapOf_0 rfl ?_
  refine to_getI (q := 4) (k0 := 8) (C := RX8) (T := TX8) (N := 5) (j := 1) rfl fx_X4_76 (sh_kd hS ha0 (by decide)) rfl dX4_overlapOf_1 rfl ?_
  refine to_aload_n (q := 5) rfl (kd_4 (ha1) (by decide)) dX4_overlapOf_4 rfl ?_
  refine to_getI (q := 8) (k0 := 8) (C := RX8) (T := TX8) (N := 5) (j := 1) rfl fx_X4_76 (sh_kd hS ha1 (by decide)) rfl dX4_overlapOf_5 rfl ?_
  refine to_min (q := 11) dX4_overlapOf_8 rfl (Nat.le_of_ble_eq_true rfl) (lc_min lm_X4_79) ?_
  refine to_iconst (q := 12) ic_1 dX4_overlapOf_11 rfl ?_
  refine to_isub (q := 13) dX4_overlapOf_12 rfl ?_
  refine to_istore_n (q := 14) [(2, .int ((if (m.1 a1 1) < (m.1 a0 1) then (m.1 a1 1) else (m.1 a0 1)) - (1 : Int32))), (0, .ref a0), (1, .ref a1)] rfl (by decide) dX4_overlapOf_13 rfl ?_
  exact to_ext [(0, .ref a0), (1, .ref a1), (2, .int ((if (m.1 a1 1) < (m.1 a0 1) then (m.1 a1 1) else (m.1 a0 1)) - (1 : Int32)))] (ext_cons rfl (ext_cons rfl (ext_cons rfl ext_nil))) (kX4_overlapOf_14 hS FU hf (ha0) (ha1) hI)
def fX4_compareWords_88 (k2 : Nat → Int32 → Me → Option (Me)) (k19 : Nat → Int32 → Int32 → Me → Option (Me)) (a1 : Nat) (x2 : Int32) (x3 : Int32) (m : Me) : Option (Me) := k19 a1 x2 ((x3 + (1 : Int32))) m
set_option maxRecDepth 20000 in
theorem kX4_compareWords_88 {S : Sh} (hS : ShOK S) {res : Me} {k2 : Nat → Int32 → Me → Option (Me)} (hk2 : ∀ {a1 : Nat} {x2 : Int32} {m : Me}, k2 a1 x2 m = some res → kd a1 = 2 → Inv m → TT InvS (Call 2) mX4_compareWords (2, [(0, .ref 123), (1, .ref a1), (2, .int x2)], [], S, m) none (S, res)) {k19 : Nat → Int32 → Int32 → Me → Option (Me)} (hk19 : ∀ {a1 : Nat} {x2 : Int32} {x3 : Int32} {m : Me}, k19 a1 x2 x3 m = some res → kd a1 = 2 → Inv m → TT InvS (Call 2) mX4_compareWords (19, [(0, .ref 123), (1, .ref a1), (2, .int x2), (3, .int x3)], [], S, m) none (S, res)) {a1 : Nat} {x2 : Int32} {x3 : Int32} {m : Me} (hf : fX4_compareWords_88 k2 k19 a1 x2 x3 m = some res) (ha1 : kd a1 = 2) (hI : Inv m) : TT InvS (Call 2) mX4_compareWords (88, [(0, .ref 123), (1, .ref a1), (2, .int x2), (3, .int x3)], [], S, m) none (S, res) := by
  unfold fX4_compareWords_88 at hf
  refine to_iinc (q := 91) (v := (x3 + (1 : Int32))) rfl (congrArg (fun z => x3 + z) ic_1) [(3, .int (x3 + (1 : Int32))), (0, .ref 123), (1, .ref a1), (2, .int x2)] rfl (by decide) dX4_compareWords_88 rfl ?_
  refine to_goto (q := 19) dX4_compareWords_91 rfl ?_
  exact to_ext [(0, .ref 123), (1, .ref a1), (2, .int x2), (3, .int (x3 + (1 : Int32)))] (ext_cons rfl (ext_cons rfl (ext_cons rfl (ext_cons rfl ext_nil)))) (hk19 hf (ha1) hI)
def fX4_compareWords_19 (n : Nat) (k2 : Nat → Int32 → Me → Option (Me)) (a1 : Nat) (x2 : Int32) (x3 : Int32) (m : Me) : Option (Me) := match n with
  | 0 => none
  | n + 1 => if (m.1 a1 7) ≤ x3 then k2 a1 ((x2 + (1 : Int32))) m else ck (inb x2 6) (ck (inb x3 6) (cl2 (fX4_overlapOf (a1 + 7 + 2 * x2.toNatClampNeg) (a1 + 7 + 2 * x3.toNatClampNeg) m) fun r8 m9 => ck (inb ((x2 * (6 : Int32)) + x3) 36) (if x2 = x3 then fX4_compareWords_88 k2 (fX4_compareWords_19 n k2) a1 x2 x3 (setI m9 124 ((x2 * (6 : Int32)) + x3).toNatClampNeg r8) else ck (inb x2 6) (ck (inb x3 6) (cl2 (fX8_liesIn (a1 + 7 + 2 * x2.toNatClampNeg) (a1 + 7 + 2 * x3.toNatClampNeg) (setI m9 124 ((x2 * (6 : Int32)) + x3).toNatClampNeg r8)) fun r16 m17 => if r16 = (0 : Int32) then fX4_compareWords_88 k2 (fX4_compareWords_19 n k2) a1 x2 x3 m17 else ck (inb x2 6) (ck (inb x2 6) (fX4_compareWords_88 k2 (fX4_compareWords_19 n k2) a1 x2 x3 (setI m17 125 x2.toNatClampNeg ((m17.1 125 x2.toNatClampNeg) ||| ((1 : Int32) <<< (x3 &&& 31)))))))))))
set_option maxRecDepth 20000 in
theorem kX4_compareWords_19 {S : Sh} (hS : ShOK S) {res : Me} {k2 : Nat → Int32 → Me → Option (Me)} (hk2 : ∀ {a1 : Nat} {x2 : Int32} {m : Me}, k2 a1 x2 m = some res → kd a1 = 2 → Inv m → TT InvS (Call 2) mX4_compareWords (2, [(0, .ref 123), (1, .ref a1), (2, .int x2)], [], S, m) none (S, res)) (n : Nat) : ∀ {a1 : Nat} {x2 : Int32} {x3 : Int32} {m : Me}, fX4_compareWords_19 n k2 a1 x2 x3 m = some res → kd a1 = 2 → Inv m → TT InvS (Call 2) mX4_compareWords (19, [(0, .ref 123), (1, .ref a1), (2, .int x2), (3, .int x3)], [], S, m) none (S, res) := by
  induction n with
  | zero => intro a1 x2 x3 m hf; cases hf
  | succ n ih =>
    intro a1 x2 x3 m hf ha1 hI
    unfold fX4_compareWords_19 at hf
    refine to_iload_n (q := 20) rfl dX4_compareWords_19 rfl ?_
    refine to_aload_n (q := 21) rfl (kd_4 (ha1) (by decide)) dX4_compareWords_20 rfl ?_
    refine to_getI (q := 24) (k0 := 2) (C := RX2) (T := TX2) (N := 14) (j := 7) rfl fx_X4_21 (sh_kd hS ha1 (by decide)) rfl dX4_compareWords_21 rfl ?_
    by_cases h3 : (m.1 a1 7) ≤ x3
    · have hf := ite_pos h3 hf
      refine to_icT (q := 94) (op := .ge) h3 dX4_compareWords_24 rfl ?_
      refine to_iinc (q := 97) (v := (x2 + (1 : Int32))) rfl (congrArg (fun z => x2 + z) ic_1) [(2, .int (x2 + (1 : Int32))), (0, .ref 123), (1, .ref a1), (3, .int x3)] rfl (by decide) dX4_compareWords_94 rfl ?_
      refine to_goto (q := 2) dX4_compareWords_97 rfl ?_
      exact to_ext [(0, .ref 123), (1, .ref a1), (2, .int (x2 + (1 : Int32)))] (ext_cons rfl (ext_cons rfl (ext_cons rfl ext_nil))) (hk2 hf (ha1) hI)
    · have hf := ite_neg h3 hf
      refine to_icF (q := 27) (op := .ge) 94 h3 dX4_compareWords_24 rfl rfl ?_
      refine to_aload_n (q := 28) rfl (by decide) dX4_compareWords_27 rfl ?_
      refine to_getR (q := 31) (b := 124) (k0 := 4) (C := RX4) (T := TX4) (N := 5) (j := 0) rfl fx_X4_9 (h_123 hS) rfl (iv_123_0 hI) dX4_compareWords_28 rfl ?_
      refine to_iload_n (q := 32) rfl dX4_compareWords_31 rfl ?_
      refine to_bipush (q := 34) bp_6 dX4_compareWords_32 rfl ?_
      refine to_imul (q := 35) dX4_compareWords_34 rfl ?_
      refine to_iload_n (q := 36) rfl dX4_compareWords_35 rfl ?_
      refine to_iadd (q := 37) dX4_compareWords_36 rfl ?_
      refine to_aload_n (q := 38) rfl (kd_4 (ha1) (by decide)) dX4_compareWords_37 rfl ?_
      refine to_getR (q := 41) (b := a1 + 3) (k0 := 2) (C := RX2) (T := TX2) (N := 14) (j := 6) rfl fx_X4_27 (sh_kd hS ha1 (by decide)) rfl (iv2w hI (ha1)) dX4_compareWords_38 rfl ?_
      refine to_iload_n (q := 42) rfl dX4_compareWords_41 rfl ?_
      obtain ⟨hb4, hf⟩ := ck_some hf
      refine to_aald (q := 43) (b := a1 + 7 + 2 * x2.toNatClampNeg) (sh_ln hS (kd2w (ha1)) (by decide)) (by decide) hb4 (ivW hI (ha1) hb4) dX4_compareWords_42 rfl ?_
      refine to_aload_n (q := 44) rfl (kd_4 (ha1) (by decide)) dX4_compareWords_43 rfl ?_
      refine to_getR (q := 47) (b := a1 + 3) (k0 := 2) (C := RX2) (T := TX2) (N := 14) (j := 6) rfl fx_X4_27 (sh_kd hS ha1 (by decide)) rfl (iv2w hI (ha1)) dX4_compareWords_44 rfl ?_
      refine to_iload_n (q := 48) rfl dX4_compareWords_47 rfl ?_
      obtain ⟨hb5, hf⟩ := ck_some hf
      refine to_aald (q := 49) (b := a1 + 7 + 2 * x3.toNatClampNeg) (sh_ln hS (kd2w (ha1)) (by decide)) (by decide) hb5 (ivW hI (ha1) hb5) dX4_compareWords_48 rfl ?_
      obtain ⟨r8, m9, hc6, hf⟩ := cl2_some hf
      have qc7 := kX4_overlapOf hS hc6 (kdW (ha1) hb4) (kdW (ha1) hb5) hI
      refine to_statI (q := 52) mX4_overlapOf [.ref (a1 + 7 + 2 * x2.toNatClampNeg), .ref (a1 + 7 + 2 * x3.toNatClampNeg)] dX4_compareWords_49 rfl rfl (Nat.le_of_ble_eq_true rfl) mo_X4_overlapOf (Or.inl ml_X4_68) sa_X4_overlapOf (Call_mono (by decide) qc7.1) ?_
      have hI := qc7.2
      obtain ⟨hb10, hf⟩ := ck_some hf
      refine to_iasj (q := 53) (h_124 hS) hb10 (rfl) dX4_compareWords_52 rfl ?_
      refine to_iload_n (q := 54) rfl dX4_compareWords_53 rfl ?_
      refine to_iload_n (q := 55) rfl dX4_compareWords_54 rfl ?_
      by_cases h11 : x2 = x3
      · have hf := ite_pos h11 hf
        refine to_icT (q := 88) (op := .eq) h11 dX4_compareWords_55 rfl ?_
        exact to_ext [(0, .ref 123), (1, .ref a1), (2, .int x2), (3, .int x3)] (ext_cons rfl (ext_cons rfl (ext_cons rfl (ext_cons rfl ext_nil)))) (kX4_compareWords_88 hS hk2 ih hf (ha1) hI)
      · have hf := ite_neg h11 hf
        refine to_icF (q := 58) (op := .eq) 88 h11 dX4_compareWords_55 rfl rfl ?_
        refine to_aload_n (q := 59) rfl (kd_4 (ha1) (by decide)) dX4_compareWords_58 rfl ?_
        refine to_getR (q := 62) (b := a1 + 3) (k0 := 2) (C := RX2) (T := TX2) (N := 14) (j := 6) rfl fx_X4_27 (sh_kd hS ha1 (by decide)) rfl (iv2w hI (ha1)) dX4_compareWords_59 rfl ?_
        refine to_iload_n (q := 63) rfl dX4_compareWords_62 rfl ?_
        obtain ⟨hb12, hf⟩ := ck_some hf
        refine to_aald (q := 64) (b := a1 + 7 + 2 * x2.toNatClampNeg) (sh_ln hS (kd2w (ha1)) (by decide)) (by decide) hb12 (ivW hI (ha1) hb12) dX4_compareWords_63 rfl ?_
        refine to_aload_n (q := 65) rfl (kd_4 (ha1) (by decide)) dX4_compareWords_64 rfl ?_
        refine to_getR (q := 68) (b := a1 + 3) (k0 := 2) (C := RX2) (T := TX2) (N := 14) (j := 6) rfl fx_X4_27 (sh_kd hS ha1 (by decide)) rfl (iv2w hI (ha1)) dX4_compareWords_65 rfl ?_
        refine to_iload_n (q := 69) rfl dX4_compareWords_68 rfl ?_
        obtain ⟨hb13, hf⟩ := ck_some hf
        refine to_aald (q := 70) (b := a1 + 7 + 2 * x3.toNatClampNeg) (sh_ln hS (kd2w (ha1)) (by decide)) (by decide) hb13 (ivW hI (ha1) hb13) dX4_compareWords_69 rfl ?_
        obtain ⟨r16, m17, hc14, hf⟩ := cl2_some hf
        have qc15 := kX8_liesIn hS hc14 (kdW (ha1) hb12) (kdW (ha1) hb13) hI
        refine to_virtI (q := 73) mX8_liesIn [.ref (a1 + 7 + 2 * x3.toNatClampNeg)] dX4_compareWords_70 rfl rfl (Nat.le_of_ble_eq_true rfl) mo_X8_liesIn mv_X4_72 (Or.inl ⟨_, _, _, sh_kd hS (kdW (ha1) hb12) (by decide), rfl, rfl⟩) (Call_mono (by decide) qc15.1) ?_
        have hI := qc15.2
        by_cases h18 : r16 = (0 : Int32)
        · have hf := ite_pos h18 hf
          refine to_ifT (q := 88) (op := .eq) h18 dX4_compareWords_73 rfl ?_
          exact to_ext [(0, .ref 123), (1, .ref a1), (2, .int x2), (3, .int x3)] (ext_cons rfl (ext_cons rfl (ext_cons rfl (ext_cons rfl ext_nil)))) (kX4_compareWords_88 hS hk2 ih hf (ha1) hI)
        · have hf := ite_neg h18 hf
          refine to_ifF (q := 76) (op := .eq) 88 h18 dX4_compareWords_73 rfl rfl ?_
          refine to_aload_n (q := 77) rfl (by decide) dX4_compareWords_76 rfl ?_
          refine to_getR (q := 80) (b := 125) (k0 := 4) (C := RX4) (T := TX4) (N := 5) (j := 1) rfl fx_X4_15 (h_123 hS) rfl (iv_123_1 hI) dX4_compareWords_77 rfl ?_
          refine to_iload_n (q := 81) rfl dX4_compareWords_80 rfl ?_
          refine to_dup2 (q := 82) rfl rfl dX4_compareWords_81 rfl ?_
          obtain ⟨hb19, hf⟩ := ck_some hf
          refine to_iaj (q := 83) (h_125 hS) hb19 (rfl) dX4_compareWords_82 rfl ?_
          refine to_iconst (q := 84) ic_1 dX4_compareWords_83 rfl ?_
          refine to_iload_n (q := 85) rfl dX4_compareWords_84 rfl ?_
          refine to_ishl (q := 86) dX4_compareWords_85 rfl ?_
          refine to_ior (q := 87) dX4_compareWords_86 rfl ?_
          obtain ⟨hb20, hf⟩ := ck_some hf
          refine to_iasj (q := 88) (h_125 hS) hb20 (rfl) dX4_compareWords_87 rfl ?_
          exact to_ext [(0, .ref 123), (1, .ref a1), (2, .int x2), (3, .int x3)] (ext_cons rfl (ext_cons rfl (ext_cons rfl (ext_cons rfl ext_nil)))) (kX4_compareWords_88 hS hk2 ih hf (ha1) hI)
def fX4_compareWords_2 (n : Nat) (a1 : Nat) (x2 : Int32) (m : Me) : Option (Me) := match n with
  | 0 => none
  | n + 1 => if (m.1 a1 7) ≤ x2 then some m else ck (inb x2 6) (fX4_compareWords_19 FU (fX4_compareWords_2 n) a1 x2 ((0 : Int32)) (setI m 125 x2.toNatClampNeg (0 : Int32)))
set_option maxRecDepth 20000 in
theorem kX4_compareWords_2 {S : Sh} (hS : ShOK S) {res : Me} (n : Nat) : ∀ {a1 : Nat} {x2 : Int32} {m : Me}, fX4_compareWords_2 n a1 x2 m = some res → kd a1 = 2 → Inv m → TT InvS (Call 2) mX4_compareWords (2, [(0, .ref 123), (1, .ref a1), (2, .int x2)], [], S, m) none (S, res) := by
  induction n with
  | zero => intro a1 x2 m hf; cases hf
  | succ n ih =>
    intro a1 x2 m hf ha1 hI
    unfold fX4_compareWords_2 at hf
    refine to_iload_n (q := 3) rfl dX4_compareWords_2 rfl ?_
    refine to_aload_n (q := 4) rfl (kd_4 (ha1) (by decide)) dX4_compareWords_3 rfl ?_
    refine to_getI (q := 7) (k0 := 2) (C := RX2) (T := TX2) (N := 14) (j := 7) rfl fx_X4_21 (sh_kd hS ha1 (by decide)) rfl dX4_compareWords_4 rfl ?_
    by_cases h1 : (m.1 a1 7) ≤ x2
    · have hf := ite_pos h1 hf
      refine to_icT (q := 100) (op := .ge) h1 dX4_compareWords_7 rfl ?_
      cases hf
      exact to_vret dX4_compareWords_100 rfl rfl rfl hI
    · have hf := ite_neg h1 hf
      refine to_icF (q := 10) (op := .ge) 100 h1 dX4_compareWords_7 rfl rfl ?_
      refine to_aload_n (q := 11) rfl (by decide) dX4_compareWords_10 rfl ?_
      refine to_getR (q := 14) (b := 125) (k0 := 4) (C := RX4) (T := TX4) (N := 5) (j := 1) rfl fx_X4_15 (h_123 hS) rfl (iv_123_1 hI) dX4_compareWords_11 rfl ?_
      refine to_iload_n (q := 15) rfl dX4_compareWords_14 rfl ?_
      refine to_iconst (q := 16) ic_0 dX4_compareWords_15 rfl ?_
      obtain ⟨hb2, hf⟩ := ck_some hf
      refine to_iasj (q := 17) (h_125 hS) hb2 (rfl) dX4_compareWords_16 rfl ?_
      refine to_iconst (q := 18) ic_0 dX4_compareWords_17 rfl ?_
      refine to_istore_n (q := 19) [(3, .int (0 : Int32)), (0, .ref 123), (1, .ref a1), (2, .int x2)] rfl (by decide) dX4_compareWords_18 rfl ?_
      exact to_ext [(0, .ref 123), (1, .ref a1), (2, .int x2), (3, .int (0 : Int32))] (ext_cons rfl (ext_cons rfl (ext_cons rfl (ext_cons rfl ext_nil)))) (kX4_compareWords_19 hS ih FU hf (ha1) hI)
def fX4_compareWords (a1 : Nat) (m : Me) : Option (Me) := fX4_compareWords_2 FU a1 ((0 : Int32)) m
set_option maxRecDepth 20000 in
theorem kX4_compareWords {S : Sh} (hS : ShOK S) {res : Me} {a1 : Nat} {m : Me} (hf : fX4_compareWords a1 m = some res) (ha1 : kd a1 = 2) (hI : Inv m) : Call 3 mX4_compareWords [.ref 123, .ref a1] (S, m) none (S, res) ∧ Inv res := by
  refine call_of (P := InvS) (Nat.le_of_ble_eq_true rfl) (by simp [Value.category]) ?_
  show TT InvS (Call 2) mX4_compareWords (0, [(0, .ref 123), (1, .ref a1)], [], S, m) _ _
  unfold fX4_compareWords at hf
  refine to_iconst (q := 1) ic_0 dX4_compareWords_0 rfl ?_
  refine to_istore_n (q := 2) [(2, .int (0 : Int32)), (0, .ref 123), (1, .ref a1)] rfl (by decide) dX4_compareWords_1 rfl ?_
  exact to_ext [(0, .ref 123), (1, .ref a1), (2, .int (0 : Int32))] (ext_cons rfl (ext_cons rfl (ext_cons rfl ext_nil))) (kX4_compareWords_2 hS FU hf (ha1) hI)
def fX4_shortestAhead_58 (k8 : Nat → Int32 → Int32 → Int32 → Int32 → Me → Option (Int32 × Me)) (a1 : Nat) (x2 : Int32) (x3 : Int32) (x4 : Int32) (x5 : Int32) (m : Me) : Option (Int32 × Me) := k8 a1 x2 x3 x4 ((x5 + (1 : Int32))) m
set_option maxRecDepth 20000 in
theorem kX4_shortestAhead_58 {S : Sh} (hS : ShOK S) {res : Int32 × Me} {k8 : Nat → Int32 → Int32 → Int32 → Int32 → Me → Option (Int32 × Me)} (hk8 : ∀ {a1 : Nat} {x2 : Int32} {x3 : Int32} {x4 : Int32} {x5 : Int32} {m : Me}, k8 a1 x2 x3 x4 x5 m = some res → kd a1 = 2 → Inv m → TT InvS (Call 0) mX4_shortestAhead (8, [(0, .ref 123), (1, .ref a1), (2, .int x2), (3, .int x3), (4, .int x4), (5, .int x5)], [], S, m) (some (.int res.1)) (S, res.2)) {a1 : Nat} {x2 : Int32} {x3 : Int32} {x4 : Int32} {x5 : Int32} {m : Me} (hf : fX4_shortestAhead_58 k8 a1 x2 x3 x4 x5 m = some res) (ha1 : kd a1 = 2) (hI : Inv m) : TT InvS (Call 0) mX4_shortestAhead (58, [(0, .ref 123), (1, .ref a1), (2, .int x2), (3, .int x3), (4, .int x4), (5, .int x5)], [], S, m) (some (.int res.1)) (S, res.2) := by
  unfold fX4_shortestAhead_58 at hf
  refine to_iinc (q := 61) (v := (x5 + (1 : Int32))) rfl (congrArg (fun z => x5 + z) ic_1) [(5, .int (x5 + (1 : Int32))), (0, .ref 123), (1, .ref a1), (2, .int x2), (3, .int x3), (4, .int x4)] rfl (by decide) dX4_shortestAhead_58 rfl ?_
  refine to_goto (q := 8) dX4_shortestAhead_61 rfl ?_
  exact to_ext [(0, .ref 123), (1, .ref a1), (2, .int x2), (3, .int x3), (4, .int x4), (5, .int (x5 + (1 : Int32)))] (ext_cons rfl (ext_cons rfl (ext_cons rfl (ext_cons rfl (ext_cons rfl (ext_cons rfl ext_nil)))))) (hk8 hf (ha1) hI)
def fX4_shortestAhead_8 (n : Nat) (a1 : Nat) (x2 : Int32) (x3 : Int32) (x4 : Int32) (x5 : Int32) (m : Me) : Option (Int32 × Me) := match n with
  | 0 => none
  | n + 1 => if (m.1 a1 7) ≤ x5 then some (x4, m) else if ((x2 >>> (x5 &&& 31)) &&& (1 : Int32)) = (0 : Int32) then fX4_shortestAhead_58 (fX4_shortestAhead_8 n) a1 x2 x3 x4 x5 m else ck (inb ((x2 * (6 : Int32)) + x5) 384) (ck (inb ((x5 * (6 : Int32)) + x3) 36) (fX4_shortestAhead_58 (fX4_shortestAhead_8 n) a1 x2 x3 ((if ((m.1 126 ((x2 * (6 : Int32)) + x5).toNatClampNeg) - (m.1 124 ((x5 * (6 : Int32)) + x3).toNatClampNeg)) < x4 then ((m.1 126 ((x2 * (6 : Int32)) + x5).toNatClampNeg) - (m.1 124 ((x5 * (6 : Int32)) + x3).toNatClampNeg)) else x4)) x5 m))
set_option maxRecDepth 20000 in
theorem kX4_shortestAhead_8 {S : Sh} (hS : ShOK S) {res : Int32 × Me} (n : Nat) : ∀ {a1 : Nat} {x2 : Int32} {x3 : Int32} {x4 : Int32} {x5 : Int32} {m : Me}, fX4_shortestAhead_8 n a1 x2 x3 x4 x5 m = some res → kd a1 = 2 → Inv m → TT InvS (Call 0) mX4_shortestAhead (8, [(0, .ref 123), (1, .ref a1), (2, .int x2), (3, .int x3), (4, .int x4), (5, .int x5)], [], S, m) (some (.int res.1)) (S, res.2) := by
  induction n with
  | zero => intro a1 x2 x3 x4 x5 m hf; cases hf
  | succ n ih =>
    intro a1 x2 x3 x4 x5 m hf ha1 hI
    unfold fX4_shortestAhead_8 at hf
    refine to_iload (q := 10) rfl dX4_shortestAhead_8 rfl ?_
    refine to_aload_n (q := 11) rfl (kd_4 (ha1) (by decide)) dX4_shortestAhead_10 rfl ?_
    refine to_getI (q := 14) (k0 := 2) (C := RX2) (T := TX2) (N := 14) (j := 7) rfl fx_X4_21 (sh_kd hS ha1 (by decide)) rfl dX4_shortestAhead_11 rfl ?_
    by_cases h1 : (m.1 a1 7) ≤ x5
    · have hf := ite_pos h1 hf
      refine to_icT (q := 64) (op := .ge) h1 dX4_shortestAhead_14 rfl ?_
      refine to_iload (q := 66) rfl dX4_shortestAhead_64 rfl ?_
      cases hf
      exact to_iret dX4_shortestAhead_66 rfl rfl rfl rfl hI
    · have hf := ite_neg h1 hf
      refine to_icF (q := 17) (op := .ge) 64 h1 dX4_shortestAhead_14 rfl rfl ?_
      refine to_iload_n (q := 18) rfl dX4_shortestAhead_17 rfl ?_
      refine to_iload (q := 20) rfl dX4_shortestAhead_18 rfl ?_
      refine to_ishr (q := 21) dX4_shortestAhead_20 rfl ?_
      refine to_iconst (q := 22) ic_1 dX4_shortestAhead_21 rfl ?_
      refine to_iand (q := 23) dX4_shortestAhead_22 rfl ?_
      by_cases h2 : ((x2 >>> (x5 &&& 31)) &&& (1 : Int32)) = (0 : Int32)
      · have hf := ite_pos h2 hf
        refine to_ifT (q := 58) (op := .eq) h2 dX4_shortestAhead_23 rfl ?_
        exact to_ext [(0, .ref 123), (1, .ref a1), (2, .int x2), (3, .int x3), (4, .int x4), (5, .int x5)] (ext_cons rfl (ext_cons rfl (ext_cons rfl (ext_cons rfl (ext_cons rfl (ext_cons rfl ext_nil)))))) (kX4_shortestAhead_58 hS ih hf (ha1) hI)
      · have hf := ite_neg h2 hf
        refine to_ifF (q := 26) (op := .eq) 58 h2 dX4_shortestAhead_23 rfl rfl ?_
        refine to_iload (q := 28) rfl dX4_shortestAhead_26 rfl ?_
        refine to_aload_n (q := 29) rfl (by decide) dX4_shortestAhead_28 rfl ?_
        refine to_getR (q := 32) (b := 126) (k0 := 4) (C := RX4) (T := TX4) (N := 5) (j := 2) rfl fx_X4_18 (h_123 hS) rfl (iv_123_2 hI) dX4_shortestAhead_29 rfl ?_
        refine to_iload_n (q := 33) rfl dX4_shortestAhead_32 rfl ?_
        refine to_bipush (q := 35) bp_6 dX4_shortestAhead_33 rfl ?_
        refine to_imul (q := 36) dX4_shortestAhead_35 rfl ?_
        refine to_iload (q := 38) rfl dX4_shortestAhead_36 rfl ?_
        refine to_iadd (q := 39) dX4_shortestAhead_38 rfl ?_
        obtain ⟨hb3, hf⟩ := ck_some hf
        refine to_iaj (q := 40) (h_126 hS) hb3 (rfl) dX4_shortestAhead_39 rfl ?_
        refine to_aload_n (q := 41) rfl (by decide) dX4_shortestAhead_40 rfl ?_
        refine to_getR (q := 44) (b := 124) (k0 := 4) (C := RX4) (T := TX4) (N := 5) (j := 0) rfl fx_X4_9 (h_123 hS) rfl (iv_123_0 hI) dX4_shortestAhead_41 rfl ?_
        refine to_iload (q := 46) rfl dX4_shortestAhead_44 rfl ?_
        refine to_bipush (q := 48) bp_6 dX4_shortestAhead_46 rfl ?_
        refine to_imul (q := 49) dX4_shortestAhead_48 rfl ?_
        refine to_iload_n (q := 50) rfl dX4_shortestAhead_49 rfl ?_
        refine to_iadd (q := 51) dX4_shortestAhead_50 rfl ?_
        obtain ⟨hb4, hf⟩ := ck_some hf
        refine to_iaj (q := 52) (h_124 hS) hb4 (rfl) dX4_shortestAhead_51 rfl ?_
        refine to_isub (q := 53) dX4_shortestAhead_52 rfl ?_
        refine to_min (q := 56) dX4_shortestAhead_53 rfl (Nat.le_of_ble_eq_true rfl) (lc_min lm_X4_79) ?_
        refine to_istore (q := 58) [(4, .int (if ((m.1 126 ((x2 * (6 : Int32)) + x5).toNatClampNeg) - (m.1 124 ((x5 * (6 : Int32)) + x3).toNatClampNeg)) < x4 then ((m.1 126 ((x2 * (6 : Int32)) + x5).toNatClampNeg) - (m.1 124 ((x5 * (6 : Int32)) + x3).toNatClampNeg)) else x4)), (0, .ref 123), (1, .ref a1), (2, .int x2), (3, .int x3), (5, .int x5)] rfl (by decide) dX4_shortestAhead_56 rfl ?_
        exact to_ext [(0, .ref 123), (1, .ref a1), (2, .int x2), (3, .int x3), (4, .int (if ((m.1 126 ((x2 * (6 : Int32)) + x5).toNatClampNeg) - (m.1 124 ((x5 * (6 : Int32)) + x3).toNatClampNeg)) < x4 then ((m.1 126 ((x2 * (6 : Int32)) + x5).toNatClampNeg) - (m.1 124 ((x5 * (6 : Int32)) + x3).toNatClampNeg)) else x4)), (5, .int x5)] (ext_cons rfl (ext_cons rfl (ext_cons rfl (ext_cons rfl (ext_cons rfl (ext_cons rfl ext_nil)))))) (kX4_shortestAhead_58 hS ih hf (ha1) hI)
def fX4_shortestAhead (a1 : Nat) (x2 : Int32) (x3 : Int32) (m : Me) : Option (Int32 × Me) := fX4_shortestAhead_8 FU a1 x2 x3 ((1000 : Int32)) ((0 : Int32)) m
set_option maxRecDepth 20000 in
theorem kX4_shortestAhead {S : Sh} (hS : ShOK S) {res : Int32 × Me} {a1 : Nat} {x2 : Int32} {x3 : Int32} {m : Me} (hf : fX4_shortestAhead a1 x2 x3 m = some res) (ha1 : kd a1 = 2) (hI : Inv m) : Call 1 mX4_shortestAhead [.ref 123, .ref a1, .int x2, .int x3] (S, m) (some (.int res.1)) (S, res.2) ∧ Inv res.2 := by
  refine call_of (P := InvS) (Nat.le_of_ble_eq_true rfl) (by simp [Value.category]) ?_
  show TT InvS (Call 0) mX4_shortestAhead (0, [(0, .ref 123), (1, .ref a1), (2, .int x2), (3, .int x3)], [], S, m) _ _
  unfold fX4_shortestAhead at hf
  refine to_sipush (q := 3) sp_1000 dX4_shortestAhead_0 rfl ?_
  refine to_istore (q := 5) [(4, .int (1000 : Int32)), (0, .ref 123), (1, .ref a1), (2, .int x2), (3, .int x3)] rfl (by decide) dX4_shortestAhead_3 rfl ?_
  refine to_iconst (q := 6) ic_0 dX4_shortestAhead_5 rfl ?_
  refine to_istore (q := 8) [(5, .int (0 : Int32)), (4, .int (1000 : Int32)), (0, .ref 123), (1, .ref a1), (2, .int x2), (3, .int x3)] rfl (by decide) dX4_shortestAhead_6 rfl ?_
  exact to_ext [(0, .ref 123), (1, .ref a1), (2, .int x2), (3, .int x3), (4, .int (1000 : Int32)), (5, .int (0 : Int32))] (ext_cons rfl (ext_cons rfl (ext_cons rfl (ext_cons rfl (ext_cons rfl (ext_cons rfl ext_nil)))))) (kX4_shortestAhead_8 hS FU hf (ha1) hI)
def fX4_findShortest_95 (k2 : Nat → Int32 → Int32 → Me → Option (Me)) (a1 : Nat) (x2 : Int32) (x3 : Int32) (m : Me) : Option (Me) := k2 a1 x2 ((x3 + (1 : Int32))) m
set_option maxRecDepth 20000 in
theorem kX4_findShortest_95 {S : Sh} (hS : ShOK S) {res : Me} {k2 : Nat → Int32 → Int32 → Me → Option (Me)} (hk2 : ∀ {a1 : Nat} {x2 : Int32} {x3 : Int32} {m : Me}, k2 a1 x2 x3 m = some res → kd a1 = 2 → Inv m → TT InvS (Call 1) mX4_findShortest (2, [(0, .ref 123), (1, .ref a1), (2, .int x2), (3, .int x3)], [], S, m) none (S, res)) {a1 : Nat} {x2 : Int32} {x3 : Int32} {m : Me} (hf : fX4_findShortest_95 k2 a1 x2 x3 m = some res) (ha1 : kd a1 = 2) (hI : Inv m) : TT InvS (Call 1) mX4_findShortest (95, [(0, .ref 123), (1, .ref a1), (2, .int x2), (3, .int x3)], [], S, m) none (S, res) := by
  unfold fX4_findShortest_95 at hf
  refine to_iinc (q := 98) (v := (x3 + (1 : Int32))) rfl (congrArg (fun z => x3 + z) ic_1) [(3, .int (x3 + (1 : Int32))), (0, .ref 123), (1, .ref a1), (2, .int x2)] rfl (by decide) dX4_findShortest_95 rfl ?_
  refine to_goto (q := 2) dX4_findShortest_98 rfl ?_
  exact to_ext [(0, .ref 123), (1, .ref a1), (2, .int x2), (3, .int (x3 + (1 : Int32)))] (ext_cons rfl (ext_cons rfl (ext_cons rfl (ext_cons rfl ext_nil)))) (hk2 hf (ha1) hI)
def fX4_findShortest_2 (n : Nat) (a1 : Nat) (x2 : Int32) (x3 : Int32) (m : Me) : Option (Me) := match n with
  | 0 => none
  | n + 1 => if (m.1 a1 7) ≤ x3 then some m else if (x2 &&& (((1 : Int32) <<< (x3 &&& 31)) ^^^ (-1 : Int32))) = x2 then ck (inb ((x2 * (6 : Int32)) + x3) 384) (fX4_findShortest_95 (fX4_findShortest_2 n) a1 x2 x3 (setI m 126 ((x2 * (6 : Int32)) + x3).toNatClampNeg (1000 : Int32))) else if (x2 &&& (((1 : Int32) <<< (x3 &&& 31)) ^^^ (-1 : Int32))) = (0 : Int32) then ck (inb x3 6) (ck (inb ((x2 * (6 : Int32)) + x3) 384) (fX4_findShortest_95 (fX4_findShortest_2 n) a1 x2 x3 (setI m 126 ((x2 * (6 : Int32)) + x3).toNatClampNeg (m.1 (a1 + 7 + 2 * x3.toNatClampNeg) 1)))) else ck (inb x3 6) (cl2 (fX4_shortestAhead a1 ((x2 &&& (((1 : Int32) <<< (x3 &&& 31)) ^^^ (-1 : Int32)))) x3 m) fun r7 m8 => ck (inb ((x2 * (6 : Int32)) + x3) 384) (fX4_findShortest_95 (fX4_findShortest_2 n) a1 x2 x3 (setI m8 126 ((x2 * (6 : Int32)) + x3).toNatClampNeg ((m.1 (a1 + 7 + 2 * x3.toNatClampNeg) 1) + r7))))
set_option maxRecDepth 20000 in
theorem kX4_findShortest_2 {S : Sh} (hS : ShOK S) {res : Me} (n : Nat) : ∀ {a1 : Nat} {x2 : Int32} {x3 : Int32} {m : Me}, fX4_findShortest_2 n a1 x2 x3 m = some res → kd a1 = 2 → Inv m → TT InvS (Call 1) mX4_findShortest (2, [(0, .ref 123), (1, .ref a1), (2, .int x2), (3, .int x3)], [], S, m) none (S, res) := by
  induction n with
  | zero => intro a1 x2 x3 m hf; cases hf
  | succ n ih =>
    intro a1 x2 x3 m hf ha1 hI
    unfold fX4_findShortest_2 at hf
    refine to_iload_n (q := 3) rfl dX4_findShortest_2 rfl ?_
    refine to_aload_n (q := 4) rfl (kd_4 (ha1) (by decide)) dX4_findShortest_3 rfl ?_
    refine to_getI (q := 7) (k0 := 2) (C := RX2) (T := TX2) (N := 14) (j := 7) rfl fx_X4_21 (sh_kd hS ha1 (by decide)) rfl dX4_findShortest_4 rfl ?_
    by_cases h1 : (m.1 a1 7) ≤ x3
    · have hf := ite_pos h1 hf
      refine to_icT (q := 101) (op := .ge) h1 dX4_findShortest_7 rfl ?_
      cases hf
      exact to_vret dX4_findShortest_101 rfl rfl rfl hI
    · have hf := ite_neg h1 hf
      refine to_icF (q := 10) (op := .ge) 101 h1 dX4_findShortest_7 rfl rfl ?_
      refine to_iload_n (q := 11) rfl dX4_findShortest_10 rfl ?_
      refine to_bipush (q := 13) bp_6 dX4_findShortest_11 rfl ?_
      refine to_imul (q := 14) dX4_findShortest_13 rfl ?_
      refine to_iload_n (q := 15) rfl dX4_findShortest_14 rfl ?_
      refine to_iadd (q := 16) dX4_findShortest_15 rfl ?_
      refine to_istore (q := 18) [(4, .int ((x2 * (6 : Int32)) + x3)), (0, .ref 123), (1, .ref a1), (2, .int x2), (3, .int x3)] rfl (by decide) dX4_findShortest_16 rfl ?_
      refine to_iload_n (q := 19) rfl dX4_findShortest_18 rfl ?_
      refine to_iconst (q := 20) ic_1 dX4_findShortest_19 rfl ?_
      refine to_iload_n (q := 21) rfl dX4_findShortest_20 rfl ?_
      refine to_ishl (q := 22) dX4_findShortest_21 rfl ?_
      refine to_iconst (q := 23) ic_m1 dX4_findShortest_22 rfl ?_
      refine to_ixor (q := 24) dX4_findShortest_23 rfl ?_
      refine to_iand (q := 25) dX4_findShortest_24 rfl ?_
      refine to_istore (q := 27) [(5, .int (x2 &&& (((1 : Int32) <<< (x3 &&& 31)) ^^^ (-1 : Int32)))), (4, .int ((x2 * (6 : Int32)) + x3)), (0, .ref 123), (1, .ref a1), (2, .int x2), (3, .int x3)] rfl (by decide) dX4_findShortest_25 rfl ?_
      refine to_iload (q := 29) rfl dX4_findShortest_27 rfl ?_
      refine to_iload_n (q := 30) rfl dX4_findShortest_29 rfl ?_
      by_cases h2 : (x2 &&& (((1 : Int32) <<< (x3 &&& 31)) ^^^ (-1 : Int32))) = x2
      · have hf := ite_pos h2 hf
        refine to_icF (q := 33) (op := .ne) 46 (fun z => z h2) dX4_findShortest_30 rfl rfl ?_
        refine to_aload_n (q := 34) rfl (by decide) dX4_findShortest_33 rfl ?_
        refine to_getR (q := 37) (b := 126) (k0 := 4) (C := RX4) (T := TX4) (N := 5) (j := 2) rfl fx_X4_18 (h_123 hS) rfl (iv_123_2 hI) dX4_findShortest_34 rfl ?_
        refine to_iload (q := 39) rfl dX4_findShortest_37 rfl ?_
        refine to_sipush (q := 42) sp_1000 dX4_findShortest_39 rfl ?_
        obtain ⟨hb12, hf⟩ := ck_some hf
        refine to_iasj (q := 43) (h_126 hS) hb12 (rfl) dX4_findShortest_42 rfl ?_
        refine to_goto (q := 95) dX4_findShortest_43 rfl ?_
        exact to_ext [(0, .ref 123), (1, .ref a1), (2, .int x2), (3, .int x3)] (ext_cons rfl (ext_cons rfl (ext_cons rfl (ext_cons rfl ext_nil)))) (kX4_findShortest_95 hS ih hf (ha1) hI)
      · have hf := ite_neg h2 hf
        refine to_icT (q := 46) (op := .ne) h2 dX4_findShortest_30 rfl ?_
        refine to_iload (q := 48) rfl dX4_findShortest_46 rfl ?_
        by_cases h3 : (x2 &&& (((1 : Int32) <<< (x3 &&& 31)) ^^^ (-1 : Int32))) = (0 : Int32)
        · have hf := ite_pos h3 hf
          refine to_ifF (q := 51) (op := .ne) 70 (fun z => z h3) dX4_findShortest_48 rfl rfl ?_
          refine to_aload_n (q := 52) rfl (by decide) dX4_findShortest_51 rfl ?_
          refine to_getR (q := 55) (b := 126) (k0 := 4) (C := RX4) (T := TX4) (N := 5) (j := 2) rfl fx_X4_18 (h_123 hS) rfl (iv_123_2 hI) dX4_findShortest_52 rfl ?_
          refine to_iload (q := 57) rfl dX4_findShortest_55 rfl ?_
          refine to_aload_n (q := 58) rfl (kd_4 (ha1) (by decide)) dX4_findShortest_57 rfl ?_
          refine to_getR (q := 61) (b := a1 + 3) (k0 := 2) (C := RX2) (T := TX2) (N := 14) (j := 6) rfl fx_X4_27 (sh_kd hS ha1 (by decide)) rfl (iv2w hI (ha1)) dX4_findShortest_58 rfl ?_
          refine to_iload_n (q := 62) rfl dX4_findShortest_61 rfl ?_
          obtain ⟨hb10, hf⟩ := ck_some hf
          refine to_aald (q := 63) (b := a1 + 7 + 2 * x3.toNatClampNeg) (sh_ln hS (kd2w (ha1)) (by decide)) (by decide) hb10 (ivW hI (ha1) hb10) dX4_findShortest_62 rfl ?_
          refine to_getI (q := 66) (k0 := 8) (C := RX8) (T := TX8) (N := 5) (j := 1) rfl fx_X4_76 (sh_kd hS (kdW (ha1) hb10) (by decide)) rfl dX4_findShortest_63 rfl ?_
          obtain ⟨hb11, hf⟩ := ck_some hf
          refine to_iasj (q := 67) (h_126 hS) hb11 (rfl) dX4_findShortest_66 rfl ?_
          refine to_goto (q := 95) dX4_findShortest_67 rfl ?_
          exact to_ext [(0, .ref 123), (1, .ref a1), (2, .int x2), (3, .int x3)] (ext_cons rfl (ext_cons rfl (ext_cons rfl (ext_cons rfl ext_nil)))) (kX4_findShortest_95 hS ih hf (ha1) hI)
        · have hf := ite_neg h3 hf
          refine to_ifT (q := 70) (op := .ne) h3 dX4_findShortest_48 rfl ?_
          refine to_aload_n (q := 71) rfl (by decide) dX4_findShortest_70 rfl ?_
          refine to_getR (q := 74) (b := 126) (k0 := 4) (C := RX4) (T := TX4) (N := 5) (j := 2) rfl fx_X4_18 (h_123 hS) rfl (iv_123_2 hI) dX4_findShortest_71 rfl ?_
          refine to_iload (q := 76) rfl dX4_findShortest_74 rfl ?_
          refine to_aload_n (q := 77) rfl (kd_4 (ha1) (by decide)) dX4_findShortest_76 rfl ?_
          refine to_getR (q := 80) (b := a1 + 3) (k0 := 2) (C := RX2) (T := TX2) (N := 14) (j := 6) rfl fx_X4_27 (sh_kd hS ha1 (by decide)) rfl (iv2w hI (ha1)) dX4_findShortest_77 rfl ?_
          refine to_iload_n (q := 81) rfl dX4_findShortest_80 rfl ?_
          obtain ⟨hb4, hf⟩ := ck_some hf
          refine to_aald (q := 82) (b := a1 + 7 + 2 * x3.toNatClampNeg) (sh_ln hS (kd2w (ha1)) (by decide)) (by decide) hb4 (ivW hI (ha1) hb4) dX4_findShortest_81 rfl ?_
          refine to_getI (q := 85) (k0 := 8) (C := RX8) (T := TX8) (N := 5) (j := 1) rfl fx_X4_76 (sh_kd hS (kdW (ha1) hb4) (by decide)) rfl dX4_findShortest_82 rfl ?_
          refine to_aload_n (q := 86) rfl (by decide) dX4_findShortest_85 rfl ?_
          refine to_aload_n (q := 87) rfl (kd_4 (ha1) (by decide)) dX4_findShortest_86 rfl ?_
          refine to_iload (q := 89) rfl dX4_findShortest_87 rfl ?_
          refine to_iload_n (q := 90) rfl dX4_findShortest_89 rfl ?_
          obtain ⟨r7, m8, hc5, hf⟩ := cl2_some hf
          have qc6 := kX4_shortestAhead hS hc5 (ha1) hI
          refine to_virtI (q := 93) mX4_shortestAhead [.ref a1, .int (x2 &&& (((1 : Int32) <<< (x3 &&& 31)) ^^^ (-1 : Int32))), .int x3] dX4_findShortest_90 rfl rfl (Nat.le_of_ble_eq_true rfl) mo_X4_shortestAhead mv_X4_89 (Or.inl ⟨_, _, _, h_123 hS, rfl, rfl⟩) (Call_mono (by decide) qc6.1) ?_
          have hI := qc6.2
          refine to_iadd (q := 94) dX4_findShortest_93 rfl ?_
          obtain ⟨hb9, hf⟩ := ck_some hf
          refine to_iasj (q := 95) (h_126 hS) hb9 (rfl) dX4_findShortest_94 rfl ?_
          exact to_ext [(0, .ref 123), (1, .ref a1), (2, .int x2), (3, .int x3)] (ext_cons rfl (ext_cons rfl (ext_cons rfl (ext_cons rfl ext_nil)))) (kX4_findShortest_95 hS ih hf (ha1) hI)
def fX4_findShortest (a1 : Nat) (x2 : Int32) (m : Me) : Option (Me) := fX4_findShortest_2 FU a1 x2 ((0 : Int32)) m
set_option maxRecDepth 20000 in
theorem kX4_findShortest {S : Sh} (hS : ShOK S) {res : Me} {a1 : Nat} {x2 : Int32} {m : Me} (hf : fX4_findShortest a1 x2 m = some res) (ha1 : kd a1 = 2) (hI : Inv m) : Call 2 mX4_findShortest [.ref 123, .ref a1, .int x2] (S, m) none (S, res) ∧ Inv res := by
  refine call_of (P := InvS) (Nat.le_of_ble_eq_true rfl) (by simp [Value.category]) ?_
  show TT InvS (Call 1) mX4_findShortest (0, [(0, .ref 123), (1, .ref a1), (2, .int x2)], [], S, m) _ _
  unfold fX4_findShortest at hf
  refine to_iconst (q := 1) ic_0 dX4_findShortest_0 rfl ?_
  refine to_istore_n (q := 2) [(3, .int (0 : Int32)), (0, .ref 123), (1, .ref a1), (2, .int x2)] rfl (by decide) dX4_findShortest_1 rfl ?_
  exact to_ext [(0, .ref 123), (1, .ref a1), (2, .int x2), (3, .int (0 : Int32))] (ext_cons rfl (ext_cons rfl (ext_cons rfl (ext_cons rfl ext_nil)))) (kX4_findShortest_2 hS FU hf (ha1) hI)
def fX4_withoutHeld_35 (k5 : Nat → Int32 → Int32 → Int32 → Me → Option (Int32 × Me)) (a1 : Nat) (x2 : Int32) (x3 : Int32) (x4 : Int32) (m : Me) : Option (Int32 × Me) := k5 a1 x2 x3 ((x4 + (1 : Int32))) m
set_option maxRecDepth 20000 in
theorem kX4_withoutHeld_35 {S : Sh} (hS : ShOK S) {res : Int32 × Me} {k5 : Nat → Int32 → Int32 → Int32 → Me → Option (Int32 × Me)} (hk5 : ∀ {a1 : Nat} {x2 : Int32} {x3 : Int32} {x4 : Int32} {m : Me}, k5 a1 x2 x3 x4 m = some res → kd a1 = 2 → Inv m → TT InvS (Call 0) mX4_withoutHeld (5, [(0, .ref 123), (1, .ref a1), (2, .int x2), (3, .int x3), (4, .int x4)], [], S, m) (some (.int res.1)) (S, res.2)) {a1 : Nat} {x2 : Int32} {x3 : Int32} {x4 : Int32} {m : Me} (hf : fX4_withoutHeld_35 k5 a1 x2 x3 x4 m = some res) (ha1 : kd a1 = 2) (hI : Inv m) : TT InvS (Call 0) mX4_withoutHeld (35, [(0, .ref 123), (1, .ref a1), (2, .int x2), (3, .int x3), (4, .int x4)], [], S, m) (some (.int res.1)) (S, res.2) := by
  unfold fX4_withoutHeld_35 at hf
  refine to_iinc (q := 38) (v := (x4 + (1 : Int32))) rfl (congrArg (fun z => x4 + z) ic_1) [(4, .int (x4 + (1 : Int32))), (0, .ref 123), (1, .ref a1), (2, .int x2), (3, .int x3)] rfl (by decide) dX4_withoutHeld_35 rfl ?_
  refine to_goto (q := 5) dX4_withoutHeld_38 rfl ?_
  exact to_ext [(0, .ref 123), (1, .ref a1), (2, .int x2), (3, .int x3), (4, .int (x4 + (1 : Int32)))] (ext_cons rfl (ext_cons rfl (ext_cons rfl (ext_cons rfl (ext_cons rfl ext_nil))))) (hk5 hf (ha1) hI)
def fX4_withoutHeld_5 (n : Nat) (a1 : Nat) (x2 : Int32) (x3 : Int32) (x4 : Int32) (m : Me) : Option (Int32 × Me) := match n with
  | 0 => none
  | n + 1 => if (m.1 a1 7) ≤ x4 then some (x3, m) else ck (inb x4 6) (if ((m.1 125 x4.toNatClampNeg) &&& x2) = (0 : Int32) then fX4_withoutHeld_35 (fX4_withoutHeld_5 n) a1 x2 x3 x4 m else fX4_withoutHeld_35 (fX4_withoutHeld_5 n) a1 x2 ((x3 &&& (((1 : Int32) <<< (x4 &&& 31)) ^^^ (-1 : Int32)))) x4 m)
set_option maxRecDepth 20000 in
theorem kX4_withoutHeld_5 {S : Sh} (hS : ShOK S) {res : Int32 × Me} (n : Nat) : ∀ {a1 : Nat} {x2 : Int32} {x3 : Int32} {x4 : Int32} {m : Me}, fX4_withoutHeld_5 n a1 x2 x3 x4 m = some res → kd a1 = 2 → Inv m → TT InvS (Call 0) mX4_withoutHeld (5, [(0, .ref 123), (1, .ref a1), (2, .int x2), (3, .int x3), (4, .int x4)], [], S, m) (some (.int res.1)) (S, res.2) := by
  induction n with
  | zero => intro a1 x2 x3 x4 m hf; cases hf
  | succ n ih =>
    intro a1 x2 x3 x4 m hf ha1 hI
    unfold fX4_withoutHeld_5 at hf
    refine to_iload (q := 7) rfl dX4_withoutHeld_5 rfl ?_
    refine to_aload_n (q := 8) rfl (kd_4 (ha1) (by decide)) dX4_withoutHeld_7 rfl ?_
    refine to_getI (q := 11) (k0 := 2) (C := RX2) (T := TX2) (N := 14) (j := 7) rfl fx_X4_21 (sh_kd hS ha1 (by decide)) rfl dX4_withoutHeld_8 rfl ?_
    by_cases h1 : (m.1 a1 7) ≤ x4
    · have hf := ite_pos h1 hf
      refine to_icT (q := 41) (op := .ge) h1 dX4_withoutHeld_11 rfl ?_
      refine to_iload_n (q := 42) rfl dX4_withoutHeld_41 rfl ?_
      cases hf
      exact to_iret dX4_withoutHeld_42 rfl rfl rfl rfl hI
    · have hf := ite_neg h1 hf
      refine to_icF (q := 14) (op := .ge) 41 h1 dX4_withoutHeld_11 rfl rfl ?_
      refine to_aload_n (q := 15) rfl (by decide) dX4_withoutHeld_14 rfl ?_
      refine to_getR (q := 18) (b := 125) (k0 := 4) (C := RX4) (T := TX4) (N := 5) (j := 1) rfl fx_X4_15 (h_123 hS) rfl (iv_123_1 hI) dX4_withoutHeld_15 rfl ?_
      refine to_iload (q := 20) rfl dX4_withoutHeld_18 rfl ?_
      obtain ⟨hb2, hf⟩ := ck_some hf
      refine to_iaj (q := 21) (h_125 hS) hb2 (rfl) dX4_withoutHeld_20 rfl ?_
      refine to_iload_n (q := 22) rfl dX4_withoutHeld_21 rfl ?_
      refine to_iand (q := 23) dX4_withoutHeld_22 rfl ?_
      by_cases h3 : ((m.1 125 x4.toNatClampNeg) &&& x2) = (0 : Int32)
      · have hf := ite_pos h3 hf
        refine to_ifT (q := 35) (op := .eq) h3 dX4_withoutHeld_23 rfl ?_
        exact to_ext [(0, .ref 123), (1, .ref a1), (2, .int x2), (3, .int x3), (4, .int x4)] (ext_cons rfl (ext_cons rfl (ext_cons rfl (ext_cons rfl (ext_cons rfl ext_nil))))) (kX4_withoutHeld_35 hS ih hf (ha1) hI)
      · have hf := ite_neg h3 hf
        refine to_ifF (q := 26) (op := .eq) 35 h3 dX4_withoutHeld_23 rfl rfl ?_
        refine to_iload_n (q := 27) rfl dX4_withoutHeld_26 rfl ?_
        refine to_iconst (q := 28) ic_1 dX4_withoutHeld_27 rfl ?_
        refine to_iload (q := 30) rfl dX4_withoutHeld_28 rfl ?_
        refine to_ishl (q := 31) dX4_withoutHeld_30 rfl ?_
        refine to_iconst (q := 32) ic_m1 dX4_withoutHeld_31 rfl ?_
        refine to_ixor (q := 33) dX4_withoutHeld_32 rfl ?_
        refine to_iand (q := 34) dX4_withoutHeld_33 rfl ?_
        refine to_istore_n (q := 35) [(3, .int (x3 &&& (((1 : Int32) <<< (x4 &&& 31)) ^^^ (-1 : Int32)))), (0, .ref 123), (1, .ref a1), (2, .int x2), (4, .int x4)] rfl (by decide) dX4_withoutHeld_34 rfl ?_
        exact to_ext [(0, .ref 123), (1, .ref a1), (2, .int x2), (3, .int (x3 &&& (((1 : Int32) <<< (x4 &&& 31)) ^^^ (-1 : Int32)))), (4, .int x4)] (ext_cons rfl (ext_cons rfl (ext_cons rfl (ext_cons rfl (ext_cons rfl ext_nil))))) (kX4_withoutHeld_35 hS ih hf (ha1) hI)
def fX4_withoutHeld (a1 : Nat) (x2 : Int32) (m : Me) : Option (Int32 × Me) := fX4_withoutHeld_5 FU a1 x2 x2 ((0 : Int32)) m
set_option maxRecDepth 20000 in
theorem kX4_withoutHeld {S : Sh} (hS : ShOK S) {res : Int32 × Me} {a1 : Nat} {x2 : Int32} {m : Me} (hf : fX4_withoutHeld a1 x2 m = some res) (ha1 : kd a1 = 2) (hI : Inv m) : Call 1 mX4_withoutHeld [.ref 123, .ref a1, .int x2] (S, m) (some (.int res.1)) (S, res.2) ∧ Inv res.2 := by
  refine call_of (P := InvS) (Nat.le_of_ble_eq_true rfl) (by simp [Value.category]) ?_
  show TT InvS (Call 0) mX4_withoutHeld (0, [(0, .ref 123), (1, .ref a1), (2, .int x2)], [], S, m) _ _
  unfold fX4_withoutHeld at hf
  refine to_iload_n (q := 1) rfl dX4_withoutHeld_0 rfl ?_
  refine to_istore_n (q := 2) [(3, .int x2), (0, .ref 123), (1, .ref a1), (2, .int x2)] rfl (by decide) dX4_withoutHeld_1 rfl ?_
  refine to_iconst (q := 3) ic_0 dX4_withoutHeld_2 rfl ?_
  refine to_istore (q := 5) [(4, .int (0 : Int32)), (3, .int x2), (0, .ref 123), (1, .ref a1), (2, .int x2)] rfl (by decide) dX4_withoutHeld_3 rfl ?_
  exact to_ext [(0, .ref 123), (1, .ref a1), (2, .int x2), (3, .int x2), (4, .int (0 : Int32))] (ext_cons rfl (ext_cons rfl (ext_cons rfl (ext_cons rfl (ext_cons rfl ext_nil))))) (kX4_withoutHeld_5 hS FU hf (ha1) hI)
def fX4_shortestOf_7 (n : Nat) (a1 : Nat) (x2 : Int32) (x3 : Int32) (x4 : Int32) (m : Me) : Option (Int32 × Me) := match n with
  | 0 => none
  | n + 1 => if (m.1 a1 7) ≤ x4 then some (x3, m) else ck (inb ((x2 * (6 : Int32)) + x4) 384) (fX4_shortestOf_7 n a1 x2 ((if (m.1 126 ((x2 * (6 : Int32)) + x4).toNatClampNeg) < x3 then (m.1 126 ((x2 * (6 : Int32)) + x4).toNatClampNeg) else x3)) ((x4 + (1 : Int32))) m)
set_option maxRecDepth 20000 in
theorem kX4_shortestOf_7 {S : Sh} (hS : ShOK S) {res : Int32 × Me} (n : Nat) : ∀ {a1 : Nat} {x2 : Int32} {x3 : Int32} {x4 : Int32} {m : Me}, fX4_shortestOf_7 n a1 x2 x3 x4 m = some res → kd a1 = 2 → Inv m → TT InvS (Call 0) mX4_shortestOf (7, [(0, .ref 123), (1, .ref a1), (2, .int x2), (3, .int x3), (4, .int x4)], [], S, m) (some (.int res.1)) (S, res.2) := by
  induction n with
  | zero => intro a1 x2 x3 x4 m hf; cases hf
  | succ n ih =>
    intro a1 x2 x3 x4 m hf ha1 hI
    unfold fX4_shortestOf_7 at hf
    refine to_iload (q := 9) rfl dX4_shortestOf_7 rfl ?_
    refine to_aload_n (q := 10) rfl (kd_4 (ha1) (by decide)) dX4_shortestOf_9 rfl ?_
    refine to_getI (q := 13) (k0 := 2) (C := RX2) (T := TX2) (N := 14) (j := 7) rfl fx_X4_21 (sh_kd hS ha1 (by decide)) rfl dX4_shortestOf_10 rfl ?_
    by_cases h1 : (m.1 a1 7) ≤ x4
    · have hf := ite_pos h1 hf
      refine to_icT (q := 39) (op := .ge) h1 dX4_shortestOf_13 rfl ?_
      refine to_iload_n (q := 40) rfl dX4_shortestOf_39 rfl ?_
      cases hf
      exact to_iret dX4_shortestOf_40 rfl rfl rfl rfl hI
    · have hf := ite_neg h1 hf
      refine to_icF (q := 16) (op := .ge) 39 h1 dX4_shortestOf_13 rfl rfl ?_
      refine to_iload_n (q := 17) rfl dX4_shortestOf_16 rfl ?_
      refine to_aload_n (q := 18) rfl (by decide) dX4_shortestOf_17 rfl ?_
      refine to_getR (q := 21) (b := 126) (k0 := 4) (C := RX4) (T := TX4) (N := 5) (j := 2) rfl fx_X4_18 (h_123 hS) rfl (iv_123_2 hI) dX4_shortestOf_18 rfl ?_
      refine to_iload_n (q := 22) rfl dX4_shortestOf_21 rfl ?_
      refine to_bipush (q := 24) bp_6 dX4_shortestOf_22 rfl ?_
      refine to_imul (q := 25) dX4_shortestOf_24 rfl ?_
      refine to_iload (q := 27) rfl dX4_shortestOf_25 rfl ?_
      refine to_iadd (q := 28) dX4_shortestOf_27 rfl ?_
      obtain ⟨hb2, hf⟩ := ck_some hf
      refine to_iaj (q := 29) (h_126 hS) hb2 (rfl) dX4_shortestOf_28 rfl ?_
      refine to_min (q := 32) dX4_shortestOf_29 rfl (Nat.le_of_ble_eq_true rfl) (lc_min lm_X4_79) ?_
      refine to_istore_n (q := 33) [(3, .int (if (m.1 126 ((x2 * (6 : Int32)) + x4).toNatClampNeg) < x3 then (m.1 126 ((x2 * (6 : Int32)) + x4).toNatClampNeg) else x3)), (0, .ref 123), (1, .ref a1), (2, .int x2), (4, .int x4)] rfl (by decide) dX4_shortestOf_32 rfl ?_
      refine to_iinc (q := 36) (v := (x4 + (1 : Int32))) rfl (congrArg (fun z => x4 + z) ic_1) [(4, .int (x4 + (1 : Int32))), (3, .int (if (m.1 126 ((x2 * (6 : Int32)) + x4).toNatClampNeg) < x3 then (m.1 126 ((x2 * (6 : Int32)) + x4).toNatClampNeg) else x3)), (0, .ref 123), (1, .ref a1), (2, .int x2)] rfl (by decide) dX4_shortestOf_33 rfl ?_
      refine to_goto (q := 7) dX4_shortestOf_36 rfl ?_
      exact to_ext [(0, .ref 123), (1, .ref a1), (2, .int x2), (3, .int (if (m.1 126 ((x2 * (6 : Int32)) + x4).toNatClampNeg) < x3 then (m.1 126 ((x2 * (6 : Int32)) + x4).toNatClampNeg) else x3)), (4, .int (x4 + (1 : Int32)))] (ext_cons rfl (ext_cons rfl (ext_cons rfl (ext_cons rfl (ext_cons rfl ext_nil))))) (ih hf (ha1) hI)
def fX4_shortestOf (a1 : Nat) (x2 : Int32) (m : Me) : Option (Int32 × Me) := fX4_shortestOf_7 FU a1 x2 ((1000 : Int32)) ((0 : Int32)) m
set_option maxRecDepth 20000 in
theorem kX4_shortestOf {S : Sh} (hS : ShOK S) {res : Int32 × Me} {a1 : Nat} {x2 : Int32} {m : Me} (hf : fX4_shortestOf a1 x2 m = some res) (ha1 : kd a1 = 2) (hI : Inv m) : Call 1 mX4_shortestOf [.ref 123, .ref a1, .int x2] (S, m) (some (.int res.1)) (S, res.2) ∧ Inv res.2 := by
  refine call_of (P := InvS) (Nat.le_of_ble_eq_true rfl) (by simp [Value.category]) ?_
  show TT InvS (Call 0) mX4_shortestOf (0, [(0, .ref 123), (1, .ref a1), (2, .int x2)], [], S, m) _ _
  unfold fX4_shortestOf at hf
  refine to_sipush (q := 3) sp_1000 dX4_shortestOf_0 rfl ?_
  refine to_istore_n (q := 4) [(3, .int (1000 : Int32)), (0, .ref 123), (1, .ref a1), (2, .int x2)] rfl (by decide) dX4_shortestOf_3 rfl ?_
  refine to_iconst (q := 5) ic_0 dX4_shortestOf_4 rfl ?_
  refine to_istore (q := 7) [(4, .int (0 : Int32)), (3, .int (1000 : Int32)), (0, .ref 123), (1, .ref a1), (2, .int x2)] rfl (by decide) dX4_shortestOf_5 rfl ?_
  exact to_ext [(0, .ref 123), (1, .ref a1), (2, .int x2), (3, .int (1000 : Int32)), (4, .int (0 : Int32))] (ext_cons rfl (ext_cons rfl (ext_cons rfl (ext_cons rfl (ext_cons rfl ext_nil))))) (kX4_shortestOf_7 hS FU hf (ha1) hI)
def fX4_weigh_47 (m : Me) : Option (Me) := some m
set_option maxRecDepth 20000 in
theorem kX4_weigh_47 {S : Sh} (hS : ShOK S) {res : Me} {m : Me} (hf : fX4_weigh_47 m = some res) (hI : Inv m) : TT InvS (Call 1) mX4_weigh (47, [], [], S, m) none (S, res) := by
  unfold fX4_weigh_47 at hf
  cases hf
  exact to_vret dX4_weigh_47 rfl rfl rfl hI
def fX4_weigh_37 (x1 : Int32) (x2 : Int32) (m : Me) : Option (Me) := fX4_weigh_47 (setI (setI m 123 3 x1) 123 4 x2)
set_option maxRecDepth 20000 in
theorem kX4_weigh_37 {S : Sh} (hS : ShOK S) {res : Me} {x1 : Int32} {x2 : Int32} {m : Me} (hf : fX4_weigh_37 x1 x2 m = some res) (hI : Inv m) : TT InvS (Call 1) mX4_weigh (37, [(0, .ref 123), (1, .int x1), (2, .int x2)], [], S, m) none (S, res) := by
  unfold fX4_weigh_37 at hf
  refine to_aload_n (q := 38) rfl (by decide) dX4_weigh_37 rfl ?_
  refine to_iload_n (q := 39) rfl dX4_weigh_38 rfl ?_
  refine to_putI (q := 42) (ty := .int) (k0 := 4) (C := RX4) (T := TX4) (N := 5) (j := 3) rfl fx_X4_41 (h_123 hS) rfl pD_I (Or.inl rfl) (nf_I _) dX4_weigh_39 rfl ?_
  refine to_aload_n (q := 43) rfl (by decide) dX4_weigh_42 rfl ?_
  refine to_iload_n (q := 44) rfl dX4_weigh_43 rfl ?_
  refine to_putI (q := 47) (ty := .int) (k0 := 4) (C := RX4) (T := TX4) (N := 5) (j := 4) rfl fx_X4_44 (h_123 hS) rfl pD_I (Or.inl rfl) (nf_I _) dX4_weigh_44 rfl ?_
  exact to_ext [] ext_nil (kX4_weigh_47 hS hf hI)
def fX4_weigh (x1 : Int32) (x2 : Int32) (x3 : Int32) (m : Me) : Option (Me) := cl2 (fJ6_bitCount_0f7a4 x1 m) fun r3 m4 => cl2 (fJ6_bitCount_0f7a4 (m4.1 123 3) m4) fun r7 m8 => if x3 < x2 then fX4_weigh_47 m8 else if (0 : Int32) < (r3 - r7) then fX4_weigh_37 x1 x2 m8 else if (r3 - r7) = (0 : Int32) then if (m8.1 123 4) ≤ x2 then fX4_weigh_47 m8 else fX4_weigh_37 x1 x2 m8 else fX4_weigh_47 m8
set_option maxRecDepth 20000 in
theorem kX4_weigh {S : Sh} (hS : ShOK S) {res : Me} {x1 : Int32} {x2 : Int32} {x3 : Int32} {m : Me} (hf : fX4_weigh x1 x2 x3 m = some res) (hI : Inv m) : Call 2 mX4_weigh [.ref 123, .int x1, .int x2, .int x3] (S, m) none (S, res) ∧ Inv res := by
  refine call_of (P := InvS) (Nat.le_of_ble_eq_true rfl) (by simp [Value.category]) ?_
  show TT InvS (Call 1) mX4_weigh (0, [(0, .ref 123), (1, .int x1), (2, .int x2), (3, .int x3)], [], S, m) _ _
  unfold fX4_weigh at hf
  refine to_iload_n (q := 1) rfl dX4_weigh_0 rfl ?_
  obtain ⟨r3, m4, hc1, hf⟩ := cl2_some hf
  have qc2 := kJ6_bitCount_0f7a4 hS hc1 hI
  refine to_statI (q := 4) mJ6_bitCount_0f7a4 [.int x1] dX4_weigh_1 rfl rfl (Nat.le_of_ble_eq_true rfl) mo_J6_bitCount_0f7a4 (Or.inl ml_X4_93) sa_J6_bitCount_0f7a4 (Call_mono (by decide) qc2.1) ?_
  have hI := qc2.2
  refine to_aload_n (q := 5) rfl (by decide) dX4_weigh_4 rfl ?_
  refine to_getI (q := 8) (k0 := 4) (C := RX4) (T := TX4) (N := 5) (j := 3) rfl fx_X4_41 (h_123 hS) rfl dX4_weigh_5 rfl ?_
  obtain ⟨r7, m8, hc5, hf⟩ := cl2_some hf
  have qc6 := kJ6_bitCount_0f7a4 hS hc5 hI
  refine to_statI (q := 11) mJ6_bitCount_0f7a4 [.int (m4.1 123 3)] dX4_weigh_8 rfl rfl (Nat.le_of_ble_eq_true rfl) mo_J6_bitCount_0f7a4 (Or.inl ml_X4_93) sa_J6_bitCount_0f7a4 (Call_mono (by decide) qc6.1) ?_
  have hI := qc6.2
  refine to_isub (q := 12) dX4_weigh_11 rfl ?_
  refine to_istore (q := 14) [(4, .int (r3 - r7)), (0, .ref 123), (1, .int x1), (2, .int x2), (3, .int x3)] rfl (by decide) dX4_weigh_12 rfl ?_
  refine to_iload_n (q := 15) rfl dX4_weigh_14 rfl ?_
  refine to_iload_n (q := 16) rfl dX4_weigh_15 rfl ?_
  by_cases h9 : x3 < x2
  · have hf := ite_pos h9 hf
    refine to_icT (q := 47) (op := .gt) h9 dX4_weigh_16 rfl ?_
    exact to_ext [] ext_nil (kX4_weigh_47 hS hf hI)
  · have hf := ite_neg h9 hf
    refine to_icF (q := 19) (op := .gt) 47 h9 dX4_weigh_16 rfl rfl ?_
    refine to_iload (q := 21) rfl dX4_weigh_19 rfl ?_
    by_cases h10 : (0 : Int32) < (r3 - r7)
    · have hf := ite_pos h10 hf
      refine to_ifT (q := 37) (op := .gt) h10 dX4_weigh_21 rfl ?_
      exact to_ext [(0, .ref 123), (1, .int x1), (2, .int x2)] (ext_cons rfl (ext_cons rfl (ext_cons rfl ext_nil))) (kX4_weigh_37 hS hf hI)
    · have hf := ite_neg h10 hf
      refine to_ifF (q := 24) (op := .gt) 37 h10 dX4_weigh_21 rfl rfl ?_
      refine to_iload (q := 26) rfl dX4_weigh_24 rfl ?_
      by_cases h11 : (r3 - r7) = (0 : Int32)
      · have hf := ite_pos h11 hf
        refine to_ifF (q := 29) (op := .ne) 47 (fun z => z h11) dX4_weigh_26 rfl rfl ?_
        refine to_iload_n (q := 30) rfl dX4_weigh_29 rfl ?_
        refine to_aload_n (q := 31) rfl (by decide) dX4_weigh_30 rfl ?_
        refine to_getI (q := 34) (k0 := 4) (C := RX4) (T := TX4) (N := 5) (j := 4) rfl fx_X4_44 (h_123 hS) rfl dX4_weigh_31 rfl ?_
        by_cases h12 : (m8.1 123 4) ≤ x2
        · have hf := ite_pos h12 hf
          refine to_icT (q := 47) (op := .ge) h12 dX4_weigh_34 rfl ?_
          exact to_ext [] ext_nil (kX4_weigh_47 hS hf hI)
        · have hf := ite_neg h12 hf
          refine to_icF (q := 37) (op := .ge) 47 h12 dX4_weigh_34 rfl rfl ?_
          exact to_ext [(0, .ref 123), (1, .int x1), (2, .int x2)] (ext_cons rfl (ext_cons rfl (ext_cons rfl ext_nil))) (kX4_weigh_37 hS hf hI)
      · have hf := ite_neg h11 hf
        refine to_ifT (q := 47) (op := .ne) h11 dX4_weigh_26 rfl ?_
        exact to_ext [] ext_nil (kX4_weigh_47 hS hf hI)
def fX4_packWords_102 (k53 : Nat → Int32 → Int32 → Me → Option (Me)) (a1 : Nat) (x2 : Int32) (x3 : Int32) (m : Me) : Option (Me) := k53 a1 x2 ((x3 + (1 : Int32))) m
set_option maxRecDepth 20000 in
theorem kX4_packWords_102 {S : Sh} (hS : ShOK S) {res : Me} {k53 : Nat → Int32 → Int32 → Me → Option (Me)} (hk53 : ∀ {a1 : Nat} {x2 : Int32} {x3 : Int32} {m : Me}, k53 a1 x2 x3 m = some res → kd a1 = 2 → Inv m → TT InvS (Call 3) mX4_packWords (53, [(0, .ref 123), (1, .ref a1), (2, .int x2), (3, .int x3)], [], S, m) none (S, res)) {a1 : Nat} {x2 : Int32} {x3 : Int32} {m : Me} (hf : fX4_packWords_102 k53 a1 x2 x3 m = some res) (ha1 : kd a1 = 2) (hI : Inv m) : TT InvS (Call 3) mX4_packWords (102, [(0, .ref 123), (1, .ref a1), (2, .int x2), (3, .int x3)], [], S, m) none (S, res) := by
  unfold fX4_packWords_102 at hf
  refine to_iinc (q := 105) (v := (x3 + (1 : Int32))) rfl (congrArg (fun z => x3 + z) ic_1) [(3, .int (x3 + (1 : Int32))), (0, .ref 123), (1, .ref a1), (2, .int x2)] rfl (by decide) dX4_packWords_102 rfl ?_
  refine to_goto (q := 53) dX4_packWords_105 rfl ?_
  exact to_ext [(0, .ref 123), (1, .ref a1), (2, .int x2), (3, .int (x3 + (1 : Int32)))] (ext_cons rfl (ext_cons rfl (ext_cons rfl (ext_cons rfl ext_nil)))) (hk53 hf (ha1) hI)
def fX4_packWords_53 (n : Nat) (a1 : Nat) (x2 : Int32) (x3 : Int32) (m : Me) : Option (Me) := match n with
  | 0 => none
  | n + 1 => if ((1 : Int32) <<< ((m.1 a1 7) &&& 31)) ≤ x3 then some m else if (x3 &&& (x2 ^^^ (-1 : Int32))) = (0 : Int32) then cl1 (fX4_findShortest a1 x3 m) fun m15 => cl2 (fX4_withoutHeld a1 x3 m15) fun r18 m19 => cl2 (fX4_shortestOf a1 r18 m19) fun r22 m23 => cl1 (fX4_weigh x3 r22 (((m23.1 a1 0) * (m23.1 a1 1))) m23) fun m26 => fX4_packWords_102 (fX4_packWords_53 n) a1 x2 x3 m26 else fX4_packWords_102 (fX4_packWords_53 n) a1 x2 x3 m
set_option maxRecDepth 20000 in
theorem kX4_packWords_53 {S : Sh} (hS : ShOK S) {res : Me} (n : Nat) : ∀ {a1 : Nat} {x2 : Int32} {x3 : Int32} {m : Me}, fX4_packWords_53 n a1 x2 x3 m = some res → kd a1 = 2 → Inv m → TT InvS (Call 3) mX4_packWords (53, [(0, .ref 123), (1, .ref a1), (2, .int x2), (3, .int x3)], [], S, m) none (S, res) := by
  induction n with
  | zero => intro a1 x2 x3 m hf; cases hf
  | succ n ih =>
    intro a1 x2 x3 m hf ha1 hI
    unfold fX4_packWords_53 at hf
    refine to_iload_n (q := 54) rfl dX4_packWords_53 rfl ?_
    refine to_iconst (q := 55) ic_1 dX4_packWords_54 rfl ?_
    refine to_aload_n (q := 56) rfl (kd_4 (ha1) (by decide)) dX4_packWords_55 rfl ?_
    refine to_getI (q := 59) (k0 := 2) (C := RX2) (T := TX2) (N := 14) (j := 7) rfl fx_X4_21 (sh_kd hS ha1 (by decide)) rfl dX4_packWords_56 rfl ?_
    refine to_ishl (q := 60) dX4_packWords_59 rfl ?_
    by_cases h11 : ((1 : Int32) <<< ((m.1 a1 7) &&& 31)) ≤ x3
    · have hf := ite_pos h11 hf
      refine to_icT (q := 108) (op := .ge) h11 dX4_packWords_60 rfl ?_
      cases hf
      exact to_vret dX4_packWords_108 rfl rfl rfl hI
    · have hf := ite_neg h11 hf
      refine to_icF (q := 63) (op := .ge) 108 h11 dX4_packWords_60 rfl rfl ?_
      refine to_iload_n (q := 64) rfl dX4_packWords_63 rfl ?_
      refine to_iload_n (q := 65) rfl dX4_packWords_64 rfl ?_
      refine to_iconst (q := 66) ic_m1 dX4_packWords_65 rfl ?_
      refine to_ixor (q := 67) dX4_packWords_66 rfl ?_
      refine to_iand (q := 68) dX4_packWords_67 rfl ?_
      by_cases h12 : (x3 &&& (x2 ^^^ (-1 : Int32))) = (0 : Int32)
      · have hf := ite_pos h12 hf
        refine to_ifF (q := 71) (op := .ne) 102 (fun z => z h12) dX4_packWords_68 rfl rfl ?_
        refine to_aload_n (q := 72) rfl (by decide) dX4_packWords_71 rfl ?_
        refine to_aload_n (q := 73) rfl (kd_4 (ha1) (by decide)) dX4_packWords_72 rfl ?_
        refine to_iload_n (q := 74) rfl dX4_packWords_73 rfl ?_
        obtain ⟨m15, hc13, hf⟩ := cl1_some hf
        have qc14 := kX4_findShortest hS hc13 (ha1) hI
        refine to_virtV (q := 77) mX4_findShortest [.ref a1, .int x3] dX4_packWords_74 rfl rfl (Nat.le_of_ble_eq_true rfl) mo_X4_findShortest mv_X4_47 (Or.inl ⟨_, _, _, h_123 hS, rfl, rfl⟩) (Call_mono (by decide) qc14.1) ?_
        have hI := qc14.2
        refine to_aload_n (q := 78) rfl (by decide) dX4_packWords_77 rfl ?_
        refine to_iload_n (q := 79) rfl dX4_packWords_78 rfl ?_
        refine to_aload_n (q := 80) rfl (by decide) dX4_packWords_79 rfl ?_
        refine to_aload_n (q := 81) rfl (kd_4 (ha1) (by decide)) dX4_packWords_80 rfl ?_
        refine to_aload_n (q := 82) rfl (by decide) dX4_packWords_81 rfl ?_
        refine to_aload_n (q := 83) rfl (kd_4 (ha1) (by decide)) dX4_packWords_82 rfl ?_
        refine to_iload_n (q := 84) rfl dX4_packWords_83 rfl ?_
        obtain ⟨r18, m19, hc16, hf⟩ := cl2_some hf
        have qc17 := kX4_withoutHeld hS hc16 (ha1) hI
        refine to_virtI (q := 87) mX4_withoutHeld [.ref a1, .int x3] dX4_packWords_84 rfl rfl (Nat.le_of_ble_eq_true rfl) mo_X4_withoutHeld mv_X4_51 (Or.inl ⟨_, _, _, h_123 hS, rfl, rfl⟩) (Call_mono (by decide) qc17.1) ?_
        have hI := qc17.2
        obtain ⟨r22, m23, hc20, hf⟩ := cl2_some hf
        have qc21 := kX4_shortestOf hS hc20 (ha1) hI
        refine to_virtI (q := 90) mX4_shortestOf [.ref a1, .int r18] dX4_packWords_87 rfl rfl (Nat.le_of_ble_eq_true rfl) mo_X4_shortestOf mv_X4_55 (Or.inl ⟨_, _, _, h_123 hS, rfl, rfl⟩) (Call_mono (by decide) qc21.1) ?_
        have hI := qc21.2
        refine to_aload_n (q := 91) rfl (kd_4 (ha1) (by decide)) dX4_packWords_90 rfl ?_
        refine to_getI (q := 94) (k0 := 2) (C := RX2) (T := TX2) (N := 14) (j := 0) rfl fx_X4_58 (sh_kd hS ha1 (by decide)) rfl dX4_packWords_91 rfl ?_
        refine to_aload_n (q := 95) rfl (kd_4 (ha1) (by decide)) dX4_packWords_94 rfl ?_
        refine to_getI (q := 98) (k0 := 2) (C := RX2) (T := TX2) (N := 14) (j := 1) rfl fx_X4_61 (sh_kd hS ha1 (by decide)) rfl dX4_packWords_95 rfl ?_
        refine to_imul (q := 99) dX4_packWords_98 rfl ?_
        obtain ⟨m26, hc24, hf⟩ := cl1_some hf
        have qc25 := kX4_weigh hS hc24 hI
        refine to_virtV (q := 102) mX4_weigh [.int x3, .int r22, .int ((m23.1 a1 0) * (m23.1 a1 1))] dX4_packWords_99 rfl rfl (Nat.le_of_ble_eq_true rfl) mo_X4_weigh mv_X4_64 (Or.inl ⟨_, _, _, h_123 hS, rfl, rfl⟩) (Call_mono (by decide) qc25.1) ?_
        have hI := qc25.2
        exact to_ext [(0, .ref 123), (1, .ref a1), (2, .int x2), (3, .int x3)] (ext_cons rfl (ext_cons rfl (ext_cons rfl (ext_cons rfl ext_nil)))) (kX4_packWords_102 hS ih hf (ha1) hI)
      · have hf := ite_neg h12 hf
        refine to_ifT (q := 102) (op := .ne) h12 dX4_packWords_68 rfl ?_
        exact to_ext [(0, .ref 123), (1, .ref a1), (2, .int x2), (3, .int x3)] (ext_cons rfl (ext_cons rfl (ext_cons rfl (ext_cons rfl ext_nil)))) (kX4_packWords_102 hS ih hf (ha1) hI)
def fX4_packWords_30 (k4 : Nat → Int32 → Int32 → Me → Option (Me)) (a1 : Nat) (x2 : Int32) (x3 : Int32) (m : Me) : Option (Me) := k4 a1 x2 ((x3 + (1 : Int32))) m
set_option maxRecDepth 20000 in
theorem kX4_packWords_30 {S : Sh} (hS : ShOK S) {res : Me} {k4 : Nat → Int32 → Int32 → Me → Option (Me)} (hk4 : ∀ {a1 : Nat} {x2 : Int32} {x3 : Int32} {m : Me}, k4 a1 x2 x3 m = some res → kd a1 = 2 → Inv m → TT InvS (Call 3) mX4_packWords (4, [(0, .ref 123), (1, .ref a1), (2, .int x2), (3, .int x3)], [], S, m) none (S, res)) {a1 : Nat} {x2 : Int32} {x3 : Int32} {m : Me} (hf : fX4_packWords_30 k4 a1 x2 x3 m = some res) (ha1 : kd a1 = 2) (hI : Inv m) : TT InvS (Call 3) mX4_packWords (30, [(0, .ref 123), (1, .ref a1), (2, .int x2), (3, .int x3)], [], S, m) none (S, res) := by
  unfold fX4_packWords_30 at hf
  refine to_iinc (q := 33) (v := (x3 + (1 : Int32))) rfl (congrArg (fun z => x3 + z) ic_1) [(3, .int (x3 + (1 : Int32))), (0, .ref 123), (1, .ref a1), (2, .int x2)] rfl (by decide) dX4_packWords_30 rfl ?_
  refine to_goto (q := 4) dX4_packWords_33 rfl ?_
  exact to_ext [(0, .ref 123), (1, .ref a1), (2, .int x2), (3, .int (x3 + (1 : Int32)))] (ext_cons rfl (ext_cons rfl (ext_cons rfl (ext_cons rfl ext_nil)))) (hk4 hf (ha1) hI)
def fX4_packWords_4 (n : Nat) (a1 : Nat) (x2 : Int32) (x3 : Int32) (m : Me) : Option (Me) := match n with
  | 0 => none
  | n + 1 => if (m.1 a1 7) ≤ x3 then cl1 (fX4_compareWords a1 m) fun m4 => fX4_packWords_53 FU a1 x2 ((1 : Int32)) (setI (setI m4 123 3 (0 : Int32)) 123 4 (0 : Int32)) else ck (inb x3 6) (cl2 (fX8_hasBare (a1 + 7 + 2 * x3.toNatClampNeg) m) fun r8 m9 => if r8 = (0 : Int32) then fX4_packWords_30 (fX4_packWords_4 n) a1 ((x2 ||| ((1 : Int32) <<< (x3 &&& 31)))) x3 m9 else fX4_packWords_30 (fX4_packWords_4 n) a1 x2 x3 m9)
set_option maxRecDepth 20000 in
theorem kX4_packWords_4 {S : Sh} (hS : ShOK S) {res : Me} (n : Nat) : ∀ {a1 : Nat} {x2 : Int32} {x3 : Int32} {m : Me}, fX4_packWords_4 n a1 x2 x3 m = some res → kd a1 = 2 → Inv m → TT InvS (Call 3) mX4_packWords (4, [(0, .ref 123), (1, .ref a1), (2, .int x2), (3, .int x3)], [], S, m) none (S, res) := by
  induction n with
  | zero => intro a1 x2 x3 m hf; cases hf
  | succ n ih =>
    intro a1 x2 x3 m hf ha1 hI
    unfold fX4_packWords_4 at hf
    refine to_iload_n (q := 5) rfl dX4_packWords_4 rfl ?_
    refine to_aload_n (q := 6) rfl (kd_4 (ha1) (by decide)) dX4_packWords_5 rfl ?_
    refine to_getI (q := 9) (k0 := 2) (C := RX2) (T := TX2) (N := 14) (j := 7) rfl fx_X4_21 (sh_kd hS ha1 (by decide)) rfl dX4_packWords_6 rfl ?_
    by_cases h1 : (m.1 a1 7) ≤ x3
    · have hf := ite_pos h1 hf
      refine to_icT (q := 36) (op := .ge) h1 dX4_packWords_9 rfl ?_
      refine to_aload_n (q := 37) rfl (by decide) dX4_packWords_36 rfl ?_
      refine to_aload_n (q := 38) rfl (kd_4 (ha1) (by decide)) dX4_packWords_37 rfl ?_
      obtain ⟨m4, hc2, hf⟩ := cl1_some hf
      have qc3 := kX4_compareWords hS hc2 (ha1) hI
      refine to_virtV (q := 41) mX4_compareWords [.ref a1] dX4_packWords_38 rfl rfl (Nat.le_of_ble_eq_true rfl) mo_X4_compareWords mv_X4_37 (Or.inl ⟨_, _, _, h_123 hS, rfl, rfl⟩) (Call_mono (by decide) qc3.1) ?_
      have hI := qc3.2
      refine to_aload_n (q := 42) rfl (by decide) dX4_packWords_41 rfl ?_
      refine to_iconst (q := 43) ic_0 dX4_packWords_42 rfl ?_
      refine to_putI (q := 46) (ty := .int) (k0 := 4) (C := RX4) (T := TX4) (N := 5) (j := 3) rfl fx_X4_41 (h_123 hS) rfl pD_I (Or.inl rfl) (nf_I _) dX4_packWords_43 rfl ?_
      refine to_aload_n (q := 47) rfl (by decide) dX4_packWords_46 rfl ?_
      refine to_iconst (q := 48) ic_0 dX4_packWords_47 rfl ?_
      refine to_putI (q := 51) (ty := .int) (k0 := 4) (C := RX4) (T := TX4) (N := 5) (j := 4) rfl fx_X4_44 (h_123 hS) rfl pD_I (Or.inl rfl) (nf_I _) dX4_packWords_48 rfl ?_
      refine to_iconst (q := 52) ic_1 dX4_packWords_51 rfl ?_
      refine to_istore_n (q := 53) [(3, .int (1 : Int32)), (0, .ref 123), (1, .ref a1), (2, .int x2)] rfl (by decide) dX4_packWords_52 rfl ?_
      exact to_ext [(0, .ref 123), (1, .ref a1), (2, .int x2), (3, .int (1 : Int32))] (ext_cons rfl (ext_cons rfl (ext_cons rfl (ext_cons rfl ext_nil)))) (kX4_packWords_53 hS FU hf (ha1) hI)
    · have hf := ite_neg h1 hf
      refine to_icF (q := 12) (op := .ge) 36 h1 dX4_packWords_9 rfl rfl ?_
      refine to_aload_n (q := 13) rfl (kd_4 (ha1) (by decide)) dX4_packWords_12 rfl ?_
      refine to_getR (q := 16) (b := a1 + 3) (k0 := 2) (C := RX2) (T := TX2) (N := 14) (j := 6) rfl fx_X4_27 (sh_kd hS ha1 (by decide)) rfl (iv2w hI (ha1)) dX4_packWords_13 rfl ?_
      refine to_iload_n (q := 17) rfl dX4_packWords_16 rfl ?_
      obtain ⟨hb5, hf⟩ := ck_some hf
      refine to_aald (q := 18) (b := a1 + 7 + 2 * x3.toNatClampNeg) (sh_ln hS (kd2w (ha1)) (by decide)) (by decide) hb5 (ivW hI (ha1) hb5) dX4_packWords_17 rfl ?_
      obtain ⟨r8, m9, hc6, hf⟩ := cl2_some hf
      have qc7 := kX8_hasBare hS hc6 (kdW (ha1) hb5) hI
      refine to_virtI (q := 21) mX8_hasBare [] dX4_packWords_18 rfl rfl (Nat.le_of_ble_eq_true rfl) mo_X8_hasBare mv_X4_31 (Or.inl ⟨_, _, _, sh_kd hS (kdW (ha1) hb5) (by decide), rfl, rfl⟩) (Call_mono (by decide) qc7.1) ?_
      have hI := qc7.2
      by_cases h10 : r8 = (0 : Int32)
      · have hf := ite_pos h10 hf
        refine to_ifF (q := 24) (op := .ne) 30 (fun z => z h10) dX4_packWords_21 rfl rfl ?_
        refine to_iload_n (q := 25) rfl dX4_packWords_24 rfl ?_
        refine to_iconst (q := 26) ic_1 dX4_packWords_25 rfl ?_
        refine to_iload_n (q := 27) rfl dX4_packWords_26 rfl ?_
        refine to_ishl (q := 28) dX4_packWords_27 rfl ?_
        refine to_ior (q := 29) dX4_packWords_28 rfl ?_
        refine to_istore_n (q := 30) [(2, .int (x2 ||| ((1 : Int32) <<< (x3 &&& 31)))), (0, .ref 123), (1, .ref a1), (3, .int x3)] rfl (by decide) dX4_packWords_29 rfl ?_
        exact to_ext [(0, .ref 123), (1, .ref a1), (2, .int (x2 ||| ((1 : Int32) <<< (x3 &&& 31)))), (3, .int x3)] (ext_cons rfl (ext_cons rfl (ext_cons rfl (ext_cons rfl ext_nil)))) (kX4_packWords_30 hS ih hf (ha1) hI)
      · have hf := ite_neg h10 hf
        refine to_ifT (q := 30) (op := .ne) h10 dX4_packWords_21 rfl ?_
        exact to_ext [(0, .ref 123), (1, .ref a1), (2, .int x2), (3, .int x3)] (ext_cons rfl (ext_cons rfl (ext_cons rfl (ext_cons rfl ext_nil)))) (kX4_packWords_30 hS ih hf (ha1) hI)
def fX4_packWords (a1 : Nat) (m : Me) : Option (Me) := fX4_packWords_4 FU a1 ((0 : Int32)) ((0 : Int32)) m
set_option maxRecDepth 20000 in
theorem kX4_packWords {S : Sh} (hS : ShOK S) {res : Me} {a1 : Nat} {m : Me} (hf : fX4_packWords a1 m = some res) (ha1 : kd a1 = 2) (hI : Inv m) : Call 4 mX4_packWords [.ref 123, .ref a1] (S, m) none (S, res) ∧ Inv res := by
  refine call_of (P := InvS) (Nat.le_of_ble_eq_true rfl) (by simp [Value.category]) ?_
  show TT InvS (Call 3) mX4_packWords (0, [(0, .ref 123), (1, .ref a1)], [], S, m) _ _
  unfold fX4_packWords at hf
  refine to_iconst (q := 1) ic_0 dX4_packWords_0 rfl ?_
  refine to_istore_n (q := 2) [(2, .int (0 : Int32)), (0, .ref 123), (1, .ref a1)] rfl (by decide) dX4_packWords_1 rfl ?_
  refine to_iconst (q := 3) ic_0 dX4_packWords_2 rfl ?_
  refine to_istore_n (q := 4) [(3, .int (0 : Int32)), (2, .int (0 : Int32)), (0, .ref 123), (1, .ref a1)] rfl (by decide) dX4_packWords_3 rfl ?_
  exact to_ext [(0, .ref 123), (1, .ref a1), (2, .int (0 : Int32)), (3, .int (0 : Int32))] (ext_cons rfl (ext_cons rfl (ext_cons rfl (ext_cons rfl ext_nil)))) (kX4_packWords_4 hS FU hf (ha1) hI)
def fX9_sureLetter_30 (t0 : Int32) (m : Me) : Option (Int32 × Me) := some (t0, m)
set_option maxRecDepth 20000 in
theorem kX9_sureLetter_30 {S : Sh} (hS : ShOK S) {res : Int32 × Me} {t0 : Int32} {m : Me} (hf : fX9_sureLetter_30 t0 m = some res) (hI : Inv m) : TT InvS (Call 1) mX9_sureLetter (30, [], [.int t0], S, m) (some (.int res.1)) (S, res.2) := by
  unfold fX9_sureLetter_30 at hf
  cases hf
  exact to_iret dX9_sureLetter_30 rfl rfl rfl rfl hI
def fX9_sureLetter_19 (m : Me) : Option (Int32 × Me) := fX9_sureLetter_30 ((-3 : Int32)) m
set_option maxRecDepth 20000 in
theorem kX9_sureLetter_19 {S : Sh} (hS : ShOK S) {res : Int32 × Me} {m : Me} (hf : fX9_sureLetter_19 m = some res) (hI : Inv m) : TT InvS (Call 1) mX9_sureLetter (19, [], [], S, m) (some (.int res.1)) (S, res.2) := by
  unfold fX9_sureLetter_19 at hf
  refine to_bipush (q := 21) bp_m3 dX9_sureLetter_19 rfl ?_
  refine to_goto (q := 30) dX9_sureLetter_21 rfl ?_
  exact to_ext [] ext_nil (kX9_sureLetter_30 hS hf hI)
def fX9_sureLetter (x1 : Int32) (x2 : Int32) (m : Me) : Option (Int32 × Me) := cl2 (fX10_cellIndex x1 x2 m) fun r3 m4 => if r3 < (0 : Int32) then fX9_sureLetter_19 m4 else if r3 < (60 : Int32) then ck (inb r3 60) (fX9_sureLetter_30 ((m4.1 95 r3.toNatClampNeg)) m4) else fX9_sureLetter_19 m4
set_option maxRecDepth 20000 in
theorem kX9_sureLetter {S : Sh} (hS : ShOK S) {res : Int32 × Me} {x1 : Int32} {x2 : Int32} {m : Me} (hf : fX9_sureLetter x1 x2 m = some res) (hI : Inv m) : Call 2 mX9_sureLetter [.ref 94, .int x1, .int x2] (S, m) (some (.int res.1)) (S, res.2) ∧ Inv res.2 := by
  refine call_of (P := InvS) (Nat.le_of_ble_eq_true rfl) (by simp [Value.category]) ?_
  show TT InvS (Call 1) mX9_sureLetter (0, [(0, .ref 94), (1, .int x1), (2, .int x2)], [], S, m) _ _
  unfold fX9_sureLetter at hf
  refine to_iload_n (q := 1) rfl dX9_sureLetter_0 rfl ?_
  refine to_iload_n (q := 2) rfl dX9_sureLetter_1 rfl ?_
  obtain ⟨r3, m4, hc1, hf⟩ := cl2_some hf
  have qc2 := kX10_cellIndex hS hc1 hI
  refine to_statI (q := 5) mX10_cellIndex [.int x1, .int x2] dX9_sureLetter_2 rfl rfl (Nat.le_of_ble_eq_true rfl) mo_X10_cellIndex (Or.inr (by decide)) sa_X10_cellIndex (Call_mono (by decide) qc2.1) ?_
  have hI := qc2.2
  refine to_istore_n (q := 6) [(3, .int r3), (0, .ref 94), (1, .int x1), (2, .int x2)] rfl (by decide) dX9_sureLetter_5 rfl ?_
  refine to_iload_n (q := 7) rfl dX9_sureLetter_6 rfl ?_
  by_cases h5 : r3 < (0 : Int32)
  · have hf := ite_pos h5 hf
    refine to_ifT (q := 19) (op := .lt) h5 dX9_sureLetter_7 rfl ?_
    exact to_ext [] ext_nil (kX9_sureLetter_19 hS hf hI)
  · have hf := ite_neg h5 hf
    refine to_ifF (q := 10) (op := .lt) 19 h5 dX9_sureLetter_7 rfl rfl ?_
    refine to_iload_n (q := 11) rfl dX9_sureLetter_10 rfl ?_
    refine to_aload_n (q := 12) rfl (by decide) dX9_sureLetter_11 rfl ?_
    refine to_getR (q := 15) (b := 95) (k0 := 9) (C := RX9) (T := TX9) (N := 2) (j := 0) rfl fx_X9_9 (h_94 hS) rfl (iv_94_0 hI) dX9_sureLetter_12 rfl ?_
    refine to_alen (q := 16) (h_95 hS) (by decide) on_60 dX9_sureLetter_15 rfl ?_
    by_cases h6 : r3 < (60 : Int32)
    · have hf := ite_pos h6 hf
      refine to_icT (q := 24) (op := .lt) h6 dX9_sureLetter_16 rfl ?_
      refine to_aload_n (q := 25) rfl (by decide) dX9_sureLetter_24 rfl ?_
      refine to_getR (q := 28) (b := 95) (k0 := 9) (C := RX9) (T := TX9) (N := 2) (j := 0) rfl fx_X9_9 (h_94 hS) rfl (iv_94_0 hI) dX9_sureLetter_25 rfl ?_
      refine to_iload_n (q := 29) rfl dX9_sureLetter_28 rfl ?_
      obtain ⟨hb7, hf⟩ := ck_some hf
      refine to_iaj (q := 30) (h_95 hS) hb7 (rfl) dX9_sureLetter_29 rfl ?_
      exact to_ext [] ext_nil (kX9_sureLetter_30 hS hf hI)
    · have hf := ite_neg h6 hf
      refine to_icF (q := 19) (op := .lt) 24 h6 dX9_sureLetter_16 rfl rfl ?_
      exact to_ext [] ext_nil (kX9_sureLetter_19 hS hf hI)
def fX9_contradicts_70 (m : Me) : Option (Int32 × Me) := some ((0 : Int32), m)
set_option maxRecDepth 20000 in
theorem kX9_contradicts_70 {S : Sh} (hS : ShOK S) {res : Int32 × Me} {m : Me} (hf : fX9_contradicts_70 m = some res) (hI : Inv m) : TT InvS (Call 2) mX9_contradicts (70, [], [], S, m) (some (.int res.1)) (S, res.2) := by
  unfold fX9_contradicts_70 at hf
  refine to_iconst (q := 71) ic_0 dX9_contradicts_70 rfl ?_
  cases hf
  exact to_iret dX9_contradicts_71 rfl (by decide) rfl rfl hI
def fX9_contradicts_64 (k2 : Nat → Nat → Int32 → Me → Option (Int32 × Me)) (a1 : Nat) (a2 : Nat) (x3 : Int32) (m : Me) : Option (Int32 × Me) := k2 a1 a2 ((x3 + (1 : Int32))) m
set_option maxRecDepth 20000 in
theorem kX9_contradicts_64 {S : Sh} (hS : ShOK S) {res : Int32 × Me} {k2 : Nat → Nat → Int32 → Me → Option (Int32 × Me)} (hk2 : ∀ {a1 : Nat} {a2 : Nat} {x3 : Int32} {m : Me}, k2 a1 a2 x3 m = some res → kd a1 = 8 → kd a2 = 7 → Inv m → TT InvS (Call 2) mX9_contradicts (2, [(0, .ref 94), (1, .ref a1), (2, .ref a2), (3, .int x3)], [], S, m) (some (.int res.1)) (S, res.2)) {a1 : Nat} {a2 : Nat} {x3 : Int32} {m : Me} (hf : fX9_contradicts_64 k2 a1 a2 x3 m = some res) (ha1 : kd a1 = 8) (ha2 : kd a2 = 7) (hI : Inv m) : TT InvS (Call 2) mX9_contradicts (64, [(0, .ref 94), (1, .ref a1), (2, .ref a2), (3, .int x3)], [], S, m) (some (.int res.1)) (S, res.2) := by
  unfold fX9_contradicts_64 at hf
  refine to_iinc (q := 67) (v := (x3 + (1 : Int32))) rfl (congrArg (fun z => x3 + z) ic_1) [(3, .int (x3 + (1 : Int32))), (0, .ref 94), (1, .ref a1), (2, .ref a2)] rfl (by decide) dX9_contradicts_64 rfl ?_
  refine to_goto (q := 2) dX9_contradicts_67 rfl ?_
  exact to_ext [(0, .ref 94), (1, .ref a1), (2, .ref a2), (3, .int (x3 + (1 : Int32)))] (ext_cons rfl (ext_cons rfl (ext_cons rfl (ext_cons rfl ext_nil)))) (hk2 hf (ha1) (ha2) hI)
def fX9_contradicts_2 (n : Nat) (a1 : Nat) (a2 : Nat) (x3 : Int32) (m : Me) : Option (Int32 × Me) := match n with
  | 0 => none
  | n + 1 => if (m.1 a1 1) ≤ x3 then fX9_contradicts_70 m else if (m.1 a2 2) ≤ ((m.1 a1 4) + x3) then fX9_contradicts_70 m else ck (inb ((m.1 a1 4) + x3) 30) (cl2 (fX9_sureLetter (m.1 a1 2) ((m.1 (a2 + 1) ((m.1 a1 4) + x3).toNatClampNeg)) m) fun r6 m7 => if r6 = (-3 : Int32) then fX9_contradicts_64 (fX9_contradicts_2 n) a1 a2 x3 m7 else ck (inb x3 8) (if r6 = (m7.1 (a1 + 1) x3.toNatClampNeg) then fX9_contradicts_64 (fX9_contradicts_2 n) a1 a2 x3 m7 else some ((1 : Int32), m7)))
set_option maxRecDepth 20000 in
theorem kX9_contradicts_2 {S : Sh} (hS : ShOK S) {res : Int32 × Me} (n : Nat) : ∀ {a1 : Nat} {a2 : Nat} {x3 : Int32} {m : Me}, fX9_contradicts_2 n a1 a2 x3 m = some res → kd a1 = 8 → kd a2 = 7 → Inv m → TT InvS (Call 2) mX9_contradicts (2, [(0, .ref 94), (1, .ref a1), (2, .ref a2), (3, .int x3)], [], S, m) (some (.int res.1)) (S, res.2) := by
  induction n with
  | zero => intro a1 a2 x3 m hf; cases hf
  | succ n ih =>
    intro a1 a2 x3 m hf ha1 ha2 hI
    unfold fX9_contradicts_2 at hf
    refine to_iload_n (q := 3) rfl dX9_contradicts_2 rfl ?_
    refine to_aload_n (q := 4) rfl (kd_4 (ha1) (by decide)) dX9_contradicts_3 rfl ?_
    refine to_getI (q := 7) (k0 := 8) (C := RX8) (T := TX8) (N := 5) (j := 1) rfl fx_X9_54 (sh_kd hS ha1 (by decide)) rfl dX9_contradicts_4 rfl ?_
    by_cases h1 : (m.1 a1 1) ≤ x3
    · have hf := ite_pos h1 hf
      refine to_icT (q := 70) (op := .ge) h1 dX9_contradicts_7 rfl ?_
      exact to_ext [] ext_nil (kX9_contradicts_70 hS hf hI)
    · have hf := ite_neg h1 hf
      refine to_icF (q := 10) (op := .ge) 70 h1 dX9_contradicts_7 rfl rfl ?_
      refine to_aload_n (q := 11) rfl (kd_4 (ha1) (by decide)) dX9_contradicts_10 rfl ?_
      refine to_getI (q := 14) (k0 := 8) (C := RX8) (T := TX8) (N := 5) (j := 4) rfl fx_X9_57 (sh_kd hS ha1 (by decide)) rfl dX9_contradicts_11 rfl ?_
      refine to_iload_n (q := 15) rfl dX9_contradicts_14 rfl ?_
      refine to_iadd (q := 16) dX9_contradicts_15 rfl ?_
      refine to_aload_n (q := 17) rfl (kd_4 (ha2) (by decide)) dX9_contradicts_16 rfl ?_
      refine to_getI (q := 20) (k0 := 7) (C := RX7) (T := TX7) (N := 3) (j := 2) rfl fx_X9_60 (sh_kd hS ha2 (by decide)) rfl dX9_contradicts_17 rfl ?_
      by_cases h2 : (m.1 a2 2) ≤ ((m.1 a1 4) + x3)
      · have hf := ite_pos h2 hf
        refine to_icT (q := 70) (op := .ge) h2 dX9_contradicts_20 rfl ?_
        exact to_ext [] ext_nil (kX9_contradicts_70 hS hf hI)
      · have hf := ite_neg h2 hf
        refine to_icF (q := 23) (op := .ge) 70 h2 dX9_contradicts_20 rfl rfl ?_
        refine to_aload_n (q := 24) rfl (by decide) dX9_contradicts_23 rfl ?_
        refine to_aload_n (q := 25) rfl (kd_4 (ha1) (by decide)) dX9_contradicts_24 rfl ?_
        refine to_getI (q := 28) (k0 := 8) (C := RX8) (T := TX8) (N := 5) (j := 2) rfl fx_X9_32 (sh_kd hS ha1 (by decide)) rfl dX9_contradicts_25 rfl ?_
        refine to_aload_n (q := 29) rfl (kd_4 (ha2) (by decide)) dX9_contradicts_28 rfl ?_
        refine to_getR (q := 32) (b := a2 + 1) (k0 := 7) (C := RX7) (T := TX7) (N := 3) (j := 0) rfl fx_X9_61 (sh_kd hS ha2 (by decide)) rfl (iv7a hI (ha2)) dX9_contradicts_29 rfl ?_
        refine to_aload_n (q := 33) rfl (kd_4 (ha1) (by decide)) dX9_contradicts_32 rfl ?_
        refine to_getI (q := 36) (k0 := 8) (C := RX8) (T := TX8) (N := 5) (j := 4) rfl fx_X9_57 (sh_kd hS ha1 (by decide)) rfl dX9_contradicts_33 rfl ?_
        refine to_iload_n (q := 37) rfl dX9_contradicts_36 rfl ?_
        refine to_iadd (q := 38) dX9_contradicts_37 rfl ?_
        obtain ⟨hb3, hf⟩ := ck_some hf
        refine to_iaj (q := 39) (sh_ln hS (kd7a (ha2)) (by decide)) hb3 (rfl) dX9_contradicts_38 rfl ?_
        obtain ⟨r6, m7, hc4, hf⟩ := cl2_some hf
        have qc5 := kX9_sureLetter hS hc4 hI
        refine to_virtI (q := 42) mX9_sureLetter [.int (m.1 a1 2), .int (m.1 (a2 + 1) ((m.1 a1 4) + x3).toNatClampNeg)] dX9_contradicts_39 rfl rfl (Nat.le_of_ble_eq_true rfl) mo_X9_sureLetter mv_X9_64 (Or.inl ⟨_, _, _, h_94 hS, rfl, rfl⟩) (Call_mono (by decide) qc5.1) ?_
        have hI := qc5.2
        refine to_istore (q := 44) [(4, .int r6), (0, .ref 94), (1, .ref a1), (2, .ref a2), (3, .int x3)] rfl (by decide) dX9_contradicts_42 rfl ?_
        refine to_iload (q := 46) rfl dX9_contradicts_44 rfl ?_
        refine to_bipush (q := 48) bp_m3 dX9_contradicts_46 rfl ?_
        by_cases h8 : r6 = (-3 : Int32)
        · have hf := ite_pos h8 hf
          refine to_icT (q := 64) (op := .eq) h8 dX9_contradicts_48 rfl ?_
          exact to_ext [(0, .ref 94), (1, .ref a1), (2, .ref a2), (3, .int x3)] (ext_cons rfl (ext_cons rfl (ext_cons rfl (ext_cons rfl ext_nil)))) (kX9_contradicts_64 hS ih hf (ha1) (ha2) hI)
        · have hf := ite_neg h8 hf
          refine to_icF (q := 51) (op := .eq) 64 h8 dX9_contradicts_48 rfl rfl ?_
          refine to_iload (q := 53) rfl dX9_contradicts_51 rfl ?_
          refine to_aload_n (q := 54) rfl (kd_4 (ha1) (by decide)) dX9_contradicts_53 rfl ?_
          refine to_getR (q := 57) (b := a1 + 1) (k0 := 8) (C := RX8) (T := TX8) (N := 5) (j := 0) rfl fx_X9_68 (sh_kd hS ha1 (by decide)) rfl (iv8 hI (ha1)) dX9_contradicts_54 rfl ?_
          refine to_iload_n (q := 58) rfl dX9_contradicts_57 rfl ?_
          obtain ⟨hb9, hf⟩ := ck_some hf
          refine to_iaj (q := 59) (sh_ln hS (kd8 (ha1)) (by decide)) hb9 (rfl) dX9_contradicts_58 rfl ?_
          by_cases h10 : r6 = (m7.1 (a1 + 1) x3.toNatClampNeg)
          · have hf := ite_pos h10 hf
            refine to_icT (q := 64) (op := .eq) h10 dX9_contradicts_59 rfl ?_
            exact to_ext [(0, .ref 94), (1, .ref a1), (2, .ref a2), (3, .int x3)] (ext_cons rfl (ext_cons rfl (ext_cons rfl (ext_cons rfl ext_nil)))) (kX9_contradicts_64 hS ih hf (ha1) (ha2) hI)
          · have hf := ite_neg h10 hf
            refine to_icF (q := 62) (op := .eq) 64 h10 dX9_contradicts_59 rfl rfl ?_
            refine to_iconst (q := 63) ic_1 dX9_contradicts_62 rfl ?_
            cases hf
            exact to_iret dX9_contradicts_63 rfl (by decide) rfl rfl hI
def fX9_contradicts (a1 : Nat) (a2 : Nat) (m : Me) : Option (Int32 × Me) := fX9_contradicts_2 FU a1 a2 ((0 : Int32)) m
set_option maxRecDepth 20000 in
theorem kX9_contradicts {S : Sh} (hS : ShOK S) {res : Int32 × Me} {a1 : Nat} {a2 : Nat} {m : Me} (hf : fX9_contradicts a1 a2 m = some res) (ha1 : kd a1 = 8) (ha2 : kd a2 = 7) (hI : Inv m) : Call 3 mX9_contradicts [.ref 94, .ref a1, .ref a2] (S, m) (some (.int res.1)) (S, res.2) ∧ Inv res.2 := by
  refine call_of (P := InvS) (Nat.le_of_ble_eq_true rfl) (by simp [Value.category]) ?_
  show TT InvS (Call 2) mX9_contradicts (0, [(0, .ref 94), (1, .ref a1), (2, .ref a2)], [], S, m) _ _
  unfold fX9_contradicts at hf
  refine to_iconst (q := 1) ic_0 dX9_contradicts_0 rfl ?_
  refine to_istore_n (q := 2) [(3, .int (0 : Int32)), (0, .ref 94), (1, .ref a1), (2, .ref a2)] rfl (by decide) dX9_contradicts_1 rfl ?_
  exact to_ext [(0, .ref 94), (1, .ref a1), (2, .ref a2), (3, .int (0 : Int32))] (ext_cons rfl (ext_cons rfl (ext_cons rfl (ext_cons rfl ext_nil)))) (kX9_contradicts_2 hS FU hf (ha1) (ha2) hI)
def fX9_learn_77 (m : Me) : Option (Me) := some m
set_option maxRecDepth 20000 in
theorem kX9_learn_77 {S : Sh} (hS : ShOK S) {res : Me} {m : Me} (hf : fX9_learn_77 m = some res) (hI : Inv m) : TT InvS (Call 1) mX9_learn (77, [], [], S, m) none (S, res) := by
  unfold fX9_learn_77 at hf
  cases hf
  exact to_vret dX9_learn_77 rfl rfl rfl hI
def fX9_learn_71 (k2 : Nat → Nat → Int32 → Me → Option (Me)) (a1 : Nat) (a2 : Nat) (x3 : Int32) (m : Me) : Option (Me) := k2 a1 a2 ((x3 + (1 : Int32))) m
set_option maxRecDepth 20000 in
theorem kX9_learn_71 {S : Sh} (hS : ShOK S) {res : Me} {k2 : Nat → Nat → Int32 → Me → Option (Me)} (hk2 : ∀ {a1 : Nat} {a2 : Nat} {x3 : Int32} {m : Me}, k2 a1 a2 x3 m = some res → kd a1 = 8 → kd a2 = 7 → Inv m → TT InvS (Call 1) mX9_learn (2, [(0, .ref 94), (1, .ref a1), (2, .ref a2), (3, .int x3)], [], S, m) none (S, res)) {a1 : Nat} {a2 : Nat} {x3 : Int32} {m : Me} (hf : fX9_learn_71 k2 a1 a2 x3 m = some res) (ha1 : kd a1 = 8) (ha2 : kd a2 = 7) (hI : Inv m) : TT InvS (Call 1) mX9_learn (71, [(0, .ref 94), (1, .ref a1), (2, .ref a2), (3, .int x3)], [], S, m) none (S, res) := by
  unfold fX9_learn_71 at hf
  refine to_iinc (q := 74) (v := (x3 + (1 : Int32))) rfl (congrArg (fun z => x3 + z) ic_1) [(3, .int (x3 + (1 : Int32))), (0, .ref 94), (1, .ref a1), (2, .ref a2)] rfl (by decide) dX9_learn_71 rfl ?_
  refine to_goto (q := 2) dX9_learn_74 rfl ?_
  exact to_ext [(0, .ref 94), (1, .ref a1), (2, .ref a2), (3, .int (x3 + (1 : Int32)))] (ext_cons rfl (ext_cons rfl (ext_cons rfl (ext_cons rfl ext_nil)))) (hk2 hf (ha1) (ha2) hI)
def fX9_learn_2 (n : Nat) (a1 : Nat) (a2 : Nat) (x3 : Int32) (m : Me) : Option (Me) := match n with
  | 0 => none
  | n + 1 => if (m.1 a1 1) ≤ x3 then fX9_learn_77 m else if (m.1 a2 2) ≤ ((m.1 a1 4) + x3) then fX9_learn_77 m else ck (inb ((m.1 a1 4) + x3) 30) (cl2 (fX10_cellIndex (m.1 a1 2) ((m.1 (a2 + 1) ((m.1 a1 4) + x3).toNatClampNeg)) m) fun r6 m7 => if r6 < (0 : Int32) then fX9_learn_71 (fX9_learn_2 n) a1 a2 x3 m7 else if (60 : Int32) ≤ r6 then fX9_learn_71 (fX9_learn_2 n) a1 a2 x3 m7 else ck (inb x3 8) (ck (inb r6 60) (fX9_learn_71 (fX9_learn_2 n) a1 a2 x3 (setI m7 95 r6.toNatClampNeg (m7.1 (a1 + 1) x3.toNatClampNeg)))))
set_option maxRecDepth 20000 in
theorem kX9_learn_2 {S : Sh} (hS : ShOK S) {res : Me} (n : Nat) : ∀ {a1 : Nat} {a2 : Nat} {x3 : Int32} {m : Me}, fX9_learn_2 n a1 a2 x3 m = some res → kd a1 = 8 → kd a2 = 7 → Inv m → TT InvS (Call 1) mX9_learn (2, [(0, .ref 94), (1, .ref a1), (2, .ref a2), (3, .int x3)], [], S, m) none (S, res) := by
  induction n with
  | zero => intro a1 a2 x3 m hf; cases hf
  | succ n ih =>
    intro a1 a2 x3 m hf ha1 ha2 hI
    unfold fX9_learn_2 at hf
    refine to_iload_n (q := 3) rfl dX9_learn_2 rfl ?_
    refine to_aload_n (q := 4) rfl (kd_4 (ha1) (by decide)) dX9_learn_3 rfl ?_
    refine to_getI (q := 7) (k0 := 8) (C := RX8) (T := TX8) (N := 5) (j := 1) rfl fx_X9_54 (sh_kd hS ha1 (by decide)) rfl dX9_learn_4 rfl ?_
    by_cases h1 : (m.1 a1 1) ≤ x3
    · have hf := ite_pos h1 hf
      refine to_icT (q := 77) (op := .ge) h1 dX9_learn_7 rfl ?_
      exact to_ext [] ext_nil (kX9_learn_77 hS hf hI)
    · have hf := ite_neg h1 hf
      refine to_icF (q := 10) (op := .ge) 77 h1 dX9_learn_7 rfl rfl ?_
      refine to_aload_n (q := 11) rfl (kd_4 (ha1) (by decide)) dX9_learn_10 rfl ?_
      refine to_getI (q := 14) (k0 := 8) (C := RX8) (T := TX8) (N := 5) (j := 4) rfl fx_X9_57 (sh_kd hS ha1 (by decide)) rfl dX9_learn_11 rfl ?_
      refine to_iload_n (q := 15) rfl dX9_learn_14 rfl ?_
      refine to_iadd (q := 16) dX9_learn_15 rfl ?_
      refine to_aload_n (q := 17) rfl (kd_4 (ha2) (by decide)) dX9_learn_16 rfl ?_
      refine to_getI (q := 20) (k0 := 7) (C := RX7) (T := TX7) (N := 3) (j := 2) rfl fx_X9_60 (sh_kd hS ha2 (by decide)) rfl dX9_learn_17 rfl ?_
      by_cases h2 : (m.1 a2 2) ≤ ((m.1 a1 4) + x3)
      · have hf := ite_pos h2 hf
        refine to_icT (q := 77) (op := .ge) h2 dX9_learn_20 rfl ?_
        exact to_ext [] ext_nil (kX9_learn_77 hS hf hI)
      · have hf := ite_neg h2 hf
        refine to_icF (q := 23) (op := .ge) 77 h2 dX9_learn_20 rfl rfl ?_
        refine to_aload_n (q := 24) rfl (kd_4 (ha1) (by decide)) dX9_learn_23 rfl ?_
        refine to_getI (q := 27) (k0 := 8) (C := RX8) (T := TX8) (N := 5) (j := 2) rfl fx_X9_32 (sh_kd hS ha1 (by decide)) rfl dX9_learn_24 rfl ?_
        refine to_aload_n (q := 28) rfl (kd_4 (ha2) (by decide)) dX9_learn_27 rfl ?_
        refine to_getR (q := 31) (b := a2 + 1) (k0 := 7) (C := RX7) (T := TX7) (N := 3) (j := 0) rfl fx_X9_61 (sh_kd hS ha2 (by decide)) rfl (iv7a hI (ha2)) dX9_learn_28 rfl ?_
        refine to_aload_n (q := 32) rfl (kd_4 (ha1) (by decide)) dX9_learn_31 rfl ?_
        refine to_getI (q := 35) (k0 := 8) (C := RX8) (T := TX8) (N := 5) (j := 4) rfl fx_X9_57 (sh_kd hS ha1 (by decide)) rfl dX9_learn_32 rfl ?_
        refine to_iload_n (q := 36) rfl dX9_learn_35 rfl ?_
        refine to_iadd (q := 37) dX9_learn_36 rfl ?_
        obtain ⟨hb3, hf⟩ := ck_some hf
        refine to_iaj (q := 38) (sh_ln hS (kd7a (ha2)) (by decide)) hb3 (rfl) dX9_learn_37 rfl ?_
        obtain ⟨r6, m7, hc4, hf⟩ := cl2_some hf
        have qc5 := kX10_cellIndex hS hc4 hI
        refine to_statI (q := 41) mX10_cellIndex [.int (m.1 a1 2), .int (m.1 (a2 + 1) ((m.1 a1 4) + x3).toNatClampNeg)] dX9_learn_38 rfl rfl (Nat.le_of_ble_eq_true rfl) mo_X10_cellIndex (Or.inr (by decide)) sa_X10_cellIndex (Call_mono (by decide) qc5.1) ?_
        have hI := qc5.2
        refine to_istore (q := 43) [(4, .int r6), (0, .ref 94), (1, .ref a1), (2, .ref a2), (3, .int x3)] rfl (by decide) dX9_learn_41 rfl ?_
        refine to_iload (q := 45) rfl dX9_learn_43 rfl ?_
        by_cases h8 : r6 < (0 : Int32)
        · have hf := ite_pos h8 hf
          refine to_ifT (q := 71) (op := .lt) h8 dX9_learn_45 rfl ?_
          exact to_ext [(0, .ref 94), (1, .ref a1), (2, .ref a2), (3, .int x3)] (ext_cons rfl (ext_cons rfl (ext_cons rfl (ext_cons rfl ext_nil)))) (kX9_learn_71 hS ih hf (ha1) (ha2) hI)
        · have hf := ite_neg h8 hf
          refine to_ifF (q := 48) (op := .lt) 71 h8 dX9_learn_45 rfl rfl ?_
          refine to_iload (q := 50) rfl dX9_learn_48 rfl ?_
          refine to_aload_n (q := 51) rfl (by decide) dX9_learn_50 rfl ?_
          refine to_getR (q := 54) (b := 95) (k0 := 9) (C := RX9) (T := TX9) (N := 2) (j := 0) rfl fx_X9_9 (h_94 hS) rfl (iv_94_0 hI) dX9_learn_51 rfl ?_
          refine to_alen (q := 55) (h_95 hS) (by decide) on_60 dX9_learn_54 rfl ?_
          by_cases h9 : (60 : Int32) ≤ r6
          · have hf := ite_pos h9 hf
            refine to_icT (q := 71) (op := .ge) h9 dX9_learn_55 rfl ?_
            exact to_ext [(0, .ref 94), (1, .ref a1), (2, .ref a2), (3, .int x3)] (ext_cons rfl (ext_cons rfl (ext_cons rfl (ext_cons rfl ext_nil)))) (kX9_learn_71 hS ih hf (ha1) (ha2) hI)
          · have hf := ite_neg h9 hf
            refine to_icF (q := 58) (op := .ge) 71 h9 dX9_learn_55 rfl rfl ?_
            refine to_aload_n (q := 59) rfl (by decide) dX9_learn_58 rfl ?_
            refine to_getR (q := 62) (b := 95) (k0 := 9) (C := RX9) (T := TX9) (N := 2) (j := 0) rfl fx_X9_9 (h_94 hS) rfl (iv_94_0 hI) dX9_learn_59 rfl ?_
            refine to_iload (q := 64) rfl dX9_learn_62 rfl ?_
            refine to_aload_n (q := 65) rfl (kd_4 (ha1) (by decide)) dX9_learn_64 rfl ?_
            refine to_getR (q := 68) (b := a1 + 1) (k0 := 8) (C := RX8) (T := TX8) (N := 5) (j := 0) rfl fx_X9_68 (sh_kd hS ha1 (by decide)) rfl (iv8 hI (ha1)) dX9_learn_65 rfl ?_
            refine to_iload_n (q := 69) rfl dX9_learn_68 rfl ?_
            obtain ⟨hb10, hf⟩ := ck_some hf
            refine to_iaj (q := 70) (sh_ln hS (kd8 (ha1)) (by decide)) hb10 (rfl) dX9_learn_69 rfl ?_
            obtain ⟨hb11, hf⟩ := ck_some hf
            refine to_iasj (q := 71) (h_95 hS) hb11 (rfl) dX9_learn_70 rfl ?_
            exact to_ext [(0, .ref 94), (1, .ref a1), (2, .ref a2), (3, .int x3)] (ext_cons rfl (ext_cons rfl (ext_cons rfl (ext_cons rfl ext_nil)))) (kX9_learn_71 hS ih hf (ha1) (ha2) hI)
def fX9_learn (a1 : Nat) (a2 : Nat) (m : Me) : Option (Me) := fX9_learn_2 FU a1 a2 ((0 : Int32)) m
set_option maxRecDepth 20000 in
theorem kX9_learn {S : Sh} (hS : ShOK S) {res : Me} {a1 : Nat} {a2 : Nat} {m : Me} (hf : fX9_learn a1 a2 m = some res) (ha1 : kd a1 = 8) (ha2 : kd a2 = 7) (hI : Inv m) : Call 2 mX9_learn [.ref 94, .ref a1, .ref a2] (S, m) none (S, res) ∧ Inv res := by
  refine call_of (P := InvS) (Nat.le_of_ble_eq_true rfl) (by simp [Value.category]) ?_
  show TT InvS (Call 1) mX9_learn (0, [(0, .ref 94), (1, .ref a1), (2, .ref a2)], [], S, m) _ _
  unfold fX9_learn at hf
  refine to_iconst (q := 1) ic_0 dX9_learn_0 rfl ?_
  refine to_istore_n (q := 2) [(3, .int (0 : Int32)), (0, .ref 94), (1, .ref a1), (2, .ref a2)] rfl (by decide) dX9_learn_1 rfl ?_
  exact to_ext [(0, .ref 94), (1, .ref a1), (2, .ref a2), (3, .int (0 : Int32))] (ext_cons rfl (ext_cons rfl (ext_cons rfl (ext_cons rfl ext_nil)))) (kX9_learn_2 hS FU hf (ha1) (ha2) hI)
def fX9_study_109 (m : Me) : Option (Me) := some m
set_option maxRecDepth 20000 in
theorem kX9_study_109 {S : Sh} (hS : ShOK S) {res : Me} {m : Me} (hf : fX9_study_109 m = some res) (hI : Inv m) : TT InvS (Call 4) mX9_study (109, [], [], S, m) none (S, res) := by
  unfold fX9_study_109 at hf
  cases hf
  exact to_vret dX9_study_109 rfl rfl rfl hI
def fX9_study_103 (k33 : Nat → Nat → Int32 → Me → Option (Me)) (a1 : Nat) (a2 : Nat) (x3 : Int32) (m : Me) : Option (Me) := k33 a1 a2 ((x3 + (1 : Int32))) m
set_option maxRecDepth 20000 in
theorem kX9_study_103 {S : Sh} (hS : ShOK S) {res : Me} {k33 : Nat → Nat → Int32 → Me → Option (Me)} (hk33 : ∀ {a1 : Nat} {a2 : Nat} {x3 : Int32} {m : Me}, k33 a1 a2 x3 m = some res → kd a1 = 2 → kd a2 = 7 → Inv m → TT InvS (Call 4) mX9_study (33, [(0, .ref 94), (1, .ref a1), (2, .ref a2), (3, .int x3)], [], S, m) none (S, res)) {a1 : Nat} {a2 : Nat} {x3 : Int32} {m : Me} (hf : fX9_study_103 k33 a1 a2 x3 m = some res) (ha1 : kd a1 = 2) (ha2 : kd a2 = 7) (hI : Inv m) : TT InvS (Call 4) mX9_study (103, [(0, .ref 94), (1, .ref a1), (2, .ref a2), (3, .int x3)], [], S, m) none (S, res) := by
  unfold fX9_study_103 at hf
  refine to_iinc (q := 106) (v := (x3 + (1 : Int32))) rfl (congrArg (fun z => x3 + z) ic_1) [(3, .int (x3 + (1 : Int32))), (0, .ref 94), (1, .ref a1), (2, .ref a2)] rfl (by decide) dX9_study_103 rfl ?_
  refine to_goto (q := 33) dX9_study_106 rfl ?_
  exact to_ext [(0, .ref 94), (1, .ref a1), (2, .ref a2), (3, .int (x3 + (1 : Int32)))] (ext_cons rfl (ext_cons rfl (ext_cons rfl (ext_cons rfl ext_nil)))) (hk33 hf (ha1) (ha2) hI)
def fX9_study_33 (n : Nat) (a1 : Nat) (a2 : Nat) (x3 : Int32) (m : Me) : Option (Me) := match n with
  | 0 => none
  | n + 1 => if (m.1 a1 11) ≤ x3 then fX9_study_109 m else if (m.1 94 1) = (-2 : Int32) then ck (inb x3 6) (cl1 (fX7_look a2 a1 (a1 + 1) (0 : Int32) ((m.1 (a1 + 27 + 2 * x3.toNatClampNeg) 2)) ((m.1 (a1 + 27 + 2 * x3.toNatClampNeg) 3)) m) fun m8 => cl2 (fX9_contradicts (a1 + 27 + 2 * x3.toNatClampNeg) a2 m8) fun r11 m12 => if r11 = (0 : Int32) then cl1 (fX9_learn (a1 + 27 + 2 * x3.toNatClampNeg) a2 m12) fun m16 => fX9_study_103 (fX9_study_33 n) a1 a2 x3 m16 else fX9_study_103 (fX9_study_33 n) a1 a2 x3 (setI m12 94 1 x3)) else fX9_study_109 m
set_option maxRecDepth 20000 in
theorem kX9_study_33 {S : Sh} (hS : ShOK S) {res : Me} (n : Nat) : ∀ {a1 : Nat} {a2 : Nat} {x3 : Int32} {m : Me}, fX9_study_33 n a1 a2 x3 m = some res → kd a1 = 2 → kd a2 = 7 → Inv m → TT InvS (Call 4) mX9_study (33, [(0, .ref 94), (1, .ref a1), (2, .ref a2), (3, .int x3)], [], S, m) none (S, res) := by
  induction n with
  | zero => intro a1 a2 x3 m hf; cases hf
  | succ n ih =>
    intro a1 a2 x3 m hf ha1 ha2 hI
    unfold fX9_study_33 at hf
    refine to_iload_n (q := 34) rfl dX9_study_33 rfl ?_
    refine to_aload_n (q := 35) rfl (kd_4 (ha1) (by decide)) dX9_study_34 rfl ?_
    refine to_getI (q := 38) (k0 := 2) (C := RX2) (T := TX2) (N := 14) (j := 11) rfl fx_X9_19 (sh_kd hS ha1 (by decide)) rfl dX9_study_35 rfl ?_
    by_cases h3 : (m.1 a1 11) ≤ x3
    · have hf := ite_pos h3 hf
      refine to_icT (q := 109) (op := .ge) h3 dX9_study_38 rfl ?_
      exact to_ext [] ext_nil (kX9_study_109 hS hf hI)
    · have hf := ite_neg h3 hf
      refine to_icF (q := 41) (op := .ge) 109 h3 dX9_study_38 rfl rfl ?_
      refine to_aload_n (q := 42) rfl (by decide) dX9_study_41 rfl ?_
      refine to_getI (q := 45) (k0 := 9) (C := RX9) (T := TX9) (N := 2) (j := 1) rfl fx_X9_15 (h_94 hS) rfl dX9_study_42 rfl ?_
      refine to_bipush (q := 47) bp_m2 dX9_study_45 rfl ?_
      by_cases h4 : (m.1 94 1) = (-2 : Int32)
      · have hf := ite_pos h4 hf
        refine to_icF (q := 50) (op := .ne) 109 (fun z => z h4) dX9_study_47 rfl rfl ?_
        refine to_aload_n (q := 51) rfl (kd_4 (ha1) (by decide)) dX9_study_50 rfl ?_
        refine to_getR (q := 54) (b := a1 + 5) (k0 := 2) (C := RX2) (T := TX2) (N := 14) (j := 10) rfl fx_X9_24 (sh_kd hS ha1 (by decide)) rfl (iv2n hI (ha1)) dX9_study_51 rfl ?_
        refine to_iload_n (q := 55) rfl dX9_study_54 rfl ?_
        obtain ⟨hb5, hf⟩ := ck_some hf
        refine to_aald (q := 56) (b := a1 + 27 + 2 * x3.toNatClampNeg) (sh_ln hS (kd2n (ha1)) (by decide)) (by decide) hb5 (ivN hI (ha1) hb5) dX9_study_55 rfl ?_
        refine to_astore (q := 58) [(4, .ref (a1 + 27 + 2 * x3.toNatClampNeg)), (0, .ref 94), (1, .ref a1), (2, .ref a2), (3, .int x3)] rfl (kd_4 (kdN (ha1) hb5) (by decide)) (by decide) dX9_study_56 rfl ?_
        refine to_aload_n (q := 59) rfl (kd_4 (ha2) (by decide)) dX9_study_58 rfl ?_
        refine to_aload_n (q := 60) rfl (kd_4 (ha1) (by decide)) dX9_study_59 rfl ?_
        refine to_aload_n (q := 61) rfl (kd_4 (ha1) (by decide)) dX9_study_60 rfl ?_
        refine to_getR (q := 64) (b := a1 + 1) (k0 := 2) (C := RX2) (T := TX2) (N := 14) (j := 5) rfl fx_X9_28 (sh_kd hS ha1 (by decide)) rfl (iv2s hI (ha1)) dX9_study_61 rfl ?_
        refine to_iconst (q := 65) ic_0 dX9_study_64 rfl ?_
        refine to_aload (q := 67) rfl (kd_4 (kdN (ha1) hb5) (by decide)) dX9_study_65 rfl ?_
        refine to_getI (q := 70) (k0 := 8) (C := RX8) (T := TX8) (N := 5) (j := 2) rfl fx_X9_32 (sh_kd hS (kdN (ha1) hb5) (by decide)) rfl dX9_study_67 rfl ?_
        refine to_aload (q := 72) rfl (kd_4 (kdN (ha1) hb5) (by decide)) dX9_study_70 rfl ?_
        refine to_getI (q := 75) (k0 := 8) (C := RX8) (T := TX8) (N := 5) (j := 3) rfl fx_X9_37 (sh_kd hS (kdN (ha1) hb5) (by decide)) rfl dX9_study_72 rfl ?_
        obtain ⟨m8, hc6, hf⟩ := cl1_some hf
        have qc7 := kX7_look hS hc6 (ha2) (ha1) ((kd2s (ha1))) hI
        refine to_virtV (q := 78) mX7_look [.ref a1, .ref (a1 + 1), .int (0 : Int32), .int (m.1 (a1 + 27 + 2 * x3.toNatClampNeg) 2), .int (m.1 (a1 + 27 + 2 * x3.toNatClampNeg) 3)] dX9_study_75 rfl rfl (Nat.le_of_ble_eq_true rfl) mo_X7_look mv_X9_40 (Or.inl ⟨_, _, _, sh_kd hS ha2 (by decide), rfl, rfl⟩) (Call_mono (by decide) qc7.1) ?_
        have hI := qc7.2
        refine to_aload_n (q := 79) rfl (by decide) dX9_study_78 rfl ?_
        refine to_aload (q := 81) rfl (kd_4 (kdN (ha1) hb5) (by decide)) dX9_study_79 rfl ?_
        refine to_aload_n (q := 82) rfl (kd_4 (ha2) (by decide)) dX9_study_81 rfl ?_
        obtain ⟨r11, m12, hc9, hf⟩ := cl2_some hf
        have qc10 := kX9_contradicts hS hc9 (kdN (ha1) hb5) (ha2) hI
        refine to_virtI (q := 85) mX9_contradicts [.ref (a1 + 27 + 2 * x3.toNatClampNeg), .ref a2] dX9_study_82 rfl rfl (Nat.le_of_ble_eq_true rfl) mo_X9_contradicts mv_X9_46 (Or.inl ⟨_, _, _, h_94 hS, rfl, rfl⟩) (Call_mono (by decide) qc10.1) ?_
        have hI := qc10.2
        by_cases h13 : r11 = (0 : Int32)
        · have hf := ite_pos h13 hf
          refine to_ifT (q := 96) (op := .eq) h13 dX9_study_85 rfl ?_
          refine to_aload_n (q := 97) rfl (by decide) dX9_study_96 rfl ?_
          refine to_aload (q := 99) rfl (kd_4 (kdN (ha1) hb5) (by decide)) dX9_study_97 rfl ?_
          refine to_aload_n (q := 100) rfl (kd_4 (ha2) (by decide)) dX9_study_99 rfl ?_
          obtain ⟨m16, hc14, hf⟩ := cl1_some hf
          have qc15 := kX9_learn hS hc14 (kdN (ha1) hb5) (ha2) hI
          refine to_virtV (q := 103) mX9_learn [.ref (a1 + 27 + 2 * x3.toNatClampNeg), .ref a2] dX9_study_100 rfl rfl (Nat.le_of_ble_eq_true rfl) mo_X9_learn mv_X9_50 (Or.inl ⟨_, _, _, h_94 hS, rfl, rfl⟩) (Call_mono (by decide) qc15.1) ?_
          have hI := qc15.2
          exact to_ext [(0, .ref 94), (1, .ref a1), (2, .ref a2), (3, .int x3)] (ext_cons rfl (ext_cons rfl (ext_cons rfl (ext_cons rfl ext_nil)))) (kX9_study_103 hS ih hf (ha1) (ha2) hI)
        · have hf := ite_neg h13 hf
          refine to_ifF (q := 88) (op := .eq) 96 h13 dX9_study_85 rfl rfl ?_
          refine to_aload_n (q := 89) rfl (by decide) dX9_study_88 rfl ?_
          refine to_iload_n (q := 90) rfl dX9_study_89 rfl ?_
          refine to_putI (q := 93) (ty := .int) (k0 := 9) (C := RX9) (T := TX9) (N := 2) (j := 1) rfl fx_X9_15 (h_94 hS) rfl pD_I (Or.inl rfl) (nf_I _) dX9_study_90 rfl ?_
          refine to_goto (q := 103) dX9_study_93 rfl ?_
          exact to_ext [(0, .ref 94), (1, .ref a1), (2, .ref a2), (3, .int x3)] (ext_cons rfl (ext_cons rfl (ext_cons rfl (ext_cons rfl ext_nil)))) (kX9_study_103 hS ih hf (ha1) (ha2) hI)
      · have hf := ite_neg h4 hf
        refine to_icT (q := 109) (op := .ne) h4 dX9_study_47 rfl ?_
        exact to_ext [] ext_nil (kX9_study_109 hS hf hI)
def fX9_study_2 (n : Nat) (a1 : Nat) (a2 : Nat) (x3 : Int32) (m : Me) : Option (Me) := match n with
  | 0 => none
  | n + 1 => if (60 : Int32) ≤ x3 then fX9_study_33 FU a1 a2 ((0 : Int32)) (setI m 94 1 (-2 : Int32)) else ck (inb x3 60) (fX9_study_2 n a1 a2 ((x3 + (1 : Int32))) (setI m 95 x3.toNatClampNeg (-3 : Int32)))
