def fX11_mistakeAt_27 (n : Nat) (k4 : Int32 → Int32 → Int32 → Me → Option (Int32 × Me)) (k18 : Int32 → Int32 → Int32 → Int32 → Me → Option (Int32 × Me)) (x1 : Int32) (x2 : Int32) (x3 : Int32) (x4 : Int32) (x5 : Int32) (m : Me) : Option (Int32 × Me) := match n with
  | 0 => none
  | n + 1 => if (m.1 141 5) ≤ x5 then k18 x1 x2 x3 ((x4 + (1 : Int32))) m else cl2 (fX11_readsWord x5 x4 x3 m) fun r10 m11 => if r10 = (0 : Int32) then fX11_mistakeAt_87 k4 k18 (fX11_mistakeAt_27 n k4 k18) x1 x2 x3 x4 x5 m11 else cl2 (fX11_isWished x5 x4 x3 m11) fun r15 m16 => if r15 = (0 : Int32) then if x2 = x1 then some (((((100 : Int32) * x5) + ((50 : Int32) * x4)) + x3), m16) else fX11_mistakeAt_87 k4 k18 (fX11_mistakeAt_27 n k4 k18) x1 ((x2 + (1 : Int32))) x3 x4 x5 m16 else fX11_mistakeAt_87 k4 k18 (fX11_mistakeAt_27 n k4 k18) x1 x2 x3 x4 x5 m16
set_option maxRecDepth 20000 in
theorem kX11_mistakeAt_27 {S : Sh} (hS : ShOK S) {res : Int32 × Me} {k4 : Int32 → Int32 → Int32 → Me → Option (Int32 × Me)} (hk4 : ∀ {x1 : Int32} {x2 : Int32} {x3 : Int32} {m : Me}, k4 x1 x2 x3 m = some res → Inv m → TT InvS (Call 4) mX11_mistakeAt (4, [(0, .ref 138), (1, .int x1), (2, .int x2), (3, .int x3)], [], S, m) (some (.int res.1)) (S, res.2)) {k18 : Int32 → Int32 → Int32 → Int32 → Me → Option (Int32 × Me)} (hk18 : ∀ {x1 : Int32} {x2 : Int32} {x3 : Int32} {x4 : Int32} {m : Me}, k18 x1 x2 x3 x4 m = some res → Inv m → TT InvS (Call 4) mX11_mistakeAt (18, [(0, .ref 138), (1, .int x1), (2, .int x2), (3, .int x3), (4, .int x4)], [], S, m) (some (.int res.1)) (S, res.2)) (n : Nat) : ∀ {x1 : Int32} {x2 : Int32} {x3 : Int32} {x4 : Int32} {x5 : Int32} {m : Me}, fX11_mistakeAt_27 n k4 k18 x1 x2 x3 x4 x5 m = some res → Inv m → TT InvS (Call 4) mX11_mistakeAt (27, [(0, .ref 138), (1, .int x1), (2, .int x2), (3, .int x3), (4, .int x4), (5, .int x5)], [], S, m) (some (.int res.1)) (S, res.2) := by
  induction n with
  | zero => intro x1 x2 x3 x4 x5 m hf; cases hf
  | succ n ih =>
    intro x1 x2 x3 x4 x5 m hf  hI
    unfold fX11_mistakeAt_27 at hf
    refine to_iload (q := 29) rfl dX11_mistakeAt_27 rfl ?_
    refine to_aload_n (q := 30) rfl (by decide) dX11_mistakeAt_29 rfl ?_
    refine to_getR (q := 33) (b := 141) (k0 := 11) (C := RX11) (T := TX11) (N := 37) (j := 15) rfl fx_X11_20 (h_138 hS) rfl (iv_138_15 hI) dX11_mistakeAt_30 rfl ?_
    refine to_iconst (q := 34) ic_5 dX11_mistakeAt_33 rfl ?_
    refine to_iaj (q := 35) (h_141 hS) (by decide) (tn_5) dX11_mistakeAt_34 rfl ?_
    by_cases h7 : (m.1 141 5) ≤ x5
    · have hf := ite_pos h7 hf
      refine to_icT (q := 93) (op := .ge) h7 dX11_mistakeAt_35 rfl ?_
      refine to_iinc (q := 96) (v := (x4 + (1 : Int32))) rfl (congrArg (fun z => x4 + z) ic_1) [(4, .int (x4 + (1 : Int32))), (0, .ref 138), (1, .int x1), (2, .int x2), (3, .int x3), (5, .int x5)] rfl (by decide) dX11_mistakeAt_93 rfl ?_
      refine to_goto (q := 18) dX11_mistakeAt_96 rfl ?_
      exact to_ext [(0, .ref 138), (1, .int x1), (2, .int x2), (3, .int x3), (4, .int (x4 + (1 : Int32)))] (ext_cons rfl (ext_cons rfl (ext_cons rfl (ext_cons rfl (ext_cons rfl ext_nil))))) (hk18 hf hI)
    · have hf := ite_neg h7 hf
      refine to_icF (q := 38) (op := .ge) 93 h7 dX11_mistakeAt_35 rfl rfl ?_
      refine to_aload_n (q := 39) rfl (by decide) dX11_mistakeAt_38 rfl ?_
      refine to_iload (q := 41) rfl dX11_mistakeAt_39 rfl ?_
      refine to_iload (q := 43) rfl dX11_mistakeAt_41 rfl ?_
      refine to_iload_n (q := 44) rfl dX11_mistakeAt_43 rfl ?_
      obtain ⟨r10, m11, hc8, hf⟩ := cl2_some hf
      have qc9 := kX11_readsWord hS hc8 hI
      refine to_virtI (q := 47) mX11_readsWord [.int x5, .int x4, .int x3] dX11_mistakeAt_44 rfl rfl (Nat.le_of_ble_eq_true rfl) mo_X11_readsWord mv_X11_309 (Or.inl ⟨_, _, _, h_138 hS, rfl, rfl⟩) (Call_mono (by decide) qc9.1) ?_
      have hI := qc9.2
      by_cases h12 : r10 = (0 : Int32)
      · have hf := ite_pos h12 hf
        refine to_ifT (q := 87) (op := .eq) h12 dX11_mistakeAt_47 rfl ?_
        exact to_ext [(0, .ref 138), (1, .int x1), (2, .int x2), (3, .int x3), (4, .int x4), (5, .int x5)] (ext_cons rfl (ext_cons rfl (ext_cons rfl (ext_cons rfl (ext_cons rfl (ext_cons rfl ext_nil)))))) (kX11_mistakeAt_87 hS hk4 hk18 ih hf hI)
      · have hf := ite_neg h12 hf
        refine to_ifF (q := 50) (op := .eq) 87 h12 dX11_mistakeAt_47 rfl rfl ?_
        refine to_aload_n (q := 51) rfl (by decide) dX11_mistakeAt_50 rfl ?_
        refine to_iload (q := 53) rfl dX11_mistakeAt_51 rfl ?_
        refine to_iload (q := 55) rfl dX11_mistakeAt_53 rfl ?_
        refine to_iload_n (q := 56) rfl dX11_mistakeAt_55 rfl ?_
        obtain ⟨r15, m16, hc13, hf⟩ := cl2_some hf
        have qc14 := kX11_isWished hS hc13 hI
        refine to_virtI (q := 59) mX11_isWished [.int x5, .int x4, .int x3] dX11_mistakeAt_56 rfl rfl (Nat.le_of_ble_eq_true rfl) mo_X11_isWished mv_X11_325 (Or.inl ⟨_, _, _, h_138 hS, rfl, rfl⟩) (Call_mono (by decide) qc14.1) ?_
        have hI := qc14.2
        by_cases h17 : r15 = (0 : Int32)
        · have hf := ite_pos h17 hf
          refine to_ifT (q := 65) (op := .eq) h17 dX11_mistakeAt_59 rfl ?_
          refine to_iload_n (q := 66) rfl dX11_mistakeAt_65 rfl ?_
          refine to_iload_n (q := 67) rfl dX11_mistakeAt_66 rfl ?_
          by_cases h18 : x2 = x1
          · have hf := ite_pos h18 hf
            refine to_icF (q := 70) (op := .ne) 84 (fun z => z h18) dX11_mistakeAt_67 rfl rfl ?_
            refine to_bipush (q := 72) bp_100 dX11_mistakeAt_70 rfl ?_
            refine to_iload (q := 74) rfl dX11_mistakeAt_72 rfl ?_
            refine to_imul (q := 75) dX11_mistakeAt_74 rfl ?_
            refine to_bipush (q := 77) bp_50 dX11_mistakeAt_75 rfl ?_
            refine to_iload (q := 79) rfl dX11_mistakeAt_77 rfl ?_
            refine to_imul (q := 80) dX11_mistakeAt_79 rfl ?_
            refine to_iadd (q := 81) dX11_mistakeAt_80 rfl ?_
            refine to_iload_n (q := 82) rfl dX11_mistakeAt_81 rfl ?_
            refine to_iadd (q := 83) dX11_mistakeAt_82 rfl ?_
            cases hf
            exact to_iret dX11_mistakeAt_83 rfl rfl rfl rfl hI
          · have hf := ite_neg h18 hf
            refine to_icT (q := 84) (op := .ne) h18 dX11_mistakeAt_67 rfl ?_
            refine to_iinc (q := 87) (v := (x2 + (1 : Int32))) rfl (congrArg (fun z => x2 + z) ic_1) [(2, .int (x2 + (1 : Int32))), (0, .ref 138), (1, .int x1), (3, .int x3), (4, .int x4), (5, .int x5)] rfl (by decide) dX11_mistakeAt_84 rfl ?_
            exact to_ext [(0, .ref 138), (1, .int x1), (2, .int (x2 + (1 : Int32))), (3, .int x3), (4, .int x4), (5, .int x5)] (ext_cons rfl (ext_cons rfl (ext_cons rfl (ext_cons rfl (ext_cons rfl (ext_cons rfl ext_nil)))))) (kX11_mistakeAt_87 hS hk4 hk18 ih hf hI)
        · have hf := ite_neg h17 hf
          refine to_ifF (q := 62) (op := .eq) 65 h17 dX11_mistakeAt_59 rfl rfl ?_
          refine to_goto (q := 87) dX11_mistakeAt_62 rfl ?_
          exact to_ext [(0, .ref 138), (1, .int x1), (2, .int x2), (3, .int x3), (4, .int x4), (5, .int x5)] (ext_cons rfl (ext_cons rfl (ext_cons rfl (ext_cons rfl (ext_cons rfl (ext_cons rfl ext_nil)))))) (kX11_mistakeAt_87 hS hk4 hk18 ih hf hI)
def fX11_mistakeAt_18 (n : Nat) (k4 : Int32 → Int32 → Int32 → Me → Option (Int32 × Me)) (x1 : Int32) (x2 : Int32) (x3 : Int32) (x4 : Int32) (m : Me) : Option (Int32 × Me) := match n with
  | 0 => none
  | n + 1 => if (2 : Int32) ≤ x4 then k4 x1 x2 ((x3 + (1 : Int32))) m else fX11_mistakeAt_27 FU k4 (fX11_mistakeAt_18 n k4) x1 x2 x3 x4 ((0 : Int32)) m
set_option maxRecDepth 20000 in
theorem kX11_mistakeAt_18 {S : Sh} (hS : ShOK S) {res : Int32 × Me} {k4 : Int32 → Int32 → Int32 → Me → Option (Int32 × Me)} (hk4 : ∀ {x1 : Int32} {x2 : Int32} {x3 : Int32} {m : Me}, k4 x1 x2 x3 m = some res → Inv m → TT InvS (Call 4) mX11_mistakeAt (4, [(0, .ref 138), (1, .int x1), (2, .int x2), (3, .int x3)], [], S, m) (some (.int res.1)) (S, res.2)) (n : Nat) : ∀ {x1 : Int32} {x2 : Int32} {x3 : Int32} {x4 : Int32} {m : Me}, fX11_mistakeAt_18 n k4 x1 x2 x3 x4 m = some res → Inv m → TT InvS (Call 4) mX11_mistakeAt (18, [(0, .ref 138), (1, .int x1), (2, .int x2), (3, .int x3), (4, .int x4)], [], S, m) (some (.int res.1)) (S, res.2) := by
  induction n with
  | zero => intro x1 x2 x3 x4 m hf; cases hf
  | succ n ih =>
    intro x1 x2 x3 x4 m hf  hI
    unfold fX11_mistakeAt_18 at hf
    refine to_iload (q := 20) rfl dX11_mistakeAt_18 rfl ?_
    refine to_iconst (q := 21) ic_2 dX11_mistakeAt_20 rfl ?_
    by_cases h6 : (2 : Int32) ≤ x4
    · have hf := ite_pos h6 hf
      refine to_icT (q := 99) (op := .ge) h6 dX11_mistakeAt_21 rfl ?_
      refine to_iinc (q := 102) (v := (x3 + (1 : Int32))) rfl (congrArg (fun z => x3 + z) ic_1) [(3, .int (x3 + (1 : Int32))), (0, .ref 138), (1, .int x1), (2, .int x2), (4, .int x4)] rfl (by decide) dX11_mistakeAt_99 rfl ?_
      refine to_goto (q := 4) dX11_mistakeAt_102 rfl ?_
      exact to_ext [(0, .ref 138), (1, .int x1), (2, .int x2), (3, .int (x3 + (1 : Int32)))] (ext_cons rfl (ext_cons rfl (ext_cons rfl (ext_cons rfl ext_nil)))) (hk4 hf hI)
    · have hf := ite_neg h6 hf
      refine to_icF (q := 24) (op := .ge) 99 h6 dX11_mistakeAt_21 rfl rfl ?_
      refine to_iconst (q := 25) ic_0 dX11_mistakeAt_24 rfl ?_
      refine to_istore (q := 27) [(5, .int (0 : Int32)), (0, .ref 138), (1, .int x1), (2, .int x2), (3, .int x3), (4, .int x4)] rfl (by decide) dX11_mistakeAt_25 rfl ?_
      exact to_ext [(0, .ref 138), (1, .int x1), (2, .int x2), (3, .int x3), (4, .int x4), (5, .int (0 : Int32))] (ext_cons rfl (ext_cons rfl (ext_cons rfl (ext_cons rfl (ext_cons rfl (ext_cons rfl ext_nil)))))) (kX11_mistakeAt_27 hS hk4 ih FU hf hI)
def fX11_mistakeAt_4 (n : Nat) (x1 : Int32) (x2 : Int32) (x3 : Int32) (m : Me) : Option (Int32 × Me) := match n with
  | 0 => none
  | n + 1 => cl2 (fX11_mostOpen 141 m) fun r3 m4 => if r3 < x3 then some ((x2 - (1000000 : Int32)), m4) else fX11_mistakeAt_18 FU (fX11_mistakeAt_4 n) x1 x2 x3 ((0 : Int32)) m4
set_option maxRecDepth 20000 in
theorem kX11_mistakeAt_4 {S : Sh} (hS : ShOK S) {res : Int32 × Me} (n : Nat) : ∀ {x1 : Int32} {x2 : Int32} {x3 : Int32} {m : Me}, fX11_mistakeAt_4 n x1 x2 x3 m = some res → Inv m → TT InvS (Call 4) mX11_mistakeAt (4, [(0, .ref 138), (1, .int x1), (2, .int x2), (3, .int x3)], [], S, m) (some (.int res.1)) (S, res.2) := by
  induction n with
  | zero => intro x1 x2 x3 m hf; cases hf
  | succ n ih =>
    intro x1 x2 x3 m hf  hI
    unfold fX11_mistakeAt_4 at hf
    refine to_iload_n (q := 5) rfl dX11_mistakeAt_4 rfl ?_
    refine to_aload_n (q := 6) rfl (by decide) dX11_mistakeAt_5 rfl ?_
    refine to_getR (q := 9) (b := 141) (k0 := 11) (C := RX11) (T := TX11) (N := 37) (j := 15) rfl fx_X11_20 (h_138 hS) rfl (iv_138_15 hI) dX11_mistakeAt_6 rfl ?_
    obtain ⟨r3, m4, hc1, hf⟩ := cl2_some hf
    have qc2 := kX11_mostOpen hS hc1 rfl hI
    refine to_statI (q := 12) mX11_mostOpen [.ref 141] dX11_mistakeAt_9 rfl rfl (Nat.le_of_ble_eq_true rfl) mo_X11_mostOpen (Or.inl ml_X11_178) sa_X11_mostOpen (Call_mono (by decide) qc2.1) ?_
    have hI := qc2.2
    by_cases h5 : r3 < x3
    · have hf := ite_pos h5 hf
      refine to_icT (q := 105) (op := .gt) h5 dX11_mistakeAt_12 rfl ?_
      refine to_iload_n (q := 106) rfl dX11_mistakeAt_105 rfl ?_
      refine to_ldcw (q := 109) con_X11_328 dX11_mistakeAt_106 rfl ?_
      refine to_isub (q := 110) dX11_mistakeAt_109 rfl ?_
      cases hf
      exact to_iret dX11_mistakeAt_110 rfl rfl rfl rfl hI
    · have hf := ite_neg h5 hf
      refine to_icF (q := 15) (op := .gt) 105 h5 dX11_mistakeAt_12 rfl rfl ?_
      refine to_iconst (q := 16) ic_0 dX11_mistakeAt_15 rfl ?_
      refine to_istore (q := 18) [(4, .int (0 : Int32)), (0, .ref 138), (1, .int x1), (2, .int x2), (3, .int x3)] rfl (by decide) dX11_mistakeAt_16 rfl ?_
      exact to_ext [(0, .ref 138), (1, .int x1), (2, .int x2), (3, .int x3), (4, .int (0 : Int32))] (ext_cons rfl (ext_cons rfl (ext_cons rfl (ext_cons rfl (ext_cons rfl ext_nil))))) (kX11_mistakeAt_18 hS ih FU hf hI)
def fX11_mistakeAt (x1 : Int32) (m : Me) : Option (Int32 × Me) := fX11_mistakeAt_4 FU x1 ((0 : Int32)) ((0 : Int32)) m
set_option maxRecDepth 20000 in
theorem kX11_mistakeAt {S : Sh} (hS : ShOK S) {res : Int32 × Me} {x1 : Int32} {m : Me} (hf : fX11_mistakeAt x1 m = some res) (hI : Inv m) : Call 5 mX11_mistakeAt [.ref 138, .int x1] (S, m) (some (.int res.1)) (S, res.2) ∧ Inv res.2 := by
  refine call_of (P := InvS) (Nat.le_of_ble_eq_true rfl) (by simp [Value.category]) ?_
  show TT InvS (Call 4) mX11_mistakeAt (0, [(0, .ref 138), (1, .int x1)], [], S, m) _ _
  unfold fX11_mistakeAt at hf
  refine to_iconst (q := 1) ic_0 dX11_mistakeAt_0 rfl ?_
  refine to_istore_n (q := 2) [(2, .int (0 : Int32)), (0, .ref 138), (1, .int x1)] rfl (by decide) dX11_mistakeAt_1 rfl ?_
  refine to_iconst (q := 3) ic_0 dX11_mistakeAt_2 rfl ?_
  refine to_istore_n (q := 4) [(3, .int (0 : Int32)), (2, .int (0 : Int32)), (0, .ref 138), (1, .int x1)] rfl (by decide) dX11_mistakeAt_3 rfl ?_
  exact to_ext [(0, .ref 138), (1, .int x1), (2, .int (0 : Int32)), (3, .int (0 : Int32))] (ext_cons rfl (ext_cons rfl (ext_cons rfl (ext_cons rfl ext_nil)))) (kX11_mistakeAt_4 hS FU hf hI)
def fX11_mistakes_28 (t0 : Int32) (m : Me) : Option (Int32 × Me) := some (t0, m)
set_option maxRecDepth 20000 in
theorem kX11_mistakes_28 {S : Sh} (hS : ShOK S) {res : Int32 × Me} {t0 : Int32} {m : Me} (hf : fX11_mistakes_28 t0 m = some res) (hI : Inv m) : TT InvS (Call 5) mX11_mistakes (28, [], [.int t0], S, m) (some (.int res.1)) (S, res.2) := by
  unfold fX11_mistakes_28 at hf
  cases hf
  exact to_iret dX11_mistakes_28 rfl rfl rfl rfl hI
def fX11_mistakes (m : Me) : Option (Int32 × Me) := cl1 (fX11_good m) fun m3 => if (m3.1 138 14) = (0 : Int32) then cl2 (fX11_no (1 : Int32) m3) fun r7 m8 => fX11_mistakes_28 r7 m8 else cl2 (fX11_mistakeAt (-1 : Int32) m3) fun r11 m12 => fX11_mistakes_28 ((r11 + (1000000 : Int32))) m12
set_option maxRecDepth 20000 in
theorem kX11_mistakes {S : Sh} (hS : ShOK S) {res : Int32 × Me} {m : Me} (hf : fX11_mistakes m = some res) (hI : Inv m) : Call 6 mX11_mistakes [.ref 138] (S, m) (some (.int res.1)) (S, res.2) ∧ Inv res.2 := by
  refine call_of (P := InvS) (Nat.le_of_ble_eq_true rfl) (by simp [Value.category]) ?_
  show TT InvS (Call 5) mX11_mistakes (0, [(0, .ref 138)], [], S, m) _ _
  unfold fX11_mistakes at hf
  refine to_aload_n (q := 1) rfl (by decide) dX11_mistakes_0 rfl ?_
  obtain ⟨m3, hc1, hf⟩ := cl1_some hf
  have qc2 := kX11_good hS hc1 hI
  refine to_virtV (q := 4) mX11_good [] dX11_mistakes_1 rfl rfl (Nat.le_of_ble_eq_true rfl) mo_X11_good mv_X11_156 (Or.inl ⟨_, _, _, h_138 hS, rfl, rfl⟩) (Call_mono (by decide) qc2.1) ?_
  have hI := qc2.2
  refine to_aload_n (q := 5) rfl (by decide) dX11_mistakes_4 rfl ?_
  refine to_getI (q := 8) (k0 := 11) (C := RX11) (T := TX11) (N := 37) (j := 14) rfl fx_X11_169 (h_138 hS) rfl dX11_mistakes_5 rfl ?_
  by_cases h4 : (m3.1 138 14) = (0 : Int32)
  · have hf := ite_pos h4 hf
    refine to_ifT (q := 23) (op := .eq) h4 dX11_mistakes_8 rfl ?_
    refine to_aload_n (q := 24) rfl (by decide) dX11_mistakes_23 rfl ?_
    refine to_iconst (q := 25) ic_1 dX11_mistakes_24 rfl ?_
    obtain ⟨r7, m8, hc5, hf⟩ := cl2_some hf
    have qc6 := kX11_no hS hc5 hI
    refine to_virtI (q := 28) mX11_no [.int (1 : Int32)] dX11_mistakes_25 rfl rfl (Nat.le_of_ble_eq_true rfl) mo_X11_no mv_X11_159 (Or.inl ⟨_, _, _, h_138 hS, rfl, rfl⟩) (Call_mono (by decide) qc6.1) ?_
    have hI := qc6.2
    exact to_ext [] ext_nil (kX11_mistakes_28 hS hf hI)
  · have hf := ite_neg h4 hf
    refine to_ifF (q := 11) (op := .eq) 23 h4 dX11_mistakes_8 rfl rfl ?_
    refine to_aload_n (q := 12) rfl (by decide) dX11_mistakes_11 rfl ?_
    refine to_iconst (q := 13) ic_m1 dX11_mistakes_12 rfl ?_
    obtain ⟨r11, m12, hc9, hf⟩ := cl2_some hf
    have qc10 := kX11_mistakeAt hS hc9 hI
    refine to_virtI (q := 16) mX11_mistakeAt [.int (-1 : Int32)] dX11_mistakes_13 rfl rfl (Nat.le_of_ble_eq_true rfl) mo_X11_mistakeAt mv_X11_329 (Or.inl ⟨_, _, _, h_138 hS, rfl, rfl⟩) (Call_mono (by decide) qc10.1) ?_
    have hI := qc10.2
    refine to_ldcw (q := 19) con_X11_328 dX11_mistakes_16 rfl ?_
    refine to_iadd (q := 20) dX11_mistakes_19 rfl ?_
    refine to_goto (q := 28) dX11_mistakes_20 rfl ?_
    exact to_ext [] ext_nil (kX11_mistakes_28 hS hf hI)
def fX11_mistake_38 (t0 : Int32) (m : Me) : Option (Int32 × Me) := some (t0, m)
set_option maxRecDepth 20000 in
theorem kX11_mistake_38 {S : Sh} (hS : ShOK S) {res : Int32 × Me} {t0 : Int32} {m : Me} (hf : fX11_mistake_38 t0 m = some res) (hI : Inv m) : TT InvS (Call 5) mX11_mistake (38, [], [.int t0], S, m) (some (.int res.1)) (S, res.2) := by
  unfold fX11_mistake_38 at hf
  cases hf
  exact to_iret dX11_mistake_38 rfl rfl rfl rfl hI
def fX11_mistake_24 (t0 : Int32) (m : Me) : Option (Int32 × Me) := if (0 : Int32) ≤ t0 then fX11_mistake_38 t0 m else cl2 (fX11_no (1 : Int32) m) fun r13 m14 => fX11_mistake_38 r13 m14
set_option maxRecDepth 20000 in
theorem kX11_mistake_24 {S : Sh} (hS : ShOK S) {res : Int32 × Me} {t0 : Int32} {m : Me} (hf : fX11_mistake_24 t0 m = some res) (hI : Inv m) : TT InvS (Call 5) mX11_mistake (24, [(0, .ref 138)], [.int t0], S, m) (some (.int res.1)) (S, res.2) := by
  unfold fX11_mistake_24 at hf
  refine to_istore_n (q := 25) [(2, .int t0), (0, .ref 138)] rfl (by decide) dX11_mistake_24 rfl ?_
  refine to_iload_n (q := 26) rfl dX11_mistake_25 rfl ?_
  by_cases h10 : (0 : Int32) ≤ t0
  · have hf := ite_pos h10 hf
    refine to_ifT (q := 37) (op := .ge) h10 dX11_mistake_26 rfl ?_
    refine to_iload_n (q := 38) rfl dX11_mistake_37 rfl ?_
    exact to_ext [] ext_nil (kX11_mistake_38 hS hf hI)
  · have hf := ite_neg h10 hf
    refine to_ifF (q := 29) (op := .ge) 37 h10 dX11_mistake_26 rfl rfl ?_
    refine to_aload_n (q := 30) rfl (by decide) dX11_mistake_29 rfl ?_
    refine to_iconst (q := 31) ic_1 dX11_mistake_30 rfl ?_
    obtain ⟨r13, m14, hc11, hf⟩ := cl2_some hf
    have qc12 := kX11_no hS hc11 hI
    refine to_virtI (q := 34) mX11_no [.int (1 : Int32)] dX11_mistake_31 rfl rfl (Nat.le_of_ble_eq_true rfl) mo_X11_no mv_X11_159 (Or.inl ⟨_, _, _, h_138 hS, rfl, rfl⟩) (Call_mono (by decide) qc12.1) ?_
    have hI := qc12.2
    refine to_goto (q := 38) dX11_mistake_34 rfl ?_
    exact to_ext [] ext_nil (kX11_mistake_38 hS hf hI)
def fX11_mistake_23 (m : Me) : Option (Int32 × Me) := fX11_mistake_24 ((-1 : Int32)) m
set_option maxRecDepth 20000 in
theorem kX11_mistake_23 {S : Sh} (hS : ShOK S) {res : Int32 × Me} {m : Me} (hf : fX11_mistake_23 m = some res) (hI : Inv m) : TT InvS (Call 5) mX11_mistake (23, [(0, .ref 138)], [], S, m) (some (.int res.1)) (S, res.2) := by
  unfold fX11_mistake_23 at hf
  refine to_iconst (q := 24) ic_m1 dX11_mistake_23 rfl ?_
  exact to_ext [(0, .ref 138)] (ext_cons rfl ext_nil) (kX11_mistake_24 hS hf hI)
def fX11_mistake (x1 : Int32) (m : Me) : Option (Int32 × Me) := cl1 (fX11_good m) fun m3 => if (m3.1 138 14) = (0 : Int32) then fX11_mistake_23 m3 else if x1 < (0 : Int32) then fX11_mistake_23 m3 else cl2 (fX11_mistakeAt x1 m3) fun r8 m9 => fX11_mistake_24 r8 m9
set_option maxRecDepth 20000 in
theorem kX11_mistake {S : Sh} (hS : ShOK S) {res : Int32 × Me} {x1 : Int32} {m : Me} (hf : fX11_mistake x1 m = some res) (hI : Inv m) : Call 6 mX11_mistake [.ref 138, .int x1] (S, m) (some (.int res.1)) (S, res.2) ∧ Inv res.2 := by
  refine call_of (P := InvS) (Nat.le_of_ble_eq_true rfl) (by simp [Value.category]) ?_
  show TT InvS (Call 5) mX11_mistake (0, [(0, .ref 138), (1, .int x1)], [], S, m) _ _
  unfold fX11_mistake at hf
  refine to_aload_n (q := 1) rfl (by decide) dX11_mistake_0 rfl ?_
  obtain ⟨m3, hc1, hf⟩ := cl1_some hf
  have qc2 := kX11_good hS hc1 hI
  refine to_virtV (q := 4) mX11_good [] dX11_mistake_1 rfl rfl (Nat.le_of_ble_eq_true rfl) mo_X11_good mv_X11_156 (Or.inl ⟨_, _, _, h_138 hS, rfl, rfl⟩) (Call_mono (by decide) qc2.1) ?_
  have hI := qc2.2
  refine to_aload_n (q := 5) rfl (by decide) dX11_mistake_4 rfl ?_
  refine to_getI (q := 8) (k0 := 11) (C := RX11) (T := TX11) (N := 37) (j := 14) rfl fx_X11_169 (h_138 hS) rfl dX11_mistake_5 rfl ?_
  by_cases h4 : (m3.1 138 14) = (0 : Int32)
  · have hf := ite_pos h4 hf
    refine to_ifT (q := 23) (op := .eq) h4 dX11_mistake_8 rfl ?_
    exact to_ext [(0, .ref 138)] (ext_cons rfl ext_nil) (kX11_mistake_23 hS hf hI)
  · have hf := ite_neg h4 hf
    refine to_ifF (q := 11) (op := .eq) 23 h4 dX11_mistake_8 rfl rfl ?_
    refine to_iload_n (q := 12) rfl dX11_mistake_11 rfl ?_
    by_cases h5 : x1 < (0 : Int32)
    · have hf := ite_pos h5 hf
      refine to_ifT (q := 23) (op := .lt) h5 dX11_mistake_12 rfl ?_
      exact to_ext [(0, .ref 138)] (ext_cons rfl ext_nil) (kX11_mistake_23 hS hf hI)
    · have hf := ite_neg h5 hf
      refine to_ifF (q := 15) (op := .lt) 23 h5 dX11_mistake_12 rfl rfl ?_
      refine to_aload_n (q := 16) rfl (by decide) dX11_mistake_15 rfl ?_
      refine to_iload_n (q := 17) rfl dX11_mistake_16 rfl ?_
      obtain ⟨r8, m9, hc6, hf⟩ := cl2_some hf
      have qc7 := kX11_mistakeAt hS hc6 hI
      refine to_virtI (q := 20) mX11_mistakeAt [.int x1] dX11_mistake_17 rfl rfl (Nat.le_of_ble_eq_true rfl) mo_X11_mistakeAt mv_X11_329 (Or.inl ⟨_, _, _, h_138 hS, rfl, rfl⟩) (Call_mono (by decide) qc7.1) ?_
      have hI := qc7.2
      refine to_goto (q := 24) dX11_mistake_20 rfl ?_
      exact to_ext [(0, .ref 138)] (ext_cons rfl ext_nil) (kX11_mistake_24 hS hf hI)
def fX11_isWhole_45 (k4 : Int32 → Int32 → Int32 → Me → Option (Int32 × Me)) (x1 : Int32) (x3 : Int32) (t0 : Int32) (m : Me) : Option (Int32 × Me) := k4 x1 t0 ((x3 + (1 : Int32))) m
set_option maxRecDepth 20000 in
theorem kX11_isWhole_45 {S : Sh} (hS : ShOK S) {res : Int32 × Me} {k4 : Int32 → Int32 → Int32 → Me → Option (Int32 × Me)} (hk4 : ∀ {x1 : Int32} {x2 : Int32} {x3 : Int32} {m : Me}, k4 x1 x2 x3 m = some res → Inv m → TT InvS (Call 0) mX11_isWhole (4, [(0, .ref 138), (1, .int x1), (2, .int x2), (3, .int x3)], [], S, m) (some (.int res.1)) (S, res.2)) {x1 : Int32} {x3 : Int32} {t0 : Int32} {m : Me} (hf : fX11_isWhole_45 k4 x1 x3 t0 m = some res) (hI : Inv m) : TT InvS (Call 0) mX11_isWhole (45, [(0, .ref 138), (1, .int x1), (3, .int x3)], [.int t0], S, m) (some (.int res.1)) (S, res.2) := by
  unfold fX11_isWhole_45 at hf
  refine to_istore_n (q := 46) [(2, .int t0), (0, .ref 138), (1, .int x1), (3, .int x3)] rfl (by decide) dX11_isWhole_45 rfl ?_
  refine to_iinc (q := 49) (v := (x3 + (1 : Int32))) rfl (congrArg (fun z => x3 + z) ic_1) [(3, .int (x3 + (1 : Int32))), (2, .int t0), (0, .ref 138), (1, .int x1)] rfl (by decide) dX11_isWhole_46 rfl ?_
  refine to_goto (q := 4) dX11_isWhole_49 rfl ?_
  exact to_ext [(0, .ref 138), (1, .int x1), (2, .int t0), (3, .int (x3 + (1 : Int32)))] (ext_cons rfl (ext_cons rfl (ext_cons rfl (ext_cons rfl ext_nil)))) (hk4 hf hI)
def fX11_isWhole_44 (k4 : Int32 → Int32 → Int32 → Me → Option (Int32 × Me)) (x1 : Int32) (x3 : Int32) (m : Me) : Option (Int32 × Me) := fX11_isWhole_45 k4 x1 x3 ((0 : Int32)) m
set_option maxRecDepth 20000 in
theorem kX11_isWhole_44 {S : Sh} (hS : ShOK S) {res : Int32 × Me} {k4 : Int32 → Int32 → Int32 → Me → Option (Int32 × Me)} (hk4 : ∀ {x1 : Int32} {x2 : Int32} {x3 : Int32} {m : Me}, k4 x1 x2 x3 m = some res → Inv m → TT InvS (Call 0) mX11_isWhole (4, [(0, .ref 138), (1, .int x1), (2, .int x2), (3, .int x3)], [], S, m) (some (.int res.1)) (S, res.2)) {x1 : Int32} {x3 : Int32} {m : Me} (hf : fX11_isWhole_44 k4 x1 x3 m = some res) (hI : Inv m) : TT InvS (Call 0) mX11_isWhole (44, [(0, .ref 138), (1, .int x1), (3, .int x3)], [], S, m) (some (.int res.1)) (S, res.2) := by
  unfold fX11_isWhole_44 at hf
  refine to_iconst (q := 45) ic_0 dX11_isWhole_44 rfl ?_
  exact to_ext [(0, .ref 138), (1, .int x1), (3, .int x3)] (ext_cons rfl (ext_cons rfl (ext_cons rfl ext_nil))) (kX11_isWhole_45 hS hk4 hf hI)
def fX11_isWhole_4 (n : Nat) (x1 : Int32) (x2 : Int32) (x3 : Int32) (m : Me) : Option (Int32 × Me) := match n with
  | 0 => none
  | n + 1 => ck (inb ((64 : Int32) + x1) 186) (if (m.1 141 ((64 : Int32) + x1).toNatClampNeg) ≤ x3 then ck (x2 = 0 ∨ x2 = 1) (some (x2, m)) else if x2 = (0 : Int32) then fX11_isWhole_44 (fX11_isWhole_4 n) x1 x3 m else ck (inb (((68 : Int32) + ((8 : Int32) * x1)) + x3) 186) (if (m.1 141 (((68 : Int32) + ((8 : Int32) * x1)) + x3).toNatClampNeg) = (25 : Int32) then fX11_isWhole_44 (fX11_isWhole_4 n) x1 x3 m else fX11_isWhole_45 (fX11_isWhole_4 n) x1 x3 ((1 : Int32)) m))
set_option maxRecDepth 20000 in
theorem kX11_isWhole_4 {S : Sh} (hS : ShOK S) {res : Int32 × Me} (n : Nat) : ∀ {x1 : Int32} {x2 : Int32} {x3 : Int32} {m : Me}, fX11_isWhole_4 n x1 x2 x3 m = some res → Inv m → TT InvS (Call 0) mX11_isWhole (4, [(0, .ref 138), (1, .int x1), (2, .int x2), (3, .int x3)], [], S, m) (some (.int res.1)) (S, res.2) := by
  induction n with
  | zero => intro x1 x2 x3 m hf; cases hf
  | succ n ih =>
    intro x1 x2 x3 m hf  hI
    unfold fX11_isWhole_4 at hf
    refine to_iload_n (q := 5) rfl dX11_isWhole_4 rfl ?_
    refine to_aload_n (q := 6) rfl (by decide) dX11_isWhole_5 rfl ?_
    refine to_getR (q := 9) (b := 141) (k0 := 11) (C := RX11) (T := TX11) (N := 37) (j := 15) rfl fx_X11_20 (h_138 hS) rfl (iv_138_15 hI) dX11_isWhole_6 rfl ?_
    refine to_bipush (q := 11) bp_64 dX11_isWhole_9 rfl ?_
    refine to_iload_n (q := 12) rfl dX11_isWhole_11 rfl ?_
    refine to_iadd (q := 13) dX11_isWhole_12 rfl ?_
    obtain ⟨hb1, hf⟩ := ck_some hf
    refine to_iaj (q := 14) (h_141 hS) hb1 (rfl) dX11_isWhole_13 rfl ?_
    by_cases h2 : (m.1 141 ((64 : Int32) + x1).toNatClampNeg) ≤ x3
    · have hf := ite_pos h2 hf
      refine to_icT (q := 52) (op := .ge) h2 dX11_isWhole_14 rfl ?_
      refine to_iload_n (q := 53) rfl dX11_isWhole_52 rfl ?_
      obtain ⟨hz3, hf⟩ := ck_some hf
      cases hf
      exact to_iret dX11_isWhole_53 rfl (nf_Z hz3).1 rfl rfl hI
    · have hf := ite_neg h2 hf
      refine to_icF (q := 17) (op := .ge) 52 h2 dX11_isWhole_14 rfl rfl ?_
      refine to_iload_n (q := 18) rfl dX11_isWhole_17 rfl ?_
      by_cases h4 : x2 = (0 : Int32)
      · have hf := ite_pos h4 hf
        refine to_ifT (q := 44) (op := .eq) h4 dX11_isWhole_18 rfl ?_
        exact to_ext [(0, .ref 138), (1, .int x1), (3, .int x3)] (ext_cons rfl (ext_cons rfl (ext_cons rfl ext_nil))) (kX11_isWhole_44 hS ih hf hI)
      · have hf := ite_neg h4 hf
        refine to_ifF (q := 21) (op := .eq) 44 h4 dX11_isWhole_18 rfl rfl ?_
        refine to_aload_n (q := 22) rfl (by decide) dX11_isWhole_21 rfl ?_
        refine to_getR (q := 25) (b := 141) (k0 := 11) (C := RX11) (T := TX11) (N := 37) (j := 15) rfl fx_X11_20 (h_138 hS) rfl (iv_138_15 hI) dX11_isWhole_22 rfl ?_
        refine to_bipush (q := 27) bp_68 dX11_isWhole_25 rfl ?_
        refine to_bipush (q := 29) bp_8 dX11_isWhole_27 rfl ?_
        refine to_iload_n (q := 30) rfl dX11_isWhole_29 rfl ?_
        refine to_imul (q := 31) dX11_isWhole_30 rfl ?_
        refine to_iadd (q := 32) dX11_isWhole_31 rfl ?_
        refine to_iload_n (q := 33) rfl dX11_isWhole_32 rfl ?_
        refine to_iadd (q := 34) dX11_isWhole_33 rfl ?_
        obtain ⟨hb5, hf⟩ := ck_some hf
        refine to_iaj (q := 35) (h_141 hS) hb5 (rfl) dX11_isWhole_34 rfl ?_
        refine to_bipush (q := 37) bp_25 dX11_isWhole_35 rfl ?_
        by_cases h6 : (m.1 141 (((68 : Int32) + ((8 : Int32) * x1)) + x3).toNatClampNeg) = (25 : Int32)
        · have hf := ite_pos h6 hf
          refine to_icT (q := 44) (op := .eq) h6 dX11_isWhole_37 rfl ?_
          exact to_ext [(0, .ref 138), (1, .int x1), (3, .int x3)] (ext_cons rfl (ext_cons rfl (ext_cons rfl ext_nil))) (kX11_isWhole_44 hS ih hf hI)
        · have hf := ite_neg h6 hf
          refine to_icF (q := 40) (op := .eq) 44 h6 dX11_isWhole_37 rfl rfl ?_
          refine to_iconst (q := 41) ic_1 dX11_isWhole_40 rfl ?_
          refine to_goto (q := 45) dX11_isWhole_41 rfl ?_
          exact to_ext [(0, .ref 138), (1, .int x1), (3, .int x3)] (ext_cons rfl (ext_cons rfl (ext_cons rfl ext_nil))) (kX11_isWhole_45 hS ih hf hI)
def fX11_isWhole (x1 : Int32) (m : Me) : Option (Int32 × Me) := fX11_isWhole_4 FU x1 ((1 : Int32)) ((0 : Int32)) m
set_option maxRecDepth 20000 in
theorem kX11_isWhole {S : Sh} (hS : ShOK S) {res : Int32 × Me} {x1 : Int32} {m : Me} (hf : fX11_isWhole x1 m = some res) (hI : Inv m) : Call 1 mX11_isWhole [.ref 138, .int x1] (S, m) (some (.int res.1)) (S, res.2) ∧ Inv res.2 := by
  refine call_of (P := InvS) (Nat.le_of_ble_eq_true rfl) (by simp [Value.category]) ?_
  show TT InvS (Call 0) mX11_isWhole (0, [(0, .ref 138), (1, .int x1)], [], S, m) _ _
  unfold fX11_isWhole at hf
  refine to_iconst (q := 1) ic_1 dX11_isWhole_0 rfl ?_
  refine to_istore_n (q := 2) [(2, .int (1 : Int32)), (0, .ref 138), (1, .int x1)] rfl (by decide) dX11_isWhole_1 rfl ?_
  refine to_iconst (q := 3) ic_0 dX11_isWhole_2 rfl ?_
  refine to_istore_n (q := 4) [(3, .int (0 : Int32)), (2, .int (1 : Int32)), (0, .ref 138), (1, .int x1)] rfl (by decide) dX11_isWhole_3 rfl ?_
  exact to_ext [(0, .ref 138), (1, .int x1), (2, .int (1 : Int32)), (3, .int (0 : Int32))] (ext_cons rfl (ext_cons rfl (ext_cons rfl (ext_cons rfl ext_nil)))) (kX11_isWhole_4 hS FU hf hI)
def fX11_mendOf_161 (x3 : Int32) (m : Me) : Option (Int32 × Me) := some (x3, m)
set_option maxRecDepth 20000 in
theorem kX11_mendOf_161 {S : Sh} (hS : ShOK S) {res : Int32 × Me} {x3 : Int32} {m : Me} (hf : fX11_mendOf_161 x3 m = some res) (hI : Inv m) : TT InvS (Call 3) mX11_mendOf (161, [(3, .int x3)], [], S, m) (some (.int res.1)) (S, res.2) := by
  unfold fX11_mendOf_161 at hf
  refine to_iload_n (q := 162) rfl dX11_mendOf_161 rfl ?_
  cases hf
  exact to_iret dX11_mendOf_162 rfl rfl rfl rfl hI
def fX11_mendOf_155 (k35 : Int32 → Int32 → Int32 → Int32 → Me → Option (Int32 × Me)) (x1 : Int32) (x2 : Int32) (x3 : Int32) (x4 : Int32) (m : Me) : Option (Int32 × Me) := k35 x1 x2 x3 ((x4 + (1 : Int32))) m
set_option maxRecDepth 20000 in
theorem kX11_mendOf_155 {S : Sh} (hS : ShOK S) {res : Int32 × Me} {k35 : Int32 → Int32 → Int32 → Int32 → Me → Option (Int32 × Me)} (hk35 : ∀ {x1 : Int32} {x2 : Int32} {x3 : Int32} {x4 : Int32} {m : Me}, k35 x1 x2 x3 x4 m = some res → Inv m → TT InvS (Call 3) mX11_mendOf (35, [(0, .ref 138), (1, .int x1), (2, .int x2), (3, .int x3), (4, .int x4)], [], S, m) (some (.int res.1)) (S, res.2)) {x1 : Int32} {x2 : Int32} {x3 : Int32} {x4 : Int32} {m : Me} (hf : fX11_mendOf_155 k35 x1 x2 x3 x4 m = some res) (hI : Inv m) : TT InvS (Call 3) mX11_mendOf (155, [(0, .ref 138), (1, .int x1), (2, .int x2), (3, .int x3), (4, .int x4)], [], S, m) (some (.int res.1)) (S, res.2) := by
  unfold fX11_mendOf_155 at hf
  refine to_iinc (q := 158) (v := (x4 + (1 : Int32))) rfl (congrArg (fun z => x4 + z) ic_1) [(4, .int (x4 + (1 : Int32))), (0, .ref 138), (1, .int x1), (2, .int x2), (3, .int x3)] rfl (by decide) dX11_mendOf_155 rfl ?_
  refine to_goto (q := 35) dX11_mendOf_158 rfl ?_
  exact to_ext [(0, .ref 138), (1, .int x1), (2, .int x2), (3, .int x3), (4, .int (x4 + (1 : Int32)))] (ext_cons rfl (ext_cons rfl (ext_cons rfl (ext_cons rfl (ext_cons rfl ext_nil))))) (hk35 hf hI)
def fX11_mendOf_146 (k35 : Int32 → Int32 → Int32 → Int32 → Me → Option (Int32 × Me)) (x1 : Int32) (x2 : Int32) (x4 : Int32) (x5 : Int32) (m : Me) : Option (Int32 × Me) := fX11_mendOf_155 k35 x1 x2 x5 x4 (setI m 138 26 x4)
set_option maxRecDepth 20000 in
theorem kX11_mendOf_146 {S : Sh} (hS : ShOK S) {res : Int32 × Me} {k35 : Int32 → Int32 → Int32 → Int32 → Me → Option (Int32 × Me)} (hk35 : ∀ {x1 : Int32} {x2 : Int32} {x3 : Int32} {x4 : Int32} {m : Me}, k35 x1 x2 x3 x4 m = some res → Inv m → TT InvS (Call 3) mX11_mendOf (35, [(0, .ref 138), (1, .int x1), (2, .int x2), (3, .int x3), (4, .int x4)], [], S, m) (some (.int res.1)) (S, res.2)) {x1 : Int32} {x2 : Int32} {x4 : Int32} {x5 : Int32} {m : Me} (hf : fX11_mendOf_146 k35 x1 x2 x4 x5 m = some res) (hI : Inv m) : TT InvS (Call 3) mX11_mendOf (146, [(0, .ref 138), (1, .int x1), (2, .int x2), (4, .int x4), (5, .int x5)], [], S, m) (some (.int res.1)) (S, res.2) := by
  unfold fX11_mendOf_146 at hf
  refine to_iload (q := 148) rfl dX11_mendOf_146 rfl ?_
  refine to_istore_n (q := 149) [(3, .int x5), (0, .ref 138), (1, .int x1), (2, .int x2), (4, .int x4), (5, .int x5)] rfl (by decide) dX11_mendOf_148 rfl ?_
  refine to_aload_n (q := 150) rfl (by decide) dX11_mendOf_149 rfl ?_
  refine to_iload (q := 152) rfl dX11_mendOf_150 rfl ?_
  refine to_putI (q := 155) (ty := .int) (k0 := 11) (C := RX11) (T := TX11) (N := 37) (j := 26) rfl fx_X11_332 (h_138 hS) rfl pD_I (Or.inl rfl) (nf_I _) dX11_mendOf_152 rfl ?_
  exact to_ext [(0, .ref 138), (1, .int x1), (2, .int x2), (3, .int x5), (4, .int x4)] (ext_cons rfl (ext_cons rfl (ext_cons rfl (ext_cons rfl (ext_cons rfl ext_nil))))) (kX11_mendOf_155 hS hk35 hf hI)
def fX11_mendOf_122 (k35 : Int32 → Int32 → Int32 → Int32 → Me → Option (Int32 × Me)) (k65 : Int32 → Int32 → Int32 → Int32 → Int32 → Int32 → Me → Option (Int32 × Me)) (x1 : Int32) (x2 : Int32) (x3 : Int32) (x4 : Int32) (x6 : Int32) (t0 : Int32) (t1 : Int32) (m : Me) : Option (Int32 × Me) := k65 x1 x2 x3 x4 ((t1 + t0)) ((x6 + (1 : Int32))) m
set_option maxRecDepth 20000 in
theorem kX11_mendOf_122 {S : Sh} (hS : ShOK S) {res : Int32 × Me} {k35 : Int32 → Int32 → Int32 → Int32 → Me → Option (Int32 × Me)} (hk35 : ∀ {x1 : Int32} {x2 : Int32} {x3 : Int32} {x4 : Int32} {m : Me}, k35 x1 x2 x3 x4 m = some res → Inv m → TT InvS (Call 3) mX11_mendOf (35, [(0, .ref 138), (1, .int x1), (2, .int x2), (3, .int x3), (4, .int x4)], [], S, m) (some (.int res.1)) (S, res.2)) {k65 : Int32 → Int32 → Int32 → Int32 → Int32 → Int32 → Me → Option (Int32 × Me)} (hk65 : ∀ {x1 : Int32} {x2 : Int32} {x3 : Int32} {x4 : Int32} {x5 : Int32} {x6 : Int32} {m : Me}, k65 x1 x2 x3 x4 x5 x6 m = some res → Inv m → TT InvS (Call 3) mX11_mendOf (65, [(0, .ref 138), (1, .int x1), (2, .int x2), (3, .int x3), (4, .int x4), (5, .int x5), (6, .int x6)], [], S, m) (some (.int res.1)) (S, res.2)) {x1 : Int32} {x2 : Int32} {x3 : Int32} {x4 : Int32} {x6 : Int32} {t0 : Int32} {t1 : Int32} {m : Me} (hf : fX11_mendOf_122 k35 k65 x1 x2 x3 x4 x6 t0 t1 m = some res) (hI : Inv m) : TT InvS (Call 3) mX11_mendOf (122, [(0, .ref 138), (1, .int x1), (2, .int x2), (3, .int x3), (4, .int x4), (6, .int x6)], [.int t0, .int t1], S, m) (some (.int res.1)) (S, res.2) := by
  unfold fX11_mendOf_122 at hf
  refine to_iadd (q := 123) dX11_mendOf_122 rfl ?_
  refine to_istore (q := 125) [(5, .int (t1 + t0)), (0, .ref 138), (1, .int x1), (2, .int x2), (3, .int x3), (4, .int x4), (6, .int x6)] rfl (by decide) dX11_mendOf_123 rfl ?_
  refine to_iinc (q := 128) (v := (x6 + (1 : Int32))) rfl (congrArg (fun z => x6 + z) ic_1) [(6, .int (x6 + (1 : Int32))), (5, .int (t1 + t0)), (0, .ref 138), (1, .int x1), (2, .int x2), (3, .int x3), (4, .int x4)] rfl (by decide) dX11_mendOf_125 rfl ?_
  refine to_goto (q := 65) dX11_mendOf_128 rfl ?_
  exact to_ext [(0, .ref 138), (1, .int x1), (2, .int x2), (3, .int x3), (4, .int x4), (5, .int (t1 + t0)), (6, .int (x6 + (1 : Int32)))] (ext_cons rfl (ext_cons rfl (ext_cons rfl (ext_cons rfl (ext_cons rfl (ext_cons rfl (ext_cons rfl ext_nil))))))) (hk65 hf hI)
def fX11_mendOf_65 (n : Nat) (k35 : Int32 → Int32 → Int32 → Int32 → Me → Option (Int32 × Me)) (x1 : Int32) (x2 : Int32) (x3 : Int32) (x4 : Int32) (x5 : Int32) (x6 : Int32) (m : Me) : Option (Int32 × Me) := match n with
  | 0 => none
  | n + 1 => ck (inb ((64 : Int32) + x1) 186) (if (m.1 141 ((64 : Int32) + x1).toNatClampNeg) ≤ x6 then if x3 = (-2 : Int32) then fX11_mendOf_146 k35 x1 x2 x4 x5 m else if x5 < x3 then fX11_mendOf_146 k35 x1 x2 x4 x5 m else fX11_mendOf_155 k35 x1 x2 x3 x4 m else ck (inb ((100 : Int32) + x1) 186) (cl2 (fX11_letterAt ((m.1 141 ((100 : Int32) + x1).toNatClampNeg)) (x4 + x6) m) fun r21 m22 => ck (inb (((68 : Int32) + ((8 : Int32) * x1)) + x6) 186) (if r21 = (m22.1 141 (((68 : Int32) + ((8 : Int32) * x1)) + x6).toNatClampNeg) then fX11_mendOf_122 k35 (fX11_mendOf_65 n k35) x1 x2 x3 x4 x6 ((0 : Int32)) x5 m22 else fX11_mendOf_122 k35 (fX11_mendOf_65 n k35) x1 x2 x3 x4 x6 ((1 : Int32)) x5 m22)))
set_option maxRecDepth 20000 in
theorem kX11_mendOf_65 {S : Sh} (hS : ShOK S) {res : Int32 × Me} {k35 : Int32 → Int32 → Int32 → Int32 → Me → Option (Int32 × Me)} (hk35 : ∀ {x1 : Int32} {x2 : Int32} {x3 : Int32} {x4 : Int32} {m : Me}, k35 x1 x2 x3 x4 m = some res → Inv m → TT InvS (Call 3) mX11_mendOf (35, [(0, .ref 138), (1, .int x1), (2, .int x2), (3, .int x3), (4, .int x4)], [], S, m) (some (.int res.1)) (S, res.2)) (n : Nat) : ∀ {x1 : Int32} {x2 : Int32} {x3 : Int32} {x4 : Int32} {x5 : Int32} {x6 : Int32} {m : Me}, fX11_mendOf_65 n k35 x1 x2 x3 x4 x5 x6 m = some res → Inv m → TT InvS (Call 3) mX11_mendOf (65, [(0, .ref 138), (1, .int x1), (2, .int x2), (3, .int x3), (4, .int x4), (5, .int x5), (6, .int x6)], [], S, m) (some (.int res.1)) (S, res.2) := by
  induction n with
  | zero => intro x1 x2 x3 x4 x5 x6 m hf; cases hf
  | succ n ih =>
    intro x1 x2 x3 x4 x5 x6 m hf  hI
    unfold fX11_mendOf_65 at hf
    refine to_iload (q := 67) rfl dX11_mendOf_65 rfl ?_
    refine to_aload_n (q := 68) rfl (by decide) dX11_mendOf_67 rfl ?_
    refine to_getR (q := 71) (b := 141) (k0 := 11) (C := RX11) (T := TX11) (N := 37) (j := 15) rfl fx_X11_20 (h_138 hS) rfl (iv_138_15 hI) dX11_mendOf_68 rfl ?_
    refine to_bipush (q := 73) bp_64 dX11_mendOf_71 rfl ?_
    refine to_iload_n (q := 74) rfl dX11_mendOf_73 rfl ?_
    refine to_iadd (q := 75) dX11_mendOf_74 rfl ?_
    obtain ⟨hb14, hf⟩ := ck_some hf
    refine to_iaj (q := 76) (h_141 hS) hb14 (rfl) dX11_mendOf_75 rfl ?_
    by_cases h15 : (m.1 141 ((64 : Int32) + x1).toNatClampNeg) ≤ x6
    · have hf := ite_pos h15 hf
      refine to_icT (q := 131) (op := .ge) h15 dX11_mendOf_76 rfl ?_
      refine to_iload_n (q := 132) rfl dX11_mendOf_131 rfl ?_
      refine to_bipush (q := 134) bp_m2 dX11_mendOf_132 rfl ?_
      by_cases h16 : x3 = (-2 : Int32)
      · have hf := ite_pos h16 hf
        refine to_icT (q := 146) (op := .eq) h16 dX11_mendOf_134 rfl ?_
        exact to_ext [(0, .ref 138), (1, .int x1), (2, .int x2), (4, .int x4), (5, .int x5)] (ext_cons rfl (ext_cons rfl (ext_cons rfl (ext_cons rfl (ext_cons rfl ext_nil))))) (kX11_mendOf_146 hS hk35 hf hI)
      · have hf := ite_neg h16 hf
        refine to_icF (q := 137) (op := .eq) 146 h16 dX11_mendOf_134 rfl rfl ?_
        refine to_iload (q := 139) rfl dX11_mendOf_137 rfl ?_
        refine to_iload_n (q := 140) rfl dX11_mendOf_139 rfl ?_
        by_cases h17 : x5 < x3
        · have hf := ite_pos h17 hf
          refine to_icT (q := 146) (op := .lt) h17 dX11_mendOf_140 rfl ?_
          exact to_ext [(0, .ref 138), (1, .int x1), (2, .int x2), (4, .int x4), (5, .int x5)] (ext_cons rfl (ext_cons rfl (ext_cons rfl (ext_cons rfl (ext_cons rfl ext_nil))))) (kX11_mendOf_146 hS hk35 hf hI)
        · have hf := ite_neg h17 hf
          refine to_icF (q := 143) (op := .lt) 146 h17 dX11_mendOf_140 rfl rfl ?_
          refine to_goto (q := 155) dX11_mendOf_143 rfl ?_
          exact to_ext [(0, .ref 138), (1, .int x1), (2, .int x2), (3, .int x3), (4, .int x4)] (ext_cons rfl (ext_cons rfl (ext_cons rfl (ext_cons rfl (ext_cons rfl ext_nil))))) (kX11_mendOf_155 hS hk35 hf hI)
    · have hf := ite_neg h15 hf
      refine to_icF (q := 79) (op := .ge) 131 h15 dX11_mendOf_76 rfl rfl ?_
      refine to_iload (q := 81) rfl dX11_mendOf_79 rfl ?_
      refine to_aload_n (q := 82) rfl (by decide) dX11_mendOf_81 rfl ?_
      refine to_aload_n (q := 83) rfl (by decide) dX11_mendOf_82 rfl ?_
      refine to_getR (q := 86) (b := 141) (k0 := 11) (C := RX11) (T := TX11) (N := 37) (j := 15) rfl fx_X11_20 (h_138 hS) rfl (iv_138_15 hI) dX11_mendOf_83 rfl ?_
      refine to_bipush (q := 88) bp_100 dX11_mendOf_86 rfl ?_
      refine to_iload_n (q := 89) rfl dX11_mendOf_88 rfl ?_
      refine to_iadd (q := 90) dX11_mendOf_89 rfl ?_
      obtain ⟨hb18, hf⟩ := ck_some hf
      refine to_iaj (q := 91) (h_141 hS) hb18 (rfl) dX11_mendOf_90 rfl ?_
      refine to_iload (q := 93) rfl dX11_mendOf_91 rfl ?_
      refine to_iload (q := 95) rfl dX11_mendOf_93 rfl ?_
      refine to_iadd (q := 96) dX11_mendOf_95 rfl ?_
      obtain ⟨r21, m22, hc19, hf⟩ := cl2_some hf
      have qc20 := kX11_letterAt hS hc19 hI
      refine to_virtI (q := 99) mX11_letterAt [.int (m.1 141 ((100 : Int32) + x1).toNatClampNeg), .int (x4 + x6)] dX11_mendOf_96 rfl rfl (Nat.le_of_ble_eq_true rfl) mo_X11_letterAt mv_X11_286 (Or.inl ⟨_, _, _, h_138 hS, rfl, rfl⟩) (Call_mono (by decide) qc20.1) ?_
      have hI := qc20.2
      refine to_aload_n (q := 100) rfl (by decide) dX11_mendOf_99 rfl ?_
      refine to_getR (q := 103) (b := 141) (k0 := 11) (C := RX11) (T := TX11) (N := 37) (j := 15) rfl fx_X11_20 (h_138 hS) rfl (iv_138_15 hI) dX11_mendOf_100 rfl ?_
      refine to_bipush (q := 105) bp_68 dX11_mendOf_103 rfl ?_
      refine to_bipush (q := 107) bp_8 dX11_mendOf_105 rfl ?_
      refine to_iload_n (q := 108) rfl dX11_mendOf_107 rfl ?_
      refine to_imul (q := 109) dX11_mendOf_108 rfl ?_
      refine to_iadd (q := 110) dX11_mendOf_109 rfl ?_
      refine to_iload (q := 112) rfl dX11_mendOf_110 rfl ?_
      refine to_iadd (q := 113) dX11_mendOf_112 rfl ?_
      obtain ⟨hb23, hf⟩ := ck_some hf
      refine to_iaj (q := 114) (h_141 hS) hb23 (rfl) dX11_mendOf_113 rfl ?_
      by_cases h24 : r21 = (m22.1 141 (((68 : Int32) + ((8 : Int32) * x1)) + x6).toNatClampNeg)
      · have hf := ite_pos h24 hf
        refine to_icT (q := 121) (op := .eq) h24 dX11_mendOf_114 rfl ?_
        refine to_iconst (q := 122) ic_0 dX11_mendOf_121 rfl ?_
        exact to_ext [(0, .ref 138), (1, .int x1), (2, .int x2), (3, .int x3), (4, .int x4), (6, .int x6)] (ext_cons rfl (ext_cons rfl (ext_cons rfl (ext_cons rfl (ext_cons rfl (ext_cons rfl ext_nil)))))) (kX11_mendOf_122 hS hk35 ih hf hI)
      · have hf := ite_neg h24 hf
        refine to_icF (q := 117) (op := .eq) 121 h24 dX11_mendOf_114 rfl rfl ?_
        refine to_iconst (q := 118) ic_1 dX11_mendOf_117 rfl ?_
        refine to_goto (q := 122) dX11_mendOf_118 rfl ?_
        exact to_ext [(0, .ref 138), (1, .int x1), (2, .int x2), (3, .int x3), (4, .int x4), (6, .int x6)] (ext_cons rfl (ext_cons rfl (ext_cons rfl (ext_cons rfl (ext_cons rfl (ext_cons rfl ext_nil)))))) (kX11_mendOf_122 hS hk35 ih hf hI)
def fX11_mendOf_35 (n : Nat) (x1 : Int32) (x2 : Int32) (x3 : Int32) (x4 : Int32) (m : Me) : Option (Int32 × Me) := match n with
  | 0 => none
  | n + 1 => ck (inb ((64 : Int32) + x1) 186) (if x2 < (x4 + (m.1 141 ((64 : Int32) + x1).toNatClampNeg)) then fX11_mendOf_161 x3 m else cl2 (fX11_isWhole x1 m) fun r11 m12 => if r11 = (0 : Int32) then fX11_mendOf_161 x3 m12 else fX11_mendOf_65 FU (fX11_mendOf_35 n) x1 x2 x3 x4 ((0 : Int32)) ((0 : Int32)) m12)
set_option maxRecDepth 20000 in
theorem kX11_mendOf_35 {S : Sh} (hS : ShOK S) {res : Int32 × Me} (n : Nat) : ∀ {x1 : Int32} {x2 : Int32} {x3 : Int32} {x4 : Int32} {m : Me}, fX11_mendOf_35 n x1 x2 x3 x4 m = some res → Inv m → TT InvS (Call 3) mX11_mendOf (35, [(0, .ref 138), (1, .int x1), (2, .int x2), (3, .int x3), (4, .int x4)], [], S, m) (some (.int res.1)) (S, res.2) := by
  induction n with
  | zero => intro x1 x2 x3 x4 m hf; cases hf
  | succ n ih =>
    intro x1 x2 x3 x4 m hf  hI
    unfold fX11_mendOf_35 at hf
    refine to_iload (q := 37) rfl dX11_mendOf_35 rfl ?_
    refine to_aload_n (q := 38) rfl (by decide) dX11_mendOf_37 rfl ?_
    refine to_getR (q := 41) (b := 141) (k0 := 11) (C := RX11) (T := TX11) (N := 37) (j := 15) rfl fx_X11_20 (h_138 hS) rfl (iv_138_15 hI) dX11_mendOf_38 rfl ?_
    refine to_bipush (q := 43) bp_64 dX11_mendOf_41 rfl ?_
    refine to_iload_n (q := 44) rfl dX11_mendOf_43 rfl ?_
    refine to_iadd (q := 45) dX11_mendOf_44 rfl ?_
    obtain ⟨hb7, hf⟩ := ck_some hf
    refine to_iaj (q := 46) (h_141 hS) hb7 (rfl) dX11_mendOf_45 rfl ?_
    refine to_iadd (q := 47) dX11_mendOf_46 rfl ?_
    refine to_iload_n (q := 48) rfl dX11_mendOf_47 rfl ?_
    by_cases h8 : x2 < (x4 + (m.1 141 ((64 : Int32) + x1).toNatClampNeg))
    · have hf := ite_pos h8 hf
      refine to_icT (q := 161) (op := .gt) h8 dX11_mendOf_48 rfl ?_
      exact to_ext [(3, .int x3)] (ext_cons rfl ext_nil) (kX11_mendOf_161 hS hf hI)
    · have hf := ite_neg h8 hf
      refine to_icF (q := 51) (op := .gt) 161 h8 dX11_mendOf_48 rfl rfl ?_
      refine to_aload_n (q := 52) rfl (by decide) dX11_mendOf_51 rfl ?_
      refine to_iload_n (q := 53) rfl dX11_mendOf_52 rfl ?_
      obtain ⟨r11, m12, hc9, hf⟩ := cl2_some hf
      have qc10 := kX11_isWhole hS hc9 hI
      refine to_virtI (q := 56) mX11_isWhole [.int x1] dX11_mendOf_53 rfl rfl (Nat.le_of_ble_eq_true rfl) mo_X11_isWhole mv_X11_335 (Or.inl ⟨_, _, _, h_138 hS, rfl, rfl⟩) (Call_mono (by decide) qc10.1) ?_
      have hI := qc10.2
      by_cases h13 : r11 = (0 : Int32)
      · have hf := ite_pos h13 hf
        refine to_ifT (q := 161) (op := .eq) h13 dX11_mendOf_56 rfl ?_
        exact to_ext [(3, .int x3)] (ext_cons rfl ext_nil) (kX11_mendOf_161 hS hf hI)
      · have hf := ite_neg h13 hf
        refine to_ifF (q := 59) (op := .eq) 161 h13 dX11_mendOf_56 rfl rfl ?_
        refine to_iconst (q := 60) ic_0 dX11_mendOf_59 rfl ?_
        refine to_istore (q := 62) [(5, .int (0 : Int32)), (0, .ref 138), (1, .int x1), (2, .int x2), (3, .int x3), (4, .int x4)] rfl (by decide) dX11_mendOf_60 rfl ?_
        refine to_iconst (q := 63) ic_0 dX11_mendOf_62 rfl ?_
        refine to_istore (q := 65) [(6, .int (0 : Int32)), (5, .int (0 : Int32)), (0, .ref 138), (1, .int x1), (2, .int x2), (3, .int x3), (4, .int x4)] rfl (by decide) dX11_mendOf_63 rfl ?_
        exact to_ext [(0, .ref 138), (1, .int x1), (2, .int x2), (3, .int x3), (4, .int x4), (5, .int (0 : Int32)), (6, .int (0 : Int32))] (ext_cons rfl (ext_cons rfl (ext_cons rfl (ext_cons rfl (ext_cons rfl (ext_cons rfl (ext_cons rfl ext_nil))))))) (kX11_mendOf_65 hS ih FU hf hI)
def fX11_mendOf (x1 : Int32) (m : Me) : Option (Int32 × Me) := ck (inb ((100 : Int32) + x1) 186) (ck (inb ((104 : Int32) + x1) 186) (cl2 (fX11_layNow ((m.1 141 ((100 : Int32) + x1).toNatClampNeg)) ((m.1 141 ((104 : Int32) + x1).toNatClampNeg)) m) fun r5 m6 => fX11_mendOf_35 FU x1 r5 ((-2 : Int32)) ((0 : Int32)) (setI m6 138 26 (-2 : Int32))))
set_option maxRecDepth 20000 in
theorem kX11_mendOf {S : Sh} (hS : ShOK S) {res : Int32 × Me} {x1 : Int32} {m : Me} (hf : fX11_mendOf x1 m = some res) (hI : Inv m) : Call 4 mX11_mendOf [.ref 138, .int x1] (S, m) (some (.int res.1)) (S, res.2) ∧ Inv res.2 := by
  refine call_of (P := InvS) (Nat.le_of_ble_eq_true rfl) (by simp [Value.category]) ?_
  show TT InvS (Call 3) mX11_mendOf (0, [(0, .ref 138), (1, .int x1)], [], S, m) _ _
  unfold fX11_mendOf at hf
  refine to_aload_n (q := 1) rfl (by decide) dX11_mendOf_0 rfl ?_
  refine to_aload_n (q := 2) rfl (by decide) dX11_mendOf_1 rfl ?_
  refine to_getR (q := 5) (b := 141) (k0 := 11) (C := RX11) (T := TX11) (N := 37) (j := 15) rfl fx_X11_20 (h_138 hS) rfl (iv_138_15 hI) dX11_mendOf_2 rfl ?_
  refine to_bipush (q := 7) bp_100 dX11_mendOf_5 rfl ?_
  refine to_iload_n (q := 8) rfl dX11_mendOf_7 rfl ?_
  refine to_iadd (q := 9) dX11_mendOf_8 rfl ?_
  obtain ⟨hb1, hf⟩ := ck_some hf
  refine to_iaj (q := 10) (h_141 hS) hb1 (rfl) dX11_mendOf_9 rfl ?_
  refine to_aload_n (q := 11) rfl (by decide) dX11_mendOf_10 rfl ?_
  refine to_getR (q := 14) (b := 141) (k0 := 11) (C := RX11) (T := TX11) (N := 37) (j := 15) rfl fx_X11_20 (h_138 hS) rfl (iv_138_15 hI) dX11_mendOf_11 rfl ?_
  refine to_bipush (q := 16) bp_104 dX11_mendOf_14 rfl ?_
  refine to_iload_n (q := 17) rfl dX11_mendOf_16 rfl ?_
  refine to_iadd (q := 18) dX11_mendOf_17 rfl ?_
  obtain ⟨hb2, hf⟩ := ck_some hf
  refine to_iaj (q := 19) (h_141 hS) hb2 (rfl) dX11_mendOf_18 rfl ?_
  obtain ⟨r5, m6, hc3, hf⟩ := cl2_some hf
  have qc4 := kX11_layNow hS hc3 hI
  refine to_virtI (q := 22) mX11_layNow [.int (m.1 141 ((100 : Int32) + x1).toNatClampNeg), .int (m.1 141 ((104 : Int32) + x1).toNatClampNeg)] dX11_mendOf_19 rfl rfl (Nat.le_of_ble_eq_true rfl) mo_X11_layNow mv_X11_279 (Or.inl ⟨_, _, _, h_138 hS, rfl, rfl⟩) (Call_mono (by decide) qc4.1) ?_
  have hI := qc4.2
  refine to_istore_n (q := 23) [(2, .int r5), (0, .ref 138), (1, .int x1)] rfl (by decide) dX11_mendOf_22 rfl ?_
  refine to_bipush (q := 25) bp_m2 dX11_mendOf_23 rfl ?_
  refine to_istore_n (q := 26) [(3, .int (-2 : Int32)), (2, .int r5), (0, .ref 138), (1, .int x1)] rfl (by decide) dX11_mendOf_25 rfl ?_
  refine to_aload_n (q := 27) rfl (by decide) dX11_mendOf_26 rfl ?_
  refine to_bipush (q := 29) bp_m2 dX11_mendOf_27 rfl ?_
  refine to_putI (q := 32) (ty := .int) (k0 := 11) (C := RX11) (T := TX11) (N := 37) (j := 26) rfl fx_X11_332 (h_138 hS) rfl pD_I (Or.inl rfl) (nf_I _) dX11_mendOf_29 rfl ?_
  refine to_iconst (q := 33) ic_0 dX11_mendOf_32 rfl ?_
  refine to_istore (q := 35) [(4, .int (0 : Int32)), (3, .int (-2 : Int32)), (2, .int r5), (0, .ref 138), (1, .int x1)] rfl (by decide) dX11_mendOf_33 rfl ?_
  exact to_ext [(0, .ref 138), (1, .int x1), (2, .int r5), (3, .int (-2 : Int32)), (4, .int (0 : Int32))] (ext_cons rfl (ext_cons rfl (ext_cons rfl (ext_cons rfl (ext_cons rfl ext_nil))))) (kX11_mendOf_35 hS FU hf hI)
def fX11_mend_25 (t0 : Int32) (m : Me) : Option (Int32 × Me) := some (t0, m)
set_option maxRecDepth 20000 in
theorem kX11_mend_25 {S : Sh} (hS : ShOK S) {res : Int32 × Me} {t0 : Int32} {m : Me} (hf : fX11_mend_25 t0 m = some res) (hI : Inv m) : TT InvS (Call 4) mX11_mend (25, [], [.int t0], S, m) (some (.int res.1)) (S, res.2) := by
  unfold fX11_mend_25 at hf
  cases hf
  exact to_iret dX11_mend_25 rfl rfl rfl rfl hI
def fX11_mend (x1 : Int32) (m : Me) : Option (Int32 × Me) := cl1 (fX11_good m) fun m3 => cl2 (fX11_isWish x1 m3) fun r6 m7 => if r6 = (0 : Int32) then cl2 (fX11_no (1 : Int32) m7) fun r11 m12 => fX11_mend_25 r11 m12 else cl2 (fX11_mendOf x1 m7) fun r15 m16 => fX11_mend_25 r15 m16
set_option maxRecDepth 20000 in
theorem kX11_mend {S : Sh} (hS : ShOK S) {res : Int32 × Me} {x1 : Int32} {m : Me} (hf : fX11_mend x1 m = some res) (hI : Inv m) : Call 5 mX11_mend [.ref 138, .int x1] (S, m) (some (.int res.1)) (S, res.2) ∧ Inv res.2 := by
  refine call_of (P := InvS) (Nat.le_of_ble_eq_true rfl) (by simp [Value.category]) ?_
  show TT InvS (Call 4) mX11_mend (0, [(0, .ref 138), (1, .int x1)], [], S, m) _ _
  unfold fX11_mend at hf
  refine to_aload_n (q := 1) rfl (by decide) dX11_mend_0 rfl ?_
  obtain ⟨m3, hc1, hf⟩ := cl1_some hf
  have qc2 := kX11_good hS hc1 hI
  refine to_virtV (q := 4) mX11_good [] dX11_mend_1 rfl rfl (Nat.le_of_ble_eq_true rfl) mo_X11_good mv_X11_156 (Or.inl ⟨_, _, _, h_138 hS, rfl, rfl⟩) (Call_mono (by decide) qc2.1) ?_
  have hI := qc2.2
  refine to_aload_n (q := 5) rfl (by decide) dX11_mend_4 rfl ?_
  refine to_iload_n (q := 6) rfl dX11_mend_5 rfl ?_
  obtain ⟨r6, m7, hc4, hf⟩ := cl2_some hf
  have qc5 := kX11_isWish hS hc4 hI
  refine to_virtI (q := 9) mX11_isWish [.int x1] dX11_mend_6 rfl rfl (Nat.le_of_ble_eq_true rfl) mo_X11_isWish mv_X11_319 (Or.inl ⟨_, _, _, h_138 hS, rfl, rfl⟩) (Call_mono (by decide) qc5.1) ?_
  have hI := qc5.2
  by_cases h8 : r6 = (0 : Int32)
  · have hf := ite_pos h8 hf
    refine to_ifT (q := 20) (op := .eq) h8 dX11_mend_9 rfl ?_
    refine to_aload_n (q := 21) rfl (by decide) dX11_mend_20 rfl ?_
    refine to_iconst (q := 22) ic_1 dX11_mend_21 rfl ?_
    obtain ⟨r11, m12, hc9, hf⟩ := cl2_some hf
    have qc10 := kX11_no hS hc9 hI
    refine to_virtI (q := 25) mX11_no [.int (1 : Int32)] dX11_mend_22 rfl rfl (Nat.le_of_ble_eq_true rfl) mo_X11_no mv_X11_159 (Or.inl ⟨_, _, _, h_138 hS, rfl, rfl⟩) (Call_mono (by decide) qc10.1) ?_
    have hI := qc10.2
    exact to_ext [] ext_nil (kX11_mend_25 hS hf hI)
  · have hf := ite_neg h8 hf
    refine to_ifF (q := 12) (op := .eq) 20 h8 dX11_mend_9 rfl rfl ?_
    refine to_aload_n (q := 13) rfl (by decide) dX11_mend_12 rfl ?_
    refine to_iload_n (q := 14) rfl dX11_mend_13 rfl ?_
    obtain ⟨r15, m16, hc13, hf⟩ := cl2_some hf
    have qc14 := kX11_mendOf hS hc13 hI
    refine to_virtI (q := 17) mX11_mendOf [.int x1] dX11_mend_14 rfl rfl (Nat.le_of_ble_eq_true rfl) mo_X11_mendOf mv_X11_338 (Or.inl ⟨_, _, _, h_138 hS, rfl, rfl⟩) (Call_mono (by decide) qc14.1) ?_
    have hI := qc14.2
    refine to_goto (q := 25) dX11_mend_17 rfl ?_
    exact to_ext [] ext_nil (kX11_mend_25 hS hf hI)
def fX11_mendAt (x1 : Int32) (m : Me) : Option (Int32 × Me) := cl1 (fX11_good m) fun m3 => cl2 (fX11_isWish x1 m3) fun r6 m7 => if r6 = (0 : Int32) then cl2 (fX11_no (1 : Int32) m7) fun r15 m16 => some (r15, m16) else cl2 (fX11_mendOf x1 m7) fun r11 m12 => some ((m12.1 138 26), m12)
set_option maxRecDepth 20000 in
theorem kX11_mendAt {S : Sh} (hS : ShOK S) {res : Int32 × Me} {x1 : Int32} {m : Me} (hf : fX11_mendAt x1 m = some res) (hI : Inv m) : Call 5 mX11_mendAt [.ref 138, .int x1] (S, m) (some (.int res.1)) (S, res.2) ∧ Inv res.2 := by
  refine call_of (P := InvS) (Nat.le_of_ble_eq_true rfl) (by simp [Value.category]) ?_
  show TT InvS (Call 4) mX11_mendAt (0, [(0, .ref 138), (1, .int x1)], [], S, m) _ _
  unfold fX11_mendAt at hf
  refine to_aload_n (q := 1) rfl (by decide) dX11_mendAt_0 rfl ?_
  obtain ⟨m3, hc1, hf⟩ := cl1_some hf
  have qc2 := kX11_good hS hc1 hI
  refine to_virtV (q := 4) mX11_good [] dX11_mendAt_1 rfl rfl (Nat.le_of_ble_eq_true rfl) mo_X11_good mv_X11_156 (Or.inl ⟨_, _, _, h_138 hS, rfl, rfl⟩) (Call_mono (by decide) qc2.1) ?_
  have hI := qc2.2
  refine to_aload_n (q := 5) rfl (by decide) dX11_mendAt_4 rfl ?_
  refine to_iload_n (q := 6) rfl dX11_mendAt_5 rfl ?_
  obtain ⟨r6, m7, hc4, hf⟩ := cl2_some hf
  have qc5 := kX11_isWish hS hc4 hI
  refine to_virtI (q := 9) mX11_isWish [.int x1] dX11_mendAt_6 rfl rfl (Nat.le_of_ble_eq_true rfl) mo_X11_isWish mv_X11_319 (Or.inl ⟨_, _, _, h_138 hS, rfl, rfl⟩) (Call_mono (by decide) qc5.1) ?_
  have hI := qc5.2
  by_cases h8 : r6 = (0 : Int32)
  · have hf := ite_pos h8 hf
    refine to_ifF (q := 12) (op := .ne) 18 (fun z => z h8) dX11_mendAt_9 rfl rfl ?_
    refine to_aload_n (q := 13) rfl (by decide) dX11_mendAt_12 rfl ?_
    refine to_iconst (q := 14) ic_1 dX11_mendAt_13 rfl ?_
    obtain ⟨r15, m16, hc13, hf⟩ := cl2_some hf
    have qc14 := kX11_no hS hc13 hI
    refine to_virtI (q := 17) mX11_no [.int (1 : Int32)] dX11_mendAt_14 rfl rfl (Nat.le_of_ble_eq_true rfl) mo_X11_no mv_X11_159 (Or.inl ⟨_, _, _, h_138 hS, rfl, rfl⟩) (Call_mono (by decide) qc14.1) ?_
    have hI := qc14.2
    cases hf
    exact to_iret dX11_mendAt_17 rfl rfl rfl rfl hI
  · have hf := ite_neg h8 hf
    refine to_ifT (q := 18) (op := .ne) h8 dX11_mendAt_9 rfl ?_
    refine to_aload_n (q := 19) rfl (by decide) dX11_mendAt_18 rfl ?_
    refine to_iload_n (q := 20) rfl dX11_mendAt_19 rfl ?_
    obtain ⟨r11, m12, hc9, hf⟩ := cl2_some hf
    have qc10 := kX11_mendOf hS hc9 hI
    refine to_virtI (q := 23) mX11_mendOf [.int x1] dX11_mendAt_20 rfl rfl (Nat.le_of_ble_eq_true rfl) mo_X11_mendOf mv_X11_338 (Or.inl ⟨_, _, _, h_138 hS, rfl, rfl⟩) (Call_mono (by decide) qc10.1) ?_
    have hI := qc10.2
    refine to_pop (q := 24) rfl dX11_mendAt_23 rfl ?_
    refine to_aload_n (q := 25) rfl (by decide) dX11_mendAt_24 rfl ?_
    refine to_getI (q := 28) (k0 := 11) (C := RX11) (T := TX11) (N := 37) (j := 26) rfl fx_X11_332 (h_138 hS) rfl dX11_mendAt_25 rfl ?_
    cases hf
    exact to_iret dX11_mendAt_28 rfl rfl rfl rfl hI
def fX11_mendFrom_236 (rec : Int32 → Int32 → Me → Option (Me)) (n : Nat) (k28 : Int32 → Int32 → Int32 → Me → Option (Me)) (x1 : Int32) (x2 : Int32) (x3 : Int32) (x5 : Int32) (x7 : Int32) (m : Me) : Option (Me) := match n with
  | 0 => none
  | n + 1 => if x5 ≤ x7 then k28 x1 x2 ((x3 + (1 : Int32))) m else ck (inb ((100 : Int32) + x1) 186) (ck (inb ((((30 : Int32) * x1) + x3) + x7) 120) (ck (inb (((30 : Int32) * (m.1 141 ((100 : Int32) + x1).toNatClampNeg)) + (m.1 151 ((((30 : Int32) * x1) + x3) + x7).toNatClampNeg)) 60) (ck (inb (((30 : Int32) * (m.1 141 ((100 : Int32) + x1).toNatClampNeg)) + (m.1 151 ((((30 : Int32) * x1) + x3) + x7).toNatClampNeg)) 60) (fX11_mendFrom_236 rec n k28 x1 x2 x3 x5 ((x7 + (1 : Int32))) (setI m 150 (((30 : Int32) * (m.1 141 ((100 : Int32) + x1).toNatClampNeg)) + (m.1 151 ((((30 : Int32) * x1) + x3) + x7).toNatClampNeg)).toNatClampNeg ((m.1 150 (((30 : Int32) * (m.1 141 ((100 : Int32) + x1).toNatClampNeg)) + (m.1 151 ((((30 : Int32) * x1) + x3) + x7).toNatClampNeg)).toNatClampNeg) - (1 : Int32)))))))
set_option maxRecDepth 20000 in
theorem kX11_mendFrom_236 {S : Sh} (hS : ShOK S) {dd : Nat} (hdd : 0 ≤ dd) {rec : Int32 → Int32 → Me → Option (Me)} (hrec : ∀ {x1 : Int32} {x2 : Int32} {m : Me} {res : Me}, rec x1 x2 m = some res → Inv m → Call dd mX11_mendFrom [.ref 138, .int x1, .int x2] (S, m) none (S, res) ∧ Inv res) {res : Me} {k28 : Int32 → Int32 → Int32 → Me → Option (Me)} (hk28 : ∀ {x1 : Int32} {x2 : Int32} {x3 : Int32} {m : Me}, k28 x1 x2 x3 m = some res → Inv m → TT InvS (Call dd) mX11_mendFrom (28, [(0, .ref 138), (1, .int x1), (2, .int x2), (3, .int x3)], [], S, m) none (S, res)) (n : Nat) : ∀ {x1 : Int32} {x2 : Int32} {x3 : Int32} {x5 : Int32} {x7 : Int32} {m : Me}, fX11_mendFrom_236 rec n k28 x1 x2 x3 x5 x7 m = some res → Inv m → TT InvS (Call dd) mX11_mendFrom (236, [(0, .ref 138), (1, .int x1), (2, .int x2), (3, .int x3), (5, .int x5), (7, .int x7)], [], S, m) none (S, res) := by
  induction n with
  | zero => intro x1 x2 x3 x5 x7 m hf; cases hf
  | succ n ih =>
    intro x1 x2 x3 x5 x7 m hf  hI
    unfold fX11_mendFrom_236 at hf
    refine to_iload (q := 238) rfl dX11_mendFrom_236 rfl ?_
    refine to_iload (q := 240) rfl dX11_mendFrom_238 rfl ?_
    by_cases h28 : x5 ≤ x7
    · have hf := ite_pos h28 hf
      refine to_icT (q := 285) (op := .ge) h28 dX11_mendFrom_240 rfl ?_
      refine to_iinc (q := 288) (v := (x3 + (1 : Int32))) rfl (congrArg (fun z => x3 + z) ic_1) [(3, .int (x3 + (1 : Int32))), (0, .ref 138), (1, .int x1), (2, .int x2), (5, .int x5), (7, .int x7)] rfl (by decide) dX11_mendFrom_285 rfl ?_
      refine to_goto (q := 28) dX11_mendFrom_288 rfl ?_
      exact to_ext [(0, .ref 138), (1, .int x1), (2, .int x2), (3, .int (x3 + (1 : Int32)))] (ext_cons rfl (ext_cons rfl (ext_cons rfl (ext_cons rfl ext_nil)))) (hk28 hf hI)
    · have hf := ite_neg h28 hf
      refine to_icF (q := 243) (op := .ge) 285 h28 dX11_mendFrom_240 rfl rfl ?_
      refine to_aload_n (q := 244) rfl (by decide) dX11_mendFrom_243 rfl ?_
      refine to_getR (q := 247) (b := 150) (k0 := 11) (C := RX11) (T := TX11) (N := 37) (j := 28) rfl fx_X11_47 (h_138 hS) rfl (iv_138_28 hI) dX11_mendFrom_244 rfl ?_
      refine to_bipush (q := 249) bp_30 dX11_mendFrom_247 rfl ?_
      refine to_aload_n (q := 250) rfl (by decide) dX11_mendFrom_249 rfl ?_
      refine to_getR (q := 253) (b := 141) (k0 := 11) (C := RX11) (T := TX11) (N := 37) (j := 15) rfl fx_X11_20 (h_138 hS) rfl (iv_138_15 hI) dX11_mendFrom_250 rfl ?_
      refine to_bipush (q := 255) bp_100 dX11_mendFrom_253 rfl ?_
      refine to_iload_n (q := 256) rfl dX11_mendFrom_255 rfl ?_
      refine to_iadd (q := 257) dX11_mendFrom_256 rfl ?_
      obtain ⟨hb29, hf⟩ := ck_some hf
      refine to_iaj (q := 258) (h_141 hS) hb29 (rfl) dX11_mendFrom_257 rfl ?_
      refine to_imul (q := 259) dX11_mendFrom_258 rfl ?_
      refine to_aload_n (q := 260) rfl (by decide) dX11_mendFrom_259 rfl ?_
      refine to_getR (q := 263) (b := 151) (k0 := 11) (C := RX11) (T := TX11) (N := 37) (j := 29) rfl fx_X11_50 (h_138 hS) rfl (iv_138_29 hI) dX11_mendFrom_260 rfl ?_
      refine to_bipush (q := 265) bp_30 dX11_mendFrom_263 rfl ?_
      refine to_iload_n (q := 266) rfl dX11_mendFrom_265 rfl ?_
      refine to_imul (q := 267) dX11_mendFrom_266 rfl ?_
      refine to_iload_n (q := 268) rfl dX11_mendFrom_267 rfl ?_
      refine to_iadd (q := 269) dX11_mendFrom_268 rfl ?_
      refine to_iload (q := 271) rfl dX11_mendFrom_269 rfl ?_
      refine to_iadd (q := 272) dX11_mendFrom_271 rfl ?_
      obtain ⟨hb30, hf⟩ := ck_some hf
      refine to_iaj (q := 273) (h_151 hS) hb30 (rfl) dX11_mendFrom_272 rfl ?_
      refine to_iadd (q := 274) dX11_mendFrom_273 rfl ?_
      refine to_dup2 (q := 275) rfl rfl dX11_mendFrom_274 rfl ?_
      obtain ⟨hb31, hf⟩ := ck_some hf
      refine to_iaj (q := 276) (h_150 hS) hb31 (rfl) dX11_mendFrom_275 rfl ?_
      refine to_iconst (q := 277) ic_1 dX11_mendFrom_276 rfl ?_
      refine to_isub (q := 278) dX11_mendFrom_277 rfl ?_
      obtain ⟨hb32, hf⟩ := ck_some hf
      refine to_iasj (q := 279) (h_150 hS) hb32 (rfl) dX11_mendFrom_278 rfl ?_
      refine to_iinc (q := 282) (v := (x7 + (1 : Int32))) rfl (congrArg (fun z => x7 + z) ic_1) [(7, .int (x7 + (1 : Int32))), (0, .ref 138), (1, .int x1), (2, .int x2), (3, .int x3), (5, .int x5)] rfl (by decide) dX11_mendFrom_279 rfl ?_
      refine to_goto (q := 236) dX11_mendFrom_282 rfl ?_
      exact to_ext [(0, .ref 138), (1, .int x1), (2, .int x2), (3, .int x3), (5, .int x5), (7, .int (x7 + (1 : Int32)))] (ext_cons rfl (ext_cons rfl (ext_cons rfl (ext_cons rfl (ext_cons rfl (ext_cons rfl ext_nil)))))) (ih hf hI)
def fX11_mendFrom_233 (rec : Int32 → Int32 → Me → Option (Me)) (k28 : Int32 → Int32 → Int32 → Me → Option (Me)) (x1 : Int32) (x2 : Int32) (x3 : Int32) (x5 : Int32) (m : Me) : Option (Me) := fX11_mendFrom_236 rec FU k28 x1 x2 x3 x5 ((0 : Int32)) m
set_option maxRecDepth 20000 in
theorem kX11_mendFrom_233 {S : Sh} (hS : ShOK S) {dd : Nat} (hdd : 0 ≤ dd) {rec : Int32 → Int32 → Me → Option (Me)} (hrec : ∀ {x1 : Int32} {x2 : Int32} {m : Me} {res : Me}, rec x1 x2 m = some res → Inv m → Call dd mX11_mendFrom [.ref 138, .int x1, .int x2] (S, m) none (S, res) ∧ Inv res) {res : Me} {k28 : Int32 → Int32 → Int32 → Me → Option (Me)} (hk28 : ∀ {x1 : Int32} {x2 : Int32} {x3 : Int32} {m : Me}, k28 x1 x2 x3 m = some res → Inv m → TT InvS (Call dd) mX11_mendFrom (28, [(0, .ref 138), (1, .int x1), (2, .int x2), (3, .int x3)], [], S, m) none (S, res)) {x1 : Int32} {x2 : Int32} {x3 : Int32} {x5 : Int32} {m : Me} (hf : fX11_mendFrom_233 rec k28 x1 x2 x3 x5 m = some res) (hI : Inv m) : TT InvS (Call dd) mX11_mendFrom (233, [(0, .ref 138), (1, .int x1), (2, .int x2), (3, .int x3), (5, .int x5)], [], S, m) none (S, res) := by
  unfold fX11_mendFrom_233 at hf
  refine to_iconst (q := 234) ic_0 dX11_mendFrom_233 rfl ?_
  refine to_istore (q := 236) [(7, .int (0 : Int32)), (0, .ref 138), (1, .int x1), (2, .int x2), (3, .int x3), (5, .int x5)] rfl (by decide) dX11_mendFrom_234 rfl ?_
  exact to_ext [(0, .ref 138), (1, .int x1), (2, .int x2), (3, .int x3), (5, .int x5), (7, .int (0 : Int32))] (ext_cons rfl (ext_cons rfl (ext_cons rfl (ext_cons rfl (ext_cons rfl (ext_cons rfl ext_nil)))))) (kX11_mendFrom_236 hS hdd hrec hk28 FU hf hI)
def fX11_mendFrom_217 (rec : Int32 → Int32 → Me → Option (Me)) (k28 : Int32 → Int32 → Int32 → Me → Option (Me)) (x1 : Int32) (x2 : Int32) (x3 : Int32) (x4 : Int32) (x5 : Int32) (x6 : Int32) (m : Me) : Option (Me) := if x6 = (0 : Int32) then fX11_mendFrom_233 rec k28 x1 x2 x3 x5 m else cl1 (rec ((x1 + (1 : Int32))) (x2 + x4) m) fun m19 => fX11_mendFrom_233 rec k28 x1 x2 x3 x5 m19
set_option maxRecDepth 20000 in
theorem kX11_mendFrom_217 {S : Sh} (hS : ShOK S) {dd : Nat} (hdd : 0 ≤ dd) {rec : Int32 → Int32 → Me → Option (Me)} (hrec : ∀ {x1 : Int32} {x2 : Int32} {m : Me} {res : Me}, rec x1 x2 m = some res → Inv m → Call dd mX11_mendFrom [.ref 138, .int x1, .int x2] (S, m) none (S, res) ∧ Inv res) {res : Me} {k28 : Int32 → Int32 → Int32 → Me → Option (Me)} (hk28 : ∀ {x1 : Int32} {x2 : Int32} {x3 : Int32} {m : Me}, k28 x1 x2 x3 m = some res → Inv m → TT InvS (Call dd) mX11_mendFrom (28, [(0, .ref 138), (1, .int x1), (2, .int x2), (3, .int x3)], [], S, m) none (S, res)) {x1 : Int32} {x2 : Int32} {x3 : Int32} {x4 : Int32} {x5 : Int32} {x6 : Int32} {m : Me} (hf : fX11_mendFrom_217 rec k28 x1 x2 x3 x4 x5 x6 m = some res) (hI : Inv m) : TT InvS (Call dd) mX11_mendFrom (217, [(0, .ref 138), (1, .int x1), (2, .int x2), (3, .int x3), (4, .int x4), (5, .int x5), (6, .int x6)], [], S, m) none (S, res) := by
  unfold fX11_mendFrom_217 at hf
  refine to_iload (q := 219) rfl dX11_mendFrom_217 rfl ?_
  by_cases h16 : x6 = (0 : Int32)
  · have hf := ite_pos h16 hf
    refine to_ifT (q := 233) (op := .eq) h16 dX11_mendFrom_219 rfl ?_
    exact to_ext [(0, .ref 138), (1, .int x1), (2, .int x2), (3, .int x3), (5, .int x5)] (ext_cons rfl (ext_cons rfl (ext_cons rfl (ext_cons rfl (ext_cons rfl ext_nil))))) (kX11_mendFrom_233 hS hdd hrec hk28 hf hI)
  · have hf := ite_neg h16 hf
    refine to_ifF (q := 222) (op := .eq) 233 h16 dX11_mendFrom_219 rfl rfl ?_
    refine to_aload_n (q := 223) rfl (by decide) dX11_mendFrom_222 rfl ?_
    refine to_iload_n (q := 224) rfl dX11_mendFrom_223 rfl ?_
    refine to_iconst (q := 225) ic_1 dX11_mendFrom_224 rfl ?_
    refine to_iadd (q := 226) dX11_mendFrom_225 rfl ?_
    refine to_iload_n (q := 227) rfl dX11_mendFrom_226 rfl ?_
    refine to_iload (q := 229) rfl dX11_mendFrom_227 rfl ?_
    refine to_iadd (q := 230) dX11_mendFrom_229 rfl ?_
    obtain ⟨m19, hc17, hf⟩ := cl1_some hf
    have qc18 := hrec hc17 hI
    refine to_virtV (q := 233) mX11_mendFrom [.int (x1 + (1 : Int32)), .int (x2 + x4)] dX11_mendFrom_230 rfl rfl (Nat.le_of_ble_eq_true rfl) mo_X11_mendFrom mv_X11_344 (Or.inl ⟨_, _, _, h_138 hS, rfl, rfl⟩) qc18.1 ?_
    have hI := qc18.2
    exact to_ext [(0, .ref 138), (1, .int x1), (2, .int x2), (3, .int x3), (5, .int x5)] (ext_cons rfl (ext_cons rfl (ext_cons rfl (ext_cons rfl (ext_cons rfl ext_nil))))) (kX11_mendFrom_233 hS hdd hrec hk28 hf hI)
def fX11_mendFrom_188 (rec : Int32 → Int32 → Me → Option (Me)) (k28 : Int32 → Int32 → Int32 → Me → Option (Me)) (k57 : Int32 → Int32 → Int32 → Int32 → Int32 → Int32 → Me → Option (Me)) (x1 : Int32) (x2 : Int32) (x3 : Int32) (x5 : Int32) (x6 : Int32) (x7 : Int32) (x8 : Int32) (t0 : Int32) (t1 : Int32) (m : Me) : Option (Me) := ck (inb x7 60) (ck (inb x7 60) (ck (inb x7 60) (k57 x1 x2 x3 ((t1 + t0)) ((x5 + (1 : Int32))) x6 (setI (setI m 149 x7.toNatClampNeg x8) 150 x7.toNatClampNeg (((setI m 149 x7.toNatClampNeg x8).1 150 x7.toNatClampNeg) + (1 : Int32))))))
set_option maxRecDepth 20000 in
theorem kX11_mendFrom_188 {S : Sh} (hS : ShOK S) {dd : Nat} (hdd : 0 ≤ dd) {rec : Int32 → Int32 → Me → Option (Me)} (hrec : ∀ {x1 : Int32} {x2 : Int32} {m : Me} {res : Me}, rec x1 x2 m = some res → Inv m → Call dd mX11_mendFrom [.ref 138, .int x1, .int x2] (S, m) none (S, res) ∧ Inv res) {res : Me} {k28 : Int32 → Int32 → Int32 → Me → Option (Me)} (hk28 : ∀ {x1 : Int32} {x2 : Int32} {x3 : Int32} {m : Me}, k28 x1 x2 x3 m = some res → Inv m → TT InvS (Call dd) mX11_mendFrom (28, [(0, .ref 138), (1, .int x1), (2, .int x2), (3, .int x3)], [], S, m) none (S, res)) {k57 : Int32 → Int32 → Int32 → Int32 → Int32 → Int32 → Me → Option (Me)} (hk57 : ∀ {x1 : Int32} {x2 : Int32} {x3 : Int32} {x4 : Int32} {x5 : Int32} {x6 : Int32} {m : Me}, k57 x1 x2 x3 x4 x5 x6 m = some res → Inv m → TT InvS (Call dd) mX11_mendFrom (57, [(0, .ref 138), (1, .int x1), (2, .int x2), (3, .int x3), (4, .int x4), (5, .int x5), (6, .int x6)], [], S, m) none (S, res)) {x1 : Int32} {x2 : Int32} {x3 : Int32} {x5 : Int32} {x6 : Int32} {x7 : Int32} {x8 : Int32} {t0 : Int32} {t1 : Int32} {m : Me} (hf : fX11_mendFrom_188 rec k28 k57 x1 x2 x3 x5 x6 x7 x8 t0 t1 m = some res) (hI : Inv m) : TT InvS (Call dd) mX11_mendFrom (188, [(0, .ref 138), (1, .int x1), (2, .int x2), (3, .int x3), (5, .int x5), (6, .int x6), (7, .int x7), (8, .int x8)], [.int t0, .int t1], S, m) none (S, res) := by
  unfold fX11_mendFrom_188 at hf
  refine to_iadd (q := 189) dX11_mendFrom_188 rfl ?_
  refine to_istore (q := 191) [(4, .int (t1 + t0)), (0, .ref 138), (1, .int x1), (2, .int x2), (3, .int x3), (5, .int x5), (6, .int x6), (7, .int x7), (8, .int x8)] rfl (by decide) dX11_mendFrom_189 rfl ?_
  refine to_aload_n (q := 192) rfl (by decide) dX11_mendFrom_191 rfl ?_
  refine to_getR (q := 195) (b := 149) (k0 := 11) (C := RX11) (T := TX11) (N := 37) (j := 27) rfl fx_X11_44 (h_138 hS) rfl (iv_138_27 hI) dX11_mendFrom_192 rfl ?_
  refine to_iload (q := 197) rfl dX11_mendFrom_195 rfl ?_
  refine to_iload (q := 199) rfl dX11_mendFrom_197 rfl ?_
  obtain ⟨hb25, hf⟩ := ck_some hf
  refine to_iasj (q := 200) (h_149 hS) hb25 (rfl) dX11_mendFrom_199 rfl ?_
  refine to_aload_n (q := 201) rfl (by decide) dX11_mendFrom_200 rfl ?_
  refine to_getR (q := 204) (b := 150) (k0 := 11) (C := RX11) (T := TX11) (N := 37) (j := 28) rfl fx_X11_47 (h_138 hS) rfl (iv_138_28 hI) dX11_mendFrom_201 rfl ?_
  refine to_iload (q := 206) rfl dX11_mendFrom_204 rfl ?_
  refine to_dup2 (q := 207) rfl rfl dX11_mendFrom_206 rfl ?_
  obtain ⟨hb26, hf⟩ := ck_some hf
  refine to_iaj (q := 208) (h_150 hS) hb26 (rfl) dX11_mendFrom_207 rfl ?_
  refine to_iconst (q := 209) ic_1 dX11_mendFrom_208 rfl ?_
  refine to_iadd (q := 210) dX11_mendFrom_209 rfl ?_
  obtain ⟨hb27, hf⟩ := ck_some hf
  refine to_iasj (q := 211) (h_150 hS) hb27 (rfl) dX11_mendFrom_210 rfl ?_
  refine to_iinc (q := 214) (v := (x5 + (1 : Int32))) rfl (congrArg (fun z => x5 + z) ic_1) [(5, .int (x5 + (1 : Int32))), (4, .int (t1 + t0)), (0, .ref 138), (1, .int x1), (2, .int x2), (3, .int x3), (6, .int x6), (7, .int x7), (8, .int x8)] rfl (by decide) dX11_mendFrom_211 rfl ?_
  refine to_goto (q := 57) dX11_mendFrom_214 rfl ?_
  exact to_ext [(0, .ref 138), (1, .int x1), (2, .int x2), (3, .int x3), (4, .int (t1 + t0)), (5, .int (x5 + (1 : Int32))), (6, .int x6)] (ext_cons rfl (ext_cons rfl (ext_cons rfl (ext_cons rfl (ext_cons rfl (ext_cons rfl (ext_cons rfl ext_nil))))))) (hk57 hf hI)
def fX11_mendFrom_187 (rec : Int32 → Int32 → Me → Option (Me)) (k28 : Int32 → Int32 → Int32 → Me → Option (Me)) (k57 : Int32 → Int32 → Int32 → Int32 → Int32 → Int32 → Me → Option (Me)) (x1 : Int32) (x2 : Int32) (x3 : Int32) (x5 : Int32) (x6 : Int32) (x7 : Int32) (x8 : Int32) (t0 : Int32) (m : Me) : Option (Me) := fX11_mendFrom_188 rec k28 k57 x1 x2 x3 x5 x6 x7 x8 ((0 : Int32)) t0 m
set_option maxRecDepth 20000 in
theorem kX11_mendFrom_187 {S : Sh} (hS : ShOK S) {dd : Nat} (hdd : 0 ≤ dd) {rec : Int32 → Int32 → Me → Option (Me)} (hrec : ∀ {x1 : Int32} {x2 : Int32} {m : Me} {res : Me}, rec x1 x2 m = some res → Inv m → Call dd mX11_mendFrom [.ref 138, .int x1, .int x2] (S, m) none (S, res) ∧ Inv res) {res : Me} {k28 : Int32 → Int32 → Int32 → Me → Option (Me)} (hk28 : ∀ {x1 : Int32} {x2 : Int32} {x3 : Int32} {m : Me}, k28 x1 x2 x3 m = some res → Inv m → TT InvS (Call dd) mX11_mendFrom (28, [(0, .ref 138), (1, .int x1), (2, .int x2), (3, .int x3)], [], S, m) none (S, res)) {k57 : Int32 → Int32 → Int32 → Int32 → Int32 → Int32 → Me → Option (Me)} (hk57 : ∀ {x1 : Int32} {x2 : Int32} {x3 : Int32} {x4 : Int32} {x5 : Int32} {x6 : Int32} {m : Me}, k57 x1 x2 x3 x4 x5 x6 m = some res → Inv m → TT InvS (Call dd) mX11_mendFrom (57, [(0, .ref 138), (1, .int x1), (2, .int x2), (3, .int x3), (4, .int x4), (5, .int x5), (6, .int x6)], [], S, m) none (S, res)) {x1 : Int32} {x2 : Int32} {x3 : Int32} {x5 : Int32} {x6 : Int32} {x7 : Int32} {x8 : Int32} {t0 : Int32} {m : Me} (hf : fX11_mendFrom_187 rec k28 k57 x1 x2 x3 x5 x6 x7 x8 t0 m = some res) (hI : Inv m) : TT InvS (Call dd) mX11_mendFrom (187, [(0, .ref 138), (1, .int x1), (2, .int x2), (3, .int x3), (5, .int x5), (6, .int x6), (7, .int x7), (8, .int x8)], [.int t0], S, m) none (S, res) := by
  unfold fX11_mendFrom_187 at hf
  refine to_iconst (q := 188) ic_0 dX11_mendFrom_187 rfl ?_
  exact to_ext [(0, .ref 138), (1, .int x1), (2, .int x2), (3, .int x3), (5, .int x5), (6, .int x6), (7, .int x7), (8, .int x8)] (ext_cons rfl (ext_cons rfl (ext_cons rfl (ext_cons rfl (ext_cons rfl (ext_cons rfl (ext_cons rfl (ext_cons rfl ext_nil)))))))) (kX11_mendFrom_188 hS hdd hrec hk28 hk57 hf hI)
def fX11_mendFrom_149 (rec : Int32 → Int32 → Me → Option (Me)) (k28 : Int32 → Int32 → Int32 → Me → Option (Me)) (k57 : Int32 → Int32 → Int32 → Int32 → Int32 → Int32 → Me → Option (Me)) (x1 : Int32) (x2 : Int32) (x3 : Int32) (x4 : Int32) (x5 : Int32) (x7 : Int32) (x8 : Int32) (t0 : Int32) (m : Me) : Option (Me) := if t0 = (0 : Int32) then k57 x1 x2 x3 x4 x5 t0 m else ck (inb x7 60) (if (m.1 150 x7.toNatClampNeg) = (0 : Int32) then ck (inb x7 62) (if (m.1 143 x7.toNatClampNeg) = x8 then fX11_mendFrom_187 rec k28 k57 x1 x2 x3 x5 t0 x7 x8 x4 m else fX11_mendFrom_188 rec k28 k57 x1 x2 x3 x5 t0 x7 x8 ((1 : Int32)) x4 m) else fX11_mendFrom_187 rec k28 k57 x1 x2 x3 x5 t0 x7 x8 x4 m)
set_option maxRecDepth 20000 in
theorem kX11_mendFrom_149 {S : Sh} (hS : ShOK S) {dd : Nat} (hdd : 0 ≤ dd) {rec : Int32 → Int32 → Me → Option (Me)} (hrec : ∀ {x1 : Int32} {x2 : Int32} {m : Me} {res : Me}, rec x1 x2 m = some res → Inv m → Call dd mX11_mendFrom [.ref 138, .int x1, .int x2] (S, m) none (S, res) ∧ Inv res) {res : Me} {k28 : Int32 → Int32 → Int32 → Me → Option (Me)} (hk28 : ∀ {x1 : Int32} {x2 : Int32} {x3 : Int32} {m : Me}, k28 x1 x2 x3 m = some res → Inv m → TT InvS (Call dd) mX11_mendFrom (28, [(0, .ref 138), (1, .int x1), (2, .int x2), (3, .int x3)], [], S, m) none (S, res)) {k57 : Int32 → Int32 → Int32 → Int32 → Int32 → Int32 → Me → Option (Me)} (hk57 : ∀ {x1 : Int32} {x2 : Int32} {x3 : Int32} {x4 : Int32} {x5 : Int32} {x6 : Int32} {m : Me}, k57 x1 x2 x3 x4 x5 x6 m = some res → Inv m → TT InvS (Call dd) mX11_mendFrom (57, [(0, .ref 138), (1, .int x1), (2, .int x2), (3, .int x3), (4, .int x4), (5, .int x5), (6, .int x6)], [], S, m) none (S, res)) {x1 : Int32} {x2 : Int32} {x3 : Int32} {x4 : Int32} {x5 : Int32} {x7 : Int32} {x8 : Int32} {t0 : Int32} {m : Me} (hf : fX11_mendFrom_149 rec k28 k57 x1 x2 x3 x4 x5 x7 x8 t0 m = some res) (hI : Inv m) : TT InvS (Call dd) mX11_mendFrom (149, [(0, .ref 138), (1, .int x1), (2, .int x2), (3, .int x3), (4, .int x4), (5, .int x5), (7, .int x7), (8, .int x8)], [.int t0], S, m) none (S, res) := by
  unfold fX11_mendFrom_149 at hf
  refine to_istore (q := 151) [(6, .int t0), (0, .ref 138), (1, .int x1), (2, .int x2), (3, .int x3), (4, .int x4), (5, .int x5), (7, .int x7), (8, .int x8)] rfl (by decide) dX11_mendFrom_149 rfl ?_
  refine to_iload (q := 153) rfl dX11_mendFrom_151 rfl ?_
  by_cases h20 : t0 = (0 : Int32)
  · have hf := ite_pos h20 hf
    refine to_ifF (q := 156) (op := .ne) 159 (fun z => z h20) dX11_mendFrom_153 rfl rfl ?_
    refine to_goto (q := 57) dX11_mendFrom_156 rfl ?_
    exact to_ext [(0, .ref 138), (1, .int x1), (2, .int x2), (3, .int x3), (4, .int x4), (5, .int x5), (6, .int t0)] (ext_cons rfl (ext_cons rfl (ext_cons rfl (ext_cons rfl (ext_cons rfl (ext_cons rfl (ext_cons rfl ext_nil))))))) (hk57 hf hI)
  · have hf := ite_neg h20 hf
    refine to_ifT (q := 159) (op := .ne) h20 dX11_mendFrom_153 rfl ?_
    refine to_iload (q := 161) rfl dX11_mendFrom_159 rfl ?_
    refine to_aload_n (q := 162) rfl (by decide) dX11_mendFrom_161 rfl ?_
    refine to_getR (q := 165) (b := 150) (k0 := 11) (C := RX11) (T := TX11) (N := 37) (j := 28) rfl fx_X11_47 (h_138 hS) rfl (iv_138_28 hI) dX11_mendFrom_162 rfl ?_
    refine to_iload (q := 167) rfl dX11_mendFrom_165 rfl ?_
    obtain ⟨hb21, hf⟩ := ck_some hf
    refine to_iaj (q := 168) (h_150 hS) hb21 (rfl) dX11_mendFrom_167 rfl ?_
    by_cases h22 : (m.1 150 x7.toNatClampNeg) = (0 : Int32)
    · have hf := ite_pos h22 hf
      refine to_ifF (q := 171) (op := .ne) 187 (fun z => z h22) dX11_mendFrom_168 rfl rfl ?_
      refine to_aload_n (q := 172) rfl (by decide) dX11_mendFrom_171 rfl ?_
      refine to_getR (q := 175) (b := 143) (k0 := 11) (C := RX11) (T := TX11) (N := 37) (j := 17) rfl fx_X11_26 (h_138 hS) rfl (iv_138_17 hI) dX11_mendFrom_172 rfl ?_
      refine to_iload (q := 177) rfl dX11_mendFrom_175 rfl ?_
      obtain ⟨hb23, hf⟩ := ck_some hf
      refine to_iaj (q := 178) (h_143 hS) hb23 (rfl) dX11_mendFrom_177 rfl ?_
      refine to_iload (q := 180) rfl dX11_mendFrom_178 rfl ?_
      by_cases h24 : (m.1 143 x7.toNatClampNeg) = x8
      · have hf := ite_pos h24 hf
        refine to_icT (q := 187) (op := .eq) h24 dX11_mendFrom_180 rfl ?_
        exact to_ext [(0, .ref 138), (1, .int x1), (2, .int x2), (3, .int x3), (5, .int x5), (6, .int t0), (7, .int x7), (8, .int x8)] (ext_cons rfl (ext_cons rfl (ext_cons rfl (ext_cons rfl (ext_cons rfl (ext_cons rfl (ext_cons rfl (ext_cons rfl ext_nil)))))))) (kX11_mendFrom_187 hS hdd hrec hk28 hk57 hf hI)
      · have hf := ite_neg h24 hf
        refine to_icF (q := 183) (op := .eq) 187 h24 dX11_mendFrom_180 rfl rfl ?_
        refine to_iconst (q := 184) ic_1 dX11_mendFrom_183 rfl ?_
        refine to_goto (q := 188) dX11_mendFrom_184 rfl ?_
        exact to_ext [(0, .ref 138), (1, .int x1), (2, .int x2), (3, .int x3), (5, .int x5), (6, .int t0), (7, .int x7), (8, .int x8)] (ext_cons rfl (ext_cons rfl (ext_cons rfl (ext_cons rfl (ext_cons rfl (ext_cons rfl (ext_cons rfl (ext_cons rfl ext_nil)))))))) (kX11_mendFrom_188 hS hdd hrec hk28 hk57 hf hI)
    · have hf := ite_neg h22 hf
      refine to_ifT (q := 187) (op := .ne) h22 dX11_mendFrom_168 rfl ?_
      exact to_ext [(0, .ref 138), (1, .int x1), (2, .int x2), (3, .int x3), (5, .int x5), (6, .int t0), (7, .int x7), (8, .int x8)] (ext_cons rfl (ext_cons rfl (ext_cons rfl (ext_cons rfl (ext_cons rfl (ext_cons rfl (ext_cons rfl (ext_cons rfl ext_nil)))))))) (kX11_mendFrom_187 hS hdd hrec hk28 hk57 hf hI)
def fX11_mendFrom_144 (rec : Int32 → Int32 → Me → Option (Me)) (k28 : Int32 → Int32 → Int32 → Me → Option (Me)) (k57 : Int32 → Int32 → Int32 → Int32 → Int32 → Int32 → Me → Option (Me)) (x1 : Int32) (x2 : Int32) (x3 : Int32) (x4 : Int32) (x5 : Int32) (x7 : Int32) (x8 : Int32) (m : Me) : Option (Me) := fX11_mendFrom_149 rec k28 k57 x1 x2 x3 x4 x5 x7 x8 ((1 : Int32)) m
set_option maxRecDepth 20000 in
theorem kX11_mendFrom_144 {S : Sh} (hS : ShOK S) {dd : Nat} (hdd : 0 ≤ dd) {rec : Int32 → Int32 → Me → Option (Me)} (hrec : ∀ {x1 : Int32} {x2 : Int32} {m : Me} {res : Me}, rec x1 x2 m = some res → Inv m → Call dd mX11_mendFrom [.ref 138, .int x1, .int x2] (S, m) none (S, res) ∧ Inv res) {res : Me} {k28 : Int32 → Int32 → Int32 → Me → Option (Me)} (hk28 : ∀ {x1 : Int32} {x2 : Int32} {x3 : Int32} {m : Me}, k28 x1 x2 x3 m = some res → Inv m → TT InvS (Call dd) mX11_mendFrom (28, [(0, .ref 138), (1, .int x1), (2, .int x2), (3, .int x3)], [], S, m) none (S, res)) {k57 : Int32 → Int32 → Int32 → Int32 → Int32 → Int32 → Me → Option (Me)} (hk57 : ∀ {x1 : Int32} {x2 : Int32} {x3 : Int32} {x4 : Int32} {x5 : Int32} {x6 : Int32} {m : Me}, k57 x1 x2 x3 x4 x5 x6 m = some res → Inv m → TT InvS (Call dd) mX11_mendFrom (57, [(0, .ref 138), (1, .int x1), (2, .int x2), (3, .int x3), (4, .int x4), (5, .int x5), (6, .int x6)], [], S, m) none (S, res)) {x1 : Int32} {x2 : Int32} {x3 : Int32} {x4 : Int32} {x5 : Int32} {x7 : Int32} {x8 : Int32} {m : Me} (hf : fX11_mendFrom_144 rec k28 k57 x1 x2 x3 x4 x5 x7 x8 m = some res) (hI : Inv m) : TT InvS (Call dd) mX11_mendFrom (144, [(0, .ref 138), (1, .int x1), (2, .int x2), (3, .int x3), (4, .int x4), (5, .int x5), (7, .int x7), (8, .int x8)], [], S, m) none (S, res) := by
  unfold fX11_mendFrom_144 at hf
  refine to_iconst (q := 145) ic_1 dX11_mendFrom_144 rfl ?_
  refine to_goto (q := 149) dX11_mendFrom_145 rfl ?_
  exact to_ext [(0, .ref 138), (1, .int x1), (2, .int x2), (3, .int x3), (4, .int x4), (5, .int x5), (7, .int x7), (8, .int x8)] (ext_cons rfl (ext_cons rfl (ext_cons rfl (ext_cons rfl (ext_cons rfl (ext_cons rfl (ext_cons rfl (ext_cons rfl ext_nil)))))))) (kX11_mendFrom_149 hS hdd hrec hk28 hk57 hf hI)
def fX11_mendFrom_57 (rec : Int32 → Int32 → Me → Option (Me)) (n : Nat) (k28 : Int32 → Int32 → Int32 → Me → Option (Me)) (x1 : Int32) (x2 : Int32) (x3 : Int32) (x4 : Int32) (x5 : Int32) (x6 : Int32) (m : Me) : Option (Me) := match n with
  | 0 => none
  | n + 1 => ck (inb ((64 : Int32) + x1) 186) (if (m.1 141 ((64 : Int32) + x1).toNatClampNeg) ≤ x5 then fX11_mendFrom_217 rec k28 x1 x2 x3 x4 x5 x6 m else if x6 = (0 : Int32) then fX11_mendFrom_217 rec k28 x1 x2 x3 x4 x5 x6 m else ck (inb ((100 : Int32) + x1) 186) (ck (inb ((((30 : Int32) * x1) + x3) + x5) 120) (ck (inb (((68 : Int32) + ((8 : Int32) * x1)) + x5) 186) (ck (inb (((30 : Int32) * (m.1 141 ((100 : Int32) + x1).toNatClampNeg)) + (m.1 151 ((((30 : Int32) * x1) + x3) + x5).toNatClampNeg)) 60) (if (m.1 150 (((30 : Int32) * (m.1 141 ((100 : Int32) + x1).toNatClampNeg)) + (m.1 151 ((((30 : Int32) * x1) + x3) + x5).toNatClampNeg)).toNatClampNeg) = (0 : Int32) then fX11_mendFrom_144 rec k28 (fX11_mendFrom_57 rec n k28) x1 x2 x3 x4 x5 ((((30 : Int32) * (m.1 141 ((100 : Int32) + x1).toNatClampNeg)) + (m.1 151 ((((30 : Int32) * x1) + x3) + x5).toNatClampNeg))) ((m.1 141 (((68 : Int32) + ((8 : Int32) * x1)) + x5).toNatClampNeg)) m else ck (inb (((30 : Int32) * (m.1 141 ((100 : Int32) + x1).toNatClampNeg)) + (m.1 151 ((((30 : Int32) * x1) + x3) + x5).toNatClampNeg)) 60) (if (m.1 149 (((30 : Int32) * (m.1 141 ((100 : Int32) + x1).toNatClampNeg)) + (m.1 151 ((((30 : Int32) * x1) + x3) + x5).toNatClampNeg)).toNatClampNeg) = (m.1 141 (((68 : Int32) + ((8 : Int32) * x1)) + x5).toNatClampNeg) then fX11_mendFrom_144 rec k28 (fX11_mendFrom_57 rec n k28) x1 x2 x3 x4 x5 ((((30 : Int32) * (m.1 141 ((100 : Int32) + x1).toNatClampNeg)) + (m.1 151 ((((30 : Int32) * x1) + x3) + x5).toNatClampNeg))) ((m.1 141 (((68 : Int32) + ((8 : Int32) * x1)) + x5).toNatClampNeg)) m else fX11_mendFrom_149 rec k28 (fX11_mendFrom_57 rec n k28) x1 x2 x3 x4 x5 ((((30 : Int32) * (m.1 141 ((100 : Int32) + x1).toNatClampNeg)) + (m.1 151 ((((30 : Int32) * x1) + x3) + x5).toNatClampNeg))) ((m.1 141 (((68 : Int32) + ((8 : Int32) * x1)) + x5).toNatClampNeg)) ((0 : Int32)) m))))))
set_option maxRecDepth 20000 in
theorem kX11_mendFrom_57 {S : Sh} (hS : ShOK S) {dd : Nat} (hdd : 0 ≤ dd) {rec : Int32 → Int32 → Me → Option (Me)} (hrec : ∀ {x1 : Int32} {x2 : Int32} {m : Me} {res : Me}, rec x1 x2 m = some res → Inv m → Call dd mX11_mendFrom [.ref 138, .int x1, .int x2] (S, m) none (S, res) ∧ Inv res) {res : Me} {k28 : Int32 → Int32 → Int32 → Me → Option (Me)} (hk28 : ∀ {x1 : Int32} {x2 : Int32} {x3 : Int32} {m : Me}, k28 x1 x2 x3 m = some res → Inv m → TT InvS (Call dd) mX11_mendFrom (28, [(0, .ref 138), (1, .int x1), (2, .int x2), (3, .int x3)], [], S, m) none (S, res)) (n : Nat) : ∀ {x1 : Int32} {x2 : Int32} {x3 : Int32} {x4 : Int32} {x5 : Int32} {x6 : Int32} {m : Me}, fX11_mendFrom_57 rec n k28 x1 x2 x3 x4 x5 x6 m = some res → Inv m → TT InvS (Call dd) mX11_mendFrom (57, [(0, .ref 138), (1, .int x1), (2, .int x2), (3, .int x3), (4, .int x4), (5, .int x5), (6, .int x6)], [], S, m) none (S, res) := by
  induction n with
  | zero => intro x1 x2 x3 x4 x5 x6 m hf; cases hf
  | succ n ih =>
    intro x1 x2 x3 x4 x5 x6 m hf  hI
    unfold fX11_mendFrom_57 at hf
    refine to_iload (q := 59) rfl dX11_mendFrom_57 rfl ?_
    refine to_aload_n (q := 60) rfl (by decide) dX11_mendFrom_59 rfl ?_
    refine to_getR (q := 63) (b := 141) (k0 := 11) (C := RX11) (T := TX11) (N := 37) (j := 15) rfl fx_X11_20 (h_138 hS) rfl (iv_138_15 hI) dX11_mendFrom_60 rfl ?_
    refine to_bipush (q := 65) bp_64 dX11_mendFrom_63 rfl ?_
    refine to_iload_n (q := 66) rfl dX11_mendFrom_65 rfl ?_
    refine to_iadd (q := 67) dX11_mendFrom_66 rfl ?_
    obtain ⟨hb6, hf⟩ := ck_some hf
    refine to_iaj (q := 68) (h_141 hS) hb6 (rfl) dX11_mendFrom_67 rfl ?_
    by_cases h7 : (m.1 141 ((64 : Int32) + x1).toNatClampNeg) ≤ x5
    · have hf := ite_pos h7 hf
      refine to_icT (q := 217) (op := .ge) h7 dX11_mendFrom_68 rfl ?_
      exact to_ext [(0, .ref 138), (1, .int x1), (2, .int x2), (3, .int x3), (4, .int x4), (5, .int x5), (6, .int x6)] (ext_cons rfl (ext_cons rfl (ext_cons rfl (ext_cons rfl (ext_cons rfl (ext_cons rfl (ext_cons rfl ext_nil))))))) (kX11_mendFrom_217 hS hdd hrec hk28 hf hI)
    · have hf := ite_neg h7 hf
      refine to_icF (q := 71) (op := .ge) 217 h7 dX11_mendFrom_68 rfl rfl ?_
      refine to_iload (q := 73) rfl dX11_mendFrom_71 rfl ?_
      by_cases h8 : x6 = (0 : Int32)
      · have hf := ite_pos h8 hf
        refine to_ifT (q := 217) (op := .eq) h8 dX11_mendFrom_73 rfl ?_
        exact to_ext [(0, .ref 138), (1, .int x1), (2, .int x2), (3, .int x3), (4, .int x4), (5, .int x5), (6, .int x6)] (ext_cons rfl (ext_cons rfl (ext_cons rfl (ext_cons rfl (ext_cons rfl (ext_cons rfl (ext_cons rfl ext_nil))))))) (kX11_mendFrom_217 hS hdd hrec hk28 hf hI)
      · have hf := ite_neg h8 hf
        refine to_ifF (q := 76) (op := .eq) 217 h8 dX11_mendFrom_73 rfl rfl ?_
        refine to_bipush (q := 78) bp_30 dX11_mendFrom_76 rfl ?_
        refine to_aload_n (q := 79) rfl (by decide) dX11_mendFrom_78 rfl ?_
        refine to_getR (q := 82) (b := 141) (k0 := 11) (C := RX11) (T := TX11) (N := 37) (j := 15) rfl fx_X11_20 (h_138 hS) rfl (iv_138_15 hI) dX11_mendFrom_79 rfl ?_
        refine to_bipush (q := 84) bp_100 dX11_mendFrom_82 rfl ?_
        refine to_iload_n (q := 85) rfl dX11_mendFrom_84 rfl ?_
        refine to_iadd (q := 86) dX11_mendFrom_85 rfl ?_
        obtain ⟨hb9, hf⟩ := ck_some hf
        refine to_iaj (q := 87) (h_141 hS) hb9 (rfl) dX11_mendFrom_86 rfl ?_
        refine to_imul (q := 88) dX11_mendFrom_87 rfl ?_
        refine to_aload_n (q := 89) rfl (by decide) dX11_mendFrom_88 rfl ?_
        refine to_getR (q := 92) (b := 151) (k0 := 11) (C := RX11) (T := TX11) (N := 37) (j := 29) rfl fx_X11_50 (h_138 hS) rfl (iv_138_29 hI) dX11_mendFrom_89 rfl ?_
        refine to_bipush (q := 94) bp_30 dX11_mendFrom_92 rfl ?_
        refine to_iload_n (q := 95) rfl dX11_mendFrom_94 rfl ?_
        refine to_imul (q := 96) dX11_mendFrom_95 rfl ?_
        refine to_iload_n (q := 97) rfl dX11_mendFrom_96 rfl ?_
        refine to_iadd (q := 98) dX11_mendFrom_97 rfl ?_
        refine to_iload (q := 100) rfl dX11_mendFrom_98 rfl ?_
        refine to_iadd (q := 101) dX11_mendFrom_100 rfl ?_
        obtain ⟨hb10, hf⟩ := ck_some hf
        refine to_iaj (q := 102) (h_151 hS) hb10 (rfl) dX11_mendFrom_101 rfl ?_
        refine to_iadd (q := 103) dX11_mendFrom_102 rfl ?_
        refine to_istore (q := 105) [(7, .int (((30 : Int32) * (m.1 141 ((100 : Int32) + x1).toNatClampNeg)) + (m.1 151 ((((30 : Int32) * x1) + x3) + x5).toNatClampNeg))), (0, .ref 138), (1, .int x1), (2, .int x2), (3, .int x3), (4, .int x4), (5, .int x5), (6, .int x6)] rfl (by decide) dX11_mendFrom_103 rfl ?_
        refine to_aload_n (q := 106) rfl (by decide) dX11_mendFrom_105 rfl ?_
        refine to_getR (q := 109) (b := 141) (k0 := 11) (C := RX11) (T := TX11) (N := 37) (j := 15) rfl fx_X11_20 (h_138 hS) rfl (iv_138_15 hI) dX11_mendFrom_106 rfl ?_
        refine to_bipush (q := 111) bp_68 dX11_mendFrom_109 rfl ?_
        refine to_bipush (q := 113) bp_8 dX11_mendFrom_111 rfl ?_
        refine to_iload_n (q := 114) rfl dX11_mendFrom_113 rfl ?_
        refine to_imul (q := 115) dX11_mendFrom_114 rfl ?_
        refine to_iadd (q := 116) dX11_mendFrom_115 rfl ?_
        refine to_iload (q := 118) rfl dX11_mendFrom_116 rfl ?_
        refine to_iadd (q := 119) dX11_mendFrom_118 rfl ?_
        obtain ⟨hb11, hf⟩ := ck_some hf
        refine to_iaj (q := 120) (h_141 hS) hb11 (rfl) dX11_mendFrom_119 rfl ?_
        refine to_istore (q := 122) [(8, .int (m.1 141 (((68 : Int32) + ((8 : Int32) * x1)) + x5).toNatClampNeg)), (7, .int (((30 : Int32) * (m.1 141 ((100 : Int32) + x1).toNatClampNeg)) + (m.1 151 ((((30 : Int32) * x1) + x3) + x5).toNatClampNeg))), (0, .ref 138), (1, .int x1), (2, .int x2), (3, .int x3), (4, .int x4), (5, .int x5), (6, .int x6)] rfl (by decide) dX11_mendFrom_120 rfl ?_
        refine to_aload_n (q := 123) rfl (by decide) dX11_mendFrom_122 rfl ?_
        refine to_getR (q := 126) (b := 150) (k0 := 11) (C := RX11) (T := TX11) (N := 37) (j := 28) rfl fx_X11_47 (h_138 hS) rfl (iv_138_28 hI) dX11_mendFrom_123 rfl ?_
        refine to_iload (q := 128) rfl dX11_mendFrom_126 rfl ?_
        obtain ⟨hb12, hf⟩ := ck_some hf
        refine to_iaj (q := 129) (h_150 hS) hb12 (rfl) dX11_mendFrom_128 rfl ?_
        by_cases h13 : (m.1 150 (((30 : Int32) * (m.1 141 ((100 : Int32) + x1).toNatClampNeg)) + (m.1 151 ((((30 : Int32) * x1) + x3) + x5).toNatClampNeg)).toNatClampNeg) = (0 : Int32)
        · have hf := ite_pos h13 hf
          refine to_ifT (q := 144) (op := .eq) h13 dX11_mendFrom_129 rfl ?_
          exact to_ext [(0, .ref 138), (1, .int x1), (2, .int x2), (3, .int x3), (4, .int x4), (5, .int x5), (7, .int (((30 : Int32) * (m.1 141 ((100 : Int32) + x1).toNatClampNeg)) + (m.1 151 ((((30 : Int32) * x1) + x3) + x5).toNatClampNeg))), (8, .int (m.1 141 (((68 : Int32) + ((8 : Int32) * x1)) + x5).toNatClampNeg))] (ext_cons rfl (ext_cons rfl (ext_cons rfl (ext_cons rfl (ext_cons rfl (ext_cons rfl (ext_cons rfl (ext_cons rfl ext_nil)))))))) (kX11_mendFrom_144 hS hdd hrec hk28 ih hf hI)
        · have hf := ite_neg h13 hf
          refine to_ifF (q := 132) (op := .eq) 144 h13 dX11_mendFrom_129 rfl rfl ?_
          refine to_aload_n (q := 133) rfl (by decide) dX11_mendFrom_132 rfl ?_
          refine to_getR (q := 136) (b := 149) (k0 := 11) (C := RX11) (T := TX11) (N := 37) (j := 27) rfl fx_X11_44 (h_138 hS) rfl (iv_138_27 hI) dX11_mendFrom_133 rfl ?_
          refine to_iload (q := 138) rfl dX11_mendFrom_136 rfl ?_
          obtain ⟨hb14, hf⟩ := ck_some hf
          refine to_iaj (q := 139) (h_149 hS) hb14 (rfl) dX11_mendFrom_138 rfl ?_
          refine to_iload (q := 141) rfl dX11_mendFrom_139 rfl ?_
          by_cases h15 : (m.1 149 (((30 : Int32) * (m.1 141 ((100 : Int32) + x1).toNatClampNeg)) + (m.1 151 ((((30 : Int32) * x1) + x3) + x5).toNatClampNeg)).toNatClampNeg) = (m.1 141 (((68 : Int32) + ((8 : Int32) * x1)) + x5).toNatClampNeg)
          · have hf := ite_pos h15 hf
            refine to_icF (q := 144) (op := .ne) 148 (fun z => z h15) dX11_mendFrom_141 rfl rfl ?_
            exact to_ext [(0, .ref 138), (1, .int x1), (2, .int x2), (3, .int x3), (4, .int x4), (5, .int x5), (7, .int (((30 : Int32) * (m.1 141 ((100 : Int32) + x1).toNatClampNeg)) + (m.1 151 ((((30 : Int32) * x1) + x3) + x5).toNatClampNeg))), (8, .int (m.1 141 (((68 : Int32) + ((8 : Int32) * x1)) + x5).toNatClampNeg))] (ext_cons rfl (ext_cons rfl (ext_cons rfl (ext_cons rfl (ext_cons rfl (ext_cons rfl (ext_cons rfl (ext_cons rfl ext_nil)))))))) (kX11_mendFrom_144 hS hdd hrec hk28 ih hf hI)
          · have hf := ite_neg h15 hf
            refine to_icT (q := 148) (op := .ne) h15 dX11_mendFrom_141 rfl ?_
            refine to_iconst (q := 149) ic_0 dX11_mendFrom_148 rfl ?_
            exact to_ext [(0, .ref 138), (1, .int x1), (2, .int x2), (3, .int x3), (4, .int x4), (5, .int x5), (7, .int (((30 : Int32) * (m.1 141 ((100 : Int32) + x1).toNatClampNeg)) + (m.1 151 ((((30 : Int32) * x1) + x3) + x5).toNatClampNeg))), (8, .int (m.1 141 (((68 : Int32) + ((8 : Int32) * x1)) + x5).toNatClampNeg))] (ext_cons rfl (ext_cons rfl (ext_cons rfl (ext_cons rfl (ext_cons rfl (ext_cons rfl (ext_cons rfl (ext_cons rfl ext_nil)))))))) (kX11_mendFrom_149 hS hdd hrec hk28 ih hf hI)
def fX11_mendFrom_28 (rec : Int32 → Int32 → Me → Option (Me)) (n : Nat) (x1 : Int32) (x2 : Int32) (x3 : Int32) (m : Me) : Option (Me) := match n with
  | 0 => none
  | n + 1 => ck (inb ((64 : Int32) + x1) 186) (ck (inb x1 4) (if (m.1 152 x1.toNatClampNeg) < (x3 + (m.1 141 ((64 : Int32) + x1).toNatClampNeg)) then some m else fX11_mendFrom_57 rec FU (fX11_mendFrom_28 rec n) x1 x2 x3 ((0 : Int32)) ((0 : Int32)) ((1 : Int32)) m))
set_option maxRecDepth 20000 in
theorem kX11_mendFrom_28 {S : Sh} (hS : ShOK S) {dd : Nat} (hdd : 0 ≤ dd) {rec : Int32 → Int32 → Me → Option (Me)} (hrec : ∀ {x1 : Int32} {x2 : Int32} {m : Me} {res : Me}, rec x1 x2 m = some res → Inv m → Call dd mX11_mendFrom [.ref 138, .int x1, .int x2] (S, m) none (S, res) ∧ Inv res) {res : Me} (n : Nat) : ∀ {x1 : Int32} {x2 : Int32} {x3 : Int32} {m : Me}, fX11_mendFrom_28 rec n x1 x2 x3 m = some res → Inv m → TT InvS (Call dd) mX11_mendFrom (28, [(0, .ref 138), (1, .int x1), (2, .int x2), (3, .int x3)], [], S, m) none (S, res) := by
  induction n with
  | zero => intro x1 x2 x3 m hf; cases hf
  | succ n ih =>
    intro x1 x2 x3 m hf  hI
    unfold fX11_mendFrom_28 at hf
    refine to_iload_n (q := 29) rfl dX11_mendFrom_28 rfl ?_
    refine to_aload_n (q := 30) rfl (by decide) dX11_mendFrom_29 rfl ?_
    refine to_getR (q := 33) (b := 141) (k0 := 11) (C := RX11) (T := TX11) (N := 37) (j := 15) rfl fx_X11_20 (h_138 hS) rfl (iv_138_15 hI) dX11_mendFrom_30 rfl ?_
    refine to_bipush (q := 35) bp_64 dX11_mendFrom_33 rfl ?_
    refine to_iload_n (q := 36) rfl dX11_mendFrom_35 rfl ?_
    refine to_iadd (q := 37) dX11_mendFrom_36 rfl ?_
    obtain ⟨hb3, hf⟩ := ck_some hf
    refine to_iaj (q := 38) (h_141 hS) hb3 (rfl) dX11_mendFrom_37 rfl ?_
    refine to_iadd (q := 39) dX11_mendFrom_38 rfl ?_
    refine to_aload_n (q := 40) rfl (by decide) dX11_mendFrom_39 rfl ?_
    refine to_getR (q := 43) (b := 152) (k0 := 11) (C := RX11) (T := TX11) (N := 37) (j := 30) rfl fx_X11_53 (h_138 hS) rfl (iv_138_30 hI) dX11_mendFrom_40 rfl ?_
    refine to_iload_n (q := 44) rfl dX11_mendFrom_43 rfl ?_
    obtain ⟨hb4, hf⟩ := ck_some hf
    refine to_iaj (q := 45) (h_152 hS) hb4 (rfl) dX11_mendFrom_44 rfl ?_
    by_cases h5 : (m.1 152 x1.toNatClampNeg) < (x3 + (m.1 141 ((64 : Int32) + x1).toNatClampNeg))
    · have hf := ite_pos h5 hf
      refine to_icT (q := 291) (op := .gt) h5 dX11_mendFrom_45 rfl ?_
      cases hf
      exact to_vret dX11_mendFrom_291 rfl rfl rfl hI
    · have hf := ite_neg h5 hf
      refine to_icF (q := 48) (op := .gt) 291 h5 dX11_mendFrom_45 rfl rfl ?_
      refine to_iconst (q := 49) ic_0 dX11_mendFrom_48 rfl ?_
      refine to_istore (q := 51) [(4, .int (0 : Int32)), (0, .ref 138), (1, .int x1), (2, .int x2), (3, .int x3)] rfl (by decide) dX11_mendFrom_49 rfl ?_
      refine to_iconst (q := 52) ic_0 dX11_mendFrom_51 rfl ?_
      refine to_istore (q := 54) [(5, .int (0 : Int32)), (4, .int (0 : Int32)), (0, .ref 138), (1, .int x1), (2, .int x2), (3, .int x3)] rfl (by decide) dX11_mendFrom_52 rfl ?_
      refine to_iconst (q := 55) ic_1 dX11_mendFrom_54 rfl ?_
      refine to_istore (q := 57) [(6, .int (1 : Int32)), (5, .int (0 : Int32)), (4, .int (0 : Int32)), (0, .ref 138), (1, .int x1), (2, .int x2), (3, .int x3)] rfl (by decide) dX11_mendFrom_55 rfl ?_
      exact to_ext [(0, .ref 138), (1, .int x1), (2, .int x2), (3, .int x3), (4, .int (0 : Int32)), (5, .int (0 : Int32)), (6, .int (1 : Int32))] (ext_cons rfl (ext_cons rfl (ext_cons rfl (ext_cons rfl (ext_cons rfl (ext_cons rfl (ext_cons rfl ext_nil))))))) (kX11_mendFrom_57 hS hdd hrec ih FU hf hI)
def fX11_mendFrom (n : Nat) (x1 : Int32) (x2 : Int32) (m : Me) : Option (Me) := match n with
  | 0 => none
  | n + 1 => if x2 < (m.1 138 31) then if x1 = (m.1 141 6) then some (setI m 138 31 x2) else fX11_mendFrom_28 (fX11_mendFrom n) FU x1 x2 ((0 : Int32)) m else some m
set_option maxRecDepth 20000 in
theorem kX11_mendFrom {S : Sh} (hS : ShOK S) (n : Nat) : ∀ {x1 : Int32} {x2 : Int32} {m : Me} {res : Me}, fX11_mendFrom n x1 x2 m = some res → Inv m → Call (0 + n) mX11_mendFrom [.ref 138, .int x1, .int x2] (S, m) none (S, res) ∧ Inv res := by
  induction n with
  | zero => intro x1 x2 m res hf; cases hf
  | succ n ih =>
    intro x1 x2 m res hf  hI
    unfold fX11_mendFrom at hf
    refine call_of (P := InvS) (d := 0 + n) (Nat.le_of_ble_eq_true rfl) (by simp [Value.category]) ?_
    have hrec := @ih
    have hdd : 0 ≤ 0 + n := Nat.le_add_right _ _
    show TT InvS (Call (0 + n)) mX11_mendFrom (0, [(0, .ref 138), (1, .int x1), (2, .int x2)], [], S, m) _ _
    refine to_iload_n (q := 1) rfl dX11_mendFrom_0 rfl ?_
    refine to_aload_n (q := 2) rfl (by decide) dX11_mendFrom_1 rfl ?_
    refine to_getI (q := 5) (k0 := 11) (C := RX11) (T := TX11) (N := 37) (j := 31) rfl fx_X11_341 (h_138 hS) rfl dX11_mendFrom_2 rfl ?_
    by_cases h1 : x2 < (m.1 138 31)
    · have hf := ite_pos h1 hf
      refine to_icT (q := 9) (op := .lt) h1 dX11_mendFrom_5 rfl ?_
      refine to_iload_n (q := 10) rfl dX11_mendFrom_9 rfl ?_
      refine to_aload_n (q := 11) rfl (by decide) dX11_mendFrom_10 rfl ?_
      refine to_getR (q := 14) (b := 141) (k0 := 11) (C := RX11) (T := TX11) (N := 37) (j := 15) rfl fx_X11_20 (h_138 hS) rfl (iv_138_15 hI) dX11_mendFrom_11 rfl ?_
      refine to_bipush (q := 16) bp_6 dX11_mendFrom_14 rfl ?_
      refine to_iaj (q := 17) (h_141 hS) (by decide) (tn_6) dX11_mendFrom_16 rfl ?_
      by_cases h2 : x1 = (m.1 141 6)
      · have hf := ite_pos h2 hf
        refine to_icF (q := 20) (op := .ne) 26 (fun z => z h2) dX11_mendFrom_17 rfl rfl ?_
        refine to_aload_n (q := 21) rfl (by decide) dX11_mendFrom_20 rfl ?_
        refine to_iload_n (q := 22) rfl dX11_mendFrom_21 rfl ?_
        refine to_putI (q := 25) (ty := .int) (k0 := 11) (C := RX11) (T := TX11) (N := 37) (j := 31) rfl fx_X11_341 (h_138 hS) rfl pD_I (Or.inl rfl) (nf_I _) dX11_mendFrom_22 rfl ?_
        cases hf
        exact to_vret dX11_mendFrom_25 rfl rfl rfl hI
      · have hf := ite_neg h2 hf
        refine to_icT (q := 26) (op := .ne) h2 dX11_mendFrom_17 rfl ?_
        refine to_iconst (q := 27) ic_0 dX11_mendFrom_26 rfl ?_
        refine to_istore_n (q := 28) [(3, .int (0 : Int32)), (0, .ref 138), (1, .int x1), (2, .int x2)] rfl (by decide) dX11_mendFrom_27 rfl ?_
        exact to_ext [(0, .ref 138), (1, .int x1), (2, .int x2), (3, .int (0 : Int32))] (ext_cons rfl (ext_cons rfl (ext_cons rfl (ext_cons rfl ext_nil)))) (kX11_mendFrom_28 hS hdd hrec FU hf hI)
    · have hf := ite_neg h1 hf
      refine to_icF (q := 8) (op := .lt) 9 h1 dX11_mendFrom_5 rfl rfl ?_
      cases hf
      exact to_vret dX11_mendFrom_8 rfl rfl rfl hI
def fX11_mendAll_163 (t0 : Int32) (m : Me) : Option (Int32 × Me) := some (t0, m)
set_option maxRecDepth 20000 in
theorem kX11_mendAll_163 {S : Sh} (hS : ShOK S) {res : Int32 × Me} {t0 : Int32} {m : Me} (hf : fX11_mendAll_163 t0 m = some res) (hI : Inv m) : TT InvS (Call 9) mX11_mendAll (163, [], [.int t0], S, m) (some (.int res.1)) (S, res.2) := by
  unfold fX11_mendAll_163 at hf
  cases hf
  exact to_iret dX11_mendAll_163 rfl rfl rfl rfl hI
def fX11_mendAll_144 (m : Me) : Option (Int32 × Me) := if (m.1 138 31) = (1000000 : Int32) then fX11_mendAll_163 ((-2 : Int32)) m else fX11_mendAll_163 ((m.1 138 31)) m
set_option maxRecDepth 20000 in
theorem kX11_mendAll_144 {S : Sh} (hS : ShOK S) {res : Int32 × Me} {m : Me} (hf : fX11_mendAll_144 m = some res) (hI : Inv m) : TT InvS (Call 9) mX11_mendAll (144, [(0, .ref 138)], [], S, m) (some (.int res.1)) (S, res.2) := by
  unfold fX11_mendAll_144 at hf
  refine to_aload_n (q := 145) rfl (by decide) dX11_mendAll_144 rfl ?_
  refine to_getI (q := 148) (k0 := 11) (C := RX11) (T := TX11) (N := 37) (j := 31) rfl fx_X11_341 (h_138 hS) rfl dX11_mendAll_145 rfl ?_
  refine to_ldcw (q := 151) con_X11_328 dX11_mendAll_148 rfl ?_
  by_cases h33 : (m.1 138 31) = (1000000 : Int32)
  · have hf := ite_pos h33 hf
    refine to_icF (q := 154) (op := .ne) 159 (fun z => z h33) dX11_mendAll_151 rfl rfl ?_
    refine to_bipush (q := 156) bp_m2 dX11_mendAll_154 rfl ?_
    refine to_goto (q := 163) dX11_mendAll_156 rfl ?_
    exact to_ext [] ext_nil (kX11_mendAll_163 hS hf hI)
  · have hf := ite_neg h33 hf
    refine to_icT (q := 159) (op := .ne) h33 dX11_mendAll_151 rfl ?_
    refine to_aload_n (q := 160) rfl (by decide) dX11_mendAll_159 rfl ?_
    refine to_getI (q := 163) (k0 := 11) (C := RX11) (T := TX11) (N := 37) (j := 31) rfl fx_X11_341 (h_138 hS) rfl dX11_mendAll_160 rfl ?_
    exact to_ext [] ext_nil (kX11_mendAll_163 hS hf hI)
def fX11_mendAll_108 (n : Nat) (x1 : Int32) (x2 : Int32) (m : Me) : Option (Int32 × Me) := match n with
  | 0 => none
  | n + 1 => if (60 : Int32) ≤ x2 then if x1 = (0 : Int32) then fX11_mendAll_144 (setI m 138 31 (1000000 : Int32)) else cl1 (fX11_mendFrom 8 (0 : Int32) (0 : Int32) (setI m 138 31 (1000000 : Int32))) fun m31 => fX11_mendAll_144 m31 else ck (inb x2 60) (fX11_mendAll_108 n x1 ((x2 + (1 : Int32))) (setI m 150 x2.toNatClampNeg (0 : Int32)))
set_option maxRecDepth 20000 in
theorem kX11_mendAll_108 {S : Sh} (hS : ShOK S) {res : Int32 × Me} (n : Nat) : ∀ {x1 : Int32} {x2 : Int32} {m : Me}, fX11_mendAll_108 n x1 x2 m = some res → Inv m → TT InvS (Call 9) mX11_mendAll (108, [(0, .ref 138), (1, .int x1), (2, .int x2)], [], S, m) (some (.int res.1)) (S, res.2) := by
  induction n with
  | zero => intro x1 x2 m hf; cases hf
  | succ n ih =>
    intro x1 x2 m hf  hI
    unfold fX11_mendAll_108 at hf
    refine to_iload_n (q := 109) rfl dX11_mendAll_108 rfl ?_
    refine to_bipush (q := 111) bp_60 dX11_mendAll_109 rfl ?_
    by_cases h27 : (60 : Int32) ≤ x2
    · have hf := ite_pos h27 hf
      refine to_icT (q := 127) (op := .ge) h27 dX11_mendAll_111 rfl ?_
      refine to_aload_n (q := 128) rfl (by decide) dX11_mendAll_127 rfl ?_
      refine to_ldcw (q := 131) con_X11_328 dX11_mendAll_128 rfl ?_
      refine to_putI (q := 134) (ty := .int) (k0 := 11) (C := RX11) (T := TX11) (N := 37) (j := 31) rfl fx_X11_341 (h_138 hS) rfl pD_I (Or.inl rfl) (nf_I _) dX11_mendAll_131 rfl ?_
      refine to_iload_n (q := 135) rfl dX11_mendAll_134 rfl ?_
      by_cases h28 : x1 = (0 : Int32)
      · have hf := ite_pos h28 hf
        refine to_ifT (q := 144) (op := .eq) h28 dX11_mendAll_135 rfl ?_
        exact to_ext [(0, .ref 138)] (ext_cons rfl ext_nil) (kX11_mendAll_144 hS hf hI)
      · have hf := ite_neg h28 hf
        refine to_ifF (q := 138) (op := .eq) 144 h28 dX11_mendAll_135 rfl rfl ?_
        refine to_aload_n (q := 139) rfl (by decide) dX11_mendAll_138 rfl ?_
        refine to_iconst (q := 140) ic_0 dX11_mendAll_139 rfl ?_
        refine to_iconst (q := 141) ic_0 dX11_mendAll_140 rfl ?_
        obtain ⟨m31, hc29, hf⟩ := cl1_some hf
        have qc30 := kX11_mendFrom hS 8 hc29 hI
        refine to_virtV (q := 144) mX11_mendFrom [.int (0 : Int32), .int (0 : Int32)] dX11_mendAll_141 rfl rfl (Nat.le_of_ble_eq_true rfl) mo_X11_mendFrom mv_X11_344 (Or.inl ⟨_, _, _, h_138 hS, rfl, rfl⟩) (Call_mono (by decide) qc30.1) ?_
        have hI := qc30.2
        exact to_ext [(0, .ref 138)] (ext_cons rfl ext_nil) (kX11_mendAll_144 hS hf hI)
    · have hf := ite_neg h27 hf
      refine to_icF (q := 114) (op := .ge) 127 h27 dX11_mendAll_111 rfl rfl ?_
      refine to_aload_n (q := 115) rfl (by decide) dX11_mendAll_114 rfl ?_
      refine to_getR (q := 118) (b := 150) (k0 := 11) (C := RX11) (T := TX11) (N := 37) (j := 28) rfl fx_X11_47 (h_138 hS) rfl (iv_138_28 hI) dX11_mendAll_115 rfl ?_
      refine to_iload_n (q := 119) rfl dX11_mendAll_118 rfl ?_
      refine to_iconst (q := 120) ic_0 dX11_mendAll_119 rfl ?_
      obtain ⟨hb32, hf⟩ := ck_some hf
      refine to_iasj (q := 121) (h_150 hS) hb32 (rfl) dX11_mendAll_120 rfl ?_
      refine to_iinc (q := 124) (v := (x2 + (1 : Int32))) rfl (congrArg (fun z => x2 + z) ic_1) [(2, .int (x2 + (1 : Int32))), (0, .ref 138), (1, .int x1)] rfl (by decide) dX11_mendAll_121 rfl ?_
      refine to_goto (q := 108) dX11_mendAll_124 rfl ?_
      exact to_ext [(0, .ref 138), (1, .int x1), (2, .int (x2 + (1 : Int32)))] (ext_cons rfl (ext_cons rfl (ext_cons rfl ext_nil))) (ih hf hI)
def fX11_mendAll_99 (k21 : Int32 → Int32 → Me → Option (Int32 × Me)) (x2 : Int32) (t0 : Int32) (m : Me) : Option (Int32 × Me) := k21 t0 ((x2 + (1 : Int32))) m
set_option maxRecDepth 20000 in
theorem kX11_mendAll_99 {S : Sh} (hS : ShOK S) {res : Int32 × Me} {k21 : Int32 → Int32 → Me → Option (Int32 × Me)} (hk21 : ∀ {x1 : Int32} {x2 : Int32} {m : Me}, k21 x1 x2 m = some res → Inv m → TT InvS (Call 9) mX11_mendAll (21, [(0, .ref 138), (1, .int x1), (2, .int x2)], [], S, m) (some (.int res.1)) (S, res.2)) {x2 : Int32} {t0 : Int32} {m : Me} (hf : fX11_mendAll_99 k21 x2 t0 m = some res) (hI : Inv m) : TT InvS (Call 9) mX11_mendAll (99, [(0, .ref 138), (2, .int x2)], [.int t0], S, m) (some (.int res.1)) (S, res.2) := by
  unfold fX11_mendAll_99 at hf
  refine to_istore_n (q := 100) [(1, .int t0), (0, .ref 138), (2, .int x2)] rfl (by decide) dX11_mendAll_99 rfl ?_
  refine to_iinc (q := 103) (v := (x2 + (1 : Int32))) rfl (congrArg (fun z => x2 + z) ic_1) [(2, .int (x2 + (1 : Int32))), (1, .int t0), (0, .ref 138)] rfl (by decide) dX11_mendAll_100 rfl ?_
  refine to_goto (q := 21) dX11_mendAll_103 rfl ?_
  exact to_ext [(0, .ref 138), (1, .int t0), (2, .int (x2 + (1 : Int32)))] (ext_cons rfl (ext_cons rfl (ext_cons rfl ext_nil))) (hk21 hf hI)
def fX11_mendAll_98 (k21 : Int32 → Int32 → Me → Option (Int32 × Me)) (x2 : Int32) (m : Me) : Option (Int32 × Me) := fX11_mendAll_99 k21 x2 ((0 : Int32)) m
set_option maxRecDepth 20000 in
theorem kX11_mendAll_98 {S : Sh} (hS : ShOK S) {res : Int32 × Me} {k21 : Int32 → Int32 → Me → Option (Int32 × Me)} (hk21 : ∀ {x1 : Int32} {x2 : Int32} {m : Me}, k21 x1 x2 m = some res → Inv m → TT InvS (Call 9) mX11_mendAll (21, [(0, .ref 138), (1, .int x1), (2, .int x2)], [], S, m) (some (.int res.1)) (S, res.2)) {x2 : Int32} {m : Me} (hf : fX11_mendAll_98 k21 x2 m = some res) (hI : Inv m) : TT InvS (Call 9) mX11_mendAll (98, [(0, .ref 138), (2, .int x2)], [], S, m) (some (.int res.1)) (S, res.2) := by
  unfold fX11_mendAll_98 at hf
  refine to_iconst (q := 99) ic_0 dX11_mendAll_98 rfl ?_
  exact to_ext [(0, .ref 138), (2, .int x2)] (ext_cons rfl (ext_cons rfl ext_nil)) (kX11_mendAll_99 hS hk21 hf hI)
def fX11_mendAll_21 (n : Nat) (x1 : Int32) (x2 : Int32) (m : Me) : Option (Int32 × Me) := match n with
  | 0 => none
  | n + 1 => if (m.1 141 6) ≤ x2 then fX11_mendAll_108 FU x1 ((0 : Int32)) m else ck (inb ((100 : Int32) + x2) 186) (ck (inb ((104 : Int32) + x2) 186) (cl2 (fX11_layNow ((m.1 141 ((100 : Int32) + x2).toNatClampNeg)) ((m.1 141 ((104 : Int32) + x2).toNatClampNeg)) m) fun r14 m15 => ck (inb x2 4) (ck (inb x2 4) (cl1 (fX11_copy 147 (0 : Int32) 151 (((30 : Int32) * x2)) (((setI m15 152 x2.toNatClampNeg r14).1 152 x2.toNatClampNeg)) (setI m15 152 x2.toNatClampNeg r14)) fun m20 => if x1 = (0 : Int32) then fX11_mendAll_98 (fX11_mendAll_21 n) x2 m20 else cl2 (fX11_isWhole x2 m20) fun r24 m25 => if r24 = (0 : Int32) then fX11_mendAll_98 (fX11_mendAll_21 n) x2 m25 else fX11_mendAll_99 (fX11_mendAll_21 n) x2 ((1 : Int32)) m25))))
set_option maxRecDepth 20000 in
theorem kX11_mendAll_21 {S : Sh} (hS : ShOK S) {res : Int32 × Me} (n : Nat) : ∀ {x1 : Int32} {x2 : Int32} {m : Me}, fX11_mendAll_21 n x1 x2 m = some res → Inv m → TT InvS (Call 9) mX11_mendAll (21, [(0, .ref 138), (1, .int x1), (2, .int x2)], [], S, m) (some (.int res.1)) (S, res.2) := by
  induction n with
  | zero => intro x1 x2 m hf; cases hf
  | succ n ih =>
    intro x1 x2 m hf  hI
    unfold fX11_mendAll_21 at hf
    refine to_iload_n (q := 22) rfl dX11_mendAll_21 rfl ?_
    refine to_aload_n (q := 23) rfl (by decide) dX11_mendAll_22 rfl ?_
    refine to_getR (q := 26) (b := 141) (k0 := 11) (C := RX11) (T := TX11) (N := 37) (j := 15) rfl fx_X11_20 (h_138 hS) rfl (iv_138_15 hI) dX11_mendAll_23 rfl ?_
    refine to_bipush (q := 28) bp_6 dX11_mendAll_26 rfl ?_
    refine to_iaj (q := 29) (h_141 hS) (by decide) (tn_6) dX11_mendAll_28 rfl ?_
    by_cases h9 : (m.1 141 6) ≤ x2
    · have hf := ite_pos h9 hf
      refine to_icT (q := 106) (op := .ge) h9 dX11_mendAll_29 rfl ?_
      refine to_iconst (q := 107) ic_0 dX11_mendAll_106 rfl ?_
      refine to_istore_n (q := 108) [(2, .int (0 : Int32)), (0, .ref 138), (1, .int x1)] rfl (by decide) dX11_mendAll_107 rfl ?_
      exact to_ext [(0, .ref 138), (1, .int x1), (2, .int (0 : Int32))] (ext_cons rfl (ext_cons rfl (ext_cons rfl ext_nil))) (kX11_mendAll_108 hS FU hf hI)
    · have hf := ite_neg h9 hf
      refine to_icF (q := 32) (op := .ge) 106 h9 dX11_mendAll_29 rfl rfl ?_
      refine to_aload_n (q := 33) rfl (by decide) dX11_mendAll_32 rfl ?_
      refine to_getR (q := 36) (b := 152) (k0 := 11) (C := RX11) (T := TX11) (N := 37) (j := 30) rfl fx_X11_53 (h_138 hS) rfl (iv_138_30 hI) dX11_mendAll_33 rfl ?_
      refine to_iload_n (q := 37) rfl dX11_mendAll_36 rfl ?_
      refine to_aload_n (q := 38) rfl (by decide) dX11_mendAll_37 rfl ?_
      refine to_aload_n (q := 39) rfl (by decide) dX11_mendAll_38 rfl ?_
      refine to_getR (q := 42) (b := 141) (k0 := 11) (C := RX11) (T := TX11) (N := 37) (j := 15) rfl fx_X11_20 (h_138 hS) rfl (iv_138_15 hI) dX11_mendAll_39 rfl ?_
      refine to_bipush (q := 44) bp_100 dX11_mendAll_42 rfl ?_
      refine to_iload_n (q := 45) rfl dX11_mendAll_44 rfl ?_
      refine to_iadd (q := 46) dX11_mendAll_45 rfl ?_
      obtain ⟨hb10, hf⟩ := ck_some hf
      refine to_iaj (q := 47) (h_141 hS) hb10 (rfl) dX11_mendAll_46 rfl ?_
      refine to_aload_n (q := 48) rfl (by decide) dX11_mendAll_47 rfl ?_
      refine to_getR (q := 51) (b := 141) (k0 := 11) (C := RX11) (T := TX11) (N := 37) (j := 15) rfl fx_X11_20 (h_138 hS) rfl (iv_138_15 hI) dX11_mendAll_48 rfl ?_
      refine to_bipush (q := 53) bp_104 dX11_mendAll_51 rfl ?_
      refine to_iload_n (q := 54) rfl dX11_mendAll_53 rfl ?_
      refine to_iadd (q := 55) dX11_mendAll_54 rfl ?_
      obtain ⟨hb11, hf⟩ := ck_some hf
      refine to_iaj (q := 56) (h_141 hS) hb11 (rfl) dX11_mendAll_55 rfl ?_
      obtain ⟨r14, m15, hc12, hf⟩ := cl2_some hf
      have qc13 := kX11_layNow hS hc12 hI
      refine to_virtI (q := 59) mX11_layNow [.int (m.1 141 ((100 : Int32) + x2).toNatClampNeg), .int (m.1 141 ((104 : Int32) + x2).toNatClampNeg)] dX11_mendAll_56 rfl rfl (Nat.le_of_ble_eq_true rfl) mo_X11_layNow mv_X11_279 (Or.inl ⟨_, _, _, h_138 hS, rfl, rfl⟩) (Call_mono (by decide) qc13.1) ?_
      have hI := qc13.2
      obtain ⟨hb16, hf⟩ := ck_some hf
      refine to_iasj (q := 60) (h_152 hS) hb16 (rfl) dX11_mendAll_59 rfl ?_
      refine to_aload_n (q := 61) rfl (by decide) dX11_mendAll_60 rfl ?_
      refine to_getR (q := 64) (b := 147) (k0 := 11) (C := RX11) (T := TX11) (N := 37) (j := 23) rfl fx_X11_38 (h_138 hS) rfl (iv_138_23 hI) dX11_mendAll_61 rfl ?_
      refine to_iconst (q := 65) ic_0 dX11_mendAll_64 rfl ?_
      refine to_aload_n (q := 66) rfl (by decide) dX11_mendAll_65 rfl ?_
      refine to_getR (q := 69) (b := 151) (k0 := 11) (C := RX11) (T := TX11) (N := 37) (j := 29) rfl fx_X11_50 (h_138 hS) rfl (iv_138_29 hI) dX11_mendAll_66 rfl ?_
      refine to_bipush (q := 71) bp_30 dX11_mendAll_69 rfl ?_
      refine to_iload_n (q := 72) rfl dX11_mendAll_71 rfl ?_
      refine to_imul (q := 73) dX11_mendAll_72 rfl ?_
      refine to_aload_n (q := 74) rfl (by decide) dX11_mendAll_73 rfl ?_
      refine to_getR (q := 77) (b := 152) (k0 := 11) (C := RX11) (T := TX11) (N := 37) (j := 30) rfl fx_X11_53 (h_138 hS) rfl (iv_138_30 hI) dX11_mendAll_74 rfl ?_
      refine to_iload_n (q := 78) rfl dX11_mendAll_77 rfl ?_
      obtain ⟨hb17, hf⟩ := ck_some hf
      refine to_iaj (q := 79) (h_152 hS) hb17 (rfl) dX11_mendAll_78 rfl ?_
      obtain ⟨m20, hc18, hf⟩ := cl1_some hf
      have qc19 := kX11_copy hS hc18 rfl rfl hI
      refine to_statV (q := 82) mX11_copy [.ref 147, .int (0 : Int32), .ref 151, .int ((30 : Int32) * x2), .int ((setI m15 152 x2.toNatClampNeg r14).1 152 x2.toNatClampNeg)] dX11_mendAll_79 rfl rfl (Nat.le_of_ble_eq_true rfl) mo_X11_copy (Or.inl ml_X11_165) sa_X11_copy (Call_mono (by decide) qc19.1) ?_
      have hI := qc19.2
      refine to_iload_n (q := 83) rfl dX11_mendAll_82 rfl ?_
      by_cases h21 : x1 = (0 : Int32)
      · have hf := ite_pos h21 hf
        refine to_ifT (q := 98) (op := .eq) h21 dX11_mendAll_83 rfl ?_
        exact to_ext [(0, .ref 138), (2, .int x2)] (ext_cons rfl (ext_cons rfl ext_nil)) (kX11_mendAll_98 hS ih hf hI)
      · have hf := ite_neg h21 hf
        refine to_ifF (q := 86) (op := .eq) 98 h21 dX11_mendAll_83 rfl rfl ?_
        refine to_aload_n (q := 87) rfl (by decide) dX11_mendAll_86 rfl ?_
        refine to_iload_n (q := 88) rfl dX11_mendAll_87 rfl ?_
        obtain ⟨r24, m25, hc22, hf⟩ := cl2_some hf
        have qc23 := kX11_isWhole hS hc22 hI
        refine to_virtI (q := 91) mX11_isWhole [.int x2] dX11_mendAll_88 rfl rfl (Nat.le_of_ble_eq_true rfl) mo_X11_isWhole mv_X11_335 (Or.inl ⟨_, _, _, h_138 hS, rfl, rfl⟩) (Call_mono (by decide) qc23.1) ?_
        have hI := qc23.2
        by_cases h26 : r24 = (0 : Int32)
        · have hf := ite_pos h26 hf
          refine to_ifT (q := 98) (op := .eq) h26 dX11_mendAll_91 rfl ?_
          exact to_ext [(0, .ref 138), (2, .int x2)] (ext_cons rfl (ext_cons rfl ext_nil)) (kX11_mendAll_98 hS ih hf hI)
        · have hf := ite_neg h26 hf
          refine to_ifF (q := 94) (op := .eq) 98 h26 dX11_mendAll_91 rfl rfl ?_
          refine to_iconst (q := 95) ic_1 dX11_mendAll_94 rfl ?_
          refine to_goto (q := 99) dX11_mendAll_95 rfl ?_
          exact to_ext [(0, .ref 138), (2, .int x2)] (ext_cons rfl (ext_cons rfl ext_nil)) (kX11_mendAll_99 hS ih hf hI)
def fX11_mendAll (m : Me) : Option (Int32 × Me) := cl1 (fX11_good m) fun m3 => if (m3.1 138 14) = (0 : Int32) then cl2 (fX11_no (1 : Int32) m3) fun r7 m8 => some (r7, m8) else fX11_mendAll_21 FU ((1 : Int32)) ((0 : Int32)) m3
set_option maxRecDepth 20000 in
theorem kX11_mendAll {S : Sh} (hS : ShOK S) {res : Int32 × Me} {m : Me} (hf : fX11_mendAll m = some res) (hI : Inv m) : Call 10 mX11_mendAll [.ref 138] (S, m) (some (.int res.1)) (S, res.2) ∧ Inv res.2 := by
  refine call_of (P := InvS) (Nat.le_of_ble_eq_true rfl) (by simp [Value.category]) ?_
  show TT InvS (Call 9) mX11_mendAll (0, [(0, .ref 138)], [], S, m) _ _
  unfold fX11_mendAll at hf
  refine to_aload_n (q := 1) rfl (by decide) dX11_mendAll_0 rfl ?_
  obtain ⟨m3, hc1, hf⟩ := cl1_some hf
  have qc2 := kX11_good hS hc1 hI
  refine to_virtV (q := 4) mX11_good [] dX11_mendAll_1 rfl rfl (Nat.le_of_ble_eq_true rfl) mo_X11_good mv_X11_156 (Or.inl ⟨_, _, _, h_138 hS, rfl, rfl⟩) (Call_mono (by decide) qc2.1) ?_
  have hI := qc2.2
  refine to_aload_n (q := 5) rfl (by decide) dX11_mendAll_4 rfl ?_
  refine to_getI (q := 8) (k0 := 11) (C := RX11) (T := TX11) (N := 37) (j := 14) rfl fx_X11_169 (h_138 hS) rfl dX11_mendAll_5 rfl ?_
  by_cases h4 : (m3.1 138 14) = (0 : Int32)
  · have hf := ite_pos h4 hf
    refine to_ifF (q := 11) (op := .ne) 17 (fun z => z h4) dX11_mendAll_8 rfl rfl ?_
    refine to_aload_n (q := 12) rfl (by decide) dX11_mendAll_11 rfl ?_
    refine to_iconst (q := 13) ic_1 dX11_mendAll_12 rfl ?_
    obtain ⟨r7, m8, hc5, hf⟩ := cl2_some hf
    have qc6 := kX11_no hS hc5 hI
    refine to_virtI (q := 16) mX11_no [.int (1 : Int32)] dX11_mendAll_13 rfl rfl (Nat.le_of_ble_eq_true rfl) mo_X11_no mv_X11_159 (Or.inl ⟨_, _, _, h_138 hS, rfl, rfl⟩) (Call_mono (by decide) qc6.1) ?_
    have hI := qc6.2
    cases hf
    exact to_iret dX11_mendAll_16 rfl rfl rfl rfl hI
  · have hf := ite_neg h4 hf
    refine to_ifT (q := 17) (op := .ne) h4 dX11_mendAll_8 rfl ?_
    refine to_iconst (q := 18) ic_1 dX11_mendAll_17 rfl ?_
    refine to_istore_n (q := 19) [(1, .int (1 : Int32)), (0, .ref 138)] rfl (by decide) dX11_mendAll_18 rfl ?_
    refine to_iconst (q := 20) ic_0 dX11_mendAll_19 rfl ?_
    refine to_istore_n (q := 21) [(2, .int (0 : Int32)), (1, .int (1 : Int32)), (0, .ref 138)] rfl (by decide) dX11_mendAll_20 rfl ?_
    exact to_ext [(0, .ref 138), (1, .int (1 : Int32)), (2, .int (0 : Int32))] (ext_cons rfl (ext_cons rfl (ext_cons rfl ext_nil))) (kX11_mendAll_21 hS FU hf hI)
def fX11_loses (x1 : Int32) (m : Me) : Option (Int32 × Me) := cl1 (fX11_good m) fun m3 => cl2 (fX11_isRib x1 m3) fun r6 m7 => if r6 = (0 : Int32) then cl2 (fX11_no (1 : Int32) m7) fun r28 m29 => some (r28, m29) else cl2 (fX11_has (m7.1 143 60) x1 m7) fun r11 m12 => if r11 = (0 : Int32) then cl2 (fX11_keptWith (m12.1 143 60) m12) fun r16 m17 => cl2 (fX11_keptWith (((m17.1 143 60) ||| ((1 : Int32) <<< (x1 &&& 31)))) m17) fun r20 m21 => some ((r16 &&& (r20 ^^^ (-1 : Int32))), m21) else cl2 (fX11_no (5 : Int32) m12) fun r24 m25 => some (r24, m25)
set_option maxRecDepth 20000 in
theorem kX11_loses {S : Sh} (hS : ShOK S) {res : Int32 × Me} {x1 : Int32} {m : Me} (hf : fX11_loses x1 m = some res) (hI : Inv m) : Call 6 mX11_loses [.ref 138, .int x1] (S, m) (some (.int res.1)) (S, res.2) ∧ Inv res.2 := by
  refine call_of (P := InvS) (Nat.le_of_ble_eq_true rfl) (by simp [Value.category]) ?_
  show TT InvS (Call 5) mX11_loses (0, [(0, .ref 138), (1, .int x1)], [], S, m) _ _
  unfold fX11_loses at hf
  refine to_aload_n (q := 1) rfl (by decide) dX11_loses_0 rfl ?_
  obtain ⟨m3, hc1, hf⟩ := cl1_some hf
  have qc2 := kX11_good hS hc1 hI
  refine to_virtV (q := 4) mX11_good [] dX11_loses_1 rfl rfl (Nat.le_of_ble_eq_true rfl) mo_X11_good mv_X11_156 (Or.inl ⟨_, _, _, h_138 hS, rfl, rfl⟩) (Call_mono (by decide) qc2.1) ?_
  have hI := qc2.2
  refine to_aload_n (q := 5) rfl (by decide) dX11_loses_4 rfl ?_
  refine to_iload_n (q := 6) rfl dX11_loses_5 rfl ?_
  obtain ⟨r6, m7, hc4, hf⟩ := cl2_some hf
  have qc5 := kX11_isRib hS hc4 hI
  refine to_virtI (q := 9) mX11_isRib [.int x1] dX11_loses_6 rfl rfl (Nat.le_of_ble_eq_true rfl) mo_X11_isRib mv_X11_256 (Or.inl ⟨_, _, _, h_138 hS, rfl, rfl⟩) (Call_mono (by decide) qc5.1) ?_
  have hI := qc5.2
  by_cases h8 : r6 = (0 : Int32)
  · have hf := ite_pos h8 hf
    refine to_ifF (q := 12) (op := .ne) 18 (fun z => z h8) dX11_loses_9 rfl rfl ?_
    refine to_aload_n (q := 13) rfl (by decide) dX11_loses_12 rfl ?_
    refine to_iconst (q := 14) ic_1 dX11_loses_13 rfl ?_
    obtain ⟨r28, m29, hc26, hf⟩ := cl2_some hf
    have qc27 := kX11_no hS hc26 hI
    refine to_virtI (q := 17) mX11_no [.int (1 : Int32)] dX11_loses_14 rfl rfl (Nat.le_of_ble_eq_true rfl) mo_X11_no mv_X11_159 (Or.inl ⟨_, _, _, h_138 hS, rfl, rfl⟩) (Call_mono (by decide) qc27.1) ?_
    have hI := qc27.2
    cases hf
    exact to_iret dX11_loses_17 rfl rfl rfl rfl hI
  · have hf := ite_neg h8 hf
    refine to_ifT (q := 18) (op := .ne) h8 dX11_loses_9 rfl ?_
    refine to_aload_n (q := 19) rfl (by decide) dX11_loses_18 rfl ?_
    refine to_getR (q := 22) (b := 143) (k0 := 11) (C := RX11) (T := TX11) (N := 37) (j := 17) rfl fx_X11_26 (h_138 hS) rfl (iv_138_17 hI) dX11_loses_19 rfl ?_
    refine to_bipush (q := 24) bp_60 dX11_loses_22 rfl ?_
    refine to_iaj (q := 25) (h_143 hS) (by decide) (tn_60) dX11_loses_24 rfl ?_
    refine to_iload_n (q := 26) rfl dX11_loses_25 rfl ?_
    obtain ⟨r11, m12, hc9, hf⟩ := cl2_some hf
    have qc10 := kX11_has hS hc9 hI
    refine to_statI (q := 29) mX11_has [.int (m7.1 143 60), .int x1] dX11_loses_26 rfl rfl (Nat.le_of_ble_eq_true rfl) mo_X11_has (Or.inl ml_X11_259) sa_X11_has (Call_mono (by decide) qc10.1) ?_
    have hI := qc10.2
    by_cases h13 : r11 = (0 : Int32)
    · have hf := ite_pos h13 hf
      refine to_ifT (q := 38) (op := .eq) h13 dX11_loses_29 rfl ?_
      refine to_aload_n (q := 39) rfl (by decide) dX11_loses_38 rfl ?_
      refine to_aload_n (q := 40) rfl (by decide) dX11_loses_39 rfl ?_
      refine to_getR (q := 43) (b := 143) (k0 := 11) (C := RX11) (T := TX11) (N := 37) (j := 17) rfl fx_X11_26 (h_138 hS) rfl (iv_138_17 hI) dX11_loses_40 rfl ?_
      refine to_bipush (q := 45) bp_60 dX11_loses_43 rfl ?_
      refine to_iaj (q := 46) (h_143 hS) (by decide) (tn_60) dX11_loses_45 rfl ?_
      obtain ⟨r16, m17, hc14, hf⟩ := cl2_some hf
      have qc15 := kX11_keptWith hS hc14 hI
      refine to_virtI (q := 49) mX11_keptWith [.int (m12.1 143 60)] dX11_loses_46 rfl rfl (Nat.le_of_ble_eq_true rfl) mo_X11_keptWith mv_X11_322 (Or.inl ⟨_, _, _, h_138 hS, rfl, rfl⟩) (Call_mono (by decide) qc15.1) ?_
      have hI := qc15.2
      refine to_aload_n (q := 50) rfl (by decide) dX11_loses_49 rfl ?_
      refine to_aload_n (q := 51) rfl (by decide) dX11_loses_50 rfl ?_
      refine to_getR (q := 54) (b := 143) (k0 := 11) (C := RX11) (T := TX11) (N := 37) (j := 17) rfl fx_X11_26 (h_138 hS) rfl (iv_138_17 hI) dX11_loses_51 rfl ?_
      refine to_bipush (q := 56) bp_60 dX11_loses_54 rfl ?_
      refine to_iaj (q := 57) (h_143 hS) (by decide) (tn_60) dX11_loses_56 rfl ?_
      refine to_iconst (q := 58) ic_1 dX11_loses_57 rfl ?_
      refine to_iload_n (q := 59) rfl dX11_loses_58 rfl ?_
      refine to_ishl (q := 60) dX11_loses_59 rfl ?_
      refine to_ior (q := 61) dX11_loses_60 rfl ?_
      obtain ⟨r20, m21, hc18, hf⟩ := cl2_some hf
      have qc19 := kX11_keptWith hS hc18 hI
      refine to_virtI (q := 64) mX11_keptWith [.int ((m17.1 143 60) ||| ((1 : Int32) <<< (x1 &&& 31)))] dX11_loses_61 rfl rfl (Nat.le_of_ble_eq_true rfl) mo_X11_keptWith mv_X11_322 (Or.inl ⟨_, _, _, h_138 hS, rfl, rfl⟩) (Call_mono (by decide) qc19.1) ?_
      have hI := qc19.2
      refine to_iconst (q := 65) ic_m1 dX11_loses_64 rfl ?_
      refine to_ixor (q := 66) dX11_loses_65 rfl ?_
      refine to_iand (q := 67) dX11_loses_66 rfl ?_
      cases hf
      exact to_iret dX11_loses_67 rfl rfl rfl rfl hI
    · have hf := ite_neg h13 hf
      refine to_ifF (q := 32) (op := .eq) 38 h13 dX11_loses_29 rfl rfl ?_
      refine to_aload_n (q := 33) rfl (by decide) dX11_loses_32 rfl ?_
      refine to_iconst (q := 34) ic_5 dX11_loses_33 rfl ?_
      obtain ⟨r24, m25, hc22, hf⟩ := cl2_some hf
      have qc23 := kX11_no hS hc22 hI
      refine to_virtI (q := 37) mX11_no [.int (5 : Int32)] dX11_loses_34 rfl rfl (Nat.le_of_ble_eq_true rfl) mo_X11_no mv_X11_159 (Or.inl ⟨_, _, _, h_138 hS, rfl, rfl⟩) (Call_mono (by decide) qc23.1) ?_
      have hI := qc23.2
      cases hf
      exact to_iret dX11_loses_37 rfl rfl rfl rfl hI
def fX11_treaty_153 (k20 : Int32 → Int32 → Int32 → Me → Option (Int32 × Me)) (x1 : Int32) (x2 : Int32) (x3 : Int32) (m : Me) : Option (Int32 × Me) := k20 x1 x2 ((x3 + (1 : Int32))) m
set_option maxRecDepth 20000 in
theorem kX11_treaty_153 {S : Sh} (hS : ShOK S) {res : Int32 × Me} {k20 : Int32 → Int32 → Int32 → Me → Option (Int32 × Me)} (hk20 : ∀ {x1 : Int32} {x2 : Int32} {x3 : Int32} {m : Me}, k20 x1 x2 x3 m = some res → Inv m → TT InvS (Call 4) mX11_treaty (20, [(0, .ref 138), (1, .int x1), (2, .int x2), (3, .int x3)], [], S, m) (some (.int res.1)) (S, res.2)) {x1 : Int32} {x2 : Int32} {x3 : Int32} {m : Me} (hf : fX11_treaty_153 k20 x1 x2 x3 m = some res) (hI : Inv m) : TT InvS (Call 4) mX11_treaty (153, [(0, .ref 138), (1, .int x1), (2, .int x2), (3, .int x3)], [], S, m) (some (.int res.1)) (S, res.2) := by
  unfold fX11_treaty_153 at hf
  refine to_iinc (q := 156) (v := (x3 + (1 : Int32))) rfl (congrArg (fun z => x3 + z) ic_1) [(3, .int (x3 + (1 : Int32))), (0, .ref 138), (1, .int x1), (2, .int x2)] rfl (by decide) dX11_treaty_153 rfl ?_
  refine to_goto (q := 20) dX11_treaty_156 rfl ?_
  exact to_ext [(0, .ref 138), (1, .int x1), (2, .int x2), (3, .int (x3 + (1 : Int32)))] (ext_cons rfl (ext_cons rfl (ext_cons rfl (ext_cons rfl ext_nil)))) (hk20 hf hI)
def fX11_treaty_141 (k20 : Int32 → Int32 → Int32 → Me → Option (Int32 × Me)) (k50 : Int32 → Int32 → Int32 → Int32 → Me → Option (Int32 × Me)) (k65 : Int32 → Int32 → Int32 → Int32 → Int32 → Me → Option (Int32 × Me)) (x1 : Int32) (x2 : Int32) (x3 : Int32) (x4 : Int32) (x5 : Int32) (m : Me) : Option (Int32 × Me) := k65 x1 x2 x3 x4 ((x5 + (1 : Int32))) m
set_option maxRecDepth 20000 in
theorem kX11_treaty_141 {S : Sh} (hS : ShOK S) {res : Int32 × Me} {k20 : Int32 → Int32 → Int32 → Me → Option (Int32 × Me)} (hk20 : ∀ {x1 : Int32} {x2 : Int32} {x3 : Int32} {m : Me}, k20 x1 x2 x3 m = some res → Inv m → TT InvS (Call 4) mX11_treaty (20, [(0, .ref 138), (1, .int x1), (2, .int x2), (3, .int x3)], [], S, m) (some (.int res.1)) (S, res.2)) {k50 : Int32 → Int32 → Int32 → Int32 → Me → Option (Int32 × Me)} (hk50 : ∀ {x1 : Int32} {x2 : Int32} {x3 : Int32} {x4 : Int32} {m : Me}, k50 x1 x2 x3 x4 m = some res → Inv m → TT InvS (Call 4) mX11_treaty (50, [(0, .ref 138), (1, .int x1), (2, .int x2), (3, .int x3), (4, .int x4)], [], S, m) (some (.int res.1)) (S, res.2)) {k65 : Int32 → Int32 → Int32 → Int32 → Int32 → Me → Option (Int32 × Me)} (hk65 : ∀ {x1 : Int32} {x2 : Int32} {x3 : Int32} {x4 : Int32} {x5 : Int32} {m : Me}, k65 x1 x2 x3 x4 x5 m = some res → Inv m → TT InvS (Call 4) mX11_treaty (65, [(0, .ref 138), (1, .int x1), (2, .int x2), (3, .int x3), (4, .int x4), (5, .int x5)], [], S, m) (some (.int res.1)) (S, res.2)) {x1 : Int32} {x2 : Int32} {x3 : Int32} {x4 : Int32} {x5 : Int32} {m : Me} (hf : fX11_treaty_141 k20 k50 k65 x1 x2 x3 x4 x5 m = some res) (hI : Inv m) : TT InvS (Call 4) mX11_treaty (141, [(0, .ref 138), (1, .int x1), (2, .int x2), (3, .int x3), (4, .int x4), (5, .int x5)], [], S, m) (some (.int res.1)) (S, res.2) := by
  unfold fX11_treaty_141 at hf
  refine to_iinc (q := 144) (v := (x5 + (1 : Int32))) rfl (congrArg (fun z => x5 + z) ic_1) [(5, .int (x5 + (1 : Int32))), (0, .ref 138), (1, .int x1), (2, .int x2), (3, .int x3), (4, .int x4)] rfl (by decide) dX11_treaty_141 rfl ?_
  refine to_goto (q := 65) dX11_treaty_144 rfl ?_
  exact to_ext [(0, .ref 138), (1, .int x1), (2, .int x2), (3, .int x3), (4, .int x4), (5, .int (x5 + (1 : Int32)))] (ext_cons rfl (ext_cons rfl (ext_cons rfl (ext_cons rfl (ext_cons rfl (ext_cons rfl ext_nil)))))) (hk65 hf hI)
def fX11_treaty_140 (t0 : Int32) (m : Me) : Option (Int32 × Me) := some (t0, m)
set_option maxRecDepth 20000 in
theorem kX11_treaty_140 {S : Sh} (hS : ShOK S) {res : Int32 × Me} {t0 : Int32} {m : Me} (hf : fX11_treaty_140 t0 m = some res) (hI : Inv m) : TT InvS (Call 4) mX11_treaty (140, [], [.int t0], S, m) (some (.int res.1)) (S, res.2) := by
  unfold fX11_treaty_140 at hf
  cases hf
  exact to_iret dX11_treaty_140 rfl rfl rfl rfl hI
def fX11_treaty_65 (n : Nat) (k20 : Int32 → Int32 → Int32 → Me → Option (Int32 × Me)) (k50 : Int32 → Int32 → Int32 → Int32 → Me → Option (Int32 × Me)) (x1 : Int32) (x2 : Int32) (x3 : Int32) (x4 : Int32) (x5 : Int32) (m : Me) : Option (Int32 × Me) := match n with
  | 0 => none
  | n + 1 => if (2 : Int32) ≤ x5 then k50 x1 x2 x3 ((x4 + (1 : Int32))) m else cl2 (fX11_readsWord x1 x5 x4 m) fun r27 m28 => if (0 : Int32) < r27 then fX11_treaty_141 k20 k50 (fX11_treaty_65 n k20 k50) x1 x2 x3 x4 x5 m28 else ck (inb ((10 : Int32) + x1) 186) (cl2 (fX11_readsOf (((16 : Int32) + ((8 : Int32) * x1))) ((m28.1 141 ((10 : Int32) + x1).toNatClampNeg)) x5 x4 (((m28.1 143 60) ||| ((1 : Int32) <<< (x3 &&& 31)))) m28) fun r33 m34 => if r33 = (0 : Int32) then fX11_treaty_141 k20 k50 (fX11_treaty_65 n k20 k50) x1 x2 x3 x4 x5 m34 else if x2 = (0 : Int32) then fX11_treaty_140 x3 m34 else fX11_treaty_140 ((((50 : Int32) * x5) + x4)) m34)
set_option maxRecDepth 20000 in
theorem kX11_treaty_65 {S : Sh} (hS : ShOK S) {res : Int32 × Me} {k20 : Int32 → Int32 → Int32 → Me → Option (Int32 × Me)} (hk20 : ∀ {x1 : Int32} {x2 : Int32} {x3 : Int32} {m : Me}, k20 x1 x2 x3 m = some res → Inv m → TT InvS (Call 4) mX11_treaty (20, [(0, .ref 138), (1, .int x1), (2, .int x2), (3, .int x3)], [], S, m) (some (.int res.1)) (S, res.2)) {k50 : Int32 → Int32 → Int32 → Int32 → Me → Option (Int32 × Me)} (hk50 : ∀ {x1 : Int32} {x2 : Int32} {x3 : Int32} {x4 : Int32} {m : Me}, k50 x1 x2 x3 x4 m = some res → Inv m → TT InvS (Call 4) mX11_treaty (50, [(0, .ref 138), (1, .int x1), (2, .int x2), (3, .int x3), (4, .int x4)], [], S, m) (some (.int res.1)) (S, res.2)) (n : Nat) : ∀ {x1 : Int32} {x2 : Int32} {x3 : Int32} {x4 : Int32} {x5 : Int32} {m : Me}, fX11_treaty_65 n k20 k50 x1 x2 x3 x4 x5 m = some res → Inv m → TT InvS (Call 4) mX11_treaty (65, [(0, .ref 138), (1, .int x1), (2, .int x2), (3, .int x3), (4, .int x4), (5, .int x5)], [], S, m) (some (.int res.1)) (S, res.2) := by
  induction n with
  | zero => intro x1 x2 x3 x4 x5 m hf; cases hf
  | succ n ih =>
    intro x1 x2 x3 x4 x5 m hf  hI
    unfold fX11_treaty_65 at hf
    refine to_iload (q := 67) rfl dX11_treaty_65 rfl ?_
    refine to_iconst (q := 68) ic_2 dX11_treaty_67 rfl ?_
    by_cases h24 : (2 : Int32) ≤ x5
    · have hf := ite_pos h24 hf
      refine to_icT (q := 147) (op := .ge) h24 dX11_treaty_68 rfl ?_
      refine to_iinc (q := 150) (v := (x4 + (1 : Int32))) rfl (congrArg (fun z => x4 + z) ic_1) [(4, .int (x4 + (1 : Int32))), (0, .ref 138), (1, .int x1), (2, .int x2), (3, .int x3), (5, .int x5)] rfl (by decide) dX11_treaty_147 rfl ?_
      refine to_goto (q := 50) dX11_treaty_150 rfl ?_
      exact to_ext [(0, .ref 138), (1, .int x1), (2, .int x2), (3, .int x3), (4, .int (x4 + (1 : Int32)))] (ext_cons rfl (ext_cons rfl (ext_cons rfl (ext_cons rfl (ext_cons rfl ext_nil))))) (hk50 hf hI)
    · have hf := ite_neg h24 hf
      refine to_icF (q := 71) (op := .ge) 147 h24 dX11_treaty_68 rfl rfl ?_
      refine to_aload_n (q := 72) rfl (by decide) dX11_treaty_71 rfl ?_
      refine to_iload_n (q := 73) rfl dX11_treaty_72 rfl ?_
      refine to_iload (q := 75) rfl dX11_treaty_73 rfl ?_
      refine to_iload (q := 77) rfl dX11_treaty_75 rfl ?_
      obtain ⟨r27, m28, hc25, hf⟩ := cl2_some hf
      have qc26 := kX11_readsWord hS hc25 hI
      refine to_virtI (q := 80) mX11_readsWord [.int x1, .int x5, .int x4] dX11_treaty_77 rfl rfl (Nat.le_of_ble_eq_true rfl) mo_X11_readsWord mv_X11_309 (Or.inl ⟨_, _, _, h_138 hS, rfl, rfl⟩) (Call_mono (by decide) qc26.1) ?_
      have hI := qc26.2
      by_cases h29 : (0 : Int32) < r27
      · have hf := ite_pos h29 hf
        refine to_ifT (q := 141) (op := .gt) h29 dX11_treaty_80 rfl ?_
        exact to_ext [(0, .ref 138), (1, .int x1), (2, .int x2), (3, .int x3), (4, .int x4), (5, .int x5)] (ext_cons rfl (ext_cons rfl (ext_cons rfl (ext_cons rfl (ext_cons rfl (ext_cons rfl ext_nil)))))) (kX11_treaty_141 hS hk20 hk50 ih hf hI)
      · have hf := ite_neg h29 hf
        refine to_ifF (q := 83) (op := .gt) 141 h29 dX11_treaty_80 rfl rfl ?_
        refine to_aload_n (q := 84) rfl (by decide) dX11_treaty_83 rfl ?_
        refine to_bipush (q := 86) bp_16 dX11_treaty_84 rfl ?_
        refine to_bipush (q := 88) bp_8 dX11_treaty_86 rfl ?_
        refine to_iload_n (q := 89) rfl dX11_treaty_88 rfl ?_
        refine to_imul (q := 90) dX11_treaty_89 rfl ?_
        refine to_iadd (q := 91) dX11_treaty_90 rfl ?_
        refine to_aload_n (q := 92) rfl (by decide) dX11_treaty_91 rfl ?_
        refine to_getR (q := 95) (b := 141) (k0 := 11) (C := RX11) (T := TX11) (N := 37) (j := 15) rfl fx_X11_20 (h_138 hS) rfl (iv_138_15 hI) dX11_treaty_92 rfl ?_
        refine to_bipush (q := 97) bp_10 dX11_treaty_95 rfl ?_
        refine to_iload_n (q := 98) rfl dX11_treaty_97 rfl ?_
        refine to_iadd (q := 99) dX11_treaty_98 rfl ?_
        obtain ⟨hb30, hf⟩ := ck_some hf
        refine to_iaj (q := 100) (h_141 hS) hb30 (rfl) dX11_treaty_99 rfl ?_
        refine to_iload (q := 102) rfl dX11_treaty_100 rfl ?_
        refine to_iload (q := 104) rfl dX11_treaty_102 rfl ?_
        refine to_aload_n (q := 105) rfl (by decide) dX11_treaty_104 rfl ?_
        refine to_getR (q := 108) (b := 143) (k0 := 11) (C := RX11) (T := TX11) (N := 37) (j := 17) rfl fx_X11_26 (h_138 hS) rfl (iv_138_17 hI) dX11_treaty_105 rfl ?_
        refine to_bipush (q := 110) bp_60 dX11_treaty_108 rfl ?_
        refine to_iaj (q := 111) (h_143 hS) (by decide) (tn_60) dX11_treaty_110 rfl ?_
        refine to_iconst (q := 112) ic_1 dX11_treaty_111 rfl ?_
        refine to_iload_n (q := 113) rfl dX11_treaty_112 rfl ?_
        refine to_ishl (q := 114) dX11_treaty_113 rfl ?_
        refine to_ior (q := 115) dX11_treaty_114 rfl ?_
        obtain ⟨r33, m34, hc31, hf⟩ := cl2_some hf
        have qc32 := kX11_readsOf hS hc31 hI
        refine to_virtI (q := 118) mX11_readsOf [.int ((16 : Int32) + ((8 : Int32) * x1)), .int (m28.1 141 ((10 : Int32) + x1).toNatClampNeg), .int x5, .int x4, .int ((m28.1 143 60) ||| ((1 : Int32) <<< (x3 &&& 31)))] dX11_treaty_115 rfl rfl (Nat.le_of_ble_eq_true rfl) mo_X11_readsOf mv_X11_299 (Or.inl ⟨_, _, _, h_138 hS, rfl, rfl⟩) (Call_mono (by decide) qc32.1) ?_
        have hI := qc32.2
        by_cases h35 : r33 = (0 : Int32)
        · have hf := ite_pos h35 hf
          refine to_ifF (q := 121) (op := .ne) 124 (fun z => z h35) dX11_treaty_118 rfl rfl ?_
          refine to_goto (q := 141) dX11_treaty_121 rfl ?_
          exact to_ext [(0, .ref 138), (1, .int x1), (2, .int x2), (3, .int x3), (4, .int x4), (5, .int x5)] (ext_cons rfl (ext_cons rfl (ext_cons rfl (ext_cons rfl (ext_cons rfl (ext_cons rfl ext_nil)))))) (kX11_treaty_141 hS hk20 hk50 ih hf hI)
        · have hf := ite_neg h35 hf
          refine to_ifT (q := 124) (op := .ne) h35 dX11_treaty_118 rfl ?_
          refine to_iload_n (q := 125) rfl dX11_treaty_124 rfl ?_
          by_cases h36 : x2 = (0 : Int32)
          · have hf := ite_pos h36 hf
            refine to_ifT (q := 139) (op := .eq) h36 dX11_treaty_125 rfl ?_
            refine to_iload_n (q := 140) rfl dX11_treaty_139 rfl ?_
            exact to_ext [] ext_nil (kX11_treaty_140 hS hf hI)
          · have hf := ite_neg h36 hf
            refine to_ifF (q := 128) (op := .eq) 139 h36 dX11_treaty_125 rfl rfl ?_
            refine to_bipush (q := 130) bp_50 dX11_treaty_128 rfl ?_
            refine to_iload (q := 132) rfl dX11_treaty_130 rfl ?_
            refine to_imul (q := 133) dX11_treaty_132 rfl ?_
            refine to_iload (q := 135) rfl dX11_treaty_133 rfl ?_
            refine to_iadd (q := 136) dX11_treaty_135 rfl ?_
            refine to_goto (q := 140) dX11_treaty_136 rfl ?_
            exact to_ext [] ext_nil (kX11_treaty_140 hS hf hI)
def fX11_treaty_50 (n : Nat) (k20 : Int32 → Int32 → Int32 → Me → Option (Int32 × Me)) (x1 : Int32) (x2 : Int32) (x3 : Int32) (x4 : Int32) (m : Me) : Option (Int32 × Me) := match n with
  | 0 => none
  | n + 1 => cl2 (fX11_mostOpen 141 m) fun r21 m22 => if r21 < x4 then fX11_treaty_153 k20 x1 x2 x3 m22 else fX11_treaty_65 FU k20 (fX11_treaty_50 n k20) x1 x2 x3 x4 ((0 : Int32)) m22
set_option maxRecDepth 20000 in
theorem kX11_treaty_50 {S : Sh} (hS : ShOK S) {res : Int32 × Me} {k20 : Int32 → Int32 → Int32 → Me → Option (Int32 × Me)} (hk20 : ∀ {x1 : Int32} {x2 : Int32} {x3 : Int32} {m : Me}, k20 x1 x2 x3 m = some res → Inv m → TT InvS (Call 4) mX11_treaty (20, [(0, .ref 138), (1, .int x1), (2, .int x2), (3, .int x3)], [], S, m) (some (.int res.1)) (S, res.2)) (n : Nat) : ∀ {x1 : Int32} {x2 : Int32} {x3 : Int32} {x4 : Int32} {m : Me}, fX11_treaty_50 n k20 x1 x2 x3 x4 m = some res → Inv m → TT InvS (Call 4) mX11_treaty (50, [(0, .ref 138), (1, .int x1), (2, .int x2), (3, .int x3), (4, .int x4)], [], S, m) (some (.int res.1)) (S, res.2) := by
  induction n with
  | zero => intro x1 x2 x3 x4 m hf; cases hf
  | succ n ih =>
    intro x1 x2 x3 x4 m hf  hI
    unfold fX11_treaty_50 at hf
    refine to_iload (q := 52) rfl dX11_treaty_50 rfl ?_
    refine to_aload_n (q := 53) rfl (by decide) dX11_treaty_52 rfl ?_
    refine to_getR (q := 56) (b := 141) (k0 := 11) (C := RX11) (T := TX11) (N := 37) (j := 15) rfl fx_X11_20 (h_138 hS) rfl (iv_138_15 hI) dX11_treaty_53 rfl ?_
    obtain ⟨r21, m22, hc19, hf⟩ := cl2_some hf
    have qc20 := kX11_mostOpen hS hc19 rfl hI
    refine to_statI (q := 59) mX11_mostOpen [.ref 141] dX11_treaty_56 rfl rfl (Nat.le_of_ble_eq_true rfl) mo_X11_mostOpen (Or.inl ml_X11_178) sa_X11_mostOpen (Call_mono (by decide) qc20.1) ?_
    have hI := qc20.2
    by_cases h23 : r21 < x4
    · have hf := ite_pos h23 hf
      refine to_icT (q := 153) (op := .gt) h23 dX11_treaty_59 rfl ?_
      exact to_ext [(0, .ref 138), (1, .int x1), (2, .int x2), (3, .int x3)] (ext_cons rfl (ext_cons rfl (ext_cons rfl (ext_cons rfl ext_nil)))) (kX11_treaty_153 hS hk20 hf hI)
    · have hf := ite_neg h23 hf
      refine to_icF (q := 62) (op := .gt) 153 h23 dX11_treaty_59 rfl rfl ?_
      refine to_iconst (q := 63) ic_0 dX11_treaty_62 rfl ?_
      refine to_istore (q := 65) [(5, .int (0 : Int32)), (0, .ref 138), (1, .int x1), (2, .int x2), (3, .int x3), (4, .int x4)] rfl (by decide) dX11_treaty_63 rfl ?_
      exact to_ext [(0, .ref 138), (1, .int x1), (2, .int x2), (3, .int x3), (4, .int x4), (5, .int (0 : Int32))] (ext_cons rfl (ext_cons rfl (ext_cons rfl (ext_cons rfl (ext_cons rfl (ext_cons rfl ext_nil)))))) (kX11_treaty_65 hS hk20 ih FU hf hI)
def fX11_treaty_20 (n : Nat) (x1 : Int32) (x2 : Int32) (x3 : Int32) (m : Me) : Option (Int32 × Me) := match n with
  | 0 => none
  | n + 1 => if (m.1 141 0) ≤ x3 then some ((-2 : Int32), m) else cl2 (fX11_has (m.1 143 60) x3 m) fun r16 m17 => if r16 = (0 : Int32) then fX11_treaty_50 FU (fX11_treaty_20 n) x1 x2 x3 ((0 : Int32)) m17 else fX11_treaty_153 (fX11_treaty_20 n) x1 x2 x3 m17
set_option maxRecDepth 20000 in
theorem kX11_treaty_20 {S : Sh} (hS : ShOK S) {res : Int32 × Me} (n : Nat) : ∀ {x1 : Int32} {x2 : Int32} {x3 : Int32} {m : Me}, fX11_treaty_20 n x1 x2 x3 m = some res → Inv m → TT InvS (Call 4) mX11_treaty (20, [(0, .ref 138), (1, .int x1), (2, .int x2), (3, .int x3)], [], S, m) (some (.int res.1)) (S, res.2) := by
  induction n with
  | zero => intro x1 x2 x3 m hf; cases hf
  | succ n ih =>
    intro x1 x2 x3 m hf  hI
    unfold fX11_treaty_20 at hf
    refine to_iload_n (q := 21) rfl dX11_treaty_20 rfl ?_
    refine to_aload_n (q := 22) rfl (by decide) dX11_treaty_21 rfl ?_
    refine to_getR (q := 25) (b := 141) (k0 := 11) (C := RX11) (T := TX11) (N := 37) (j := 15) rfl fx_X11_20 (h_138 hS) rfl (iv_138_15 hI) dX11_treaty_22 rfl ?_
    refine to_iconst (q := 26) ic_0 dX11_treaty_25 rfl ?_
    refine to_iaj (q := 27) (h_141 hS) (by decide) (tn_0) dX11_treaty_26 rfl ?_
    by_cases h13 : (m.1 141 0) ≤ x3
    · have hf := ite_pos h13 hf
      refine to_icT (q := 159) (op := .ge) h13 dX11_treaty_27 rfl ?_
      refine to_bipush (q := 161) bp_m2 dX11_treaty_159 rfl ?_
      cases hf
      exact to_iret dX11_treaty_161 rfl rfl rfl rfl hI
    · have hf := ite_neg h13 hf
      refine to_icF (q := 30) (op := .ge) 159 h13 dX11_treaty_27 rfl rfl ?_
      refine to_aload_n (q := 31) rfl (by decide) dX11_treaty_30 rfl ?_
      refine to_getR (q := 34) (b := 143) (k0 := 11) (C := RX11) (T := TX11) (N := 37) (j := 17) rfl fx_X11_26 (h_138 hS) rfl (iv_138_17 hI) dX11_treaty_31 rfl ?_
      refine to_bipush (q := 36) bp_60 dX11_treaty_34 rfl ?_
      refine to_iaj (q := 37) (h_143 hS) (by decide) (tn_60) dX11_treaty_36 rfl ?_
      refine to_iload_n (q := 38) rfl dX11_treaty_37 rfl ?_
      obtain ⟨r16, m17, hc14, hf⟩ := cl2_some hf
      have qc15 := kX11_has hS hc14 hI
      refine to_statI (q := 41) mX11_has [.int (m.1 143 60), .int x3] dX11_treaty_38 rfl rfl (Nat.le_of_ble_eq_true rfl) mo_X11_has (Or.inl ml_X11_259) sa_X11_has (Call_mono (by decide) qc15.1) ?_
      have hI := qc15.2
      by_cases h18 : r16 = (0 : Int32)
      · have hf := ite_pos h18 hf
        refine to_ifT (q := 47) (op := .eq) h18 dX11_treaty_41 rfl ?_
        refine to_iconst (q := 48) ic_0 dX11_treaty_47 rfl ?_
        refine to_istore (q := 50) [(4, .int (0 : Int32)), (0, .ref 138), (1, .int x1), (2, .int x2), (3, .int x3)] rfl (by decide) dX11_treaty_48 rfl ?_
        exact to_ext [(0, .ref 138), (1, .int x1), (2, .int x2), (3, .int x3), (4, .int (0 : Int32))] (ext_cons rfl (ext_cons rfl (ext_cons rfl (ext_cons rfl (ext_cons rfl ext_nil))))) (kX11_treaty_50 hS ih FU hf hI)
      · have hf := ite_neg h18 hf
        refine to_ifF (q := 44) (op := .eq) 47 h18 dX11_treaty_41 rfl rfl ?_
        refine to_goto (q := 153) dX11_treaty_44 rfl ?_
        exact to_ext [(0, .ref 138), (1, .int x1), (2, .int x2), (3, .int x3)] (ext_cons rfl (ext_cons rfl (ext_cons rfl (ext_cons rfl ext_nil)))) (kX11_treaty_153 hS ih hf hI)
def fX11_treaty (x1 : Int32) (x2 : Int32) (m : Me) : Option (Int32 × Me) := cl1 (fX11_good m) fun m3 => cl2 (fX11_isWordThere x1 m3) fun r6 m7 => if r6 = (0 : Int32) then cl2 (fX11_no (1 : Int32) m7) fun r11 m12 => some (r11, m12) else fX11_treaty_20 FU x1 x2 ((0 : Int32)) m7
set_option maxRecDepth 20000 in
theorem kX11_treaty {S : Sh} (hS : ShOK S) {res : Int32 × Me} {x1 : Int32} {x2 : Int32} {m : Me} (hf : fX11_treaty x1 x2 m = some res) (hI : Inv m) : Call 5 mX11_treaty [.ref 138, .int x1, .int x2] (S, m) (some (.int res.1)) (S, res.2) ∧ Inv res.2 := by
  refine call_of (P := InvS) (Nat.le_of_ble_eq_true rfl) (by simp [Value.category]) ?_
  show TT InvS (Call 4) mX11_treaty (0, [(0, .ref 138), (1, .int x1), (2, .int x2)], [], S, m) _ _
  unfold fX11_treaty at hf
  refine to_aload_n (q := 1) rfl (by decide) dX11_treaty_0 rfl ?_
  obtain ⟨m3, hc1, hf⟩ := cl1_some hf
  have qc2 := kX11_good hS hc1 hI
  refine to_virtV (q := 4) mX11_good [] dX11_treaty_1 rfl rfl (Nat.le_of_ble_eq_true rfl) mo_X11_good mv_X11_156 (Or.inl ⟨_, _, _, h_138 hS, rfl, rfl⟩) (Call_mono (by decide) qc2.1) ?_
  have hI := qc2.2
  refine to_aload_n (q := 5) rfl (by decide) dX11_treaty_4 rfl ?_
  refine to_iload_n (q := 6) rfl dX11_treaty_5 rfl ?_
  obtain ⟨r6, m7, hc4, hf⟩ := cl2_some hf
  have qc5 := kX11_isWordThere hS hc4 hI
  refine to_virtI (q := 9) mX11_isWordThere [.int x1] dX11_treaty_6 rfl rfl (Nat.le_of_ble_eq_true rfl) mo_X11_isWordThere mv_X11_303 (Or.inl ⟨_, _, _, h_138 hS, rfl, rfl⟩) (Call_mono (by decide) qc5.1) ?_
  have hI := qc5.2
  by_cases h8 : r6 = (0 : Int32)
  · have hf := ite_pos h8 hf
    refine to_ifF (q := 12) (op := .ne) 18 (fun z => z h8) dX11_treaty_9 rfl rfl ?_
    refine to_aload_n (q := 13) rfl (by decide) dX11_treaty_12 rfl ?_
    refine to_iconst (q := 14) ic_1 dX11_treaty_13 rfl ?_
    obtain ⟨r11, m12, hc9, hf⟩ := cl2_some hf
    have qc10 := kX11_no hS hc9 hI
    refine to_virtI (q := 17) mX11_no [.int (1 : Int32)] dX11_treaty_14 rfl rfl (Nat.le_of_ble_eq_true rfl) mo_X11_no mv_X11_159 (Or.inl ⟨_, _, _, h_138 hS, rfl, rfl⟩) (Call_mono (by decide) qc10.1) ?_
    have hI := qc10.2
    cases hf
    exact to_iret dX11_treaty_17 rfl rfl rfl rfl hI
  · have hf := ite_neg h8 hf
    refine to_ifT (q := 18) (op := .ne) h8 dX11_treaty_9 rfl ?_
    refine to_iconst (q := 19) ic_0 dX11_treaty_18 rfl ?_
    refine to_istore_n (q := 20) [(3, .int (0 : Int32)), (0, .ref 138), (1, .int x1), (2, .int x2)] rfl (by decide) dX11_treaty_19 rfl ?_
    exact to_ext [(0, .ref 138), (1, .int x1), (2, .int x2), (3, .int (0 : Int32))] (ext_cons rfl (ext_cons rfl (ext_cons rfl (ext_cons rfl ext_nil)))) (kX11_treaty_20 hS FU hf hI)
def fX11_bits_4 (n : Nat) (x0 : Int32) (x1 : Int32) (x2 : Int32) (m : Me) : Option (Int32 × Me) := match n with
  | 0 => none
  | n + 1 => if (10 : Int32) ≤ x2 then some (x1, m) else fX11_bits_4 n x0 ((x1 + ((x0 >>> (x2 &&& 31)) &&& (1 : Int32)))) ((x2 + (1 : Int32))) m
set_option maxRecDepth 20000 in
theorem kX11_bits_4 {S : Sh} (hS : ShOK S) {res : Int32 × Me} (n : Nat) : ∀ {x0 : Int32} {x1 : Int32} {x2 : Int32} {m : Me}, fX11_bits_4 n x0 x1 x2 m = some res → Inv m → TT InvS (Call 0) mX11_bits (4, [(0, .int x0), (1, .int x1), (2, .int x2)], [], S, m) (some (.int res.1)) (S, res.2) := by
  induction n with
  | zero => intro x0 x1 x2 m hf; cases hf
  | succ n ih =>
    intro x0 x1 x2 m hf  hI
    unfold fX11_bits_4 at hf
    refine to_iload_n (q := 5) rfl dX11_bits_4 rfl ?_
    refine to_bipush (q := 7) bp_10 dX11_bits_5 rfl ?_
    by_cases h1 : (10 : Int32) ≤ x2
    · have hf := ite_pos h1 hf
      refine to_icT (q := 24) (op := .ge) h1 dX11_bits_7 rfl ?_
      refine to_iload_n (q := 25) rfl dX11_bits_24 rfl ?_
      cases hf
      exact to_iret dX11_bits_25 rfl rfl rfl rfl hI
    · have hf := ite_neg h1 hf
      refine to_icF (q := 10) (op := .ge) 24 h1 dX11_bits_7 rfl rfl ?_
      refine to_iload_n (q := 11) rfl dX11_bits_10 rfl ?_
      refine to_iload_n (q := 12) rfl dX11_bits_11 rfl ?_
      refine to_iload_n (q := 13) rfl dX11_bits_12 rfl ?_
      refine to_ishr (q := 14) dX11_bits_13 rfl ?_
      refine to_iconst (q := 15) ic_1 dX11_bits_14 rfl ?_
      refine to_iand (q := 16) dX11_bits_15 rfl ?_
      refine to_iadd (q := 17) dX11_bits_16 rfl ?_
      refine to_istore_n (q := 18) [(1, .int (x1 + ((x0 >>> (x2 &&& 31)) &&& (1 : Int32)))), (0, .int x0), (2, .int x2)] rfl (by decide) dX11_bits_17 rfl ?_
      refine to_iinc (q := 21) (v := (x2 + (1 : Int32))) rfl (congrArg (fun z => x2 + z) ic_1) [(2, .int (x2 + (1 : Int32))), (1, .int (x1 + ((x0 >>> (x2 &&& 31)) &&& (1 : Int32)))), (0, .int x0)] rfl (by decide) dX11_bits_18 rfl ?_
      refine to_goto (q := 4) dX11_bits_21 rfl ?_
      exact to_ext [(0, .int x0), (1, .int (x1 + ((x0 >>> (x2 &&& 31)) &&& (1 : Int32)))), (2, .int (x2 + (1 : Int32)))] (ext_cons rfl (ext_cons rfl (ext_cons rfl ext_nil))) (ih hf hI)
def fX11_bits (x0 : Int32) (m : Me) : Option (Int32 × Me) := fX11_bits_4 FU x0 ((0 : Int32)) ((0 : Int32)) m
set_option maxRecDepth 20000 in
theorem kX11_bits {S : Sh} (hS : ShOK S) {res : Int32 × Me} {x0 : Int32} {m : Me} (hf : fX11_bits x0 m = some res) (hI : Inv m) : Call 1 mX11_bits [.int x0] (S, m) (some (.int res.1)) (S, res.2) ∧ Inv res.2 := by
  refine call_of (P := InvS) (Nat.le_of_ble_eq_true rfl) (by simp [Value.category]) ?_
  show TT InvS (Call 0) mX11_bits (0, [(0, .int x0)], [], S, m) _ _
  unfold fX11_bits at hf
  refine to_iconst (q := 1) ic_0 dX11_bits_0 rfl ?_
  refine to_istore_n (q := 2) [(1, .int (0 : Int32)), (0, .int x0)] rfl (by decide) dX11_bits_1 rfl ?_
  refine to_iconst (q := 3) ic_0 dX11_bits_2 rfl ?_
  refine to_istore_n (q := 4) [(2, .int (0 : Int32)), (1, .int (0 : Int32)), (0, .int x0)] rfl (by decide) dX11_bits_3 rfl ?_
  exact to_ext [(0, .int x0), (1, .int (0 : Int32)), (2, .int (0 : Int32))] (ext_cons rfl (ext_cons rfl (ext_cons rfl ext_nil))) (kX11_bits_4 hS FU hf hI)
def fX11_sever_153 (t0 : Int32) (m : Me) : Option (Int32 × Me) := some (t0, m)
set_option maxRecDepth 20000 in
theorem kX11_sever_153 {S : Sh} (hS : ShOK S) {res : Int32 × Me} {t0 : Int32} {m : Me} (hf : fX11_sever_153 t0 m = some res) (hI : Inv m) : TT InvS (Call 3) mX11_sever (153, [], [.int t0], S, m) (some (.int res.1)) (S, res.2) := by
  unfold fX11_sever_153 at hf
  cases hf
  exact to_iret dX11_sever_153 rfl rfl rfl rfl hI
def fX11_sever_120 (k32 : Int32 → Int32 → Int32 → Int32 → Int32 → Int32 → Me → Option (Int32 × Me)) (x1 : Int32) (x2 : Int32) (x3 : Int32) (x4 : Int32) (x6 : Int32) (x7 : Int32) (m : Me) : Option (Int32 × Me) := k32 x1 x2 x3 x4 x6 ((x7 + (1 : Int32))) m
set_option maxRecDepth 20000 in
theorem kX11_sever_120 {S : Sh} (hS : ShOK S) {res : Int32 × Me} {k32 : Int32 → Int32 → Int32 → Int32 → Int32 → Int32 → Me → Option (Int32 × Me)} (hk32 : ∀ {x1 : Int32} {x2 : Int32} {x3 : Int32} {x4 : Int32} {x6 : Int32} {x7 : Int32} {m : Me}, k32 x1 x2 x3 x4 x6 x7 m = some res → Inv m → TT InvS (Call 3) mX11_sever (32, [(0, .ref 138), (1, .int x1), (2, .int x2), (3, .int x3), (4, .int x4), (6, .int x6), (7, .int x7)], [], S, m) (some (.int res.1)) (S, res.2)) {x1 : Int32} {x2 : Int32} {x3 : Int32} {x4 : Int32} {x6 : Int32} {x7 : Int32} {m : Me} (hf : fX11_sever_120 k32 x1 x2 x3 x4 x6 x7 m = some res) (hI : Inv m) : TT InvS (Call 3) mX11_sever (120, [(0, .ref 138), (1, .int x1), (2, .int x2), (3, .int x3), (4, .int x4), (6, .int x6), (7, .int x7)], [], S, m) (some (.int res.1)) (S, res.2) := by
  unfold fX11_sever_120 at hf
  refine to_iinc (q := 123) (v := (x7 + (1 : Int32))) rfl (congrArg (fun z => x7 + z) ic_1) [(7, .int (x7 + (1 : Int32))), (0, .ref 138), (1, .int x1), (2, .int x2), (3, .int x3), (4, .int x4), (6, .int x6)] rfl (by decide) dX11_sever_120 rfl ?_
  refine to_goto (q := 32) dX11_sever_123 rfl ?_
  exact to_ext [(0, .ref 138), (1, .int x1), (2, .int x2), (3, .int x3), (4, .int x4), (6, .int x6), (7, .int (x7 + (1 : Int32)))] (ext_cons rfl (ext_cons rfl (ext_cons rfl (ext_cons rfl (ext_cons rfl (ext_cons rfl (ext_cons rfl ext_nil))))))) (hk32 hf hI)
def fX11_sever_81 (k32 : Int32 → Int32 → Int32 → Int32 → Int32 → Int32 → Me → Option (Int32 × Me)) (x1 : Int32) (x2 : Int32) (x3 : Int32) (x4 : Int32) (x6 : Int32) (x7 : Int32) (m : Me) : Option (Int32 × Me) := ck (inb ((10 : Int32) + x1) 186) (cl2 (fX11_readsOf (((16 : Int32) + ((8 : Int32) * x1))) ((m.1 141 ((10 : Int32) + x1).toNatClampNeg)) x2 x3 (((m.1 143 60) ||| x7)) m) fun r34 m35 => if r34 ≤ (0 : Int32) then fX11_sever_120 k32 x1 x2 x3 x4 x6 x7 m35 else fX11_sever_120 k32 x1 x2 x3 x4 x7 x7 m35)
set_option maxRecDepth 20000 in
theorem kX11_sever_81 {S : Sh} (hS : ShOK S) {res : Int32 × Me} {k32 : Int32 → Int32 → Int32 → Int32 → Int32 → Int32 → Me → Option (Int32 × Me)} (hk32 : ∀ {x1 : Int32} {x2 : Int32} {x3 : Int32} {x4 : Int32} {x6 : Int32} {x7 : Int32} {m : Me}, k32 x1 x2 x3 x4 x6 x7 m = some res → Inv m → TT InvS (Call 3) mX11_sever (32, [(0, .ref 138), (1, .int x1), (2, .int x2), (3, .int x3), (4, .int x4), (6, .int x6), (7, .int x7)], [], S, m) (some (.int res.1)) (S, res.2)) {x1 : Int32} {x2 : Int32} {x3 : Int32} {x4 : Int32} {x6 : Int32} {x7 : Int32} {m : Me} (hf : fX11_sever_81 k32 x1 x2 x3 x4 x6 x7 m = some res) (hI : Inv m) : TT InvS (Call 3) mX11_sever (81, [(0, .ref 138), (1, .int x1), (2, .int x2), (3, .int x3), (4, .int x4), (6, .int x6), (7, .int x7)], [], S, m) (some (.int res.1)) (S, res.2) := by
  unfold fX11_sever_81 at hf
  refine to_aload_n (q := 82) rfl (by decide) dX11_sever_81 rfl ?_
  refine to_bipush (q := 84) bp_16 dX11_sever_82 rfl ?_
  refine to_bipush (q := 86) bp_8 dX11_sever_84 rfl ?_
  refine to_iload_n (q := 87) rfl dX11_sever_86 rfl ?_
  refine to_imul (q := 88) dX11_sever_87 rfl ?_
  refine to_iadd (q := 89) dX11_sever_88 rfl ?_
  refine to_aload_n (q := 90) rfl (by decide) dX11_sever_89 rfl ?_
  refine to_getR (q := 93) (b := 141) (k0 := 11) (C := RX11) (T := TX11) (N := 37) (j := 15) rfl fx_X11_20 (h_138 hS) rfl (iv_138_15 hI) dX11_sever_90 rfl ?_
  refine to_bipush (q := 95) bp_10 dX11_sever_93 rfl ?_
  refine to_iload_n (q := 96) rfl dX11_sever_95 rfl ?_
  refine to_iadd (q := 97) dX11_sever_96 rfl ?_
  obtain ⟨hb31, hf⟩ := ck_some hf
  refine to_iaj (q := 98) (h_141 hS) hb31 (rfl) dX11_sever_97 rfl ?_
  refine to_iload_n (q := 99) rfl dX11_sever_98 rfl ?_
  refine to_iload_n (q := 100) rfl dX11_sever_99 rfl ?_
  refine to_aload_n (q := 101) rfl (by decide) dX11_sever_100 rfl ?_
  refine to_getR (q := 104) (b := 143) (k0 := 11) (C := RX11) (T := TX11) (N := 37) (j := 17) rfl fx_X11_26 (h_138 hS) rfl (iv_138_17 hI) dX11_sever_101 rfl ?_
  refine to_bipush (q := 106) bp_60 dX11_sever_104 rfl ?_
  refine to_iaj (q := 107) (h_143 hS) (by decide) (tn_60) dX11_sever_106 rfl ?_
  refine to_iload (q := 109) rfl dX11_sever_107 rfl ?_
  refine to_ior (q := 110) dX11_sever_109 rfl ?_
  obtain ⟨r34, m35, hc32, hf⟩ := cl2_some hf
  have qc33 := kX11_readsOf hS hc32 hI
  refine to_virtI (q := 113) mX11_readsOf [.int ((16 : Int32) + ((8 : Int32) * x1)), .int (m.1 141 ((10 : Int32) + x1).toNatClampNeg), .int x2, .int x3, .int ((m.1 143 60) ||| x7)] dX11_sever_110 rfl rfl (Nat.le_of_ble_eq_true rfl) mo_X11_readsOf mv_X11_299 (Or.inl ⟨_, _, _, h_138 hS, rfl, rfl⟩) (Call_mono (by decide) qc33.1) ?_
  have hI := qc33.2
  by_cases h36 : r34 ≤ (0 : Int32)
  · have hf := ite_pos h36 hf
    refine to_ifT (q := 120) (op := .le) h36 dX11_sever_113 rfl ?_
    exact to_ext [(0, .ref 138), (1, .int x1), (2, .int x2), (3, .int x3), (4, .int x4), (6, .int x6), (7, .int x7)] (ext_cons rfl (ext_cons rfl (ext_cons rfl (ext_cons rfl (ext_cons rfl (ext_cons rfl (ext_cons rfl ext_nil))))))) (kX11_sever_120 hS hk32 hf hI)
  · have hf := ite_neg h36 hf
    refine to_ifF (q := 116) (op := .le) 120 h36 dX11_sever_113 rfl rfl ?_
    refine to_iload (q := 118) rfl dX11_sever_116 rfl ?_
    refine to_istore (q := 120) [(6, .int x7), (0, .ref 138), (1, .int x1), (2, .int x2), (3, .int x3), (4, .int x4), (7, .int x7)] rfl (by decide) dX11_sever_118 rfl ?_
    exact to_ext [(0, .ref 138), (1, .int x1), (2, .int x2), (3, .int x3), (4, .int x4), (6, .int x7), (7, .int x7)] (ext_cons rfl (ext_cons rfl (ext_cons rfl (ext_cons rfl (ext_cons rfl (ext_cons rfl (ext_cons rfl ext_nil))))))) (kX11_sever_120 hS hk32 hf hI)
def fX11_sever_32 (n : Nat) (x1 : Int32) (x2 : Int32) (x3 : Int32) (x4 : Int32) (x6 : Int32) (x7 : Int32) (m : Me) : Option (Int32 × Me) := match n with
  | 0 => none
  | n + 1 => if ((1 : Int32) <<< ((m.1 141 0) &&& 31)) ≤ x7 then if x6 = (-2 : Int32) then fX11_sever_153 ((-2 : Int32)) m else if x4 = (0 : Int32) then cl2 (fX11_bits x6 m) fun r18 m19 => fX11_sever_153 r18 m19 else fX11_sever_153 x6 m else if (x7 &&& (m.1 143 60)) = (0 : Int32) then if x6 = (-2 : Int32) then fX11_sever_81 (fX11_sever_32 n) x1 x2 x3 x4 x6 x7 m else cl2 (fX11_bits x7 m) fun r24 m25 => cl2 (fX11_bits x6 m25) fun r28 m29 => if r24 < r28 then fX11_sever_81 (fX11_sever_32 n) x1 x2 x3 x4 x6 x7 m29 else fX11_sever_120 (fX11_sever_32 n) x1 x2 x3 x4 x6 x7 m29 else fX11_sever_120 (fX11_sever_32 n) x1 x2 x3 x4 x6 x7 m
set_option maxRecDepth 20000 in
theorem kX11_sever_32 {S : Sh} (hS : ShOK S) {res : Int32 × Me} (n : Nat) : ∀ {x1 : Int32} {x2 : Int32} {x3 : Int32} {x4 : Int32} {x6 : Int32} {x7 : Int32} {m : Me}, fX11_sever_32 n x1 x2 x3 x4 x6 x7 m = some res → Inv m → TT InvS (Call 3) mX11_sever (32, [(0, .ref 138), (1, .int x1), (2, .int x2), (3, .int x3), (4, .int x4), (6, .int x6), (7, .int x7)], [], S, m) (some (.int res.1)) (S, res.2) := by
  induction n with
  | zero => intro x1 x2 x3 x4 x6 x7 m hf; cases hf
  | succ n ih =>
    intro x1 x2 x3 x4 x6 x7 m hf  hI
    unfold fX11_sever_32 at hf
    refine to_iload (q := 34) rfl dX11_sever_32 rfl ?_
    refine to_iconst (q := 35) ic_1 dX11_sever_34 rfl ?_
    refine to_aload_n (q := 36) rfl (by decide) dX11_sever_35 rfl ?_
    refine to_getR (q := 39) (b := 141) (k0 := 11) (C := RX11) (T := TX11) (N := 37) (j := 15) rfl fx_X11_20 (h_138 hS) rfl (iv_138_15 hI) dX11_sever_36 rfl ?_
    refine to_iconst (q := 40) ic_0 dX11_sever_39 rfl ?_
    refine to_iaj (q := 41) (h_141 hS) (by decide) (tn_0) dX11_sever_40 rfl ?_
    refine to_ishl (q := 42) dX11_sever_41 rfl ?_
    by_cases h13 : ((1 : Int32) <<< ((m.1 141 0) &&& 31)) ≤ x7
    · have hf := ite_pos h13 hf
      refine to_icT (q := 126) (op := .ge) h13 dX11_sever_42 rfl ?_
      refine to_iload (q := 128) rfl dX11_sever_126 rfl ?_
      refine to_bipush (q := 130) bp_m2 dX11_sever_128 rfl ?_
      by_cases h14 : x6 = (-2 : Int32)
      · have hf := ite_pos h14 hf
        refine to_icF (q := 133) (op := .ne) 138 (fun z => z h14) dX11_sever_130 rfl rfl ?_
        refine to_bipush (q := 135) bp_m2 dX11_sever_133 rfl ?_
        refine to_goto (q := 153) dX11_sever_135 rfl ?_
        exact to_ext [] ext_nil (kX11_sever_153 hS hf hI)
      · have hf := ite_neg h14 hf
        refine to_icT (q := 138) (op := .ne) h14 dX11_sever_130 rfl ?_
        refine to_iload (q := 140) rfl dX11_sever_138 rfl ?_
        by_cases h15 : x4 = (0 : Int32)
        · have hf := ite_pos h15 hf
          refine to_ifT (q := 148) (op := .eq) h15 dX11_sever_140 rfl ?_
          refine to_iload (q := 150) rfl dX11_sever_148 rfl ?_
          obtain ⟨r18, m19, hc16, hf⟩ := cl2_some hf
          have qc17 := kX11_bits hS hc16 hI
          refine to_statI (q := 153) mX11_bits [.int x6] dX11_sever_150 rfl rfl (Nat.le_of_ble_eq_true rfl) mo_X11_bits (Or.inl ml_X11_347) sa_X11_bits (Call_mono (by decide) qc17.1) ?_
          have hI := qc17.2
          exact to_ext [] ext_nil (kX11_sever_153 hS hf hI)
        · have hf := ite_neg h15 hf
          refine to_ifF (q := 143) (op := .eq) 148 h15 dX11_sever_140 rfl rfl ?_
          refine to_iload (q := 145) rfl dX11_sever_143 rfl ?_
          refine to_goto (q := 153) dX11_sever_145 rfl ?_
          exact to_ext [] ext_nil (kX11_sever_153 hS hf hI)
    · have hf := ite_neg h13 hf
      refine to_icF (q := 45) (op := .ge) 126 h13 dX11_sever_42 rfl rfl ?_
      refine to_iload (q := 47) rfl dX11_sever_45 rfl ?_
      refine to_aload_n (q := 48) rfl (by decide) dX11_sever_47 rfl ?_
      refine to_getR (q := 51) (b := 143) (k0 := 11) (C := RX11) (T := TX11) (N := 37) (j := 17) rfl fx_X11_26 (h_138 hS) rfl (iv_138_17 hI) dX11_sever_48 rfl ?_
      refine to_bipush (q := 53) bp_60 dX11_sever_51 rfl ?_
      refine to_iaj (q := 54) (h_143 hS) (by decide) (tn_60) dX11_sever_53 rfl ?_
      refine to_iand (q := 55) dX11_sever_54 rfl ?_
      by_cases h20 : (x7 &&& (m.1 143 60)) = (0 : Int32)
      · have hf := ite_pos h20 hf
        refine to_ifF (q := 58) (op := .ne) 120 (fun z => z h20) dX11_sever_55 rfl rfl ?_
        refine to_iload (q := 60) rfl dX11_sever_58 rfl ?_
        refine to_bipush (q := 62) bp_m2 dX11_sever_60 rfl ?_
        by_cases h21 : x6 = (-2 : Int32)
        · have hf := ite_pos h21 hf
          refine to_icT (q := 81) (op := .eq) h21 dX11_sever_62 rfl ?_
          exact to_ext [(0, .ref 138), (1, .int x1), (2, .int x2), (3, .int x3), (4, .int x4), (6, .int x6), (7, .int x7)] (ext_cons rfl (ext_cons rfl (ext_cons rfl (ext_cons rfl (ext_cons rfl (ext_cons rfl (ext_cons rfl ext_nil))))))) (kX11_sever_81 hS ih hf hI)
        · have hf := ite_neg h21 hf
          refine to_icF (q := 65) (op := .eq) 81 h21 dX11_sever_62 rfl rfl ?_
          refine to_iload (q := 67) rfl dX11_sever_65 rfl ?_
          obtain ⟨r24, m25, hc22, hf⟩ := cl2_some hf
          have qc23 := kX11_bits hS hc22 hI
          refine to_statI (q := 70) mX11_bits [.int x7] dX11_sever_67 rfl rfl (Nat.le_of_ble_eq_true rfl) mo_X11_bits (Or.inl ml_X11_347) sa_X11_bits (Call_mono (by decide) qc23.1) ?_
          have hI := qc23.2
          refine to_iload (q := 72) rfl dX11_sever_70 rfl ?_
          obtain ⟨r28, m29, hc26, hf⟩ := cl2_some hf
          have qc27 := kX11_bits hS hc26 hI
          refine to_statI (q := 75) mX11_bits [.int x6] dX11_sever_72 rfl rfl (Nat.le_of_ble_eq_true rfl) mo_X11_bits (Or.inl ml_X11_347) sa_X11_bits (Call_mono (by decide) qc27.1) ?_
          have hI := qc27.2
          by_cases h30 : r24 < r28
          · have hf := ite_pos h30 hf
            refine to_icT (q := 81) (op := .lt) h30 dX11_sever_75 rfl ?_
            exact to_ext [(0, .ref 138), (1, .int x1), (2, .int x2), (3, .int x3), (4, .int x4), (6, .int x6), (7, .int x7)] (ext_cons rfl (ext_cons rfl (ext_cons rfl (ext_cons rfl (ext_cons rfl (ext_cons rfl (ext_cons rfl ext_nil))))))) (kX11_sever_81 hS ih hf hI)
          · have hf := ite_neg h30 hf
            refine to_icF (q := 78) (op := .lt) 81 h30 dX11_sever_75 rfl rfl ?_
            refine to_goto (q := 120) dX11_sever_78 rfl ?_
            exact to_ext [(0, .ref 138), (1, .int x1), (2, .int x2), (3, .int x3), (4, .int x4), (6, .int x6), (7, .int x7)] (ext_cons rfl (ext_cons rfl (ext_cons rfl (ext_cons rfl (ext_cons rfl (ext_cons rfl (ext_cons rfl ext_nil))))))) (kX11_sever_120 hS ih hf hI)
      · have hf := ite_neg h20 hf
        refine to_ifT (q := 120) (op := .ne) h20 dX11_sever_55 rfl ?_
        exact to_ext [(0, .ref 138), (1, .int x1), (2, .int x2), (3, .int x3), (4, .int x4), (6, .int x6), (7, .int x7)] (ext_cons rfl (ext_cons rfl (ext_cons rfl (ext_cons rfl (ext_cons rfl (ext_cons rfl (ext_cons rfl ext_nil))))))) (kX11_sever_120 hS ih hf hI)
def fX11_sever (x1 : Int32) (x2 : Int32) (x3 : Int32) (x4 : Int32) (m : Me) : Option (Int32 × Me) := cl1 (fX11_good m) fun m3 => cl2 (fX11_wordWhy x1 x2 x3 m3) fun r6 m7 => if r6 = (0 : Int32) then fX11_sever_32 FU x1 x2 x3 x4 ((-2 : Int32)) ((0 : Int32)) m7 else cl2 (fX11_no r6 m7) fun r11 m12 => some (r11, m12)
set_option maxRecDepth 20000 in
theorem kX11_sever {S : Sh} (hS : ShOK S) {res : Int32 × Me} {x1 : Int32} {x2 : Int32} {x3 : Int32} {x4 : Int32} {m : Me} (hf : fX11_sever x1 x2 x3 x4 m = some res) (hI : Inv m) : Call 4 mX11_sever [.ref 138, .int x1, .int x2, .int x3, .int x4] (S, m) (some (.int res.1)) (S, res.2) ∧ Inv res.2 := by
  refine call_of (P := InvS) (Nat.le_of_ble_eq_true rfl) (by simp [Value.category]) ?_
  show TT InvS (Call 3) mX11_sever (0, [(0, .ref 138), (1, .int x1), (2, .int x2), (3, .int x3), (4, .int x4)], [], S, m) _ _
  unfold fX11_sever at hf
  refine to_aload_n (q := 1) rfl (by decide) dX11_sever_0 rfl ?_
  obtain ⟨m3, hc1, hf⟩ := cl1_some hf
  have qc2 := kX11_good hS hc1 hI
  refine to_virtV (q := 4) mX11_good [] dX11_sever_1 rfl rfl (Nat.le_of_ble_eq_true rfl) mo_X11_good mv_X11_156 (Or.inl ⟨_, _, _, h_138 hS, rfl, rfl⟩) (Call_mono (by decide) qc2.1) ?_
  have hI := qc2.2
  refine to_aload_n (q := 5) rfl (by decide) dX11_sever_4 rfl ?_
  refine to_iload_n (q := 6) rfl dX11_sever_5 rfl ?_
  refine to_iload_n (q := 7) rfl dX11_sever_6 rfl ?_
  refine to_iload_n (q := 8) rfl dX11_sever_7 rfl ?_
  obtain ⟨r6, m7, hc4, hf⟩ := cl2_some hf
  have qc5 := kX11_wordWhy hS hc4 hI
  refine to_virtI (q := 11) mX11_wordWhy [.int x1, .int x2, .int x3] dX11_sever_8 rfl rfl (Nat.le_of_ble_eq_true rfl) mo_X11_wordWhy mv_X11_306 (Or.inl ⟨_, _, _, h_138 hS, rfl, rfl⟩) (Call_mono (by decide) qc5.1) ?_
  have hI := qc5.2
  refine to_istore (q := 13) [(5, .int r6), (0, .ref 138), (1, .int x1), (2, .int x2), (3, .int x3), (4, .int x4)] rfl (by decide) dX11_sever_11 rfl ?_
  refine to_iload (q := 15) rfl dX11_sever_13 rfl ?_
  by_cases h8 : r6 = (0 : Int32)
  · have hf := ite_pos h8 hf
    refine to_ifT (q := 25) (op := .eq) h8 dX11_sever_15 rfl ?_
    refine to_bipush (q := 27) bp_m2 dX11_sever_25 rfl ?_
    refine to_istore (q := 29) [(6, .int (-2 : Int32)), (5, .int r6), (0, .ref 138), (1, .int x1), (2, .int x2), (3, .int x3), (4, .int x4)] rfl (by decide) dX11_sever_27 rfl ?_
    refine to_iconst (q := 30) ic_0 dX11_sever_29 rfl ?_
    refine to_istore (q := 32) [(7, .int (0 : Int32)), (6, .int (-2 : Int32)), (5, .int r6), (0, .ref 138), (1, .int x1), (2, .int x2), (3, .int x3), (4, .int x4)] rfl (by decide) dX11_sever_30 rfl ?_
    exact to_ext [(0, .ref 138), (1, .int x1), (2, .int x2), (3, .int x3), (4, .int x4), (6, .int (-2 : Int32)), (7, .int (0 : Int32))] (ext_cons rfl (ext_cons rfl (ext_cons rfl (ext_cons rfl (ext_cons rfl (ext_cons rfl (ext_cons rfl ext_nil))))))) (kX11_sever_32 hS FU hf hI)
  · have hf := ite_neg h8 hf
    refine to_ifF (q := 18) (op := .eq) 25 h8 dX11_sever_15 rfl rfl ?_
    refine to_aload_n (q := 19) rfl (by decide) dX11_sever_18 rfl ?_
    refine to_iload (q := 21) rfl dX11_sever_19 rfl ?_
    obtain ⟨r11, m12, hc9, hf⟩ := cl2_some hf
    have qc10 := kX11_no hS hc9 hI
    refine to_virtI (q := 24) mX11_no [.int r6] dX11_sever_21 rfl rfl (Nat.le_of_ble_eq_true rfl) mo_X11_no mv_X11_159 (Or.inl ⟨_, _, _, h_138 hS, rfl, rfl⟩) (Call_mono (by decide) qc10.1) ?_
    have hI := qc10.2
    cases hf
    exact to_iret dX11_sever_24 rfl rfl rfl rfl hI
def fX11_letterOf (x1 : Int32) (x2 : Int32) (m : Me) : Option (Int32 × Me) := ck (inb (((16 : Int32) + ((8 : Int32) * x1)) + x2) 186) (some ((m.1 141 (((16 : Int32) + ((8 : Int32) * x1)) + x2).toNatClampNeg), m))
set_option maxRecDepth 20000 in
theorem kX11_letterOf {S : Sh} (hS : ShOK S) {res : Int32 × Me} {x1 : Int32} {x2 : Int32} {m : Me} (hf : fX11_letterOf x1 x2 m = some res) (hI : Inv m) : Call 1 mX11_letterOf [.ref 138, .int x1, .int x2] (S, m) (some (.int res.1)) (S, res.2) ∧ Inv res.2 := by
  refine call_of (P := InvS) (Nat.le_of_ble_eq_true rfl) (by simp [Value.category]) ?_
  show TT InvS (Call 0) mX11_letterOf (0, [(0, .ref 138), (1, .int x1), (2, .int x2)], [], S, m) _ _
  unfold fX11_letterOf at hf
  refine to_aload_n (q := 1) rfl (by decide) dX11_letterOf_0 rfl ?_
  refine to_getR (q := 4) (b := 141) (k0 := 11) (C := RX11) (T := TX11) (N := 37) (j := 15) rfl fx_X11_20 (h_138 hS) rfl (iv_138_15 hI) dX11_letterOf_1 rfl ?_
  refine to_bipush (q := 6) bp_16 dX11_letterOf_4 rfl ?_
  refine to_bipush (q := 8) bp_8 dX11_letterOf_6 rfl ?_
  refine to_iload_n (q := 9) rfl dX11_letterOf_8 rfl ?_
  refine to_imul (q := 10) dX11_letterOf_9 rfl ?_
  refine to_iadd (q := 11) dX11_letterOf_10 rfl ?_
  refine to_iload_n (q := 12) rfl dX11_letterOf_11 rfl ?_
  refine to_iadd (q := 13) dX11_letterOf_12 rfl ?_
  obtain ⟨hb1, hf⟩ := ck_some hf
  refine to_iaj (q := 14) (h_141 hS) hb1 (rfl) dX11_letterOf_13 rfl ?_
  cases hf
  exact to_iret dX11_letterOf_14 rfl rfl rfl rfl hI
def fX11_isIn_82 (k2 : Int32 → Int32 → Int32 → Me → Option (Int32 × Me)) (x1 : Int32) (x2 : Int32) (x3 : Int32) (x4 : Int32) (m : Me) : Option (Int32 × Me) := if x4 = (0 : Int32) then k2 x1 x2 ((x3 + (1 : Int32))) m else some ((1 : Int32), m)
set_option maxRecDepth 20000 in
theorem kX11_isIn_82 {S : Sh} (hS : ShOK S) {res : Int32 × Me} {k2 : Int32 → Int32 → Int32 → Me → Option (Int32 × Me)} (hk2 : ∀ {x1 : Int32} {x2 : Int32} {x3 : Int32} {m : Me}, k2 x1 x2 x3 m = some res → Inv m → TT InvS (Call 1) mX11_isIn (2, [(0, .ref 138), (1, .int x1), (2, .int x2), (3, .int x3)], [], S, m) (some (.int res.1)) (S, res.2)) {x1 : Int32} {x2 : Int32} {x3 : Int32} {x4 : Int32} {m : Me} (hf : fX11_isIn_82 k2 x1 x2 x3 x4 m = some res) (hI : Inv m) : TT InvS (Call 1) mX11_isIn (82, [(0, .ref 138), (1, .int x1), (2, .int x2), (3, .int x3), (4, .int x4)], [], S, m) (some (.int res.1)) (S, res.2) := by
  unfold fX11_isIn_82 at hf
  refine to_iload (q := 84) rfl dX11_isIn_82 rfl ?_
  by_cases h16 : x4 = (0 : Int32)
  · have hf := ite_pos h16 hf
    refine to_ifT (q := 89) (op := .eq) h16 dX11_isIn_84 rfl ?_
    refine to_iinc (q := 92) (v := (x3 + (1 : Int32))) rfl (congrArg (fun z => x3 + z) ic_1) [(3, .int (x3 + (1 : Int32))), (0, .ref 138), (1, .int x1), (2, .int x2), (4, .int x4)] rfl (by decide) dX11_isIn_89 rfl ?_
    refine to_goto (q := 2) dX11_isIn_92 rfl ?_
    exact to_ext [(0, .ref 138), (1, .int x1), (2, .int x2), (3, .int (x3 + (1 : Int32)))] (ext_cons rfl (ext_cons rfl (ext_cons rfl (ext_cons rfl ext_nil)))) (hk2 hf hI)
  · have hf := ite_neg h16 hf
    refine to_ifF (q := 87) (op := .eq) 89 h16 dX11_isIn_84 rfl rfl ?_
    refine to_iconst (q := 88) ic_1 dX11_isIn_87 rfl ?_
    cases hf
    exact to_iret dX11_isIn_88 rfl (by decide) rfl rfl hI
def fX11_isIn_74 (k2 : Int32 → Int32 → Int32 → Me → Option (Int32 × Me)) (k31 : Int32 → Int32 → Int32 → Int32 → Int32 → Me → Option (Int32 × Me)) (x1 : Int32) (x2 : Int32) (x3 : Int32) (x5 : Int32) (t0 : Int32) (m : Me) : Option (Int32 × Me) := k31 x1 x2 x3 t0 ((x5 + (1 : Int32))) m
set_option maxRecDepth 20000 in
theorem kX11_isIn_74 {S : Sh} (hS : ShOK S) {res : Int32 × Me} {k2 : Int32 → Int32 → Int32 → Me → Option (Int32 × Me)} (hk2 : ∀ {x1 : Int32} {x2 : Int32} {x3 : Int32} {m : Me}, k2 x1 x2 x3 m = some res → Inv m → TT InvS (Call 1) mX11_isIn (2, [(0, .ref 138), (1, .int x1), (2, .int x2), (3, .int x3)], [], S, m) (some (.int res.1)) (S, res.2)) {k31 : Int32 → Int32 → Int32 → Int32 → Int32 → Me → Option (Int32 × Me)} (hk31 : ∀ {x1 : Int32} {x2 : Int32} {x3 : Int32} {x4 : Int32} {x5 : Int32} {m : Me}, k31 x1 x2 x3 x4 x5 m = some res → Inv m → TT InvS (Call 1) mX11_isIn (31, [(0, .ref 138), (1, .int x1), (2, .int x2), (3, .int x3), (4, .int x4), (5, .int x5)], [], S, m) (some (.int res.1)) (S, res.2)) {x1 : Int32} {x2 : Int32} {x3 : Int32} {x5 : Int32} {t0 : Int32} {m : Me} (hf : fX11_isIn_74 k2 k31 x1 x2 x3 x5 t0 m = some res) (hI : Inv m) : TT InvS (Call 1) mX11_isIn (74, [(0, .ref 138), (1, .int x1), (2, .int x2), (3, .int x3), (5, .int x5)], [.int t0], S, m) (some (.int res.1)) (S, res.2) := by
  unfold fX11_isIn_74 at hf
  refine to_istore (q := 76) [(4, .int t0), (0, .ref 138), (1, .int x1), (2, .int x2), (3, .int x3), (5, .int x5)] rfl (by decide) dX11_isIn_74 rfl ?_
  refine to_iinc (q := 79) (v := (x5 + (1 : Int32))) rfl (congrArg (fun z => x5 + z) ic_1) [(5, .int (x5 + (1 : Int32))), (4, .int t0), (0, .ref 138), (1, .int x1), (2, .int x2), (3, .int x3)] rfl (by decide) dX11_isIn_76 rfl ?_
  refine to_goto (q := 31) dX11_isIn_79 rfl ?_
  exact to_ext [(0, .ref 138), (1, .int x1), (2, .int x2), (3, .int x3), (4, .int t0), (5, .int (x5 + (1 : Int32)))] (ext_cons rfl (ext_cons rfl (ext_cons rfl (ext_cons rfl (ext_cons rfl (ext_cons rfl ext_nil)))))) (hk31 hf hI)
def fX11_isIn_31 (n : Nat) (k2 : Int32 → Int32 → Int32 → Me → Option (Int32 × Me)) (x1 : Int32) (x2 : Int32) (x3 : Int32) (x4 : Int32) (x5 : Int32) (m : Me) : Option (Int32 × Me) := match n with
  | 0 => none
  | n + 1 => ck (inb ((10 : Int32) + x1) 186) (if (m.1 141 ((10 : Int32) + x1).toNatClampNeg) ≤ x5 then fX11_isIn_82 k2 x1 x2 x3 x4 m else if x4 = (0 : Int32) then fX11_isIn_82 k2 x1 x2 x3 x4 m else cl2 (fX11_letterOf x1 x5 m) fun r9 m10 => cl2 (fX11_letterOf x2 (x3 + x5) m10) fun r13 m14 => if r9 = r13 then fX11_isIn_74 k2 (fX11_isIn_31 n k2) x1 x2 x3 x5 ((1 : Int32)) m14 else fX11_isIn_74 k2 (fX11_isIn_31 n k2) x1 x2 x3 x5 ((0 : Int32)) m14)
set_option maxRecDepth 20000 in
theorem kX11_isIn_31 {S : Sh} (hS : ShOK S) {res : Int32 × Me} {k2 : Int32 → Int32 → Int32 → Me → Option (Int32 × Me)} (hk2 : ∀ {x1 : Int32} {x2 : Int32} {x3 : Int32} {m : Me}, k2 x1 x2 x3 m = some res → Inv m → TT InvS (Call 1) mX11_isIn (2, [(0, .ref 138), (1, .int x1), (2, .int x2), (3, .int x3)], [], S, m) (some (.int res.1)) (S, res.2)) (n : Nat) : ∀ {x1 : Int32} {x2 : Int32} {x3 : Int32} {x4 : Int32} {x5 : Int32} {m : Me}, fX11_isIn_31 n k2 x1 x2 x3 x4 x5 m = some res → Inv m → TT InvS (Call 1) mX11_isIn (31, [(0, .ref 138), (1, .int x1), (2, .int x2), (3, .int x3), (4, .int x4), (5, .int x5)], [], S, m) (some (.int res.1)) (S, res.2) := by
  induction n with
  | zero => intro x1 x2 x3 x4 x5 m hf; cases hf
  | succ n ih =>
    intro x1 x2 x3 x4 x5 m hf  hI
    unfold fX11_isIn_31 at hf
    refine to_iload (q := 33) rfl dX11_isIn_31 rfl ?_
    refine to_aload_n (q := 34) rfl (by decide) dX11_isIn_33 rfl ?_
    refine to_getR (q := 37) (b := 141) (k0 := 11) (C := RX11) (T := TX11) (N := 37) (j := 15) rfl fx_X11_20 (h_138 hS) rfl (iv_138_15 hI) dX11_isIn_34 rfl ?_
    refine to_bipush (q := 39) bp_10 dX11_isIn_37 rfl ?_
    refine to_iload_n (q := 40) rfl dX11_isIn_39 rfl ?_
    refine to_iadd (q := 41) dX11_isIn_40 rfl ?_
    obtain ⟨hb4, hf⟩ := ck_some hf
    refine to_iaj (q := 42) (h_141 hS) hb4 (rfl) dX11_isIn_41 rfl ?_
    by_cases h5 : (m.1 141 ((10 : Int32) + x1).toNatClampNeg) ≤ x5
    · have hf := ite_pos h5 hf
      refine to_icT (q := 82) (op := .ge) h5 dX11_isIn_42 rfl ?_
      exact to_ext [(0, .ref 138), (1, .int x1), (2, .int x2), (3, .int x3), (4, .int x4)] (ext_cons rfl (ext_cons rfl (ext_cons rfl (ext_cons rfl (ext_cons rfl ext_nil))))) (kX11_isIn_82 hS hk2 hf hI)
    · have hf := ite_neg h5 hf
      refine to_icF (q := 45) (op := .ge) 82 h5 dX11_isIn_42 rfl rfl ?_
      refine to_iload (q := 47) rfl dX11_isIn_45 rfl ?_
      by_cases h6 : x4 = (0 : Int32)
      · have hf := ite_pos h6 hf
        refine to_ifT (q := 82) (op := .eq) h6 dX11_isIn_47 rfl ?_
        exact to_ext [(0, .ref 138), (1, .int x1), (2, .int x2), (3, .int x3), (4, .int x4)] (ext_cons rfl (ext_cons rfl (ext_cons rfl (ext_cons rfl (ext_cons rfl ext_nil))))) (kX11_isIn_82 hS hk2 hf hI)
      · have hf := ite_neg h6 hf
        refine to_ifF (q := 50) (op := .eq) 82 h6 dX11_isIn_47 rfl rfl ?_
        refine to_aload_n (q := 51) rfl (by decide) dX11_isIn_50 rfl ?_
        refine to_iload_n (q := 52) rfl dX11_isIn_51 rfl ?_
        refine to_iload (q := 54) rfl dX11_isIn_52 rfl ?_
        obtain ⟨r9, m10, hc7, hf⟩ := cl2_some hf
        have qc8 := kX11_letterOf hS hc7 hI
        refine to_virtI (q := 57) mX11_letterOf [.int x1, .int x5] dX11_isIn_54 rfl rfl (Nat.le_of_ble_eq_true rfl) mo_X11_letterOf mv_X11_350 (Or.inl ⟨_, _, _, h_138 hS, rfl, rfl⟩) (Call_mono (by decide) qc8.1) ?_
        have hI := qc8.2
        refine to_aload_n (q := 58) rfl (by decide) dX11_isIn_57 rfl ?_
        refine to_iload_n (q := 59) rfl dX11_isIn_58 rfl ?_
        refine to_iload_n (q := 60) rfl dX11_isIn_59 rfl ?_
        refine to_iload (q := 62) rfl dX11_isIn_60 rfl ?_
        refine to_iadd (q := 63) dX11_isIn_62 rfl ?_
        obtain ⟨r13, m14, hc11, hf⟩ := cl2_some hf
        have qc12 := kX11_letterOf hS hc11 hI
        refine to_virtI (q := 66) mX11_letterOf [.int x2, .int (x3 + x5)] dX11_isIn_63 rfl rfl (Nat.le_of_ble_eq_true rfl) mo_X11_letterOf mv_X11_350 (Or.inl ⟨_, _, _, h_138 hS, rfl, rfl⟩) (Call_mono (by decide) qc12.1) ?_
        have hI := qc12.2
        by_cases h15 : r9 = r13
        · have hf := ite_pos h15 hf
          refine to_icF (q := 69) (op := .ne) 73 (fun z => z h15) dX11_isIn_66 rfl rfl ?_
          refine to_iconst (q := 70) ic_1 dX11_isIn_69 rfl ?_
          refine to_goto (q := 74) dX11_isIn_70 rfl ?_
          exact to_ext [(0, .ref 138), (1, .int x1), (2, .int x2), (3, .int x3), (5, .int x5)] (ext_cons rfl (ext_cons rfl (ext_cons rfl (ext_cons rfl (ext_cons rfl ext_nil))))) (kX11_isIn_74 hS hk2 ih hf hI)
        · have hf := ite_neg h15 hf
          refine to_icT (q := 73) (op := .ne) h15 dX11_isIn_66 rfl ?_
          refine to_iconst (q := 74) ic_0 dX11_isIn_73 rfl ?_
          exact to_ext [(0, .ref 138), (1, .int x1), (2, .int x2), (3, .int x3), (5, .int x5)] (ext_cons rfl (ext_cons rfl (ext_cons rfl (ext_cons rfl (ext_cons rfl ext_nil))))) (kX11_isIn_74 hS hk2 ih hf hI)
def fX11_isIn_2 (n : Nat) (x1 : Int32) (x2 : Int32) (x3 : Int32) (m : Me) : Option (Int32 × Me) := match n with
  | 0 => none
  | n + 1 => ck (inb ((10 : Int32) + x1) 186) (ck (inb ((10 : Int32) + x2) 186) (if (m.1 141 ((10 : Int32) + x2).toNatClampNeg) < (x3 + (m.1 141 ((10 : Int32) + x1).toNatClampNeg)) then some ((0 : Int32), m) else fX11_isIn_31 FU (fX11_isIn_2 n) x1 x2 x3 ((1 : Int32)) ((0 : Int32)) m))
set_option maxRecDepth 20000 in
theorem kX11_isIn_2 {S : Sh} (hS : ShOK S) {res : Int32 × Me} (n : Nat) : ∀ {x1 : Int32} {x2 : Int32} {x3 : Int32} {m : Me}, fX11_isIn_2 n x1 x2 x3 m = some res → Inv m → TT InvS (Call 1) mX11_isIn (2, [(0, .ref 138), (1, .int x1), (2, .int x2), (3, .int x3)], [], S, m) (some (.int res.1)) (S, res.2) := by
  induction n with
  | zero => intro x1 x2 x3 m hf; cases hf
  | succ n ih =>
    intro x1 x2 x3 m hf  hI
    unfold fX11_isIn_2 at hf
    refine to_iload_n (q := 3) rfl dX11_isIn_2 rfl ?_
    refine to_aload_n (q := 4) rfl (by decide) dX11_isIn_3 rfl ?_
    refine to_getR (q := 7) (b := 141) (k0 := 11) (C := RX11) (T := TX11) (N := 37) (j := 15) rfl fx_X11_20 (h_138 hS) rfl (iv_138_15 hI) dX11_isIn_4 rfl ?_
    refine to_bipush (q := 9) bp_10 dX11_isIn_7 rfl ?_
    refine to_iload_n (q := 10) rfl dX11_isIn_9 rfl ?_
    refine to_iadd (q := 11) dX11_isIn_10 rfl ?_
    obtain ⟨hb1, hf⟩ := ck_some hf
    refine to_iaj (q := 12) (h_141 hS) hb1 (rfl) dX11_isIn_11 rfl ?_
    refine to_iadd (q := 13) dX11_isIn_12 rfl ?_
    refine to_aload_n (q := 14) rfl (by decide) dX11_isIn_13 rfl ?_
    refine to_getR (q := 17) (b := 141) (k0 := 11) (C := RX11) (T := TX11) (N := 37) (j := 15) rfl fx_X11_20 (h_138 hS) rfl (iv_138_15 hI) dX11_isIn_14 rfl ?_
    refine to_bipush (q := 19) bp_10 dX11_isIn_17 rfl ?_
    refine to_iload_n (q := 20) rfl dX11_isIn_19 rfl ?_
    refine to_iadd (q := 21) dX11_isIn_20 rfl ?_
    obtain ⟨hb2, hf⟩ := ck_some hf
    refine to_iaj (q := 22) (h_141 hS) hb2 (rfl) dX11_isIn_21 rfl ?_
    by_cases h3 : (m.1 141 ((10 : Int32) + x2).toNatClampNeg) < (x3 + (m.1 141 ((10 : Int32) + x1).toNatClampNeg))
    · have hf := ite_pos h3 hf
      refine to_icT (q := 95) (op := .gt) h3 dX11_isIn_22 rfl ?_
      refine to_iconst (q := 96) ic_0 dX11_isIn_95 rfl ?_
      cases hf
      exact to_iret dX11_isIn_96 rfl (by decide) rfl rfl hI
    · have hf := ite_neg h3 hf
      refine to_icF (q := 25) (op := .gt) 95 h3 dX11_isIn_22 rfl rfl ?_
      refine to_iconst (q := 26) ic_1 dX11_isIn_25 rfl ?_
      refine to_istore (q := 28) [(4, .int (1 : Int32)), (0, .ref 138), (1, .int x1), (2, .int x2), (3, .int x3)] rfl (by decide) dX11_isIn_26 rfl ?_
      refine to_iconst (q := 29) ic_0 dX11_isIn_28 rfl ?_
      refine to_istore (q := 31) [(5, .int (0 : Int32)), (4, .int (1 : Int32)), (0, .ref 138), (1, .int x1), (2, .int x2), (3, .int x3)] rfl (by decide) dX11_isIn_29 rfl ?_
      exact to_ext [(0, .ref 138), (1, .int x1), (2, .int x2), (3, .int x3), (4, .int (1 : Int32)), (5, .int (0 : Int32))] (ext_cons rfl (ext_cons rfl (ext_cons rfl (ext_cons rfl (ext_cons rfl (ext_cons rfl ext_nil)))))) (kX11_isIn_31 hS ih FU hf hI)
def fX11_isIn (x1 : Int32) (x2 : Int32) (m : Me) : Option (Int32 × Me) := fX11_isIn_2 FU x1 x2 ((0 : Int32)) m
set_option maxRecDepth 20000 in
theorem kX11_isIn {S : Sh} (hS : ShOK S) {res : Int32 × Me} {x1 : Int32} {x2 : Int32} {m : Me} (hf : fX11_isIn x1 x2 m = some res) (hI : Inv m) : Call 2 mX11_isIn [.ref 138, .int x1, .int x2] (S, m) (some (.int res.1)) (S, res.2) ∧ Inv res.2 := by
  refine call_of (P := InvS) (Nat.le_of_ble_eq_true rfl) (by simp [Value.category]) ?_
  show TT InvS (Call 1) mX11_isIn (0, [(0, .ref 138), (1, .int x1), (2, .int x2)], [], S, m) _ _
  unfold fX11_isIn at hf
  refine to_iconst (q := 1) ic_0 dX11_isIn_0 rfl ?_
  refine to_istore_n (q := 2) [(3, .int (0 : Int32)), (0, .ref 138), (1, .int x1), (2, .int x2)] rfl (by decide) dX11_isIn_1 rfl ?_
  exact to_ext [(0, .ref 138), (1, .int x1), (2, .int x2), (3, .int (0 : Int32))] (ext_cons rfl (ext_cons rfl (ext_cons rfl (ext_cons rfl ext_nil)))) (kX11_isIn_2 hS FU hf hI)
def fX11_overlap_112 (k46 : Int32 → Int32 → Int32 → Me → Option (Int32 × Me)) (x1 : Int32) (x2 : Int32) (x4 : Int32) (x5 : Int32) (m : Me) : Option (Int32 × Me) := if x5 = (0 : Int32) then k46 x1 x2 ((x4 + (-1 : Int32))) m else some (x4, m)
set_option maxRecDepth 20000 in
theorem kX11_overlap_112 {S : Sh} (hS : ShOK S) {res : Int32 × Me} {k46 : Int32 → Int32 → Int32 → Me → Option (Int32 × Me)} (hk46 : ∀ {x1 : Int32} {x2 : Int32} {x4 : Int32} {m : Me}, k46 x1 x2 x4 m = some res → Inv m → TT InvS (Call 1) mX11_overlap (46, [(0, .ref 138), (1, .int x1), (2, .int x2), (4, .int x4)], [], S, m) (some (.int res.1)) (S, res.2)) {x1 : Int32} {x2 : Int32} {x4 : Int32} {x5 : Int32} {m : Me} (hf : fX11_overlap_112 k46 x1 x2 x4 x5 m = some res) (hI : Inv m) : TT InvS (Call 1) mX11_overlap (112, [(0, .ref 138), (1, .int x1), (2, .int x2), (4, .int x4), (5, .int x5)], [], S, m) (some (.int res.1)) (S, res.2) := by
  unfold fX11_overlap_112 at hf
  refine to_iload (q := 114) rfl dX11_overlap_112 rfl ?_
  by_cases h19 : x5 = (0 : Int32)
  · have hf := ite_pos h19 hf
    refine to_ifT (q := 120) (op := .eq) h19 dX11_overlap_114 rfl ?_
    refine to_iinc (q := 123) (v := (x4 + (-1 : Int32))) rfl (congrArg (fun z => x4 + z) ic_m1) [(4, .int (x4 + (-1 : Int32))), (0, .ref 138), (1, .int x1), (2, .int x2), (5, .int x5)] rfl (by decide) dX11_overlap_120 rfl ?_
    refine to_goto (q := 46) dX11_overlap_123 rfl ?_
    exact to_ext [(0, .ref 138), (1, .int x1), (2, .int x2), (4, .int (x4 + (-1 : Int32)))] (ext_cons rfl (ext_cons rfl (ext_cons rfl (ext_cons rfl ext_nil)))) (hk46 hf hI)
  · have hf := ite_neg h19 hf
    refine to_ifF (q := 117) (op := .eq) 120 h19 dX11_overlap_114 rfl rfl ?_
    refine to_iload (q := 119) rfl dX11_overlap_117 rfl ?_
    cases hf
    exact to_iret dX11_overlap_119 rfl rfl rfl rfl hI
def fX11_overlap_104 (k46 : Int32 → Int32 → Int32 → Me → Option (Int32 × Me)) (k57 : Int32 → Int32 → Int32 → Int32 → Int32 → Me → Option (Int32 × Me)) (x1 : Int32) (x2 : Int32) (x4 : Int32) (x6 : Int32) (t0 : Int32) (m : Me) : Option (Int32 × Me) := k57 x1 x2 x4 t0 ((x6 + (1 : Int32))) m
set_option maxRecDepth 20000 in
theorem kX11_overlap_104 {S : Sh} (hS : ShOK S) {res : Int32 × Me} {k46 : Int32 → Int32 → Int32 → Me → Option (Int32 × Me)} (hk46 : ∀ {x1 : Int32} {x2 : Int32} {x4 : Int32} {m : Me}, k46 x1 x2 x4 m = some res → Inv m → TT InvS (Call 1) mX11_overlap (46, [(0, .ref 138), (1, .int x1), (2, .int x2), (4, .int x4)], [], S, m) (some (.int res.1)) (S, res.2)) {k57 : Int32 → Int32 → Int32 → Int32 → Int32 → Me → Option (Int32 × Me)} (hk57 : ∀ {x1 : Int32} {x2 : Int32} {x4 : Int32} {x5 : Int32} {x6 : Int32} {m : Me}, k57 x1 x2 x4 x5 x6 m = some res → Inv m → TT InvS (Call 1) mX11_overlap (57, [(0, .ref 138), (1, .int x1), (2, .int x2), (4, .int x4), (5, .int x5), (6, .int x6)], [], S, m) (some (.int res.1)) (S, res.2)) {x1 : Int32} {x2 : Int32} {x4 : Int32} {x6 : Int32} {t0 : Int32} {m : Me} (hf : fX11_overlap_104 k46 k57 x1 x2 x4 x6 t0 m = some res) (hI : Inv m) : TT InvS (Call 1) mX11_overlap (104, [(0, .ref 138), (1, .int x1), (2, .int x2), (4, .int x4), (6, .int x6)], [.int t0], S, m) (some (.int res.1)) (S, res.2) := by
  unfold fX11_overlap_104 at hf
  refine to_istore (q := 106) [(5, .int t0), (0, .ref 138), (1, .int x1), (2, .int x2), (4, .int x4), (6, .int x6)] rfl (by decide) dX11_overlap_104 rfl ?_
  refine to_iinc (q := 109) (v := (x6 + (1 : Int32))) rfl (congrArg (fun z => x6 + z) ic_1) [(6, .int (x6 + (1 : Int32))), (5, .int t0), (0, .ref 138), (1, .int x1), (2, .int x2), (4, .int x4)] rfl (by decide) dX11_overlap_106 rfl ?_
  refine to_goto (q := 57) dX11_overlap_109 rfl ?_
  exact to_ext [(0, .ref 138), (1, .int x1), (2, .int x2), (4, .int x4), (5, .int t0), (6, .int (x6 + (1 : Int32)))] (ext_cons rfl (ext_cons rfl (ext_cons rfl (ext_cons rfl (ext_cons rfl (ext_cons rfl ext_nil)))))) (hk57 hf hI)
def fX11_overlap_57 (n : Nat) (k46 : Int32 → Int32 → Int32 → Me → Option (Int32 × Me)) (x1 : Int32) (x2 : Int32) (x4 : Int32) (x5 : Int32) (x6 : Int32) (m : Me) : Option (Int32 × Me) := match n with
  | 0 => none
  | n + 1 => if x4 ≤ x6 then fX11_overlap_112 k46 x1 x2 x4 x5 m else if x5 = (0 : Int32) then fX11_overlap_112 k46 x1 x2 x4 x5 m else ck (inb ((10 : Int32) + x1) 186) (cl2 (fX11_letterOf x1 ((((m.1 141 ((10 : Int32) + x1).toNatClampNeg) - x4) + x6)) m) fun r12 m13 => cl2 (fX11_letterOf x2 x6 m13) fun r16 m17 => if r12 = r16 then fX11_overlap_104 k46 (fX11_overlap_57 n k46) x1 x2 x4 x6 ((1 : Int32)) m17 else fX11_overlap_104 k46 (fX11_overlap_57 n k46) x1 x2 x4 x6 ((0 : Int32)) m17)
set_option maxRecDepth 20000 in
theorem kX11_overlap_57 {S : Sh} (hS : ShOK S) {res : Int32 × Me} {k46 : Int32 → Int32 → Int32 → Me → Option (Int32 × Me)} (hk46 : ∀ {x1 : Int32} {x2 : Int32} {x4 : Int32} {m : Me}, k46 x1 x2 x4 m = some res → Inv m → TT InvS (Call 1) mX11_overlap (46, [(0, .ref 138), (1, .int x1), (2, .int x2), (4, .int x4)], [], S, m) (some (.int res.1)) (S, res.2)) (n : Nat) : ∀ {x1 : Int32} {x2 : Int32} {x4 : Int32} {x5 : Int32} {x6 : Int32} {m : Me}, fX11_overlap_57 n k46 x1 x2 x4 x5 x6 m = some res → Inv m → TT InvS (Call 1) mX11_overlap (57, [(0, .ref 138), (1, .int x1), (2, .int x2), (4, .int x4), (5, .int x5), (6, .int x6)], [], S, m) (some (.int res.1)) (S, res.2) := by
  induction n with
  | zero => intro x1 x2 x4 x5 x6 m hf; cases hf
  | succ n ih =>
    intro x1 x2 x4 x5 x6 m hf  hI
    unfold fX11_overlap_57 at hf
    refine to_iload (q := 59) rfl dX11_overlap_57 rfl ?_
    refine to_iload (q := 61) rfl dX11_overlap_59 rfl ?_
    by_cases h7 : x4 ≤ x6
    · have hf := ite_pos h7 hf
      refine to_icT (q := 112) (op := .ge) h7 dX11_overlap_61 rfl ?_
      exact to_ext [(0, .ref 138), (1, .int x1), (2, .int x2), (4, .int x4), (5, .int x5)] (ext_cons rfl (ext_cons rfl (ext_cons rfl (ext_cons rfl (ext_cons rfl ext_nil))))) (kX11_overlap_112 hS hk46 hf hI)
    · have hf := ite_neg h7 hf
      refine to_icF (q := 64) (op := .ge) 112 h7 dX11_overlap_61 rfl rfl ?_
      refine to_iload (q := 66) rfl dX11_overlap_64 rfl ?_
      by_cases h8 : x5 = (0 : Int32)
      · have hf := ite_pos h8 hf
        refine to_ifT (q := 112) (op := .eq) h8 dX11_overlap_66 rfl ?_
        exact to_ext [(0, .ref 138), (1, .int x1), (2, .int x2), (4, .int x4), (5, .int x5)] (ext_cons rfl (ext_cons rfl (ext_cons rfl (ext_cons rfl (ext_cons rfl ext_nil))))) (kX11_overlap_112 hS hk46 hf hI)
      · have hf := ite_neg h8 hf
        refine to_ifF (q := 69) (op := .eq) 112 h8 dX11_overlap_66 rfl rfl ?_
        refine to_aload_n (q := 70) rfl (by decide) dX11_overlap_69 rfl ?_
        refine to_iload_n (q := 71) rfl dX11_overlap_70 rfl ?_
        refine to_aload_n (q := 72) rfl (by decide) dX11_overlap_71 rfl ?_
        refine to_getR (q := 75) (b := 141) (k0 := 11) (C := RX11) (T := TX11) (N := 37) (j := 15) rfl fx_X11_20 (h_138 hS) rfl (iv_138_15 hI) dX11_overlap_72 rfl ?_
        refine to_bipush (q := 77) bp_10 dX11_overlap_75 rfl ?_
        refine to_iload_n (q := 78) rfl dX11_overlap_77 rfl ?_
        refine to_iadd (q := 79) dX11_overlap_78 rfl ?_
        obtain ⟨hb9, hf⟩ := ck_some hf
        refine to_iaj (q := 80) (h_141 hS) hb9 (rfl) dX11_overlap_79 rfl ?_
        refine to_iload (q := 82) rfl dX11_overlap_80 rfl ?_
        refine to_isub (q := 83) dX11_overlap_82 rfl ?_
        refine to_iload (q := 85) rfl dX11_overlap_83 rfl ?_
        refine to_iadd (q := 86) dX11_overlap_85 rfl ?_
        obtain ⟨r12, m13, hc10, hf⟩ := cl2_some hf
        have qc11 := kX11_letterOf hS hc10 hI
        refine to_virtI (q := 89) mX11_letterOf [.int x1, .int (((m.1 141 ((10 : Int32) + x1).toNatClampNeg) - x4) + x6)] dX11_overlap_86 rfl rfl (Nat.le_of_ble_eq_true rfl) mo_X11_letterOf mv_X11_350 (Or.inl ⟨_, _, _, h_138 hS, rfl, rfl⟩) (Call_mono (by decide) qc11.1) ?_
        have hI := qc11.2
        refine to_aload_n (q := 90) rfl (by decide) dX11_overlap_89 rfl ?_
        refine to_iload_n (q := 91) rfl dX11_overlap_90 rfl ?_
        refine to_iload (q := 93) rfl dX11_overlap_91 rfl ?_
        obtain ⟨r16, m17, hc14, hf⟩ := cl2_some hf
        have qc15 := kX11_letterOf hS hc14 hI
        refine to_virtI (q := 96) mX11_letterOf [.int x2, .int x6] dX11_overlap_93 rfl rfl (Nat.le_of_ble_eq_true rfl) mo_X11_letterOf mv_X11_350 (Or.inl ⟨_, _, _, h_138 hS, rfl, rfl⟩) (Call_mono (by decide) qc15.1) ?_
        have hI := qc15.2
        by_cases h18 : r12 = r16
        · have hf := ite_pos h18 hf
          refine to_icF (q := 99) (op := .ne) 103 (fun z => z h18) dX11_overlap_96 rfl rfl ?_
          refine to_iconst (q := 100) ic_1 dX11_overlap_99 rfl ?_
          refine to_goto (q := 104) dX11_overlap_100 rfl ?_
          exact to_ext [(0, .ref 138), (1, .int x1), (2, .int x2), (4, .int x4), (6, .int x6)] (ext_cons rfl (ext_cons rfl (ext_cons rfl (ext_cons rfl (ext_cons rfl ext_nil))))) (kX11_overlap_104 hS hk46 ih hf hI)
        · have hf := ite_neg h18 hf
          refine to_icT (q := 103) (op := .ne) h18 dX11_overlap_96 rfl ?_
          refine to_iconst (q := 104) ic_0 dX11_overlap_103 rfl ?_
          exact to_ext [(0, .ref 138), (1, .int x1), (2, .int x2), (4, .int x4), (6, .int x6)] (ext_cons rfl (ext_cons rfl (ext_cons rfl (ext_cons rfl (ext_cons rfl ext_nil))))) (kX11_overlap_104 hS hk46 ih hf hI)
def fX11_overlap_46 (n : Nat) (x1 : Int32) (x2 : Int32) (x4 : Int32) (m : Me) : Option (Int32 × Me) := match n with
  | 0 => none
  | n + 1 => if x4 ≤ (0 : Int32) then some ((0 : Int32), m) else fX11_overlap_57 FU (fX11_overlap_46 n) x1 x2 x4 ((1 : Int32)) ((0 : Int32)) m
set_option maxRecDepth 20000 in
theorem kX11_overlap_46 {S : Sh} (hS : ShOK S) {res : Int32 × Me} (n : Nat) : ∀ {x1 : Int32} {x2 : Int32} {x4 : Int32} {m : Me}, fX11_overlap_46 n x1 x2 x4 m = some res → Inv m → TT InvS (Call 1) mX11_overlap (46, [(0, .ref 138), (1, .int x1), (2, .int x2), (4, .int x4)], [], S, m) (some (.int res.1)) (S, res.2) := by
  induction n with
  | zero => intro x1 x2 x4 m hf; cases hf
  | succ n ih =>
    intro x1 x2 x4 m hf  hI
    unfold fX11_overlap_46 at hf
    refine to_iload (q := 48) rfl dX11_overlap_46 rfl ?_
    by_cases h6 : x4 ≤ (0 : Int32)
    · have hf := ite_pos h6 hf
      refine to_ifT (q := 126) (op := .le) h6 dX11_overlap_48 rfl ?_
      refine to_iconst (q := 127) ic_0 dX11_overlap_126 rfl ?_
      cases hf
      exact to_iret dX11_overlap_127 rfl rfl rfl rfl hI
    · have hf := ite_neg h6 hf
      refine to_ifF (q := 51) (op := .le) 126 h6 dX11_overlap_48 rfl rfl ?_
      refine to_iconst (q := 52) ic_1 dX11_overlap_51 rfl ?_
      refine to_istore (q := 54) [(5, .int (1 : Int32)), (0, .ref 138), (1, .int x1), (2, .int x2), (4, .int x4)] rfl (by decide) dX11_overlap_52 rfl ?_
      refine to_iconst (q := 55) ic_0 dX11_overlap_54 rfl ?_
      refine to_istore (q := 57) [(6, .int (0 : Int32)), (5, .int (1 : Int32)), (0, .ref 138), (1, .int x1), (2, .int x2), (4, .int x4)] rfl (by decide) dX11_overlap_55 rfl ?_
      exact to_ext [(0, .ref 138), (1, .int x1), (2, .int x2), (4, .int x4), (5, .int (1 : Int32)), (6, .int (0 : Int32))] (ext_cons rfl (ext_cons rfl (ext_cons rfl (ext_cons rfl (ext_cons rfl (ext_cons rfl ext_nil)))))) (kX11_overlap_57 hS ih FU hf hI)
def fX11_overlap_42 (x1 : Int32) (x2 : Int32) (t0 : Int32) (m : Me) : Option (Int32 × Me) := fX11_overlap_46 FU x1 x2 t0 m
set_option maxRecDepth 20000 in
theorem kX11_overlap_42 {S : Sh} (hS : ShOK S) {res : Int32 × Me} {x1 : Int32} {x2 : Int32} {t0 : Int32} {m : Me} (hf : fX11_overlap_42 x1 x2 t0 m = some res) (hI : Inv m) : TT InvS (Call 1) mX11_overlap (42, [(0, .ref 138), (1, .int x1), (2, .int x2)], [.int t0], S, m) (some (.int res.1)) (S, res.2) := by
  unfold fX11_overlap_42 at hf
  refine to_istore_n (q := 43) [(3, .int t0), (0, .ref 138), (1, .int x1), (2, .int x2)] rfl (by decide) dX11_overlap_42 rfl ?_
  refine to_iload_n (q := 44) rfl dX11_overlap_43 rfl ?_
  refine to_istore (q := 46) [(4, .int t0), (3, .int t0), (0, .ref 138), (1, .int x1), (2, .int x2)] rfl (by decide) dX11_overlap_44 rfl ?_
  exact to_ext [(0, .ref 138), (1, .int x1), (2, .int x2), (4, .int t0)] (ext_cons rfl (ext_cons rfl (ext_cons rfl (ext_cons rfl ext_nil)))) (kX11_overlap_46 hS FU hf hI)
def fX11_overlap (x1 : Int32) (x2 : Int32) (m : Me) : Option (Int32 × Me) := ck (inb ((10 : Int32) + x1) 186) (ck (inb ((10 : Int32) + x2) 186) (if (m.1 141 ((10 : Int32) + x2).toNatClampNeg) ≤ (m.1 141 ((10 : Int32) + x1).toNatClampNeg) then ck (inb ((10 : Int32) + x2) 186) (fX11_overlap_42 x1 x2 ((m.1 141 ((10 : Int32) + x2).toNatClampNeg)) m) else ck (inb ((10 : Int32) + x1) 186) (fX11_overlap_42 x1 x2 ((m.1 141 ((10 : Int32) + x1).toNatClampNeg)) m)))
set_option maxRecDepth 20000 in
theorem kX11_overlap {S : Sh} (hS : ShOK S) {res : Int32 × Me} {x1 : Int32} {x2 : Int32} {m : Me} (hf : fX11_overlap x1 x2 m = some res) (hI : Inv m) : Call 2 mX11_overlap [.ref 138, .int x1, .int x2] (S, m) (some (.int res.1)) (S, res.2) ∧ Inv res.2 := by
  refine call_of (P := InvS) (Nat.le_of_ble_eq_true rfl) (by simp [Value.category]) ?_
  show TT InvS (Call 1) mX11_overlap (0, [(0, .ref 138), (1, .int x1), (2, .int x2)], [], S, m) _ _
  unfold fX11_overlap at hf
  refine to_aload_n (q := 1) rfl (by decide) dX11_overlap_0 rfl ?_
  refine to_getR (q := 4) (b := 141) (k0 := 11) (C := RX11) (T := TX11) (N := 37) (j := 15) rfl fx_X11_20 (h_138 hS) rfl (iv_138_15 hI) dX11_overlap_1 rfl ?_
  refine to_bipush (q := 6) bp_10 dX11_overlap_4 rfl ?_
  refine to_iload_n (q := 7) rfl dX11_overlap_6 rfl ?_
  refine to_iadd (q := 8) dX11_overlap_7 rfl ?_
  obtain ⟨hb1, hf⟩ := ck_some hf
  refine to_iaj (q := 9) (h_141 hS) hb1 (rfl) dX11_overlap_8 rfl ?_
  refine to_aload_n (q := 10) rfl (by decide) dX11_overlap_9 rfl ?_
  refine to_getR (q := 13) (b := 141) (k0 := 11) (C := RX11) (T := TX11) (N := 37) (j := 15) rfl fx_X11_20 (h_138 hS) rfl (iv_138_15 hI) dX11_overlap_10 rfl ?_
  refine to_bipush (q := 15) bp_10 dX11_overlap_13 rfl ?_
  refine to_iload_n (q := 16) rfl dX11_overlap_15 rfl ?_
  refine to_iadd (q := 17) dX11_overlap_16 rfl ?_
  obtain ⟨hb2, hf⟩ := ck_some hf
  refine to_iaj (q := 18) (h_141 hS) hb2 (rfl) dX11_overlap_17 rfl ?_
  by_cases h3 : (m.1 141 ((10 : Int32) + x2).toNatClampNeg) ≤ (m.1 141 ((10 : Int32) + x1).toNatClampNeg)
  · have hf := ite_pos h3 hf
    refine to_icT (q := 33) (op := .ge) h3 dX11_overlap_18 rfl ?_
    refine to_aload_n (q := 34) rfl (by decide) dX11_overlap_33 rfl ?_
    refine to_getR (q := 37) (b := 141) (k0 := 11) (C := RX11) (T := TX11) (N := 37) (j := 15) rfl fx_X11_20 (h_138 hS) rfl (iv_138_15 hI) dX11_overlap_34 rfl ?_
    refine to_bipush (q := 39) bp_10 dX11_overlap_37 rfl ?_
    refine to_iload_n (q := 40) rfl dX11_overlap_39 rfl ?_
    refine to_iadd (q := 41) dX11_overlap_40 rfl ?_
    obtain ⟨hb4, hf⟩ := ck_some hf
    refine to_iaj (q := 42) (h_141 hS) hb4 (rfl) dX11_overlap_41 rfl ?_
    exact to_ext [(0, .ref 138), (1, .int x1), (2, .int x2)] (ext_cons rfl (ext_cons rfl (ext_cons rfl ext_nil))) (kX11_overlap_42 hS hf hI)
  · have hf := ite_neg h3 hf
    refine to_icF (q := 21) (op := .ge) 33 h3 dX11_overlap_18 rfl rfl ?_
    refine to_aload_n (q := 22) rfl (by decide) dX11_overlap_21 rfl ?_
    refine to_getR (q := 25) (b := 141) (k0 := 11) (C := RX11) (T := TX11) (N := 37) (j := 15) rfl fx_X11_20 (h_138 hS) rfl (iv_138_15 hI) dX11_overlap_22 rfl ?_
    refine to_bipush (q := 27) bp_10 dX11_overlap_25 rfl ?_
    refine to_iload_n (q := 28) rfl dX11_overlap_27 rfl ?_
    refine to_iadd (q := 29) dX11_overlap_28 rfl ?_
    obtain ⟨hb5, hf⟩ := ck_some hf
    refine to_iaj (q := 30) (h_141 hS) hb5 (rfl) dX11_overlap_29 rfl ?_
    refine to_goto (q := 42) dX11_overlap_30 rfl ?_
    exact to_ext [(0, .ref 138), (1, .int x1), (2, .int x2)] (ext_cons rfl (ext_cons rfl (ext_cons rfl ext_nil))) (kX11_overlap_42 hS hf hI)
def fX11_rowOf_378 (k114 : Int32 → Int32 → Int32 → Me → Option (Int32 × Me)) (x2 : Int32) (x3 : Int32) (x4 : Int32) (m : Me) : Option (Int32 × Me) := k114 x2 x3 ((x4 + (1 : Int32))) m
set_option maxRecDepth 20000 in
theorem kX11_rowOf_378 {S : Sh} (hS : ShOK S) {res : Int32 × Me} {k114 : Int32 → Int32 → Int32 → Me → Option (Int32 × Me)} (hk114 : ∀ {x2 : Int32} {x3 : Int32} {x4 : Int32} {m : Me}, k114 x2 x3 x4 m = some res → Inv m → TT InvS (Call 2) mX11_rowOf (114, [(0, .ref 138), (2, .int x2), (3, .int x3), (4, .int x4)], [], S, m) (some (.int res.1)) (S, res.2)) {x2 : Int32} {x3 : Int32} {x4 : Int32} {m : Me} (hf : fX11_rowOf_378 k114 x2 x3 x4 m = some res) (hI : Inv m) : TT InvS (Call 2) mX11_rowOf (378, [(0, .ref 138), (2, .int x2), (3, .int x3), (4, .int x4)], [], S, m) (some (.int res.1)) (S, res.2) := by
  unfold fX11_rowOf_378 at hf
  refine to_iinc (q := 381) (v := (x4 + (1 : Int32))) rfl (congrArg (fun z => x4 + z) ic_1) [(4, .int (x4 + (1 : Int32))), (0, .ref 138), (2, .int x2), (3, .int x3)] rfl (by decide) dX11_rowOf_378 rfl ?_
  refine to_goto (q := 114) dX11_rowOf_381 rfl ?_
  exact to_ext [(0, .ref 138), (2, .int x2), (3, .int x3), (4, .int (x4 + (1 : Int32)))] (ext_cons rfl (ext_cons rfl (ext_cons rfl (ext_cons rfl ext_nil)))) (hk114 hf hI)
def fX11_rowOf_372 (k114 : Int32 → Int32 → Int32 → Me → Option (Int32 × Me)) (k123 : Int32 → Int32 → Int32 → Int32 → Me → Option (Int32 × Me)) (x2 : Int32) (x3 : Int32) (x4 : Int32) (x5 : Int32) (m : Me) : Option (Int32 × Me) := k123 x2 x3 x4 ((x5 + (1 : Int32))) m
set_option maxRecDepth 20000 in
theorem kX11_rowOf_372 {S : Sh} (hS : ShOK S) {res : Int32 × Me} {k114 : Int32 → Int32 → Int32 → Me → Option (Int32 × Me)} (hk114 : ∀ {x2 : Int32} {x3 : Int32} {x4 : Int32} {m : Me}, k114 x2 x3 x4 m = some res → Inv m → TT InvS (Call 2) mX11_rowOf (114, [(0, .ref 138), (2, .int x2), (3, .int x3), (4, .int x4)], [], S, m) (some (.int res.1)) (S, res.2)) {k123 : Int32 → Int32 → Int32 → Int32 → Me → Option (Int32 × Me)} (hk123 : ∀ {x2 : Int32} {x3 : Int32} {x4 : Int32} {x5 : Int32} {m : Me}, k123 x2 x3 x4 x5 m = some res → Inv m → TT InvS (Call 2) mX11_rowOf (123, [(0, .ref 138), (2, .int x2), (3, .int x3), (4, .int x4), (5, .int x5)], [], S, m) (some (.int res.1)) (S, res.2)) {x2 : Int32} {x3 : Int32} {x4 : Int32} {x5 : Int32} {m : Me} (hf : fX11_rowOf_372 k114 k123 x2 x3 x4 x5 m = some res) (hI : Inv m) : TT InvS (Call 2) mX11_rowOf (372, [(0, .ref 138), (2, .int x2), (3, .int x3), (4, .int x4), (5, .int x5)], [], S, m) (some (.int res.1)) (S, res.2) := by
  unfold fX11_rowOf_372 at hf
  refine to_iinc (q := 375) (v := (x5 + (1 : Int32))) rfl (congrArg (fun z => x5 + z) ic_1) [(5, .int (x5 + (1 : Int32))), (0, .ref 138), (2, .int x2), (3, .int x3), (4, .int x4)] rfl (by decide) dX11_rowOf_372 rfl ?_
  refine to_goto (q := 123) dX11_rowOf_375 rfl ?_
  exact to_ext [(0, .ref 138), (2, .int x2), (3, .int x3), (4, .int x4), (5, .int (x5 + (1 : Int32)))] (ext_cons rfl (ext_cons rfl (ext_cons rfl (ext_cons rfl (ext_cons rfl ext_nil))))) (hk123 hf hI)
def fX11_rowOf_325 (k114 : Int32 → Int32 → Int32 → Me → Option (Int32 × Me)) (k123 : Int32 → Int32 → Int32 → Int32 → Me → Option (Int32 × Me)) (x2 : Int32) (x3 : Int32) (x4 : Int32) (x5 : Int32) (m : Me) : Option (Int32 × Me) := if x4 = x2 then cl2 (fX11_has x4 x5 m) fun r55 m56 => if r55 = (0 : Int32) then fX11_rowOf_372 k114 k123 x2 x3 x4 x5 m56 else ck (inb (((6 : Int32) * x4) + x5) 384) (if x3 ≤ (m56.1 153 (((6 : Int32) * x4) + x5).toNatClampNeg) then fX11_rowOf_372 k114 k123 x2 x3 x4 x5 m56 else ck (inb (((6 : Int32) * x4) + x5) 384) (fX11_rowOf_372 k114 k123 x2 ((m56.1 153 (((6 : Int32) * x4) + x5).toNatClampNeg)) x4 x5 m56)) else fX11_rowOf_372 k114 k123 x2 x3 x4 x5 m
set_option maxRecDepth 20000 in
theorem kX11_rowOf_325 {S : Sh} (hS : ShOK S) {res : Int32 × Me} {k114 : Int32 → Int32 → Int32 → Me → Option (Int32 × Me)} (hk114 : ∀ {x2 : Int32} {x3 : Int32} {x4 : Int32} {m : Me}, k114 x2 x3 x4 m = some res → Inv m → TT InvS (Call 2) mX11_rowOf (114, [(0, .ref 138), (2, .int x2), (3, .int x3), (4, .int x4)], [], S, m) (some (.int res.1)) (S, res.2)) {k123 : Int32 → Int32 → Int32 → Int32 → Me → Option (Int32 × Me)} (hk123 : ∀ {x2 : Int32} {x3 : Int32} {x4 : Int32} {x5 : Int32} {m : Me}, k123 x2 x3 x4 x5 m = some res → Inv m → TT InvS (Call 2) mX11_rowOf (123, [(0, .ref 138), (2, .int x2), (3, .int x3), (4, .int x4), (5, .int x5)], [], S, m) (some (.int res.1)) (S, res.2)) {x2 : Int32} {x3 : Int32} {x4 : Int32} {x5 : Int32} {m : Me} (hf : fX11_rowOf_325 k114 k123 x2 x3 x4 x5 m = some res) (hI : Inv m) : TT InvS (Call 2) mX11_rowOf (325, [(0, .ref 138), (2, .int x2), (3, .int x3), (4, .int x4), (5, .int x5)], [], S, m) (some (.int res.1)) (S, res.2) := by
  unfold fX11_rowOf_325 at hf
  refine to_iload (q := 327) rfl dX11_rowOf_325 rfl ?_
  refine to_iload_n (q := 328) rfl dX11_rowOf_327 rfl ?_
  by_cases h52 : x4 = x2
  · have hf := ite_pos h52 hf
    refine to_icF (q := 331) (op := .ne) 372 (fun z => z h52) dX11_rowOf_328 rfl rfl ?_
    refine to_iload (q := 333) rfl dX11_rowOf_331 rfl ?_
    refine to_iload (q := 335) rfl dX11_rowOf_333 rfl ?_
    obtain ⟨r55, m56, hc53, hf⟩ := cl2_some hf
    have qc54 := kX11_has hS hc53 hI
    refine to_statI (q := 338) mX11_has [.int x4, .int x5] dX11_rowOf_335 rfl rfl (Nat.le_of_ble_eq_true rfl) mo_X11_has (Or.inl ml_X11_259) sa_X11_has (Call_mono (by decide) qc54.1) ?_
    have hI := qc54.2
    by_cases h57 : r55 = (0 : Int32)
    · have hf := ite_pos h57 hf
      refine to_ifT (q := 372) (op := .eq) h57 dX11_rowOf_338 rfl ?_
      exact to_ext [(0, .ref 138), (2, .int x2), (3, .int x3), (4, .int x4), (5, .int x5)] (ext_cons rfl (ext_cons rfl (ext_cons rfl (ext_cons rfl (ext_cons rfl ext_nil))))) (kX11_rowOf_372 hS hk114 hk123 hf hI)
    · have hf := ite_neg h57 hf
      refine to_ifF (q := 341) (op := .eq) 372 h57 dX11_rowOf_338 rfl rfl ?_
      refine to_aload_n (q := 342) rfl (by decide) dX11_rowOf_341 rfl ?_
      refine to_getR (q := 345) (b := 153) (k0 := 11) (C := RX11) (T := TX11) (N := 37) (j := 32) rfl fx_X11_56 (h_138 hS) rfl (iv_138_32 hI) dX11_rowOf_342 rfl ?_
      refine to_bipush (q := 347) bp_6 dX11_rowOf_345 rfl ?_
      refine to_iload (q := 349) rfl dX11_rowOf_347 rfl ?_
      refine to_imul (q := 350) dX11_rowOf_349 rfl ?_
      refine to_iload (q := 352) rfl dX11_rowOf_350 rfl ?_
      refine to_iadd (q := 353) dX11_rowOf_352 rfl ?_
      obtain ⟨hb58, hf⟩ := ck_some hf
      refine to_iaj (q := 354) (h_153 hS) hb58 (rfl) dX11_rowOf_353 rfl ?_
      refine to_iload_n (q := 355) rfl dX11_rowOf_354 rfl ?_
      by_cases h59 : x3 ≤ (m56.1 153 (((6 : Int32) * x4) + x5).toNatClampNeg)
      · have hf := ite_pos h59 hf
        refine to_icT (q := 372) (op := .ge) h59 dX11_rowOf_355 rfl ?_
        exact to_ext [(0, .ref 138), (2, .int x2), (3, .int x3), (4, .int x4), (5, .int x5)] (ext_cons rfl (ext_cons rfl (ext_cons rfl (ext_cons rfl (ext_cons rfl ext_nil))))) (kX11_rowOf_372 hS hk114 hk123 hf hI)
      · have hf := ite_neg h59 hf
        refine to_icF (q := 358) (op := .ge) 372 h59 dX11_rowOf_355 rfl rfl ?_
        refine to_aload_n (q := 359) rfl (by decide) dX11_rowOf_358 rfl ?_
        refine to_getR (q := 362) (b := 153) (k0 := 11) (C := RX11) (T := TX11) (N := 37) (j := 32) rfl fx_X11_56 (h_138 hS) rfl (iv_138_32 hI) dX11_rowOf_359 rfl ?_
        refine to_bipush (q := 364) bp_6 dX11_rowOf_362 rfl ?_
        refine to_iload (q := 366) rfl dX11_rowOf_364 rfl ?_
        refine to_imul (q := 367) dX11_rowOf_366 rfl ?_
        refine to_iload (q := 369) rfl dX11_rowOf_367 rfl ?_
        refine to_iadd (q := 370) dX11_rowOf_369 rfl ?_
        obtain ⟨hb60, hf⟩ := ck_some hf
        refine to_iaj (q := 371) (h_153 hS) hb60 (rfl) dX11_rowOf_370 rfl ?_
        refine to_istore_n (q := 372) [(3, .int (m56.1 153 (((6 : Int32) * x4) + x5).toNatClampNeg)), (0, .ref 138), (2, .int x2), (4, .int x4), (5, .int x5)] rfl (by decide) dX11_rowOf_371 rfl ?_
        exact to_ext [(0, .ref 138), (2, .int x2), (3, .int (m56.1 153 (((6 : Int32) * x4) + x5).toNatClampNeg)), (4, .int x4), (5, .int x5)] (ext_cons rfl (ext_cons rfl (ext_cons rfl (ext_cons rfl (ext_cons rfl ext_nil))))) (kX11_rowOf_372 hS hk114 hk123 hf hI)
  · have hf := ite_neg h52 hf
    refine to_icT (q := 372) (op := .ne) h52 dX11_rowOf_328 rfl ?_
    exact to_ext [(0, .ref 138), (2, .int x2), (3, .int x3), (4, .int x4), (5, .int x5)] (ext_cons rfl (ext_cons rfl (ext_cons rfl (ext_cons rfl (ext_cons rfl ext_nil))))) (kX11_rowOf_372 hS hk114 hk123 hf hI)
def fX11_rowOf_319 (k114 : Int32 → Int32 → Int32 → Me → Option (Int32 × Me)) (k123 : Int32 → Int32 → Int32 → Int32 → Me → Option (Int32 × Me)) (k201 : Int32 → Int32 → Int32 → Int32 → Int32 → Int32 → Me → Option (Int32 × Me)) (x2 : Int32) (x3 : Int32) (x4 : Int32) (x5 : Int32) (x6 : Int32) (x7 : Int32) (m : Me) : Option (Int32 × Me) := k201 x2 x3 x4 x5 x6 ((x7 + (1 : Int32))) m
set_option maxRecDepth 20000 in
theorem kX11_rowOf_319 {S : Sh} (hS : ShOK S) {res : Int32 × Me} {k114 : Int32 → Int32 → Int32 → Me → Option (Int32 × Me)} (hk114 : ∀ {x2 : Int32} {x3 : Int32} {x4 : Int32} {m : Me}, k114 x2 x3 x4 m = some res → Inv m → TT InvS (Call 2) mX11_rowOf (114, [(0, .ref 138), (2, .int x2), (3, .int x3), (4, .int x4)], [], S, m) (some (.int res.1)) (S, res.2)) {k123 : Int32 → Int32 → Int32 → Int32 → Me → Option (Int32 × Me)} (hk123 : ∀ {x2 : Int32} {x3 : Int32} {x4 : Int32} {x5 : Int32} {m : Me}, k123 x2 x3 x4 x5 m = some res → Inv m → TT InvS (Call 2) mX11_rowOf (123, [(0, .ref 138), (2, .int x2), (3, .int x3), (4, .int x4), (5, .int x5)], [], S, m) (some (.int res.1)) (S, res.2)) {k201 : Int32 → Int32 → Int32 → Int32 → Int32 → Int32 → Me → Option (Int32 × Me)} (hk201 : ∀ {x2 : Int32} {x3 : Int32} {x4 : Int32} {x5 : Int32} {x6 : Int32} {x7 : Int32} {m : Me}, k201 x2 x3 x4 x5 x6 x7 m = some res → Inv m → TT InvS (Call 2) mX11_rowOf (201, [(0, .ref 138), (2, .int x2), (3, .int x3), (4, .int x4), (5, .int x5), (6, .int x6), (7, .int x7)], [], S, m) (some (.int res.1)) (S, res.2)) {x2 : Int32} {x3 : Int32} {x4 : Int32} {x5 : Int32} {x6 : Int32} {x7 : Int32} {m : Me} (hf : fX11_rowOf_319 k114 k123 k201 x2 x3 x4 x5 x6 x7 m = some res) (hI : Inv m) : TT InvS (Call 2) mX11_rowOf (319, [(0, .ref 138), (2, .int x2), (3, .int x3), (4, .int x4), (5, .int x5), (6, .int x6), (7, .int x7)], [], S, m) (some (.int res.1)) (S, res.2) := by
  unfold fX11_rowOf_319 at hf
  refine to_iinc (q := 322) (v := (x7 + (1 : Int32))) rfl (congrArg (fun z => x7 + z) ic_1) [(7, .int (x7 + (1 : Int32))), (0, .ref 138), (2, .int x2), (3, .int x3), (4, .int x4), (5, .int x5), (6, .int x6)] rfl (by decide) dX11_rowOf_319 rfl ?_
  refine to_goto (q := 201) dX11_rowOf_322 rfl ?_
  exact to_ext [(0, .ref 138), (2, .int x2), (3, .int x3), (4, .int x4), (5, .int x5), (6, .int x6), (7, .int (x7 + (1 : Int32)))] (ext_cons rfl (ext_cons rfl (ext_cons rfl (ext_cons rfl (ext_cons rfl (ext_cons rfl (ext_cons rfl ext_nil))))))) (hk201 hf hI)
def fX11_rowOf_318 (k114 : Int32 → Int32 → Int32 → Me → Option (Int32 × Me)) (k123 : Int32 → Int32 → Int32 → Int32 → Me → Option (Int32 × Me)) (k201 : Int32 → Int32 → Int32 → Int32 → Int32 → Int32 → Me → Option (Int32 × Me)) (x2 : Int32) (x3 : Int32) (x4 : Int32) (x5 : Int32) (x6 : Int32) (x7 : Int32) (t0 : Int32) (t1 : Int32) (m : Me) : Option (Int32 × Me) := ck (inb t1 384) (fX11_rowOf_319 k114 k123 k201 x2 x3 x4 x5 x6 x7 (setI m 153 t1.toNatClampNeg t0))
set_option maxRecDepth 20000 in
theorem kX11_rowOf_318 {S : Sh} (hS : ShOK S) {res : Int32 × Me} {k114 : Int32 → Int32 → Int32 → Me → Option (Int32 × Me)} (hk114 : ∀ {x2 : Int32} {x3 : Int32} {x4 : Int32} {m : Me}, k114 x2 x3 x4 m = some res → Inv m → TT InvS (Call 2) mX11_rowOf (114, [(0, .ref 138), (2, .int x2), (3, .int x3), (4, .int x4)], [], S, m) (some (.int res.1)) (S, res.2)) {k123 : Int32 → Int32 → Int32 → Int32 → Me → Option (Int32 × Me)} (hk123 : ∀ {x2 : Int32} {x3 : Int32} {x4 : Int32} {x5 : Int32} {m : Me}, k123 x2 x3 x4 x5 m = some res → Inv m → TT InvS (Call 2) mX11_rowOf (123, [(0, .ref 138), (2, .int x2), (3, .int x3), (4, .int x4), (5, .int x5)], [], S, m) (some (.int res.1)) (S, res.2)) {k201 : Int32 → Int32 → Int32 → Int32 → Int32 → Int32 → Me → Option (Int32 × Me)} (hk201 : ∀ {x2 : Int32} {x3 : Int32} {x4 : Int32} {x5 : Int32} {x6 : Int32} {x7 : Int32} {m : Me}, k201 x2 x3 x4 x5 x6 x7 m = some res → Inv m → TT InvS (Call 2) mX11_rowOf (201, [(0, .ref 138), (2, .int x2), (3, .int x3), (4, .int x4), (5, .int x5), (6, .int x6), (7, .int x7)], [], S, m) (some (.int res.1)) (S, res.2)) {x2 : Int32} {x3 : Int32} {x4 : Int32} {x5 : Int32} {x6 : Int32} {x7 : Int32} {t0 : Int32} {t1 : Int32} {m : Me} (hf : fX11_rowOf_318 k114 k123 k201 x2 x3 x4 x5 x6 x7 t0 t1 m = some res) (hI : Inv m) : TT InvS (Call 2) mX11_rowOf (318, [(0, .ref 138), (2, .int x2), (3, .int x3), (4, .int x4), (5, .int x5), (6, .int x6), (7, .int x7)], [.int t0, .int t1, .ref 153], S, m) (some (.int res.1)) (S, res.2) := by
  unfold fX11_rowOf_318 at hf
  obtain ⟨hb61, hf⟩ := ck_some hf
  refine to_iasj (q := 319) (h_153 hS) hb61 (rfl) dX11_rowOf_318 rfl ?_
  exact to_ext [(0, .ref 138), (2, .int x2), (3, .int x3), (4, .int x4), (5, .int x5), (6, .int x6), (7, .int x7)] (ext_cons rfl (ext_cons rfl (ext_cons rfl (ext_cons rfl (ext_cons rfl (ext_cons rfl (ext_cons rfl ext_nil))))))) (kX11_rowOf_319 hS hk114 hk123 hk201 hf hI)
def fX11_rowOf_201 (n : Nat) (k114 : Int32 → Int32 → Int32 → Me → Option (Int32 × Me)) (k123 : Int32 → Int32 → Int32 → Int32 → Me → Option (Int32 × Me)) (x2 : Int32) (x3 : Int32) (x4 : Int32) (x5 : Int32) (x6 : Int32) (x7 : Int32) (m : Me) : Option (Int32 × Me) := match n with
  | 0 => none
  | n + 1 => if (m.1 141 5) ≤ x7 then fX11_rowOf_325 k114 k123 x2 x3 x4 x5 m else cl2 (fX11_has x4 x5 m) fun r35 m36 => if r35 = (0 : Int32) then fX11_rowOf_325 k114 k123 x2 x3 x4 x5 m36 else cl2 (fX11_has x6 x7 m36) fun r40 m41 => if r40 = (0 : Int32) then fX11_rowOf_319 k114 k123 (fX11_rowOf_201 n k114 k123) x2 x3 x4 x5 x6 x7 m41 else ck (inb (((6 : Int32) * x6) + x7) 384) (ck (inb ((10 : Int32) + x5) 186) (cl2 (fX11_overlap x7 x5 m41) fun r47 m48 => ck (inb (((6 : Int32) * x4) + x5) 384) (if (m48.1 153 (((6 : Int32) * x4) + x5).toNatClampNeg) ≤ (((m41.1 153 (((6 : Int32) * x6) + x7).toNatClampNeg) + (m41.1 141 ((10 : Int32) + x5).toNatClampNeg)) - r47) then ck (inb (((6 : Int32) * x4) + x5) 384) (fX11_rowOf_318 k114 k123 (fX11_rowOf_201 n k114 k123) x2 x3 x4 x5 x6 x7 ((m48.1 153 (((6 : Int32) * x4) + x5).toNatClampNeg)) ((((6 : Int32) * x4) + x5)) m48) else fX11_rowOf_318 k114 k123 (fX11_rowOf_201 n k114 k123) x2 x3 x4 x5 x6 x7 ((((m41.1 153 (((6 : Int32) * x6) + x7).toNatClampNeg) + (m41.1 141 ((10 : Int32) + x5).toNatClampNeg)) - r47)) ((((6 : Int32) * x4) + x5)) m48)))
set_option maxRecDepth 20000 in
theorem kX11_rowOf_201 {S : Sh} (hS : ShOK S) {res : Int32 × Me} {k114 : Int32 → Int32 → Int32 → Me → Option (Int32 × Me)} (hk114 : ∀ {x2 : Int32} {x3 : Int32} {x4 : Int32} {m : Me}, k114 x2 x3 x4 m = some res → Inv m → TT InvS (Call 2) mX11_rowOf (114, [(0, .ref 138), (2, .int x2), (3, .int x3), (4, .int x4)], [], S, m) (some (.int res.1)) (S, res.2)) {k123 : Int32 → Int32 → Int32 → Int32 → Me → Option (Int32 × Me)} (hk123 : ∀ {x2 : Int32} {x3 : Int32} {x4 : Int32} {x5 : Int32} {m : Me}, k123 x2 x3 x4 x5 m = some res → Inv m → TT InvS (Call 2) mX11_rowOf (123, [(0, .ref 138), (2, .int x2), (3, .int x3), (4, .int x4), (5, .int x5)], [], S, m) (some (.int res.1)) (S, res.2)) (n : Nat) : ∀ {x2 : Int32} {x3 : Int32} {x4 : Int32} {x5 : Int32} {x6 : Int32} {x7 : Int32} {m : Me}, fX11_rowOf_201 n k114 k123 x2 x3 x4 x5 x6 x7 m = some res → Inv m → TT InvS (Call 2) mX11_rowOf (201, [(0, .ref 138), (2, .int x2), (3, .int x3), (4, .int x4), (5, .int x5), (6, .int x6), (7, .int x7)], [], S, m) (some (.int res.1)) (S, res.2) := by
  induction n with
  | zero => intro x2 x3 x4 x5 x6 x7 m hf; cases hf
  | succ n ih =>
    intro x2 x3 x4 x5 x6 x7 m hf  hI
    unfold fX11_rowOf_201 at hf
    refine to_iload (q := 203) rfl dX11_rowOf_201 rfl ?_
    refine to_aload_n (q := 204) rfl (by decide) dX11_rowOf_203 rfl ?_
    refine to_getR (q := 207) (b := 141) (k0 := 11) (C := RX11) (T := TX11) (N := 37) (j := 15) rfl fx_X11_20 (h_138 hS) rfl (iv_138_15 hI) dX11_rowOf_204 rfl ?_
    refine to_iconst (q := 208) ic_5 dX11_rowOf_207 rfl ?_
    refine to_iaj (q := 209) (h_141 hS) (by decide) (tn_5) dX11_rowOf_208 rfl ?_
    by_cases h32 : (m.1 141 5) ≤ x7
    · have hf := ite_pos h32 hf
      refine to_icT (q := 325) (op := .ge) h32 dX11_rowOf_209 rfl ?_
      exact to_ext [(0, .ref 138), (2, .int x2), (3, .int x3), (4, .int x4), (5, .int x5)] (ext_cons rfl (ext_cons rfl (ext_cons rfl (ext_cons rfl (ext_cons rfl ext_nil))))) (kX11_rowOf_325 hS hk114 hk123 hf hI)
    · have hf := ite_neg h32 hf
      refine to_icF (q := 212) (op := .ge) 325 h32 dX11_rowOf_209 rfl rfl ?_
      refine to_iload (q := 214) rfl dX11_rowOf_212 rfl ?_
      refine to_iload (q := 216) rfl dX11_rowOf_214 rfl ?_
      obtain ⟨r35, m36, hc33, hf⟩ := cl2_some hf
      have qc34 := kX11_has hS hc33 hI
      refine to_statI (q := 219) mX11_has [.int x4, .int x5] dX11_rowOf_216 rfl rfl (Nat.le_of_ble_eq_true rfl) mo_X11_has (Or.inl ml_X11_259) sa_X11_has (Call_mono (by decide) qc34.1) ?_
      have hI := qc34.2
      by_cases h37 : r35 = (0 : Int32)
      · have hf := ite_pos h37 hf
        refine to_ifT (q := 325) (op := .eq) h37 dX11_rowOf_219 rfl ?_
        exact to_ext [(0, .ref 138), (2, .int x2), (3, .int x3), (4, .int x4), (5, .int x5)] (ext_cons rfl (ext_cons rfl (ext_cons rfl (ext_cons rfl (ext_cons rfl ext_nil))))) (kX11_rowOf_325 hS hk114 hk123 hf hI)
      · have hf := ite_neg h37 hf
        refine to_ifF (q := 222) (op := .eq) 325 h37 dX11_rowOf_219 rfl rfl ?_
        refine to_iload (q := 224) rfl dX11_rowOf_222 rfl ?_
        refine to_iload (q := 226) rfl dX11_rowOf_224 rfl ?_
        obtain ⟨r40, m41, hc38, hf⟩ := cl2_some hf
        have qc39 := kX11_has hS hc38 hI
        refine to_statI (q := 229) mX11_has [.int x6, .int x7] dX11_rowOf_226 rfl rfl (Nat.le_of_ble_eq_true rfl) mo_X11_has (Or.inl ml_X11_259) sa_X11_has (Call_mono (by decide) qc39.1) ?_
        have hI := qc39.2
        by_cases h42 : r40 = (0 : Int32)
        · have hf := ite_pos h42 hf
          refine to_ifF (q := 232) (op := .ne) 235 (fun z => z h42) dX11_rowOf_229 rfl rfl ?_
          refine to_goto (q := 319) dX11_rowOf_232 rfl ?_
          exact to_ext [(0, .ref 138), (2, .int x2), (3, .int x3), (4, .int x4), (5, .int x5), (6, .int x6), (7, .int x7)] (ext_cons rfl (ext_cons rfl (ext_cons rfl (ext_cons rfl (ext_cons rfl (ext_cons rfl (ext_cons rfl ext_nil))))))) (kX11_rowOf_319 hS hk114 hk123 ih hf hI)
        · have hf := ite_neg h42 hf
          refine to_ifT (q := 235) (op := .ne) h42 dX11_rowOf_229 rfl ?_
          refine to_aload_n (q := 236) rfl (by decide) dX11_rowOf_235 rfl ?_
          refine to_getR (q := 239) (b := 153) (k0 := 11) (C := RX11) (T := TX11) (N := 37) (j := 32) rfl fx_X11_56 (h_138 hS) rfl (iv_138_32 hI) dX11_rowOf_236 rfl ?_
          refine to_bipush (q := 241) bp_6 dX11_rowOf_239 rfl ?_
          refine to_iload (q := 243) rfl dX11_rowOf_241 rfl ?_
          refine to_imul (q := 244) dX11_rowOf_243 rfl ?_
          refine to_iload (q := 246) rfl dX11_rowOf_244 rfl ?_
          refine to_iadd (q := 247) dX11_rowOf_246 rfl ?_
          obtain ⟨hb43, hf⟩ := ck_some hf
          refine to_iaj (q := 248) (h_153 hS) hb43 (rfl) dX11_rowOf_247 rfl ?_
          refine to_aload_n (q := 249) rfl (by decide) dX11_rowOf_248 rfl ?_
          refine to_getR (q := 252) (b := 141) (k0 := 11) (C := RX11) (T := TX11) (N := 37) (j := 15) rfl fx_X11_20 (h_138 hS) rfl (iv_138_15 hI) dX11_rowOf_249 rfl ?_
          refine to_bipush (q := 254) bp_10 dX11_rowOf_252 rfl ?_
          refine to_iload (q := 256) rfl dX11_rowOf_254 rfl ?_
          refine to_iadd (q := 257) dX11_rowOf_256 rfl ?_
          obtain ⟨hb44, hf⟩ := ck_some hf
          refine to_iaj (q := 258) (h_141 hS) hb44 (rfl) dX11_rowOf_257 rfl ?_
          refine to_iadd (q := 259) dX11_rowOf_258 rfl ?_
          refine to_aload_n (q := 260) rfl (by decide) dX11_rowOf_259 rfl ?_
          refine to_iload (q := 262) rfl dX11_rowOf_260 rfl ?_
          refine to_iload (q := 264) rfl dX11_rowOf_262 rfl ?_
          obtain ⟨r47, m48, hc45, hf⟩ := cl2_some hf
          have qc46 := kX11_overlap hS hc45 hI
          refine to_virtI (q := 267) mX11_overlap [.int x7, .int x5] dX11_rowOf_264 rfl rfl (Nat.le_of_ble_eq_true rfl) mo_X11_overlap mv_X11_356 (Or.inl ⟨_, _, _, h_138 hS, rfl, rfl⟩) (Call_mono (by decide) qc46.1) ?_
          have hI := qc46.2
          refine to_isub (q := 268) dX11_rowOf_267 rfl ?_
          refine to_istore (q := 270) [(8, .int (((m41.1 153 (((6 : Int32) * x6) + x7).toNatClampNeg) + (m41.1 141 ((10 : Int32) + x5).toNatClampNeg)) - r47)), (0, .ref 138), (2, .int x2), (3, .int x3), (4, .int x4), (5, .int x5), (6, .int x6), (7, .int x7)] rfl (by decide) dX11_rowOf_268 rfl ?_
          refine to_aload_n (q := 271) rfl (by decide) dX11_rowOf_270 rfl ?_
          refine to_getR (q := 274) (b := 153) (k0 := 11) (C := RX11) (T := TX11) (N := 37) (j := 32) rfl fx_X11_56 (h_138 hS) rfl (iv_138_32 hI) dX11_rowOf_271 rfl ?_
          refine to_bipush (q := 276) bp_6 dX11_rowOf_274 rfl ?_
          refine to_iload (q := 278) rfl dX11_rowOf_276 rfl ?_
          refine to_imul (q := 279) dX11_rowOf_278 rfl ?_
          refine to_iload (q := 281) rfl dX11_rowOf_279 rfl ?_
          refine to_iadd (q := 282) dX11_rowOf_281 rfl ?_
          refine to_iload (q := 284) rfl dX11_rowOf_282 rfl ?_
          refine to_aload_n (q := 285) rfl (by decide) dX11_rowOf_284 rfl ?_
          refine to_getR (q := 288) (b := 153) (k0 := 11) (C := RX11) (T := TX11) (N := 37) (j := 32) rfl fx_X11_56 (h_138 hS) rfl (iv_138_32 hI) dX11_rowOf_285 rfl ?_
          refine to_bipush (q := 290) bp_6 dX11_rowOf_288 rfl ?_
          refine to_iload (q := 292) rfl dX11_rowOf_290 rfl ?_
          refine to_imul (q := 293) dX11_rowOf_292 rfl ?_
          refine to_iload (q := 295) rfl dX11_rowOf_293 rfl ?_
          refine to_iadd (q := 296) dX11_rowOf_295 rfl ?_
          obtain ⟨hb49, hf⟩ := ck_some hf
          refine to_iaj (q := 297) (h_153 hS) hb49 (rfl) dX11_rowOf_296 rfl ?_
          by_cases h50 : (m48.1 153 (((6 : Int32) * x4) + x5).toNatClampNeg) ≤ (((m41.1 153 (((6 : Int32) * x6) + x7).toNatClampNeg) + (m41.1 141 ((10 : Int32) + x5).toNatClampNeg)) - r47)
          · have hf := ite_pos h50 hf
            refine to_icT (q := 305) (op := .ge) h50 dX11_rowOf_297 rfl ?_
            refine to_aload_n (q := 306) rfl (by decide) dX11_rowOf_305 rfl ?_
            refine to_getR (q := 309) (b := 153) (k0 := 11) (C := RX11) (T := TX11) (N := 37) (j := 32) rfl fx_X11_56 (h_138 hS) rfl (iv_138_32 hI) dX11_rowOf_306 rfl ?_
            refine to_bipush (q := 311) bp_6 dX11_rowOf_309 rfl ?_
            refine to_iload (q := 313) rfl dX11_rowOf_311 rfl ?_
            refine to_imul (q := 314) dX11_rowOf_313 rfl ?_
            refine to_iload (q := 316) rfl dX11_rowOf_314 rfl ?_
            refine to_iadd (q := 317) dX11_rowOf_316 rfl ?_
            obtain ⟨hb51, hf⟩ := ck_some hf
            refine to_iaj (q := 318) (h_153 hS) hb51 (rfl) dX11_rowOf_317 rfl ?_
            exact to_ext [(0, .ref 138), (2, .int x2), (3, .int x3), (4, .int x4), (5, .int x5), (6, .int x6), (7, .int x7)] (ext_cons rfl (ext_cons rfl (ext_cons rfl (ext_cons rfl (ext_cons rfl (ext_cons rfl (ext_cons rfl ext_nil))))))) (kX11_rowOf_318 hS hk114 hk123 ih hf hI)
          · have hf := ite_neg h50 hf
            refine to_icF (q := 300) (op := .ge) 305 h50 dX11_rowOf_297 rfl rfl ?_
            refine to_iload (q := 302) rfl dX11_rowOf_300 rfl ?_
            refine to_goto (q := 318) dX11_rowOf_302 rfl ?_
            exact to_ext [(0, .ref 138), (2, .int x2), (3, .int x3), (4, .int x4), (5, .int x5), (6, .int x6), (7, .int x7)] (ext_cons rfl (ext_cons rfl (ext_cons rfl (ext_cons rfl (ext_cons rfl (ext_cons rfl (ext_cons rfl ext_nil))))))) (kX11_rowOf_318 hS hk114 hk123 ih hf hI)
def fX11_rowOf_197 (k114 : Int32 → Int32 → Int32 → Me → Option (Int32 × Me)) (k123 : Int32 → Int32 → Int32 → Int32 → Me → Option (Int32 × Me)) (x2 : Int32) (x3 : Int32) (x4 : Int32) (x5 : Int32) (x6 : Int32) (t0 : Int32) (t1 : Int32) (m : Me) : Option (Int32 × Me) := ck (inb t1 384) (fX11_rowOf_201 FU k114 k123 x2 x3 x4 x5 x6 ((0 : Int32)) (setI m 153 t1.toNatClampNeg t0))
set_option maxRecDepth 20000 in
theorem kX11_rowOf_197 {S : Sh} (hS : ShOK S) {res : Int32 × Me} {k114 : Int32 → Int32 → Int32 → Me → Option (Int32 × Me)} (hk114 : ∀ {x2 : Int32} {x3 : Int32} {x4 : Int32} {m : Me}, k114 x2 x3 x4 m = some res → Inv m → TT InvS (Call 2) mX11_rowOf (114, [(0, .ref 138), (2, .int x2), (3, .int x3), (4, .int x4)], [], S, m) (some (.int res.1)) (S, res.2)) {k123 : Int32 → Int32 → Int32 → Int32 → Me → Option (Int32 × Me)} (hk123 : ∀ {x2 : Int32} {x3 : Int32} {x4 : Int32} {x5 : Int32} {m : Me}, k123 x2 x3 x4 x5 m = some res → Inv m → TT InvS (Call 2) mX11_rowOf (123, [(0, .ref 138), (2, .int x2), (3, .int x3), (4, .int x4), (5, .int x5)], [], S, m) (some (.int res.1)) (S, res.2)) {x2 : Int32} {x3 : Int32} {x4 : Int32} {x5 : Int32} {x6 : Int32} {t0 : Int32} {t1 : Int32} {m : Me} (hf : fX11_rowOf_197 k114 k123 x2 x3 x4 x5 x6 t0 t1 m = some res) (hI : Inv m) : TT InvS (Call 2) mX11_rowOf (197, [(0, .ref 138), (2, .int x2), (3, .int x3), (4, .int x4), (5, .int x5), (6, .int x6)], [.int t0, .int t1, .ref 153], S, m) (some (.int res.1)) (S, res.2) := by
  unfold fX11_rowOf_197 at hf
  obtain ⟨hb31, hf⟩ := ck_some hf
  refine to_iasj (q := 198) (h_153 hS) hb31 (rfl) dX11_rowOf_197 rfl ?_
  refine to_iconst (q := 199) ic_0 dX11_rowOf_198 rfl ?_
  refine to_istore (q := 201) [(7, .int (0 : Int32)), (0, .ref 138), (2, .int x2), (3, .int x3), (4, .int x4), (5, .int x5), (6, .int x6)] rfl (by decide) dX11_rowOf_199 rfl ?_
  exact to_ext [(0, .ref 138), (2, .int x2), (3, .int x3), (4, .int x4), (5, .int x5), (6, .int x6), (7, .int (0 : Int32))] (ext_cons rfl (ext_cons rfl (ext_cons rfl (ext_cons rfl (ext_cons rfl (ext_cons rfl (ext_cons rfl ext_nil))))))) (kX11_rowOf_201 hS hk114 hk123 FU hf hI)
def fX11_rowOf_194 (k114 : Int32 → Int32 → Int32 → Me → Option (Int32 × Me)) (k123 : Int32 → Int32 → Int32 → Int32 → Me → Option (Int32 × Me)) (x2 : Int32) (x3 : Int32) (x4 : Int32) (x5 : Int32) (x6 : Int32) (t0 : Int32) (m : Me) : Option (Int32 × Me) := fX11_rowOf_197 k114 k123 x2 x3 x4 x5 x6 ((1000000 : Int32)) t0 m
set_option maxRecDepth 20000 in
theorem kX11_rowOf_194 {S : Sh} (hS : ShOK S) {res : Int32 × Me} {k114 : Int32 → Int32 → Int32 → Me → Option (Int32 × Me)} (hk114 : ∀ {x2 : Int32} {x3 : Int32} {x4 : Int32} {m : Me}, k114 x2 x3 x4 m = some res → Inv m → TT InvS (Call 2) mX11_rowOf (114, [(0, .ref 138), (2, .int x2), (3, .int x3), (4, .int x4)], [], S, m) (some (.int res.1)) (S, res.2)) {k123 : Int32 → Int32 → Int32 → Int32 → Me → Option (Int32 × Me)} (hk123 : ∀ {x2 : Int32} {x3 : Int32} {x4 : Int32} {x5 : Int32} {m : Me}, k123 x2 x3 x4 x5 m = some res → Inv m → TT InvS (Call 2) mX11_rowOf (123, [(0, .ref 138), (2, .int x2), (3, .int x3), (4, .int x4), (5, .int x5)], [], S, m) (some (.int res.1)) (S, res.2)) {x2 : Int32} {x3 : Int32} {x4 : Int32} {x5 : Int32} {x6 : Int32} {t0 : Int32} {m : Me} (hf : fX11_rowOf_194 k114 k123 x2 x3 x4 x5 x6 t0 m = some res) (hI : Inv m) : TT InvS (Call 2) mX11_rowOf (194, [(0, .ref 138), (2, .int x2), (3, .int x3), (4, .int x4), (5, .int x5), (6, .int x6)], [.int t0, .ref 153], S, m) (some (.int res.1)) (S, res.2) := by
  unfold fX11_rowOf_194 at hf
  refine to_ldcw (q := 197) con_X11_328 dX11_rowOf_194 rfl ?_
  exact to_ext [(0, .ref 138), (2, .int x2), (3, .int x3), (4, .int x4), (5, .int x5), (6, .int x6)] (ext_cons rfl (ext_cons rfl (ext_cons rfl (ext_cons rfl (ext_cons rfl (ext_cons rfl ext_nil)))))) (kX11_rowOf_197 hS hk114 hk123 hf hI)
def fX11_rowOf_123 (n : Nat) (k114 : Int32 → Int32 → Int32 → Me → Option (Int32 × Me)) (x2 : Int32) (x3 : Int32) (x4 : Int32) (x5 : Int32) (m : Me) : Option (Int32 × Me) := match n with
  | 0 => none
  | n + 1 => if (m.1 141 5) ≤ x5 then fX11_rowOf_378 k114 x2 x3 x4 m else if (x4 &&& (x2 ^^^ (-1 : Int32))) = (0 : Int32) then cl2 (fX11_has x4 x5 m) fun r26 m27 => if r26 = (0 : Int32) then fX11_rowOf_194 k114 (fX11_rowOf_123 n k114) x2 x3 x4 x5 ((x4 &&& (((1 : Int32) <<< (x5 &&& 31)) ^^^ (-1 : Int32)))) ((((6 : Int32) * x4) + x5)) m27 else if (x4 &&& (((1 : Int32) <<< (x5 &&& 31)) ^^^ (-1 : Int32))) = (0 : Int32) then ck (inb ((10 : Int32) + x5) 186) (fX11_rowOf_197 k114 (fX11_rowOf_123 n k114) x2 x3 x4 x5 ((x4 &&& (((1 : Int32) <<< (x5 &&& 31)) ^^^ (-1 : Int32)))) ((m27.1 141 ((10 : Int32) + x5).toNatClampNeg)) ((((6 : Int32) * x4) + x5)) m27) else fX11_rowOf_194 k114 (fX11_rowOf_123 n k114) x2 x3 x4 x5 ((x4 &&& (((1 : Int32) <<< (x5 &&& 31)) ^^^ (-1 : Int32)))) ((((6 : Int32) * x4) + x5)) m27 else fX11_rowOf_378 k114 x2 x3 x4 m
set_option maxRecDepth 20000 in
theorem kX11_rowOf_123 {S : Sh} (hS : ShOK S) {res : Int32 × Me} {k114 : Int32 → Int32 → Int32 → Me → Option (Int32 × Me)} (hk114 : ∀ {x2 : Int32} {x3 : Int32} {x4 : Int32} {m : Me}, k114 x2 x3 x4 m = some res → Inv m → TT InvS (Call 2) mX11_rowOf (114, [(0, .ref 138), (2, .int x2), (3, .int x3), (4, .int x4)], [], S, m) (some (.int res.1)) (S, res.2)) (n : Nat) : ∀ {x2 : Int32} {x3 : Int32} {x4 : Int32} {x5 : Int32} {m : Me}, fX11_rowOf_123 n k114 x2 x3 x4 x5 m = some res → Inv m → TT InvS (Call 2) mX11_rowOf (123, [(0, .ref 138), (2, .int x2), (3, .int x3), (4, .int x4), (5, .int x5)], [], S, m) (some (.int res.1)) (S, res.2) := by
  induction n with
  | zero => intro x2 x3 x4 x5 m hf; cases hf
  | succ n ih =>
    intro x2 x3 x4 x5 m hf  hI
    unfold fX11_rowOf_123 at hf
    refine to_iload (q := 125) rfl dX11_rowOf_123 rfl ?_
    refine to_aload_n (q := 126) rfl (by decide) dX11_rowOf_125 rfl ?_
    refine to_getR (q := 129) (b := 141) (k0 := 11) (C := RX11) (T := TX11) (N := 37) (j := 15) rfl fx_X11_20 (h_138 hS) rfl (iv_138_15 hI) dX11_rowOf_126 rfl ?_
    refine to_iconst (q := 130) ic_5 dX11_rowOf_129 rfl ?_
    refine to_iaj (q := 131) (h_141 hS) (by decide) (tn_5) dX11_rowOf_130 rfl ?_
    by_cases h22 : (m.1 141 5) ≤ x5
    · have hf := ite_pos h22 hf
      refine to_icT (q := 378) (op := .ge) h22 dX11_rowOf_131 rfl ?_
      exact to_ext [(0, .ref 138), (2, .int x2), (3, .int x3), (4, .int x4)] (ext_cons rfl (ext_cons rfl (ext_cons rfl (ext_cons rfl ext_nil)))) (kX11_rowOf_378 hS hk114 hf hI)
    · have hf := ite_neg h22 hf
      refine to_icF (q := 134) (op := .ge) 378 h22 dX11_rowOf_131 rfl rfl ?_
      refine to_iload (q := 136) rfl dX11_rowOf_134 rfl ?_
      refine to_iload_n (q := 137) rfl dX11_rowOf_136 rfl ?_
      refine to_iconst (q := 138) ic_m1 dX11_rowOf_137 rfl ?_
      refine to_ixor (q := 139) dX11_rowOf_138 rfl ?_
      refine to_iand (q := 140) dX11_rowOf_139 rfl ?_
      by_cases h23 : (x4 &&& (x2 ^^^ (-1 : Int32))) = (0 : Int32)
      · have hf := ite_pos h23 hf
        refine to_ifF (q := 143) (op := .ne) 378 (fun z => z h23) dX11_rowOf_140 rfl rfl ?_
        refine to_iload (q := 145) rfl dX11_rowOf_143 rfl ?_
        refine to_iconst (q := 146) ic_1 dX11_rowOf_145 rfl ?_
        refine to_iload (q := 148) rfl dX11_rowOf_146 rfl ?_
        refine to_ishl (q := 149) dX11_rowOf_148 rfl ?_
        refine to_iconst (q := 150) ic_m1 dX11_rowOf_149 rfl ?_
        refine to_ixor (q := 151) dX11_rowOf_150 rfl ?_
        refine to_iand (q := 152) dX11_rowOf_151 rfl ?_
        refine to_istore (q := 154) [(6, .int (x4 &&& (((1 : Int32) <<< (x5 &&& 31)) ^^^ (-1 : Int32)))), (0, .ref 138), (2, .int x2), (3, .int x3), (4, .int x4), (5, .int x5)] rfl (by decide) dX11_rowOf_152 rfl ?_
        refine to_aload_n (q := 155) rfl (by decide) dX11_rowOf_154 rfl ?_
        refine to_getR (q := 158) (b := 153) (k0 := 11) (C := RX11) (T := TX11) (N := 37) (j := 32) rfl fx_X11_56 (h_138 hS) rfl (iv_138_32 hI) dX11_rowOf_155 rfl ?_
        refine to_bipush (q := 160) bp_6 dX11_rowOf_158 rfl ?_
        refine to_iload (q := 162) rfl dX11_rowOf_160 rfl ?_
        refine to_imul (q := 163) dX11_rowOf_162 rfl ?_
        refine to_iload (q := 165) rfl dX11_rowOf_163 rfl ?_
        refine to_iadd (q := 166) dX11_rowOf_165 rfl ?_
        refine to_iload (q := 168) rfl dX11_rowOf_166 rfl ?_
        refine to_iload (q := 170) rfl dX11_rowOf_168 rfl ?_
        obtain ⟨r26, m27, hc24, hf⟩ := cl2_some hf
        have qc25 := kX11_has hS hc24 hI
        refine to_statI (q := 173) mX11_has [.int x4, .int x5] dX11_rowOf_170 rfl rfl (Nat.le_of_ble_eq_true rfl) mo_X11_has (Or.inl ml_X11_259) sa_X11_has (Call_mono (by decide) qc25.1) ?_
        have hI := qc25.2
        by_cases h28 : r26 = (0 : Int32)
        · have hf := ite_pos h28 hf
          refine to_ifT (q := 194) (op := .eq) h28 dX11_rowOf_173 rfl ?_
          exact to_ext [(0, .ref 138), (2, .int x2), (3, .int x3), (4, .int x4), (5, .int x5), (6, .int (x4 &&& (((1 : Int32) <<< (x5 &&& 31)) ^^^ (-1 : Int32))))] (ext_cons rfl (ext_cons rfl (ext_cons rfl (ext_cons rfl (ext_cons rfl (ext_cons rfl ext_nil)))))) (kX11_rowOf_194 hS hk114 ih hf hI)
        · have hf := ite_neg h28 hf
          refine to_ifF (q := 176) (op := .eq) 194 h28 dX11_rowOf_173 rfl rfl ?_
          refine to_iload (q := 178) rfl dX11_rowOf_176 rfl ?_
          by_cases h29 : (x4 &&& (((1 : Int32) <<< (x5 &&& 31)) ^^^ (-1 : Int32))) = (0 : Int32)
          · have hf := ite_pos h29 hf
            refine to_ifF (q := 181) (op := .ne) 194 (fun z => z h29) dX11_rowOf_178 rfl rfl ?_
            refine to_aload_n (q := 182) rfl (by decide) dX11_rowOf_181 rfl ?_
            refine to_getR (q := 185) (b := 141) (k0 := 11) (C := RX11) (T := TX11) (N := 37) (j := 15) rfl fx_X11_20 (h_138 hS) rfl (iv_138_15 hI) dX11_rowOf_182 rfl ?_
            refine to_bipush (q := 187) bp_10 dX11_rowOf_185 rfl ?_
            refine to_iload (q := 189) rfl dX11_rowOf_187 rfl ?_
            refine to_iadd (q := 190) dX11_rowOf_189 rfl ?_
            obtain ⟨hb30, hf⟩ := ck_some hf
            refine to_iaj (q := 191) (h_141 hS) hb30 (rfl) dX11_rowOf_190 rfl ?_
            refine to_goto (q := 197) dX11_rowOf_191 rfl ?_
            exact to_ext [(0, .ref 138), (2, .int x2), (3, .int x3), (4, .int x4), (5, .int x5), (6, .int (x4 &&& (((1 : Int32) <<< (x5 &&& 31)) ^^^ (-1 : Int32))))] (ext_cons rfl (ext_cons rfl (ext_cons rfl (ext_cons rfl (ext_cons rfl (ext_cons rfl ext_nil)))))) (kX11_rowOf_197 hS hk114 ih hf hI)
          · have hf := ite_neg h29 hf
            refine to_ifT (q := 194) (op := .ne) h29 dX11_rowOf_178 rfl ?_
            exact to_ext [(0, .ref 138), (2, .int x2), (3, .int x3), (4, .int x4), (5, .int x5), (6, .int (x4 &&& (((1 : Int32) <<< (x5 &&& 31)) ^^^ (-1 : Int32))))] (ext_cons rfl (ext_cons rfl (ext_cons rfl (ext_cons rfl (ext_cons rfl (ext_cons rfl ext_nil)))))) (kX11_rowOf_194 hS hk114 ih hf hI)
      · have hf := ite_neg h23 hf
        refine to_ifT (q := 378) (op := .ne) h23 dX11_rowOf_140 rfl ?_
        exact to_ext [(0, .ref 138), (2, .int x2), (3, .int x3), (4, .int x4)] (ext_cons rfl (ext_cons rfl (ext_cons rfl (ext_cons rfl ext_nil)))) (kX11_rowOf_378 hS hk114 hf hI)
def fX11_rowOf_114 (n : Nat) (x2 : Int32) (x3 : Int32) (x4 : Int32) (m : Me) : Option (Int32 × Me) := match n with
  | 0 => none
  | n + 1 => if x2 < x4 then some (x3, m) else fX11_rowOf_123 FU (fX11_rowOf_114 n) x2 x3 x4 ((0 : Int32)) m
set_option maxRecDepth 20000 in
theorem kX11_rowOf_114 {S : Sh} (hS : ShOK S) {res : Int32 × Me} (n : Nat) : ∀ {x2 : Int32} {x3 : Int32} {x4 : Int32} {m : Me}, fX11_rowOf_114 n x2 x3 x4 m = some res → Inv m → TT InvS (Call 2) mX11_rowOf (114, [(0, .ref 138), (2, .int x2), (3, .int x3), (4, .int x4)], [], S, m) (some (.int res.1)) (S, res.2) := by
  induction n with
  | zero => intro x2 x3 x4 m hf; cases hf
  | succ n ih =>
    intro x2 x3 x4 m hf  hI
    unfold fX11_rowOf_114 at hf
    refine to_iload (q := 116) rfl dX11_rowOf_114 rfl ?_
    refine to_iload_n (q := 117) rfl dX11_rowOf_116 rfl ?_
    by_cases h21 : x2 < x4
    · have hf := ite_pos h21 hf
      refine to_icT (q := 384) (op := .gt) h21 dX11_rowOf_117 rfl ?_
      refine to_iload_n (q := 385) rfl dX11_rowOf_384 rfl ?_
      cases hf
      exact to_iret dX11_rowOf_385 rfl rfl rfl rfl hI
    · have hf := ite_neg h21 hf
      refine to_icF (q := 120) (op := .gt) 384 h21 dX11_rowOf_117 rfl rfl ?_
      refine to_iconst (q := 121) ic_0 dX11_rowOf_120 rfl ?_
      refine to_istore (q := 123) [(5, .int (0 : Int32)), (0, .ref 138), (2, .int x2), (3, .int x3), (4, .int x4)] rfl (by decide) dX11_rowOf_121 rfl ?_
      exact to_ext [(0, .ref 138), (2, .int x2), (3, .int x3), (4, .int x4), (5, .int (0 : Int32))] (ext_cons rfl (ext_cons rfl (ext_cons rfl (ext_cons rfl (ext_cons rfl ext_nil))))) (kX11_rowOf_123 hS ih FU hf hI)
def fX11_rowOf_110 (x2 : Int32) (t0 : Int32) (m : Me) : Option (Int32 × Me) := fX11_rowOf_114 FU x2 t0 ((1 : Int32)) m
set_option maxRecDepth 20000 in
theorem kX11_rowOf_110 {S : Sh} (hS : ShOK S) {res : Int32 × Me} {x2 : Int32} {t0 : Int32} {m : Me} (hf : fX11_rowOf_110 x2 t0 m = some res) (hI : Inv m) : TT InvS (Call 2) mX11_rowOf (110, [(0, .ref 138), (2, .int x2)], [.int t0], S, m) (some (.int res.1)) (S, res.2) := by
  unfold fX11_rowOf_110 at hf
  refine to_istore_n (q := 111) [(3, .int t0), (0, .ref 138), (2, .int x2)] rfl (by decide) dX11_rowOf_110 rfl ?_
  refine to_iconst (q := 112) ic_1 dX11_rowOf_111 rfl ?_
  refine to_istore (q := 114) [(4, .int (1 : Int32)), (3, .int t0), (0, .ref 138), (2, .int x2)] rfl (by decide) dX11_rowOf_112 rfl ?_
  exact to_ext [(0, .ref 138), (2, .int x2), (3, .int t0), (4, .int (1 : Int32))] (ext_cons rfl (ext_cons rfl (ext_cons rfl (ext_cons rfl ext_nil)))) (kX11_rowOf_114 hS FU hf hI)
def fX11_rowOf_91 (k4 : Int32 → Int32 → Int32 → Me → Option (Int32 × Me)) (x1 : Int32) (x3 : Int32) (t0 : Int32) (t1 : Int32) (m : Me) : Option (Int32 × Me) := k4 x1 ((t1 ||| t0)) ((x3 + (1 : Int32))) m
