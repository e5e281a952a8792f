set_option maxRecDepth 20000 in
theorem kX9_study_2 {S : Sh} (hS : ShOK S) {res : Me} (n : Nat) : ∀ {a1 : Nat} {a2 : Nat} {x3 : Int32} {m : Me}, fX9_study_2 n a1 a2 x3 m = some res → kd a1 = 2 → kd a2 = 7 → Inv m → TT InvS (Call 4) mX9_study (2, [(0, .ref 94), (1, .ref a1), (2, .ref a2), (3, .int x3)], [], S, m) none (S, res) := by
  induction n with
  | zero => intro a1 a2 x3 m hf; cases hf
  | succ n ih =>
    intro a1 a2 x3 m hf ha1 ha2 hI
    unfold fX9_study_2 at hf
    refine to_iload_n (q := 3) rfl dX9_study_2 rfl ?_
    refine to_aload_n (q := 4) rfl (by decide) dX9_study_3 rfl ?_
    refine to_getR (q := 7) (b := 95) (k0 := 9) (C := RX9) (T := TX9) (N := 2) (j := 0) rfl fx_X9_9 (h_94 hS) rfl (iv_94_0 hI) dX9_study_4 rfl ?_
    refine to_alen (q := 8) (h_95 hS) (by decide) on_60 dX9_study_7 rfl ?_
    by_cases h1 : (60 : Int32) ≤ x3
    · have hf := ite_pos h1 hf
      refine to_icT (q := 25) (op := .ge) h1 dX9_study_8 rfl ?_
      refine to_aload_n (q := 26) rfl (by decide) dX9_study_25 rfl ?_
      refine to_bipush (q := 28) bp_m2 dX9_study_26 rfl ?_
      refine to_putI (q := 31) (ty := .int) (k0 := 9) (C := RX9) (T := TX9) (N := 2) (j := 1) rfl fx_X9_15 (h_94 hS) rfl pD_I (Or.inl rfl) (nf_I _) dX9_study_28 rfl ?_
      refine to_iconst (q := 32) ic_0 dX9_study_31 rfl ?_
      refine to_istore_n (q := 33) [(3, .int (0 : Int32)), (0, .ref 94), (1, .ref a1), (2, .ref a2)] rfl (by decide) dX9_study_32 rfl ?_
      exact to_ext [(0, .ref 94), (1, .ref a1), (2, .ref a2), (3, .int (0 : Int32))] (ext_cons rfl (ext_cons rfl (ext_cons rfl (ext_cons rfl ext_nil)))) (kX9_study_33 hS FU hf (ha1) (ha2) hI)
    · have hf := ite_neg h1 hf
      refine to_icF (q := 11) (op := .ge) 25 h1 dX9_study_8 rfl rfl ?_
      refine to_aload_n (q := 12) rfl (by decide) dX9_study_11 rfl ?_
      refine to_getR (q := 15) (b := 95) (k0 := 9) (C := RX9) (T := TX9) (N := 2) (j := 0) rfl fx_X9_9 (h_94 hS) rfl (iv_94_0 hI) dX9_study_12 rfl ?_
      refine to_iload_n (q := 16) rfl dX9_study_15 rfl ?_
      refine to_bipush (q := 18) bp_m3 dX9_study_16 rfl ?_
      obtain ⟨hb2, hf⟩ := ck_some hf
      refine to_iasj (q := 19) (h_95 hS) hb2 (rfl) dX9_study_18 rfl ?_
      refine to_iinc (q := 22) (v := (x3 + (1 : Int32))) rfl (congrArg (fun z => x3 + z) ic_1) [(3, .int (x3 + (1 : Int32))), (0, .ref 94), (1, .ref a1), (2, .ref a2)] rfl (by decide) dX9_study_19 rfl ?_
      refine to_goto (q := 2) dX9_study_22 rfl ?_
      exact to_ext [(0, .ref 94), (1, .ref a1), (2, .ref a2), (3, .int (x3 + (1 : Int32)))] (ext_cons rfl (ext_cons rfl (ext_cons rfl (ext_cons rfl ext_nil)))) (ih hf (ha1) (ha2) hI)
def fX9_study (a1 : Nat) (a2 : Nat) (m : Me) : Option (Me) := fX9_study_2 FU a1 a2 ((0 : Int32)) m
set_option maxRecDepth 20000 in
theorem kX9_study {S : Sh} (hS : ShOK S) {res : Me} {a1 : Nat} {a2 : Nat} {m : Me} (hf : fX9_study a1 a2 m = some res) (ha1 : kd a1 = 2) (ha2 : kd a2 = 7) (hI : Inv m) : Call 5 mX9_study [.ref 94, .ref a1, .ref a2] (S, m) none (S, res) ∧ Inv res := by
  refine call_of (P := InvS) (Nat.le_of_ble_eq_true rfl) (by simp [Value.category]) ?_
  show TT InvS (Call 4) mX9_study (0, [(0, .ref 94), (1, .ref a1), (2, .ref a2)], [], S, m) _ _
  unfold fX9_study at hf
  refine to_iconst (q := 1) ic_0 dX9_study_0 rfl ?_
  refine to_istore_n (q := 2) [(3, .int (0 : Int32)), (0, .ref 94), (1, .ref a1), (2, .ref a2)] rfl (by decide) dX9_study_1 rfl ?_
  exact to_ext [(0, .ref 94), (1, .ref a1), (2, .ref a2), (3, .int (0 : Int32))] (ext_cons rfl (ext_cons rfl (ext_cons rfl (ext_cons rfl ext_nil)))) (kX9_study_2 hS FU hf (ha1) (ha2) hI)
def fX9_countSure_27 (k4 : Int32 → Int32 → Me → Option (Int32 × Me)) (x1 : Int32) (x2 : Int32) (m : Me) : Option (Int32 × Me) := k4 x1 ((x2 + (1 : Int32))) m
set_option maxRecDepth 20000 in
theorem kX9_countSure_27 {S : Sh} (hS : ShOK S) {res : Int32 × Me} {k4 : Int32 → Int32 → Me → Option (Int32 × Me)} (hk4 : ∀ {x1 : Int32} {x2 : Int32} {m : Me}, k4 x1 x2 m = some res → Inv m → TT InvS (Call 0) mX9_countSure (4, [(0, .ref 94), (1, .int x1), (2, .int x2)], [], S, m) (some (.int res.1)) (S, res.2)) {x1 : Int32} {x2 : Int32} {m : Me} (hf : fX9_countSure_27 k4 x1 x2 m = some res) (hI : Inv m) : TT InvS (Call 0) mX9_countSure (27, [(0, .ref 94), (1, .int x1), (2, .int x2)], [], S, m) (some (.int res.1)) (S, res.2) := by
  unfold fX9_countSure_27 at hf
  refine to_iinc (q := 30) (v := (x2 + (1 : Int32))) rfl (congrArg (fun z => x2 + z) ic_1) [(2, .int (x2 + (1 : Int32))), (0, .ref 94), (1, .int x1)] rfl (by decide) dX9_countSure_27 rfl ?_
  refine to_goto (q := 4) dX9_countSure_30 rfl ?_
  exact to_ext [(0, .ref 94), (1, .int x1), (2, .int (x2 + (1 : Int32)))] (ext_cons rfl (ext_cons rfl (ext_cons rfl ext_nil))) (hk4 hf hI)
def fX9_countSure_4 (n : Nat) (x1 : Int32) (x2 : Int32) (m : Me) : Option (Int32 × Me) := match n with
  | 0 => none
  | n + 1 => if (60 : Int32) ≤ x2 then some (x1, m) else ck (inb x2 60) (if (m.1 95 x2.toNatClampNeg) = (-3 : Int32) then fX9_countSure_27 (fX9_countSure_4 n) x1 x2 m else fX9_countSure_27 (fX9_countSure_4 n) ((x1 + (1 : Int32))) x2 m)
set_option maxRecDepth 20000 in
theorem kX9_countSure_4 {S : Sh} (hS : ShOK S) {res : Int32 × Me} (n : Nat) : ∀ {x1 : Int32} {x2 : Int32} {m : Me}, fX9_countSure_4 n x1 x2 m = some res → Inv m → TT InvS (Call 0) mX9_countSure (4, [(0, .ref 94), (1, .int x1), (2, .int x2)], [], S, m) (some (.int res.1)) (S, res.2) := by
  induction n with
  | zero => intro x1 x2 m hf; cases hf
  | succ n ih =>
    intro x1 x2 m hf  hI
    unfold fX9_countSure_4 at hf
    refine to_iload_n (q := 5) rfl dX9_countSure_4 rfl ?_
    refine to_aload_n (q := 6) rfl (by decide) dX9_countSure_5 rfl ?_
    refine to_getR (q := 9) (b := 95) (k0 := 9) (C := RX9) (T := TX9) (N := 2) (j := 0) rfl fx_X9_9 (h_94 hS) rfl (iv_94_0 hI) dX9_countSure_6 rfl ?_
    refine to_alen (q := 10) (h_95 hS) (by decide) on_60 dX9_countSure_9 rfl ?_
    by_cases h1 : (60 : Int32) ≤ x2
    · have hf := ite_pos h1 hf
      refine to_icT (q := 33) (op := .ge) h1 dX9_countSure_10 rfl ?_
      refine to_iload_n (q := 34) rfl dX9_countSure_33 rfl ?_
      cases hf
      exact to_iret dX9_countSure_34 rfl rfl rfl rfl hI
    · have hf := ite_neg h1 hf
      refine to_icF (q := 13) (op := .ge) 33 h1 dX9_countSure_10 rfl rfl ?_
      refine to_aload_n (q := 14) rfl (by decide) dX9_countSure_13 rfl ?_
      refine to_getR (q := 17) (b := 95) (k0 := 9) (C := RX9) (T := TX9) (N := 2) (j := 0) rfl fx_X9_9 (h_94 hS) rfl (iv_94_0 hI) dX9_countSure_14 rfl ?_
      refine to_iload_n (q := 18) rfl dX9_countSure_17 rfl ?_
      obtain ⟨hb2, hf⟩ := ck_some hf
      refine to_iaj (q := 19) (h_95 hS) hb2 (rfl) dX9_countSure_18 rfl ?_
      refine to_bipush (q := 21) bp_m3 dX9_countSure_19 rfl ?_
      by_cases h3 : (m.1 95 x2.toNatClampNeg) = (-3 : Int32)
      · have hf := ite_pos h3 hf
        refine to_icT (q := 27) (op := .eq) h3 dX9_countSure_21 rfl ?_
        exact to_ext [(0, .ref 94), (1, .int x1), (2, .int x2)] (ext_cons rfl (ext_cons rfl (ext_cons rfl ext_nil))) (kX9_countSure_27 hS ih hf hI)
      · have hf := ite_neg h3 hf
        refine to_icF (q := 24) (op := .eq) 27 h3 dX9_countSure_21 rfl rfl ?_
        refine to_iinc (q := 27) (v := (x1 + (1 : Int32))) rfl (congrArg (fun z => x1 + z) ic_1) [(1, .int (x1 + (1 : Int32))), (0, .ref 94), (2, .int x2)] rfl (by decide) dX9_countSure_24 rfl ?_
        exact to_ext [(0, .ref 94), (1, .int (x1 + (1 : Int32))), (2, .int x2)] (ext_cons rfl (ext_cons rfl (ext_cons rfl ext_nil))) (kX9_countSure_27 hS ih hf hI)
def fX9_countSure (m : Me) : Option (Int32 × Me) := fX9_countSure_4 FU ((0 : Int32)) ((0 : Int32)) m
set_option maxRecDepth 20000 in
theorem kX9_countSure {S : Sh} (hS : ShOK S) {res : Int32 × Me} {m : Me} (hf : fX9_countSure m = some res) (hI : Inv m) : Call 1 mX9_countSure [.ref 94] (S, m) (some (.int res.1)) (S, res.2) ∧ Inv res.2 := by
  refine call_of (P := InvS) (Nat.le_of_ble_eq_true rfl) (by simp [Value.category]) ?_
  show TT InvS (Call 0) mX9_countSure (0, [(0, .ref 94)], [], S, m) _ _
  unfold fX9_countSure at hf
  refine to_iconst (q := 1) ic_0 dX9_countSure_0 rfl ?_
  refine to_istore_n (q := 2) [(1, .int (0 : Int32)), (0, .ref 94)] rfl (by decide) dX9_countSure_1 rfl ?_
  refine to_iconst (q := 3) ic_0 dX9_countSure_2 rfl ?_
  refine to_istore_n (q := 4) [(2, .int (0 : Int32)), (1, .int (0 : Int32)), (0, .ref 94)] rfl (by decide) dX9_countSure_3 rfl ?_
  exact to_ext [(0, .ref 94), (1, .int (0 : Int32)), (2, .int (0 : Int32))] (ext_cons rfl (ext_cons rfl (ext_cons rfl ext_nil))) (kX9_countSure_4 hS FU hf hI)
def fX9_countUnsure_34 (k5 : Nat → Int32 → Int32 → Int32 → Me → Option (Int32 × Me)) (a1 : Nat) (x2 : Int32) (x3 : Int32) (x4 : Int32) (m : Me) : Option (Int32 × Me) := k5 a1 x2 x3 ((x4 + (1 : Int32))) m
set_option maxRecDepth 20000 in
theorem kX9_countUnsure_34 {S : Sh} (hS : ShOK S) {res : Int32 × Me} {k5 : Nat → Int32 → Int32 → Int32 → Me → Option (Int32 × Me)} (hk5 : ∀ {a1 : Nat} {x2 : Int32} {x3 : Int32} {x4 : Int32} {m : Me}, k5 a1 x2 x3 x4 m = some res → kd a1 = 7 → Inv m → TT InvS (Call 2) mX9_countUnsure (5, [(0, .ref 94), (1, .ref a1), (2, .int x2), (3, .int x3), (4, .int x4)], [], S, m) (some (.int res.1)) (S, res.2)) {a1 : Nat} {x2 : Int32} {x3 : Int32} {x4 : Int32} {m : Me} (hf : fX9_countUnsure_34 k5 a1 x2 x3 x4 m = some res) (ha1 : kd a1 = 7) (hI : Inv m) : TT InvS (Call 2) mX9_countUnsure (34, [(0, .ref 94), (1, .ref a1), (2, .int x2), (3, .int x3), (4, .int x4)], [], S, m) (some (.int res.1)) (S, res.2) := by
  unfold fX9_countUnsure_34 at hf
  refine to_iinc (q := 37) (v := (x4 + (1 : Int32))) rfl (congrArg (fun z => x4 + z) ic_1) [(4, .int (x4 + (1 : Int32))), (0, .ref 94), (1, .ref a1), (2, .int x2), (3, .int x3)] rfl (by decide) dX9_countUnsure_34 rfl ?_
  refine to_goto (q := 5) dX9_countUnsure_37 rfl ?_
  exact to_ext [(0, .ref 94), (1, .ref a1), (2, .int x2), (3, .int x3), (4, .int (x4 + (1 : Int32)))] (ext_cons rfl (ext_cons rfl (ext_cons rfl (ext_cons rfl (ext_cons rfl ext_nil))))) (hk5 hf (ha1) hI)
def fX9_countUnsure_5 (n : Nat) (a1 : Nat) (x2 : Int32) (x3 : Int32) (x4 : Int32) (m : Me) : Option (Int32 × Me) := match n with
  | 0 => none
  | n + 1 => if (m.1 a1 2) ≤ x4 then some (x3, m) else ck (inb x4 30) (cl2 (fX9_sureLetter x2 ((m.1 (a1 + 1) x4.toNatClampNeg)) m) fun r5 m6 => if r5 = (-3 : Int32) then fX9_countUnsure_34 (fX9_countUnsure_5 n) a1 x2 ((x3 + (1 : Int32))) x4 m6 else fX9_countUnsure_34 (fX9_countUnsure_5 n) a1 x2 x3 x4 m6)
set_option maxRecDepth 20000 in
theorem kX9_countUnsure_5 {S : Sh} (hS : ShOK S) {res : Int32 × Me} (n : Nat) : ∀ {a1 : Nat} {x2 : Int32} {x3 : Int32} {x4 : Int32} {m : Me}, fX9_countUnsure_5 n a1 x2 x3 x4 m = some res → kd a1 = 7 → Inv m → TT InvS (Call 2) mX9_countUnsure (5, [(0, .ref 94), (1, .ref a1), (2, .int x2), (3, .int x3), (4, .int x4)], [], S, m) (some (.int res.1)) (S, res.2) := by
  induction n with
  | zero => intro a1 x2 x3 x4 m hf; cases hf
  | succ n ih =>
    intro a1 x2 x3 x4 m hf ha1 hI
    unfold fX9_countUnsure_5 at hf
    refine to_iload (q := 7) rfl dX9_countUnsure_5 rfl ?_
    refine to_aload_n (q := 8) rfl (kd_4 (ha1) (by decide)) dX9_countUnsure_7 rfl ?_
    refine to_getI (q := 11) (k0 := 7) (C := RX7) (T := TX7) (N := 3) (j := 2) rfl fx_X9_60 (sh_kd hS ha1 (by decide)) rfl dX9_countUnsure_8 rfl ?_
    by_cases h1 : (m.1 a1 2) ≤ x4
    · have hf := ite_pos h1 hf
      refine to_icT (q := 40) (op := .ge) h1 dX9_countUnsure_11 rfl ?_
      refine to_iload_n (q := 41) rfl dX9_countUnsure_40 rfl ?_
      cases hf
      exact to_iret dX9_countUnsure_41 rfl rfl rfl rfl hI
    · have hf := ite_neg h1 hf
      refine to_icF (q := 14) (op := .ge) 40 h1 dX9_countUnsure_11 rfl rfl ?_
      refine to_aload_n (q := 15) rfl (by decide) dX9_countUnsure_14 rfl ?_
      refine to_iload_n (q := 16) rfl dX9_countUnsure_15 rfl ?_
      refine to_aload_n (q := 17) rfl (kd_4 (ha1) (by decide)) dX9_countUnsure_16 rfl ?_
      refine to_getR (q := 20) (b := a1 + 1) (k0 := 7) (C := RX7) (T := TX7) (N := 3) (j := 0) rfl fx_X9_61 (sh_kd hS ha1 (by decide)) rfl (iv7a hI (ha1)) dX9_countUnsure_17 rfl ?_
      refine to_iload (q := 22) rfl dX9_countUnsure_20 rfl ?_
      obtain ⟨hb2, hf⟩ := ck_some hf
      refine to_iaj (q := 23) (sh_ln hS (kd7a (ha1)) (by decide)) hb2 (rfl) dX9_countUnsure_22 rfl ?_
      obtain ⟨r5, m6, hc3, hf⟩ := cl2_some hf
      have qc4 := kX9_sureLetter hS hc3 hI
      refine to_virtI (q := 26) mX9_sureLetter [.int x2, .int (m.1 (a1 + 1) x4.toNatClampNeg)] dX9_countUnsure_23 rfl rfl (Nat.le_of_ble_eq_true rfl) mo_X9_sureLetter mv_X9_64 (Or.inl ⟨_, _, _, h_94 hS, rfl, rfl⟩) (Call_mono (by decide) qc4.1) ?_
      have hI := qc4.2
      refine to_bipush (q := 28) bp_m3 dX9_countUnsure_26 rfl ?_
      by_cases h7 : r5 = (-3 : Int32)
      · have hf := ite_pos h7 hf
        refine to_icF (q := 31) (op := .ne) 34 (fun z => z h7) dX9_countUnsure_28 rfl rfl ?_
        refine to_iinc (q := 34) (v := (x3 + (1 : Int32))) rfl (congrArg (fun z => x3 + z) ic_1) [(3, .int (x3 + (1 : Int32))), (0, .ref 94), (1, .ref a1), (2, .int x2), (4, .int x4)] rfl (by decide) dX9_countUnsure_31 rfl ?_
        exact to_ext [(0, .ref 94), (1, .ref a1), (2, .int x2), (3, .int (x3 + (1 : Int32))), (4, .int x4)] (ext_cons rfl (ext_cons rfl (ext_cons rfl (ext_cons rfl (ext_cons rfl ext_nil))))) (kX9_countUnsure_34 hS ih hf (ha1) hI)
      · have hf := ite_neg h7 hf
        refine to_icT (q := 34) (op := .ne) h7 dX9_countUnsure_28 rfl ?_
        exact to_ext [(0, .ref 94), (1, .ref a1), (2, .int x2), (3, .int x3), (4, .int x4)] (ext_cons rfl (ext_cons rfl (ext_cons rfl (ext_cons rfl (ext_cons rfl ext_nil))))) (kX9_countUnsure_34 hS ih hf (ha1) hI)
def fX9_countUnsure (a1 : Nat) (x2 : Int32) (m : Me) : Option (Int32 × Me) := fX9_countUnsure_5 FU a1 x2 ((0 : Int32)) ((0 : Int32)) m
set_option maxRecDepth 20000 in
theorem kX9_countUnsure {S : Sh} (hS : ShOK S) {res : Int32 × Me} {a1 : Nat} {x2 : Int32} {m : Me} (hf : fX9_countUnsure a1 x2 m = some res) (ha1 : kd a1 = 7) (hI : Inv m) : Call 3 mX9_countUnsure [.ref 94, .ref a1, .int x2] (S, m) (some (.int res.1)) (S, res.2) ∧ Inv res.2 := by
  refine call_of (P := InvS) (Nat.le_of_ble_eq_true rfl) (by simp [Value.category]) ?_
  show TT InvS (Call 2) mX9_countUnsure (0, [(0, .ref 94), (1, .ref a1), (2, .int x2)], [], S, m) _ _
  unfold fX9_countUnsure at hf
  refine to_iconst (q := 1) ic_0 dX9_countUnsure_0 rfl ?_
  refine to_istore_n (q := 2) [(3, .int (0 : Int32)), (0, .ref 94), (1, .ref a1), (2, .int x2)] rfl (by decide) dX9_countUnsure_1 rfl ?_
  refine to_iconst (q := 3) ic_0 dX9_countUnsure_2 rfl ?_
  refine to_istore (q := 5) [(4, .int (0 : Int32)), (3, .int (0 : Int32)), (0, .ref 94), (1, .ref a1), (2, .int x2)] rfl (by decide) dX9_countUnsure_3 rfl ?_
  exact to_ext [(0, .ref 94), (1, .ref a1), (2, .int x2), (3, .int (0 : Int32)), (4, .int (0 : Int32))] (ext_cons rfl (ext_cons rfl (ext_cons rfl (ext_cons rfl (ext_cons rfl ext_nil))))) (kX9_countUnsure_5 hS FU hf (ha1) hI)
