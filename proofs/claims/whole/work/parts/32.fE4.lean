set_option maxRecDepth 20000 in
theorem kX11_rowOf_91 {S : Sh} (hS : ShOK S) {res : Int32 × Me} {k4 : Int32 → Int32 → Int32 → Me → Option (Int32 × Me)} (hk4 : ∀ {x1 : Int32} {x2 : Int32} {x3 : Int32} {m : Me}, k4 x1 x2 x3 m = some res → Inv m → TT InvS (Call 2) mX11_rowOf (4, [(0, .ref 138), (1, .int x1), (2, .int x2), (3, .int x3)], [], S, m) (some (.int res.1)) (S, res.2)) {x1 : Int32} {x3 : Int32} {t0 : Int32} {t1 : Int32} {m : Me} (hf : fX11_rowOf_91 k4 x1 x3 t0 t1 m = some res) (hI : Inv m) : TT InvS (Call 2) mX11_rowOf (91, [(0, .ref 138), (1, .int x1), (3, .int x3)], [.int t0, .int t1], S, m) (some (.int res.1)) (S, res.2) := by
  unfold fX11_rowOf_91 at hf
  refine to_ior (q := 92) dX11_rowOf_91 rfl ?_
  refine to_istore_n (q := 93) [(2, .int (t1 ||| t0)), (0, .ref 138), (1, .int x1), (3, .int x3)] rfl (by decide) dX11_rowOf_92 rfl ?_
  refine to_iinc (q := 96) (v := (x3 + (1 : Int32))) rfl (congrArg (fun z => x3 + z) ic_1) [(3, .int (x3 + (1 : Int32))), (2, .int (t1 ||| t0)), (0, .ref 138), (1, .int x1)] rfl (by decide) dX11_rowOf_93 rfl ?_
  refine to_goto (q := 4) dX11_rowOf_96 rfl ?_
  exact to_ext [(0, .ref 138), (1, .int x1), (2, .int (t1 ||| t0)), (3, .int (x3 + (1 : Int32)))] (ext_cons rfl (ext_cons rfl (ext_cons rfl (ext_cons rfl ext_nil)))) (hk4 hf hI)
def fX11_rowOf_70 (k4 : Int32 → Int32 → Int32 → Me → Option (Int32 × Me)) (k24 : Int32 → Int32 → Int32 → Int32 → Int32 → Me → Option (Int32 × Me)) (x1 : Int32) (x2 : Int32) (x3 : Int32) (x5 : Int32) (t0 : Int32) (m : Me) : Option (Int32 × Me) := k24 x1 x2 x3 t0 ((x5 + (1 : Int32))) m
set_option maxRecDepth 20000 in
theorem kX11_rowOf_70 {S : Sh} (hS : ShOK S) {res : Int32 × Me} {k4 : Int32 → Int32 → Int32 → Me → Option (Int32 × Me)} (hk4 : ∀ {x1 : Int32} {x2 : Int32} {x3 : Int32} {m : Me}, k4 x1 x2 x3 m = some res → Inv m → TT InvS (Call 2) mX11_rowOf (4, [(0, .ref 138), (1, .int x1), (2, .int x2), (3, .int x3)], [], S, m) (some (.int res.1)) (S, res.2)) {k24 : Int32 → Int32 → Int32 → Int32 → Int32 → Me → Option (Int32 × Me)} (hk24 : ∀ {x1 : Int32} {x2 : Int32} {x3 : Int32} {x4 : Int32} {x5 : Int32} {m : Me}, k24 x1 x2 x3 x4 x5 m = some res → Inv m → TT InvS (Call 2) mX11_rowOf (24, [(0, .ref 138), (1, .int x1), (2, .int x2), (3, .int x3), (4, .int x4), (5, .int x5)], [], S, m) (some (.int res.1)) (S, res.2)) {x1 : Int32} {x2 : Int32} {x3 : Int32} {x5 : Int32} {t0 : Int32} {m : Me} (hf : fX11_rowOf_70 k4 k24 x1 x2 x3 x5 t0 m = some res) (hI : Inv m) : TT InvS (Call 2) mX11_rowOf (70, [(0, .ref 138), (1, .int x1), (2, .int x2), (3, .int x3), (5, .int x5)], [.int t0], S, m) (some (.int res.1)) (S, res.2) := by
  unfold fX11_rowOf_70 at hf
  refine to_istore (q := 72) [(4, .int t0), (0, .ref 138), (1, .int x1), (2, .int x2), (3, .int x3), (5, .int x5)] rfl (by decide) dX11_rowOf_70 rfl ?_
  refine to_iinc (q := 75) (v := (x5 + (1 : Int32))) rfl (congrArg (fun z => x5 + z) ic_1) [(5, .int (x5 + (1 : Int32))), (4, .int t0), (0, .ref 138), (1, .int x1), (2, .int x2), (3, .int x3)] rfl (by decide) dX11_rowOf_72 rfl ?_
  refine to_goto (q := 24) dX11_rowOf_75 rfl ?_
  exact to_ext [(0, .ref 138), (1, .int x1), (2, .int x2), (3, .int x3), (4, .int t0), (5, .int (x5 + (1 : Int32)))] (ext_cons rfl (ext_cons rfl (ext_cons rfl (ext_cons rfl (ext_cons rfl (ext_cons rfl ext_nil)))))) (hk24 hf hI)
def fX11_rowOf_69 (k4 : Int32 → Int32 → Int32 → Me → Option (Int32 × Me)) (k24 : Int32 → Int32 → Int32 → Int32 → Int32 → Me → Option (Int32 × Me)) (x1 : Int32) (x2 : Int32) (x3 : Int32) (x5 : Int32) (m : Me) : Option (Int32 × Me) := fX11_rowOf_70 k4 k24 x1 x2 x3 x5 ((0 : Int32)) m
set_option maxRecDepth 20000 in
theorem kX11_rowOf_69 {S : Sh} (hS : ShOK S) {res : Int32 × Me} {k4 : Int32 → Int32 → Int32 → Me → Option (Int32 × Me)} (hk4 : ∀ {x1 : Int32} {x2 : Int32} {x3 : Int32} {m : Me}, k4 x1 x2 x3 m = some res → Inv m → TT InvS (Call 2) mX11_rowOf (4, [(0, .ref 138), (1, .int x1), (2, .int x2), (3, .int x3)], [], S, m) (some (.int res.1)) (S, res.2)) {k24 : Int32 → Int32 → Int32 → Int32 → Int32 → Me → Option (Int32 × Me)} (hk24 : ∀ {x1 : Int32} {x2 : Int32} {x3 : Int32} {x4 : Int32} {x5 : Int32} {m : Me}, k24 x1 x2 x3 x4 x5 m = some res → Inv m → TT InvS (Call 2) mX11_rowOf (24, [(0, .ref 138), (1, .int x1), (2, .int x2), (3, .int x3), (4, .int x4), (5, .int x5)], [], S, m) (some (.int res.1)) (S, res.2)) {x1 : Int32} {x2 : Int32} {x3 : Int32} {x5 : Int32} {m : Me} (hf : fX11_rowOf_69 k4 k24 x1 x2 x3 x5 m = some res) (hI : Inv m) : TT InvS (Call 2) mX11_rowOf (69, [(0, .ref 138), (1, .int x1), (2, .int x2), (3, .int x3), (5, .int x5)], [], S, m) (some (.int res.1)) (S, res.2) := by
  unfold fX11_rowOf_69 at hf
  refine to_iconst (q := 70) ic_0 dX11_rowOf_69 rfl ?_
  exact to_ext [(0, .ref 138), (1, .int x1), (2, .int x2), (3, .int x3), (5, .int x5)] (ext_cons rfl (ext_cons rfl (ext_cons rfl (ext_cons rfl (ext_cons rfl ext_nil))))) (kX11_rowOf_70 hS hk4 hk24 hf hI)
def fX11_rowOf_65 (k4 : Int32 → Int32 → Int32 → Me → Option (Int32 × Me)) (k24 : Int32 → Int32 → Int32 → Int32 → Int32 → Me → Option (Int32 × Me)) (x1 : Int32) (x2 : Int32) (x3 : Int32) (x5 : Int32) (m : Me) : Option (Int32 × Me) := fX11_rowOf_70 k4 k24 x1 x2 x3 x5 ((1 : Int32)) m
set_option maxRecDepth 20000 in
theorem kX11_rowOf_65 {S : Sh} (hS : ShOK S) {res : Int32 × Me} {k4 : Int32 → Int32 → Int32 → Me → Option (Int32 × Me)} (hk4 : ∀ {x1 : Int32} {x2 : Int32} {x3 : Int32} {m : Me}, k4 x1 x2 x3 m = some res → Inv m → TT InvS (Call 2) mX11_rowOf (4, [(0, .ref 138), (1, .int x1), (2, .int x2), (3, .int x3)], [], S, m) (some (.int res.1)) (S, res.2)) {k24 : Int32 → Int32 → Int32 → Int32 → Int32 → Me → Option (Int32 × Me)} (hk24 : ∀ {x1 : Int32} {x2 : Int32} {x3 : Int32} {x4 : Int32} {x5 : Int32} {m : Me}, k24 x1 x2 x3 x4 x5 m = some res → Inv m → TT InvS (Call 2) mX11_rowOf (24, [(0, .ref 138), (1, .int x1), (2, .int x2), (3, .int x3), (4, .int x4), (5, .int x5)], [], S, m) (some (.int res.1)) (S, res.2)) {x1 : Int32} {x2 : Int32} {x3 : Int32} {x5 : Int32} {m : Me} (hf : fX11_rowOf_65 k4 k24 x1 x2 x3 x5 m = some res) (hI : Inv m) : TT InvS (Call 2) mX11_rowOf (65, [(0, .ref 138), (1, .int x1), (2, .int x2), (3, .int x3), (5, .int x5)], [], S, m) (some (.int res.1)) (S, res.2) := by
  unfold fX11_rowOf_65 at hf
  refine to_iconst (q := 66) ic_1 dX11_rowOf_65 rfl ?_
  refine to_goto (q := 70) dX11_rowOf_66 rfl ?_
  exact to_ext [(0, .ref 138), (1, .int x1), (2, .int x2), (3, .int x3), (5, .int x5)] (ext_cons rfl (ext_cons rfl (ext_cons rfl (ext_cons rfl (ext_cons rfl ext_nil))))) (kX11_rowOf_70 hS hk4 hk24 hf hI)
def fX11_rowOf_24 (n : Nat) (k4 : Int32 → Int32 → Int32 → Me → Option (Int32 × Me)) (x1 : Int32) (x2 : Int32) (x3 : Int32) (x4 : Int32) (x5 : Int32) (m : Me) : Option (Int32 × Me) := match n with
  | 0 => none
  | n + 1 => if (m.1 141 5) ≤ x5 then if x4 = (0 : Int32) then fX11_rowOf_91 k4 x1 x3 ((0 : Int32)) x2 m else fX11_rowOf_91 k4 x1 x3 (((1 : Int32) <<< (x3 &&& 31))) x2 m else if x4 = (0 : Int32) then fX11_rowOf_69 k4 (fX11_rowOf_24 n k4) x1 x2 x3 x5 m else if x5 = x3 then fX11_rowOf_65 k4 (fX11_rowOf_24 n k4) x1 x2 x3 x5 m else cl2 (fX11_has x1 x5 m) fun r13 m14 => if r13 = (0 : Int32) then fX11_rowOf_65 k4 (fX11_rowOf_24 n k4) x1 x2 x3 x5 m14 else cl2 (fX11_isIn x3 x5 m14) fun r18 m19 => if r18 = (0 : Int32) then fX11_rowOf_65 k4 (fX11_rowOf_24 n k4) x1 x2 x3 x5 m19 else fX11_rowOf_69 k4 (fX11_rowOf_24 n k4) x1 x2 x3 x5 m19
set_option maxRecDepth 20000 in
theorem kX11_rowOf_24 {S : Sh} (hS : ShOK S) {res : Int32 × Me} {k4 : Int32 → Int32 → Int32 → Me → Option (Int32 × Me)} (hk4 : ∀ {x1 : Int32} {x2 : Int32} {x3 : Int32} {m : Me}, k4 x1 x2 x3 m = some res → Inv m → TT InvS (Call 2) mX11_rowOf (4, [(0, .ref 138), (1, .int x1), (2, .int x2), (3, .int x3)], [], S, m) (some (.int res.1)) (S, res.2)) (n : Nat) : ∀ {x1 : Int32} {x2 : Int32} {x3 : Int32} {x4 : Int32} {x5 : Int32} {m : Me}, fX11_rowOf_24 n k4 x1 x2 x3 x4 x5 m = some res → Inv m → TT InvS (Call 2) mX11_rowOf (24, [(0, .ref 138), (1, .int x1), (2, .int x2), (3, .int x3), (4, .int x4), (5, .int x5)], [], S, m) (some (.int res.1)) (S, res.2) := by
  induction n with
  | zero => intro x1 x2 x3 x4 x5 m hf; cases hf
  | succ n ih =>
    intro x1 x2 x3 x4 x5 m hf  hI
    unfold fX11_rowOf_24 at hf
    refine to_iload (q := 26) rfl dX11_rowOf_24 rfl ?_
    refine to_aload_n (q := 27) rfl (by decide) dX11_rowOf_26 rfl ?_
    refine to_getR (q := 30) (b := 141) (k0 := 11) (C := RX11) (T := TX11) (N := 37) (j := 15) rfl fx_X11_20 (h_138 hS) rfl (iv_138_15 hI) dX11_rowOf_27 rfl ?_
    refine to_iconst (q := 31) ic_5 dX11_rowOf_30 rfl ?_
    refine to_iaj (q := 32) (h_141 hS) (by decide) (tn_5) dX11_rowOf_31 rfl ?_
    by_cases h7 : (m.1 141 5) ≤ x5
    · have hf := ite_pos h7 hf
      refine to_icT (q := 78) (op := .ge) h7 dX11_rowOf_32 rfl ?_
      refine to_iload_n (q := 79) rfl dX11_rowOf_78 rfl ?_
      refine to_iload (q := 81) rfl dX11_rowOf_79 rfl ?_
      by_cases h8 : x4 = (0 : Int32)
      · have hf := ite_pos h8 hf
        refine to_ifT (q := 90) (op := .eq) h8 dX11_rowOf_81 rfl ?_
        refine to_iconst (q := 91) ic_0 dX11_rowOf_90 rfl ?_
        exact to_ext [(0, .ref 138), (1, .int x1), (3, .int x3)] (ext_cons rfl (ext_cons rfl (ext_cons rfl ext_nil))) (kX11_rowOf_91 hS hk4 hf hI)
      · have hf := ite_neg h8 hf
        refine to_ifF (q := 84) (op := .eq) 90 h8 dX11_rowOf_81 rfl rfl ?_
        refine to_iconst (q := 85) ic_1 dX11_rowOf_84 rfl ?_
        refine to_iload_n (q := 86) rfl dX11_rowOf_85 rfl ?_
        refine to_ishl (q := 87) dX11_rowOf_86 rfl ?_
        refine to_goto (q := 91) dX11_rowOf_87 rfl ?_
        exact to_ext [(0, .ref 138), (1, .int x1), (3, .int x3)] (ext_cons rfl (ext_cons rfl (ext_cons rfl ext_nil))) (kX11_rowOf_91 hS hk4 hf hI)
    · have hf := ite_neg h7 hf
      refine to_icF (q := 35) (op := .ge) 78 h7 dX11_rowOf_32 rfl rfl ?_
      refine to_iload (q := 37) rfl dX11_rowOf_35 rfl ?_
      by_cases h9 : x4 = (0 : Int32)
      · have hf := ite_pos h9 hf
        refine to_ifT (q := 69) (op := .eq) h9 dX11_rowOf_37 rfl ?_
        exact to_ext [(0, .ref 138), (1, .int x1), (2, .int x2), (3, .int x3), (5, .int x5)] (ext_cons rfl (ext_cons rfl (ext_cons rfl (ext_cons rfl (ext_cons rfl ext_nil))))) (kX11_rowOf_69 hS hk4 ih hf hI)
      · have hf := ite_neg h9 hf
        refine to_ifF (q := 40) (op := .eq) 69 h9 dX11_rowOf_37 rfl rfl ?_
        refine to_iload (q := 42) rfl dX11_rowOf_40 rfl ?_
        refine to_iload_n (q := 43) rfl dX11_rowOf_42 rfl ?_
        by_cases h10 : x5 = x3
        · have hf := ite_pos h10 hf
          refine to_icT (q := 65) (op := .eq) h10 dX11_rowOf_43 rfl ?_
          exact to_ext [(0, .ref 138), (1, .int x1), (2, .int x2), (3, .int x3), (5, .int x5)] (ext_cons rfl (ext_cons rfl (ext_cons rfl (ext_cons rfl (ext_cons rfl ext_nil))))) (kX11_rowOf_65 hS hk4 ih hf hI)
        · have hf := ite_neg h10 hf
          refine to_icF (q := 46) (op := .eq) 65 h10 dX11_rowOf_43 rfl rfl ?_
          refine to_iload_n (q := 47) rfl dX11_rowOf_46 rfl ?_
          refine to_iload (q := 49) rfl dX11_rowOf_47 rfl ?_
          obtain ⟨r13, m14, hc11, hf⟩ := cl2_some hf
          have qc12 := kX11_has hS hc11 hI
          refine to_statI (q := 52) mX11_has [.int x1, .int x5] dX11_rowOf_49 rfl rfl (Nat.le_of_ble_eq_true rfl) mo_X11_has (Or.inl ml_X11_259) sa_X11_has (Call_mono (by decide) qc12.1) ?_
          have hI := qc12.2
          by_cases h15 : r13 = (0 : Int32)
          · have hf := ite_pos h15 hf
            refine to_ifT (q := 65) (op := .eq) h15 dX11_rowOf_52 rfl ?_
            exact to_ext [(0, .ref 138), (1, .int x1), (2, .int x2), (3, .int x3), (5, .int x5)] (ext_cons rfl (ext_cons rfl (ext_cons rfl (ext_cons rfl (ext_cons rfl ext_nil))))) (kX11_rowOf_65 hS hk4 ih hf hI)
          · have hf := ite_neg h15 hf
            refine to_ifF (q := 55) (op := .eq) 65 h15 dX11_rowOf_52 rfl rfl ?_
            refine to_aload_n (q := 56) rfl (by decide) dX11_rowOf_55 rfl ?_
            refine to_iload_n (q := 57) rfl dX11_rowOf_56 rfl ?_
            refine to_iload (q := 59) rfl dX11_rowOf_57 rfl ?_
            obtain ⟨r18, m19, hc16, hf⟩ := cl2_some hf
            have qc17 := kX11_isIn hS hc16 hI
            refine to_virtI (q := 62) mX11_isIn [.int x3, .int x5] dX11_rowOf_59 rfl rfl (Nat.le_of_ble_eq_true rfl) mo_X11_isIn mv_X11_353 (Or.inl ⟨_, _, _, h_138 hS, rfl, rfl⟩) (Call_mono (by decide) qc17.1) ?_
            have hI := qc17.2
            by_cases h20 : r18 = (0 : Int32)
            · have hf := ite_pos h20 hf
              refine to_ifF (q := 65) (op := .ne) 69 (fun z => z h20) dX11_rowOf_62 rfl rfl ?_
              exact to_ext [(0, .ref 138), (1, .int x1), (2, .int x2), (3, .int x3), (5, .int x5)] (ext_cons rfl (ext_cons rfl (ext_cons rfl (ext_cons rfl (ext_cons rfl ext_nil))))) (kX11_rowOf_65 hS hk4 ih hf hI)
            · have hf := ite_neg h20 hf
              refine to_ifT (q := 69) (op := .ne) h20 dX11_rowOf_62 rfl ?_
              exact to_ext [(0, .ref 138), (1, .int x1), (2, .int x2), (3, .int x3), (5, .int x5)] (ext_cons rfl (ext_cons rfl (ext_cons rfl (ext_cons rfl (ext_cons rfl ext_nil))))) (kX11_rowOf_69 hS hk4 ih hf hI)
def fX11_rowOf_4 (n : Nat) (x1 : Int32) (x2 : Int32) (x3 : Int32) (m : Me) : Option (Int32 × Me) := match n with
  | 0 => none
  | n + 1 => if (m.1 141 5) ≤ x3 then if x2 = (0 : Int32) then fX11_rowOf_110 x2 ((0 : Int32)) m else fX11_rowOf_110 x2 ((1000000 : Int32)) m else cl2 (fX11_has x1 x3 m) fun r5 m6 => fX11_rowOf_24 FU (fX11_rowOf_4 n) x1 x2 x3 r5 ((0 : Int32)) m6
set_option maxRecDepth 20000 in
theorem kX11_rowOf_4 {S : Sh} (hS : ShOK S) {res : Int32 × Me} (n : Nat) : ∀ {x1 : Int32} {x2 : Int32} {x3 : Int32} {m : Me}, fX11_rowOf_4 n x1 x2 x3 m = some res → Inv m → TT InvS (Call 2) mX11_rowOf (4, [(0, .ref 138), (1, .int x1), (2, .int x2), (3, .int x3)], [], S, m) (some (.int res.1)) (S, res.2) := by
  induction n with
  | zero => intro x1 x2 x3 m hf; cases hf
  | succ n ih =>
    intro x1 x2 x3 m hf  hI
    unfold fX11_rowOf_4 at hf
    refine to_iload_n (q := 5) rfl dX11_rowOf_4 rfl ?_
    refine to_aload_n (q := 6) rfl (by decide) dX11_rowOf_5 rfl ?_
    refine to_getR (q := 9) (b := 141) (k0 := 11) (C := RX11) (T := TX11) (N := 37) (j := 15) rfl fx_X11_20 (h_138 hS) rfl (iv_138_15 hI) dX11_rowOf_6 rfl ?_
    refine to_iconst (q := 10) ic_5 dX11_rowOf_9 rfl ?_
    refine to_iaj (q := 11) (h_141 hS) (by decide) (tn_5) dX11_rowOf_10 rfl ?_
    by_cases h1 : (m.1 141 5) ≤ x3
    · have hf := ite_pos h1 hf
      refine to_icT (q := 99) (op := .ge) h1 dX11_rowOf_11 rfl ?_
      refine to_iload_n (q := 100) rfl dX11_rowOf_99 rfl ?_
      by_cases h2 : x2 = (0 : Int32)
      · have hf := ite_pos h2 hf
        refine to_ifF (q := 103) (op := .ne) 107 (fun z => z h2) dX11_rowOf_100 rfl rfl ?_
        refine to_iconst (q := 104) ic_0 dX11_rowOf_103 rfl ?_
        refine to_goto (q := 110) dX11_rowOf_104 rfl ?_
        exact to_ext [(0, .ref 138), (2, .int x2)] (ext_cons rfl (ext_cons rfl ext_nil)) (kX11_rowOf_110 hS hf hI)
      · have hf := ite_neg h2 hf
        refine to_ifT (q := 107) (op := .ne) h2 dX11_rowOf_100 rfl ?_
        refine to_ldcw (q := 110) con_X11_328 dX11_rowOf_107 rfl ?_
        exact to_ext [(0, .ref 138), (2, .int x2)] (ext_cons rfl (ext_cons rfl ext_nil)) (kX11_rowOf_110 hS hf hI)
    · have hf := ite_neg h1 hf
      refine to_icF (q := 14) (op := .ge) 99 h1 dX11_rowOf_11 rfl rfl ?_
      refine to_iload_n (q := 15) rfl dX11_rowOf_14 rfl ?_
      refine to_iload_n (q := 16) rfl dX11_rowOf_15 rfl ?_
      obtain ⟨r5, m6, hc3, hf⟩ := cl2_some hf
      have qc4 := kX11_has hS hc3 hI
      refine to_statI (q := 19) mX11_has [.int x1, .int x3] dX11_rowOf_16 rfl rfl (Nat.le_of_ble_eq_true rfl) mo_X11_has (Or.inl ml_X11_259) sa_X11_has (Call_mono (by decide) qc4.1) ?_
      have hI := qc4.2
      refine to_istore (q := 21) [(4, .int r5), (0, .ref 138), (1, .int x1), (2, .int x2), (3, .int x3)] rfl (by decide) dX11_rowOf_19 rfl ?_
      refine to_iconst (q := 22) ic_0 dX11_rowOf_21 rfl ?_
      refine to_istore (q := 24) [(5, .int (0 : Int32)), (4, .int r5), (0, .ref 138), (1, .int x1), (2, .int x2), (3, .int x3)] rfl (by decide) dX11_rowOf_22 rfl ?_
      exact to_ext [(0, .ref 138), (1, .int x1), (2, .int x2), (3, .int x3), (4, .int r5), (5, .int (0 : Int32))] (ext_cons rfl (ext_cons rfl (ext_cons rfl (ext_cons rfl (ext_cons rfl (ext_cons rfl ext_nil)))))) (kX11_rowOf_24 hS ih FU hf hI)
def fX11_rowOf (x1 : Int32) (m : Me) : Option (Int32 × Me) := fX11_rowOf_4 FU x1 ((0 : Int32)) ((0 : Int32)) m
set_option maxRecDepth 20000 in
theorem kX11_rowOf {S : Sh} (hS : ShOK S) {res : Int32 × Me} {x1 : Int32} {m : Me} (hf : fX11_rowOf x1 m = some res) (hI : Inv m) : Call 3 mX11_rowOf [.ref 138, .int x1] (S, m) (some (.int res.1)) (S, res.2) ∧ Inv res.2 := by
  refine call_of (P := InvS) (Nat.le_of_ble_eq_true rfl) (by simp [Value.category]) ?_
  show TT InvS (Call 2) mX11_rowOf (0, [(0, .ref 138), (1, .int x1)], [], S, m) _ _
  unfold fX11_rowOf at hf
  refine to_iconst (q := 1) ic_0 dX11_rowOf_0 rfl ?_
  refine to_istore_n (q := 2) [(2, .int (0 : Int32)), (0, .ref 138), (1, .int x1)] rfl (by decide) dX11_rowOf_1 rfl ?_
  refine to_iconst (q := 3) ic_0 dX11_rowOf_2 rfl ?_
  refine to_istore_n (q := 4) [(3, .int (0 : Int32)), (2, .int (0 : Int32)), (0, .ref 138), (1, .int x1)] rfl (by decide) dX11_rowOf_3 rfl ?_
  exact to_ext [(0, .ref 138), (1, .int x1), (2, .int (0 : Int32)), (3, .int (0 : Int32))] (ext_cons rfl (ext_cons rfl (ext_cons rfl (ext_cons rfl ext_nil)))) (kX11_rowOf_4 hS FU hf hI)
def fX11_pack_228 (t0 : Int32) (m : Me) : Option (Int32 × Me) := some (t0, m)
set_option maxRecDepth 20000 in
theorem kX11_pack_228 {S : Sh} (hS : ShOK S) {res : Int32 × Me} {t0 : Int32} {m : Me} (hf : fX11_pack_228 t0 m = some res) (hI : Inv m) : TT InvS (Call 3) mX11_pack (228, [], [.int t0], S, m) (some (.int res.1)) (S, res.2) := by
  unfold fX11_pack_228 at hf
  cases hf
  exact to_iret dX11_pack_228 rfl rfl rfl rfl hI
def fX11_pack_201 (k33 : Int32 → Int32 → Int32 → Int32 → Me → Option (Int32 × Me)) (x1 : Int32) (x2 : Int32) (x3 : Int32) (x4 : Int32) (m : Me) : Option (Int32 × Me) := k33 x1 x2 x3 ((x4 + (1 : Int32))) m
set_option maxRecDepth 20000 in
theorem kX11_pack_201 {S : Sh} (hS : ShOK S) {res : Int32 × Me} {k33 : Int32 → Int32 → Int32 → Int32 → Me → Option (Int32 × Me)} (hk33 : ∀ {x1 : Int32} {x2 : Int32} {x3 : Int32} {x4 : Int32} {m : Me}, k33 x1 x2 x3 x4 m = some res → Inv m → TT InvS (Call 3) mX11_pack (33, [(0, .ref 138), (1, .int x1), (2, .int x2), (3, .int x3), (4, .int x4)], [], S, m) (some (.int res.1)) (S, res.2)) {x1 : Int32} {x2 : Int32} {x3 : Int32} {x4 : Int32} {m : Me} (hf : fX11_pack_201 k33 x1 x2 x3 x4 m = some res) (hI : Inv m) : TT InvS (Call 3) mX11_pack (201, [(0, .ref 138), (1, .int x1), (2, .int x2), (3, .int x3), (4, .int x4)], [], S, m) (some (.int res.1)) (S, res.2) := by
  unfold fX11_pack_201 at hf
  refine to_iinc (q := 204) (v := (x4 + (1 : Int32))) rfl (congrArg (fun z => x4 + z) ic_1) [(4, .int (x4 + (1 : Int32))), (0, .ref 138), (1, .int x1), (2, .int x2), (3, .int x3)] rfl (by decide) dX11_pack_201 rfl ?_
  refine to_goto (q := 33) dX11_pack_204 rfl ?_
  exact to_ext [(0, .ref 138), (1, .int x1), (2, .int x2), (3, .int x3), (4, .int (x4 + (1 : Int32)))] (ext_cons rfl (ext_cons rfl (ext_cons rfl (ext_cons rfl (ext_cons rfl ext_nil))))) (hk33 hf hI)
def fX11_pack_195 (k33 : Int32 → Int32 → Int32 → Int32 → Me → Option (Int32 × Me)) (x1 : Int32) (x4 : Int32) (x6 : Int32) (m : Me) : Option (Int32 × Me) := fX11_pack_201 k33 x1 x4 x6 x4 m
set_option maxRecDepth 20000 in
theorem kX11_pack_195 {S : Sh} (hS : ShOK S) {res : Int32 × Me} {k33 : Int32 → Int32 → Int32 → Int32 → Me → Option (Int32 × Me)} (hk33 : ∀ {x1 : Int32} {x2 : Int32} {x3 : Int32} {x4 : Int32} {m : Me}, k33 x1 x2 x3 x4 m = some res → Inv m → TT InvS (Call 3) mX11_pack (33, [(0, .ref 138), (1, .int x1), (2, .int x2), (3, .int x3), (4, .int x4)], [], S, m) (some (.int res.1)) (S, res.2)) {x1 : Int32} {x4 : Int32} {x6 : Int32} {m : Me} (hf : fX11_pack_195 k33 x1 x4 x6 m = some res) (hI : Inv m) : TT InvS (Call 3) mX11_pack (195, [(0, .ref 138), (1, .int x1), (4, .int x4), (6, .int x6)], [], S, m) (some (.int res.1)) (S, res.2) := by
  unfold fX11_pack_195 at hf
  refine to_iload (q := 197) rfl dX11_pack_195 rfl ?_
  refine to_istore_n (q := 198) [(2, .int x4), (0, .ref 138), (1, .int x1), (4, .int x4), (6, .int x6)] rfl (by decide) dX11_pack_197 rfl ?_
  refine to_iload (q := 200) rfl dX11_pack_198 rfl ?_
  refine to_istore_n (q := 201) [(3, .int x6), (2, .int x4), (0, .ref 138), (1, .int x1), (4, .int x4), (6, .int x6)] rfl (by decide) dX11_pack_200 rfl ?_
  exact to_ext [(0, .ref 138), (1, .int x1), (2, .int x4), (3, .int x6), (4, .int x4)] (ext_cons rfl (ext_cons rfl (ext_cons rfl (ext_cons rfl (ext_cons rfl ext_nil))))) (kX11_pack_201 hS hk33 hf hI)
def fX11_pack_122 (k33 : Int32 → Int32 → Int32 → Int32 → Me → Option (Int32 × Me)) (k52 : Int32 → Int32 → Int32 → Int32 → Int32 → Int32 → Me → Option (Int32 × Me)) (x1 : Int32) (x2 : Int32) (x3 : Int32) (x4 : Int32) (x5 : Int32) (x6 : Int32) (m : Me) : Option (Int32 × Me) := k52 x1 x2 x3 x4 x5 ((x6 + (1 : Int32))) m
set_option maxRecDepth 20000 in
theorem kX11_pack_122 {S : Sh} (hS : ShOK S) {res : Int32 × Me} {k33 : Int32 → Int32 → Int32 → Int32 → Me → Option (Int32 × Me)} (hk33 : ∀ {x1 : Int32} {x2 : Int32} {x3 : Int32} {x4 : Int32} {m : Me}, k33 x1 x2 x3 x4 m = some res → Inv m → TT InvS (Call 3) mX11_pack (33, [(0, .ref 138), (1, .int x1), (2, .int x2), (3, .int x3), (4, .int x4)], [], S, m) (some (.int res.1)) (S, res.2)) {k52 : Int32 → Int32 → Int32 → Int32 → Int32 → Int32 → Me → Option (Int32 × Me)} (hk52 : ∀ {x1 : Int32} {x2 : Int32} {x3 : Int32} {x4 : Int32} {x5 : Int32} {x6 : Int32} {m : Me}, k52 x1 x2 x3 x4 x5 x6 m = some res → Inv m → TT InvS (Call 3) mX11_pack (52, [(0, .ref 138), (1, .int x1), (2, .int x2), (3, .int x3), (4, .int x4), (5, .int x5), (6, .int x6)], [], S, m) (some (.int res.1)) (S, res.2)) {x1 : Int32} {x2 : Int32} {x3 : Int32} {x4 : Int32} {x5 : Int32} {x6 : Int32} {m : Me} (hf : fX11_pack_122 k33 k52 x1 x2 x3 x4 x5 x6 m = some res) (hI : Inv m) : TT InvS (Call 3) mX11_pack (122, [(0, .ref 138), (1, .int x1), (2, .int x2), (3, .int x3), (4, .int x4), (5, .int x5), (6, .int x6)], [], S, m) (some (.int res.1)) (S, res.2) := by
  unfold fX11_pack_122 at hf
  refine to_iinc (q := 125) (v := (x6 + (1 : Int32))) rfl (congrArg (fun z => x6 + z) ic_1) [(6, .int (x6 + (1 : Int32))), (0, .ref 138), (1, .int x1), (2, .int x2), (3, .int x3), (4, .int x4), (5, .int x5)] rfl (by decide) dX11_pack_122 rfl ?_
  refine to_goto (q := 52) dX11_pack_125 rfl ?_
  exact to_ext [(0, .ref 138), (1, .int x1), (2, .int x2), (3, .int x3), (4, .int x4), (5, .int x5), (6, .int (x6 + (1 : Int32)))] (ext_cons rfl (ext_cons rfl (ext_cons rfl (ext_cons rfl (ext_cons rfl (ext_cons rfl (ext_cons rfl ext_nil))))))) (hk52 hf hI)
def fX11_pack_114 (k33 : Int32 → Int32 → Int32 → Int32 → Me → Option (Int32 × Me)) (k52 : Int32 → Int32 → Int32 → Int32 → Int32 → Int32 → Me → Option (Int32 × Me)) (k66 : Int32 → Int32 → Int32 → Int32 → Int32 → Int32 → Int32 → Me → Option (Int32 × Me)) (x1 : Int32) (x2 : Int32) (x3 : Int32) (x4 : Int32) (x6 : Int32) (x7 : Int32) (t0 : Int32) (m : Me) : Option (Int32 × Me) := k66 x1 x2 x3 x4 t0 x6 ((x7 + (1 : Int32))) m
set_option maxRecDepth 20000 in
theorem kX11_pack_114 {S : Sh} (hS : ShOK S) {res : Int32 × Me} {k33 : Int32 → Int32 → Int32 → Int32 → Me → Option (Int32 × Me)} (hk33 : ∀ {x1 : Int32} {x2 : Int32} {x3 : Int32} {x4 : Int32} {m : Me}, k33 x1 x2 x3 x4 m = some res → Inv m → TT InvS (Call 3) mX11_pack (33, [(0, .ref 138), (1, .int x1), (2, .int x2), (3, .int x3), (4, .int x4)], [], S, m) (some (.int res.1)) (S, res.2)) {k52 : Int32 → Int32 → Int32 → Int32 → Int32 → Int32 → Me → Option (Int32 × Me)} (hk52 : ∀ {x1 : Int32} {x2 : Int32} {x3 : Int32} {x4 : Int32} {x5 : Int32} {x6 : Int32} {m : Me}, k52 x1 x2 x3 x4 x5 x6 m = some res → Inv m → TT InvS (Call 3) mX11_pack (52, [(0, .ref 138), (1, .int x1), (2, .int x2), (3, .int x3), (4, .int x4), (5, .int x5), (6, .int x6)], [], S, m) (some (.int res.1)) (S, res.2)) {k66 : Int32 → Int32 → Int32 → Int32 → Int32 → Int32 → Int32 → Me → Option (Int32 × Me)} (hk66 : ∀ {x1 : Int32} {x2 : Int32} {x3 : Int32} {x4 : Int32} {x5 : Int32} {x6 : Int32} {x7 : Int32} {m : Me}, k66 x1 x2 x3 x4 x5 x6 x7 m = some res → Inv m → TT InvS (Call 3) mX11_pack (66, [(0, .ref 138), (1, .int x1), (2, .int x2), (3, .int x3), (4, .int x4), (5, .int x5), (6, .int x6), (7, .int x7)], [], S, m) (some (.int res.1)) (S, res.2)) {x1 : Int32} {x2 : Int32} {x3 : Int32} {x4 : Int32} {x6 : Int32} {x7 : Int32} {t0 : Int32} {m : Me} (hf : fX11_pack_114 k33 k52 k66 x1 x2 x3 x4 x6 x7 t0 m = some res) (hI : Inv m) : TT InvS (Call 3) mX11_pack (114, [(0, .ref 138), (1, .int x1), (2, .int x2), (3, .int x3), (4, .int x4), (6, .int x6), (7, .int x7)], [.int t0], S, m) (some (.int res.1)) (S, res.2) := by
  unfold fX11_pack_114 at hf
  refine to_istore (q := 116) [(5, .int t0), (0, .ref 138), (1, .int x1), (2, .int x2), (3, .int x3), (4, .int x4), (6, .int x6), (7, .int x7)] rfl (by decide) dX11_pack_114 rfl ?_
  refine to_iinc (q := 119) (v := (x7 + (1 : Int32))) rfl (congrArg (fun z => x7 + z) ic_1) [(7, .int (x7 + (1 : Int32))), (5, .int t0), (0, .ref 138), (1, .int x1), (2, .int x2), (3, .int x3), (4, .int x4), (6, .int x6)] rfl (by decide) dX11_pack_116 rfl ?_
  refine to_goto (q := 66) dX11_pack_119 rfl ?_
  exact to_ext [(0, .ref 138), (1, .int x1), (2, .int x2), (3, .int x3), (4, .int x4), (5, .int t0), (6, .int x6), (7, .int (x7 + (1 : Int32)))] (ext_cons rfl (ext_cons rfl (ext_cons rfl (ext_cons rfl (ext_cons rfl (ext_cons rfl (ext_cons rfl (ext_cons rfl ext_nil)))))))) (hk66 hf hI)
def fX11_pack_113 (k33 : Int32 → Int32 → Int32 → Int32 → Me → Option (Int32 × Me)) (k52 : Int32 → Int32 → Int32 → Int32 → Int32 → Int32 → Me → Option (Int32 × Me)) (k66 : Int32 → Int32 → Int32 → Int32 → Int32 → Int32 → Int32 → Me → Option (Int32 × Me)) (x1 : Int32) (x2 : Int32) (x3 : Int32) (x4 : Int32) (x6 : Int32) (x7 : Int32) (m : Me) : Option (Int32 × Me) := fX11_pack_114 k33 k52 k66 x1 x2 x3 x4 x6 x7 ((0 : Int32)) m
set_option maxRecDepth 20000 in
theorem kX11_pack_113 {S : Sh} (hS : ShOK S) {res : Int32 × Me} {k33 : Int32 → Int32 → Int32 → Int32 → Me → Option (Int32 × Me)} (hk33 : ∀ {x1 : Int32} {x2 : Int32} {x3 : Int32} {x4 : Int32} {m : Me}, k33 x1 x2 x3 x4 m = some res → Inv m → TT InvS (Call 3) mX11_pack (33, [(0, .ref 138), (1, .int x1), (2, .int x2), (3, .int x3), (4, .int x4)], [], S, m) (some (.int res.1)) (S, res.2)) {k52 : Int32 → Int32 → Int32 → Int32 → Int32 → Int32 → Me → Option (Int32 × Me)} (hk52 : ∀ {x1 : Int32} {x2 : Int32} {x3 : Int32} {x4 : Int32} {x5 : Int32} {x6 : Int32} {m : Me}, k52 x1 x2 x3 x4 x5 x6 m = some res → Inv m → TT InvS (Call 3) mX11_pack (52, [(0, .ref 138), (1, .int x1), (2, .int x2), (3, .int x3), (4, .int x4), (5, .int x5), (6, .int x6)], [], S, m) (some (.int res.1)) (S, res.2)) {k66 : Int32 → Int32 → Int32 → Int32 → Int32 → Int32 → Int32 → Me → Option (Int32 × Me)} (hk66 : ∀ {x1 : Int32} {x2 : Int32} {x3 : Int32} {x4 : Int32} {x5 : Int32} {x6 : Int32} {x7 : Int32} {m : Me}, k66 x1 x2 x3 x4 x5 x6 x7 m = some res → Inv m → TT InvS (Call 3) mX11_pack (66, [(0, .ref 138), (1, .int x1), (2, .int x2), (3, .int x3), (4, .int x4), (5, .int x5), (6, .int x6), (7, .int x7)], [], S, m) (some (.int res.1)) (S, res.2)) {x1 : Int32} {x2 : Int32} {x3 : Int32} {x4 : Int32} {x6 : Int32} {x7 : Int32} {m : Me} (hf : fX11_pack_113 k33 k52 k66 x1 x2 x3 x4 x6 x7 m = some res) (hI : Inv m) : TT InvS (Call 3) mX11_pack (113, [(0, .ref 138), (1, .int x1), (2, .int x2), (3, .int x3), (4, .int x4), (6, .int x6), (7, .int x7)], [], S, m) (some (.int res.1)) (S, res.2) := by
  unfold fX11_pack_113 at hf
  refine to_iconst (q := 114) ic_0 dX11_pack_113 rfl ?_
  exact to_ext [(0, .ref 138), (1, .int x1), (2, .int x2), (3, .int x3), (4, .int x4), (6, .int x6), (7, .int x7)] (ext_cons rfl (ext_cons rfl (ext_cons rfl (ext_cons rfl (ext_cons rfl (ext_cons rfl (ext_cons rfl ext_nil))))))) (kX11_pack_114 hS hk33 hk52 hk66 hf hI)
def fX11_pack_66 (n : Nat) (k33 : Int32 → Int32 → Int32 → Int32 → Me → Option (Int32 × Me)) (k52 : Int32 → Int32 → Int32 → Int32 → Int32 → Int32 → Me → Option (Int32 × Me)) (x1 : Int32) (x2 : Int32) (x3 : Int32) (x4 : Int32) (x5 : Int32) (x6 : Int32) (x7 : Int32) (m : Me) : Option (Int32 × Me) := match n with
  | 0 => none
  | n + 1 => ck (inb ((10 : Int32) + x6) 186) (if (m.1 141 ((10 : Int32) + x6).toNatClampNeg) ≤ x7 then fX11_pack_122 k33 k52 x1 x2 x3 x4 x5 x6 m else cl2 (fX11_has x4 x6 m) fun r51 m52 => if r51 = (0 : Int32) then fX11_pack_122 k33 k52 x1 x2 x3 x4 x5 x6 m52 else if x5 = (0 : Int32) then fX11_pack_113 k33 k52 (fX11_pack_66 n k33 k52) x1 x2 x3 x4 x6 x7 m52 else cl2 (fX11_letterOf x6 x7 m52) fun r57 m58 => if r57 = (25 : Int32) then fX11_pack_113 k33 k52 (fX11_pack_66 n k33 k52) x1 x2 x3 x4 x6 x7 m58 else fX11_pack_114 k33 k52 (fX11_pack_66 n k33 k52) x1 x2 x3 x4 x6 x7 ((1 : Int32)) m58)
set_option maxRecDepth 20000 in
theorem kX11_pack_66 {S : Sh} (hS : ShOK S) {res : Int32 × Me} {k33 : Int32 → Int32 → Int32 → Int32 → Me → Option (Int32 × Me)} (hk33 : ∀ {x1 : Int32} {x2 : Int32} {x3 : Int32} {x4 : Int32} {m : Me}, k33 x1 x2 x3 x4 m = some res → Inv m → TT InvS (Call 3) mX11_pack (33, [(0, .ref 138), (1, .int x1), (2, .int x2), (3, .int x3), (4, .int x4)], [], S, m) (some (.int res.1)) (S, res.2)) {k52 : Int32 → Int32 → Int32 → Int32 → Int32 → Int32 → Me → Option (Int32 × Me)} (hk52 : ∀ {x1 : Int32} {x2 : Int32} {x3 : Int32} {x4 : Int32} {x5 : Int32} {x6 : Int32} {m : Me}, k52 x1 x2 x3 x4 x5 x6 m = some res → Inv m → TT InvS (Call 3) mX11_pack (52, [(0, .ref 138), (1, .int x1), (2, .int x2), (3, .int x3), (4, .int x4), (5, .int x5), (6, .int x6)], [], S, m) (some (.int res.1)) (S, res.2)) (n : Nat) : ∀ {x1 : Int32} {x2 : Int32} {x3 : Int32} {x4 : Int32} {x5 : Int32} {x6 : Int32} {x7 : Int32} {m : Me}, fX11_pack_66 n k33 k52 x1 x2 x3 x4 x5 x6 x7 m = some res → Inv m → TT InvS (Call 3) mX11_pack (66, [(0, .ref 138), (1, .int x1), (2, .int x2), (3, .int x3), (4, .int x4), (5, .int x5), (6, .int x6), (7, .int x7)], [], S, m) (some (.int res.1)) (S, res.2) := by
  induction n with
  | zero => intro x1 x2 x3 x4 x5 x6 x7 m hf; cases hf
  | succ n ih =>
    intro x1 x2 x3 x4 x5 x6 x7 m hf  hI
    unfold fX11_pack_66 at hf
    refine to_iload (q := 68) rfl dX11_pack_66 rfl ?_
    refine to_aload_n (q := 69) rfl (by decide) dX11_pack_68 rfl ?_
    refine to_getR (q := 72) (b := 141) (k0 := 11) (C := RX11) (T := TX11) (N := 37) (j := 15) rfl fx_X11_20 (h_138 hS) rfl (iv_138_15 hI) dX11_pack_69 rfl ?_
    refine to_bipush (q := 74) bp_10 dX11_pack_72 rfl ?_
    refine to_iload (q := 76) rfl dX11_pack_74 rfl ?_
    refine to_iadd (q := 77) dX11_pack_76 rfl ?_
    obtain ⟨hb47, hf⟩ := ck_some hf
    refine to_iaj (q := 78) (h_141 hS) hb47 (rfl) dX11_pack_77 rfl ?_
    by_cases h48 : (m.1 141 ((10 : Int32) + x6).toNatClampNeg) ≤ x7
    · have hf := ite_pos h48 hf
      refine to_icT (q := 122) (op := .ge) h48 dX11_pack_78 rfl ?_
      exact to_ext [(0, .ref 138), (1, .int x1), (2, .int x2), (3, .int x3), (4, .int x4), (5, .int x5), (6, .int x6)] (ext_cons rfl (ext_cons rfl (ext_cons rfl (ext_cons rfl (ext_cons rfl (ext_cons rfl (ext_cons rfl ext_nil))))))) (kX11_pack_122 hS hk33 hk52 hf hI)
    · have hf := ite_neg h48 hf
      refine to_icF (q := 81) (op := .ge) 122 h48 dX11_pack_78 rfl rfl ?_
      refine to_iload (q := 83) rfl dX11_pack_81 rfl ?_
      refine to_iload (q := 85) rfl dX11_pack_83 rfl ?_
      obtain ⟨r51, m52, hc49, hf⟩ := cl2_some hf
      have qc50 := kX11_has hS hc49 hI
      refine to_statI (q := 88) mX11_has [.int x4, .int x6] dX11_pack_85 rfl rfl (Nat.le_of_ble_eq_true rfl) mo_X11_has (Or.inl ml_X11_259) sa_X11_has (Call_mono (by decide) qc50.1) ?_
      have hI := qc50.2
      by_cases h53 : r51 = (0 : Int32)
      · have hf := ite_pos h53 hf
        refine to_ifT (q := 122) (op := .eq) h53 dX11_pack_88 rfl ?_
        exact to_ext [(0, .ref 138), (1, .int x1), (2, .int x2), (3, .int x3), (4, .int x4), (5, .int x5), (6, .int x6)] (ext_cons rfl (ext_cons rfl (ext_cons rfl (ext_cons rfl (ext_cons rfl (ext_cons rfl (ext_cons rfl ext_nil))))))) (kX11_pack_122 hS hk33 hk52 hf hI)
      · have hf := ite_neg h53 hf
        refine to_ifF (q := 91) (op := .eq) 122 h53 dX11_pack_88 rfl rfl ?_
        refine to_iload (q := 93) rfl dX11_pack_91 rfl ?_
        by_cases h54 : x5 = (0 : Int32)
        · have hf := ite_pos h54 hf
          refine to_ifT (q := 113) (op := .eq) h54 dX11_pack_93 rfl ?_
          exact to_ext [(0, .ref 138), (1, .int x1), (2, .int x2), (3, .int x3), (4, .int x4), (6, .int x6), (7, .int x7)] (ext_cons rfl (ext_cons rfl (ext_cons rfl (ext_cons rfl (ext_cons rfl (ext_cons rfl (ext_cons rfl ext_nil))))))) (kX11_pack_113 hS hk33 hk52 ih hf hI)
        · have hf := ite_neg h54 hf
          refine to_ifF (q := 96) (op := .eq) 113 h54 dX11_pack_93 rfl rfl ?_
          refine to_aload_n (q := 97) rfl (by decide) dX11_pack_96 rfl ?_
          refine to_iload (q := 99) rfl dX11_pack_97 rfl ?_
          refine to_iload (q := 101) rfl dX11_pack_99 rfl ?_
          obtain ⟨r57, m58, hc55, hf⟩ := cl2_some hf
          have qc56 := kX11_letterOf hS hc55 hI
          refine to_virtI (q := 104) mX11_letterOf [.int x6, .int x7] dX11_pack_101 rfl rfl (Nat.le_of_ble_eq_true rfl) mo_X11_letterOf mv_X11_350 (Or.inl ⟨_, _, _, h_138 hS, rfl, rfl⟩) (Call_mono (by decide) qc56.1) ?_
          have hI := qc56.2
          refine to_bipush (q := 106) bp_25 dX11_pack_104 rfl ?_
          by_cases h59 : r57 = (25 : Int32)
          · have hf := ite_pos h59 hf
            refine to_icT (q := 113) (op := .eq) h59 dX11_pack_106 rfl ?_
            exact to_ext [(0, .ref 138), (1, .int x1), (2, .int x2), (3, .int x3), (4, .int x4), (6, .int x6), (7, .int x7)] (ext_cons rfl (ext_cons rfl (ext_cons rfl (ext_cons rfl (ext_cons rfl (ext_cons rfl (ext_cons rfl ext_nil))))))) (kX11_pack_113 hS hk33 hk52 ih hf hI)
          · have hf := ite_neg h59 hf
            refine to_icF (q := 109) (op := .eq) 113 h59 dX11_pack_106 rfl rfl ?_
            refine to_iconst (q := 110) ic_1 dX11_pack_109 rfl ?_
            refine to_goto (q := 114) dX11_pack_110 rfl ?_
            exact to_ext [(0, .ref 138), (1, .int x1), (2, .int x2), (3, .int x3), (4, .int x4), (6, .int x6), (7, .int x7)] (ext_cons rfl (ext_cons rfl (ext_cons rfl (ext_cons rfl (ext_cons rfl (ext_cons rfl (ext_cons rfl ext_nil))))))) (kX11_pack_114 hS hk33 hk52 ih hf hI)
def fX11_pack_52 (n : Nat) (k33 : Int32 → Int32 → Int32 → Int32 → Me → Option (Int32 × Me)) (x1 : Int32) (x2 : Int32) (x3 : Int32) (x4 : Int32) (x5 : Int32) (x6 : Int32) (m : Me) : Option (Int32 × Me) := match n with
  | 0 => none
  | n + 1 => if (m.1 141 5) ≤ x6 then if x5 = (0 : Int32) then fX11_pack_201 k33 x1 x2 x3 x4 m else cl2 (fX11_bits x4 m) fun r25 m26 => cl2 (fX11_bits x2 m26) fun r29 m30 => if r29 ≤ r25 then cl2 (fX11_rowOf x4 m30) fun r34 m35 => if ((m35.1 141 0) * (m35.1 141 1)) < r34 then fX11_pack_201 k33 x1 x2 x3 x4 m35 else cl2 (fX11_bits x4 m35) fun r39 m40 => cl2 (fX11_bits x2 m40) fun r43 m44 => if r39 = r43 then if r34 < x3 then fX11_pack_195 k33 x1 x4 r34 m44 else fX11_pack_201 k33 x1 x2 x3 x4 m44 else fX11_pack_195 k33 x1 x4 r34 m44 else fX11_pack_201 k33 x1 x2 x3 x4 m30 else fX11_pack_66 FU k33 (fX11_pack_52 n k33) x1 x2 x3 x4 x5 x6 ((0 : Int32)) m
set_option maxRecDepth 20000 in
theorem kX11_pack_52 {S : Sh} (hS : ShOK S) {res : Int32 × Me} {k33 : Int32 → Int32 → Int32 → Int32 → Me → Option (Int32 × Me)} (hk33 : ∀ {x1 : Int32} {x2 : Int32} {x3 : Int32} {x4 : Int32} {m : Me}, k33 x1 x2 x3 x4 m = some res → Inv m → TT InvS (Call 3) mX11_pack (33, [(0, .ref 138), (1, .int x1), (2, .int x2), (3, .int x3), (4, .int x4)], [], S, m) (some (.int res.1)) (S, res.2)) (n : Nat) : ∀ {x1 : Int32} {x2 : Int32} {x3 : Int32} {x4 : Int32} {x5 : Int32} {x6 : Int32} {m : Me}, fX11_pack_52 n k33 x1 x2 x3 x4 x5 x6 m = some res → Inv m → TT InvS (Call 3) mX11_pack (52, [(0, .ref 138), (1, .int x1), (2, .int x2), (3, .int x3), (4, .int x4), (5, .int x5), (6, .int x6)], [], S, m) (some (.int res.1)) (S, res.2) := by
  induction n with
  | zero => intro x1 x2 x3 x4 x5 x6 m hf; cases hf
  | succ n ih =>
    intro x1 x2 x3 x4 x5 x6 m hf  hI
    unfold fX11_pack_52 at hf
    refine to_iload (q := 54) rfl dX11_pack_52 rfl ?_
    refine to_aload_n (q := 55) rfl (by decide) dX11_pack_54 rfl ?_
    refine to_getR (q := 58) (b := 141) (k0 := 11) (C := RX11) (T := TX11) (N := 37) (j := 15) rfl fx_X11_20 (h_138 hS) rfl (iv_138_15 hI) dX11_pack_55 rfl ?_
    refine to_iconst (q := 59) ic_5 dX11_pack_58 rfl ?_
    refine to_iaj (q := 60) (h_141 hS) (by decide) (tn_5) dX11_pack_59 rfl ?_
    by_cases h21 : (m.1 141 5) ≤ x6
    · have hf := ite_pos h21 hf
      refine to_icT (q := 128) (op := .ge) h21 dX11_pack_60 rfl ?_
      refine to_iload (q := 130) rfl dX11_pack_128 rfl ?_
      by_cases h22 : x5 = (0 : Int32)
      · have hf := ite_pos h22 hf
        refine to_ifT (q := 201) (op := .eq) h22 dX11_pack_130 rfl ?_
        exact to_ext [(0, .ref 138), (1, .int x1), (2, .int x2), (3, .int x3), (4, .int x4)] (ext_cons rfl (ext_cons rfl (ext_cons rfl (ext_cons rfl (ext_cons rfl ext_nil))))) (kX11_pack_201 hS hk33 hf hI)
      · have hf := ite_neg h22 hf
        refine to_ifF (q := 133) (op := .eq) 201 h22 dX11_pack_130 rfl rfl ?_
        refine to_iload (q := 135) rfl dX11_pack_133 rfl ?_
        obtain ⟨r25, m26, hc23, hf⟩ := cl2_some hf
        have qc24 := kX11_bits hS hc23 hI
        refine to_statI (q := 138) mX11_bits [.int x4] dX11_pack_135 rfl rfl (Nat.le_of_ble_eq_true rfl) mo_X11_bits (Or.inl ml_X11_347) sa_X11_bits (Call_mono (by decide) qc24.1) ?_
        have hI := qc24.2
        refine to_iload_n (q := 139) rfl dX11_pack_138 rfl ?_
        obtain ⟨r29, m30, hc27, hf⟩ := cl2_some hf
        have qc28 := kX11_bits hS hc27 hI
        refine to_statI (q := 142) mX11_bits [.int x2] dX11_pack_139 rfl rfl (Nat.le_of_ble_eq_true rfl) mo_X11_bits (Or.inl ml_X11_347) sa_X11_bits (Call_mono (by decide) qc28.1) ?_
        have hI := qc28.2
        by_cases h31 : r29 ≤ r25
        · have hf := ite_pos h31 hf
          refine to_icT (q := 148) (op := .ge) h31 dX11_pack_142 rfl ?_
          refine to_aload_n (q := 149) rfl (by decide) dX11_pack_148 rfl ?_
          refine to_iload (q := 151) rfl dX11_pack_149 rfl ?_
          obtain ⟨r34, m35, hc32, hf⟩ := cl2_some hf
          have qc33 := kX11_rowOf hS hc32 hI
          refine to_virtI (q := 154) mX11_rowOf [.int x4] dX11_pack_151 rfl rfl (Nat.le_of_ble_eq_true rfl) mo_X11_rowOf mv_X11_359 (Or.inl ⟨_, _, _, h_138 hS, rfl, rfl⟩) (Call_mono (by decide) qc33.1) ?_
          have hI := qc33.2
          refine to_istore (q := 156) [(6, .int r34), (0, .ref 138), (1, .int x1), (2, .int x2), (3, .int x3), (4, .int x4), (5, .int x5)] rfl (by decide) dX11_pack_154 rfl ?_
          refine to_iload (q := 158) rfl dX11_pack_156 rfl ?_
          refine to_aload_n (q := 159) rfl (by decide) dX11_pack_158 rfl ?_
          refine to_getR (q := 162) (b := 141) (k0 := 11) (C := RX11) (T := TX11) (N := 37) (j := 15) rfl fx_X11_20 (h_138 hS) rfl (iv_138_15 hI) dX11_pack_159 rfl ?_
          refine to_iconst (q := 163) ic_0 dX11_pack_162 rfl ?_
          refine to_iaj (q := 164) (h_141 hS) (by decide) (tn_0) dX11_pack_163 rfl ?_
          refine to_aload_n (q := 165) rfl (by decide) dX11_pack_164 rfl ?_
          refine to_getR (q := 168) (b := 141) (k0 := 11) (C := RX11) (T := TX11) (N := 37) (j := 15) rfl fx_X11_20 (h_138 hS) rfl (iv_138_15 hI) dX11_pack_165 rfl ?_
          refine to_iconst (q := 169) ic_1 dX11_pack_168 rfl ?_
          refine to_iaj (q := 170) (h_141 hS) (by decide) (tn_1) dX11_pack_169 rfl ?_
          refine to_imul (q := 171) dX11_pack_170 rfl ?_
          by_cases h36 : ((m35.1 141 0) * (m35.1 141 1)) < r34
          · have hf := ite_pos h36 hf
            refine to_icT (q := 201) (op := .gt) h36 dX11_pack_171 rfl ?_
            exact to_ext [(0, .ref 138), (1, .int x1), (2, .int x2), (3, .int x3), (4, .int x4)] (ext_cons rfl (ext_cons rfl (ext_cons rfl (ext_cons rfl (ext_cons rfl ext_nil))))) (kX11_pack_201 hS hk33 hf hI)
          · have hf := ite_neg h36 hf
            refine to_icF (q := 174) (op := .gt) 201 h36 dX11_pack_171 rfl rfl ?_
            refine to_iload (q := 176) rfl dX11_pack_174 rfl ?_
            obtain ⟨r39, m40, hc37, hf⟩ := cl2_some hf
            have qc38 := kX11_bits hS hc37 hI
            refine to_statI (q := 179) mX11_bits [.int x4] dX11_pack_176 rfl rfl (Nat.le_of_ble_eq_true rfl) mo_X11_bits (Or.inl ml_X11_347) sa_X11_bits (Call_mono (by decide) qc38.1) ?_
            have hI := qc38.2
            refine to_iload_n (q := 180) rfl dX11_pack_179 rfl ?_
            obtain ⟨r43, m44, hc41, hf⟩ := cl2_some hf
            have qc42 := kX11_bits hS hc41 hI
            refine to_statI (q := 183) mX11_bits [.int x2] dX11_pack_180 rfl rfl (Nat.le_of_ble_eq_true rfl) mo_X11_bits (Or.inl ml_X11_347) sa_X11_bits (Call_mono (by decide) qc42.1) ?_
            have hI := qc42.2
            by_cases h45 : r39 = r43
            · have hf := ite_pos h45 hf
              refine to_icF (q := 186) (op := .ne) 195 (fun z => z h45) dX11_pack_183 rfl rfl ?_
              refine to_iload (q := 188) rfl dX11_pack_186 rfl ?_
              refine to_iload_n (q := 189) rfl dX11_pack_188 rfl ?_
              by_cases h46 : r34 < x3
              · have hf := ite_pos h46 hf
                refine to_icT (q := 195) (op := .lt) h46 dX11_pack_189 rfl ?_
                exact to_ext [(0, .ref 138), (1, .int x1), (4, .int x4), (6, .int r34)] (ext_cons rfl (ext_cons rfl (ext_cons rfl (ext_cons rfl ext_nil)))) (kX11_pack_195 hS hk33 hf hI)
              · have hf := ite_neg h46 hf
                refine to_icF (q := 192) (op := .lt) 195 h46 dX11_pack_189 rfl rfl ?_
                refine to_goto (q := 201) dX11_pack_192 rfl ?_
                exact to_ext [(0, .ref 138), (1, .int x1), (2, .int x2), (3, .int x3), (4, .int x4)] (ext_cons rfl (ext_cons rfl (ext_cons rfl (ext_cons rfl (ext_cons rfl ext_nil))))) (kX11_pack_201 hS hk33 hf hI)
            · have hf := ite_neg h45 hf
              refine to_icT (q := 195) (op := .ne) h45 dX11_pack_183 rfl ?_
              exact to_ext [(0, .ref 138), (1, .int x1), (4, .int x4), (6, .int r34)] (ext_cons rfl (ext_cons rfl (ext_cons rfl (ext_cons rfl ext_nil)))) (kX11_pack_195 hS hk33 hf hI)
        · have hf := ite_neg h31 hf
          refine to_icF (q := 145) (op := .ge) 148 h31 dX11_pack_142 rfl rfl ?_
          refine to_goto (q := 201) dX11_pack_145 rfl ?_
          exact to_ext [(0, .ref 138), (1, .int x1), (2, .int x2), (3, .int x3), (4, .int x4)] (ext_cons rfl (ext_cons rfl (ext_cons rfl (ext_cons rfl (ext_cons rfl ext_nil))))) (kX11_pack_201 hS hk33 hf hI)
    · have hf := ite_neg h21 hf
      refine to_icF (q := 63) (op := .ge) 128 h21 dX11_pack_60 rfl rfl ?_
      refine to_iconst (q := 64) ic_0 dX11_pack_63 rfl ?_
      refine to_istore (q := 66) [(7, .int (0 : Int32)), (0, .ref 138), (1, .int x1), (2, .int x2), (3, .int x3), (4, .int x4), (5, .int x5), (6, .int x6)] rfl (by decide) dX11_pack_64 rfl ?_
      exact to_ext [(0, .ref 138), (1, .int x1), (2, .int x2), (3, .int x3), (4, .int x4), (5, .int x5), (6, .int x6), (7, .int (0 : Int32))] (ext_cons rfl (ext_cons rfl (ext_cons rfl (ext_cons rfl (ext_cons rfl (ext_cons rfl (ext_cons rfl (ext_cons rfl ext_nil)))))))) (kX11_pack_66 hS hk33 ih FU hf hI)
def fX11_pack_33 (n : Nat) (x1 : Int32) (x2 : Int32) (x3 : Int32) (x4 : Int32) (m : Me) : Option (Int32 × Me) := match n with
  | 0 => none
  | n + 1 => if ((1 : Int32) <<< ((m.1 141 5) &&& 31)) ≤ x4 then if x1 = (0 : Int32) then cl2 (fX11_bits x2 m) fun r19 m20 => fX11_pack_228 r19 m20 else if x1 = (1 : Int32) then fX11_pack_228 x2 m else fX11_pack_228 x3 m else fX11_pack_52 FU (fX11_pack_33 n) x1 x2 x3 x4 ((1 : Int32)) ((0 : Int32)) m
set_option maxRecDepth 20000 in
theorem kX11_pack_33 {S : Sh} (hS : ShOK S) {res : Int32 × Me} (n : Nat) : ∀ {x1 : Int32} {x2 : Int32} {x3 : Int32} {x4 : Int32} {m : Me}, fX11_pack_33 n x1 x2 x3 x4 m = some res → Inv m → TT InvS (Call 3) mX11_pack (33, [(0, .ref 138), (1, .int x1), (2, .int x2), (3, .int x3), (4, .int x4)], [], S, m) (some (.int res.1)) (S, res.2) := by
  induction n with
  | zero => intro x1 x2 x3 x4 m hf; cases hf
  | succ n ih =>
    intro x1 x2 x3 x4 m hf  hI
    unfold fX11_pack_33 at hf
    refine to_iload (q := 35) rfl dX11_pack_33 rfl ?_
    refine to_iconst (q := 36) ic_1 dX11_pack_35 rfl ?_
    refine to_aload_n (q := 37) rfl (by decide) dX11_pack_36 rfl ?_
    refine to_getR (q := 40) (b := 141) (k0 := 11) (C := RX11) (T := TX11) (N := 37) (j := 15) rfl fx_X11_20 (h_138 hS) rfl (iv_138_15 hI) dX11_pack_37 rfl ?_
    refine to_iconst (q := 41) ic_5 dX11_pack_40 rfl ?_
    refine to_iaj (q := 42) (h_141 hS) (by decide) (tn_5) dX11_pack_41 rfl ?_
    refine to_ishl (q := 43) dX11_pack_42 rfl ?_
    by_cases h14 : ((1 : Int32) <<< ((m.1 141 5) &&& 31)) ≤ x4
    · have hf := ite_pos h14 hf
      refine to_icT (q := 207) (op := .ge) h14 dX11_pack_43 rfl ?_
      refine to_iload_n (q := 208) rfl dX11_pack_207 rfl ?_
      by_cases h15 : x1 = (0 : Int32)
      · have hf := ite_pos h15 hf
        refine to_ifF (q := 211) (op := .ne) 218 (fun z => z h15) dX11_pack_208 rfl rfl ?_
        refine to_iload_n (q := 212) rfl dX11_pack_211 rfl ?_
        obtain ⟨r19, m20, hc17, hf⟩ := cl2_some hf
        have qc18 := kX11_bits hS hc17 hI
        refine to_statI (q := 215) mX11_bits [.int x2] dX11_pack_212 rfl rfl (Nat.le_of_ble_eq_true rfl) mo_X11_bits (Or.inl ml_X11_347) sa_X11_bits (Call_mono (by decide) qc18.1) ?_
        have hI := qc18.2
        refine to_goto (q := 228) dX11_pack_215 rfl ?_
        exact to_ext [] ext_nil (kX11_pack_228 hS hf hI)
      · have hf := ite_neg h15 hf
        refine to_ifT (q := 218) (op := .ne) h15 dX11_pack_208 rfl ?_
        refine to_iload_n (q := 219) rfl dX11_pack_218 rfl ?_
        refine to_iconst (q := 220) ic_1 dX11_pack_219 rfl ?_
        by_cases h16 : x1 = (1 : Int32)
        · have hf := ite_pos h16 hf
          refine to_icF (q := 223) (op := .ne) 227 (fun z => z h16) dX11_pack_220 rfl rfl ?_
          refine to_iload_n (q := 224) rfl dX11_pack_223 rfl ?_
          refine to_goto (q := 228) dX11_pack_224 rfl ?_
          exact to_ext [] ext_nil (kX11_pack_228 hS hf hI)
        · have hf := ite_neg h16 hf
          refine to_icT (q := 227) (op := .ne) h16 dX11_pack_220 rfl ?_
          refine to_iload_n (q := 228) rfl dX11_pack_227 rfl ?_
          exact to_ext [] ext_nil (kX11_pack_228 hS hf hI)
    · have hf := ite_neg h14 hf
      refine to_icF (q := 46) (op := .ge) 207 h14 dX11_pack_43 rfl rfl ?_
      refine to_iconst (q := 47) ic_1 dX11_pack_46 rfl ?_
      refine to_istore (q := 49) [(5, .int (1 : Int32)), (0, .ref 138), (1, .int x1), (2, .int x2), (3, .int x3), (4, .int x4)] rfl (by decide) dX11_pack_47 rfl ?_
      refine to_iconst (q := 50) ic_0 dX11_pack_49 rfl ?_
      refine to_istore (q := 52) [(6, .int (0 : Int32)), (5, .int (1 : Int32)), (0, .ref 138), (1, .int x1), (2, .int x2), (3, .int x3), (4, .int x4)] rfl (by decide) dX11_pack_50 rfl ?_
      exact to_ext [(0, .ref 138), (1, .int x1), (2, .int x2), (3, .int x3), (4, .int x4), (5, .int (1 : Int32)), (6, .int (0 : Int32))] (ext_cons rfl (ext_cons rfl (ext_cons rfl (ext_cons rfl (ext_cons rfl (ext_cons rfl (ext_cons rfl ext_nil))))))) (kX11_pack_52 hS ih FU hf hI)
def fX11_pack_20 (m : Me) : Option (Int32 × Me) := cl2 (fX11_no (1 : Int32) m) fun r12 m13 => some (r12, m13)
set_option maxRecDepth 20000 in
theorem kX11_pack_20 {S : Sh} (hS : ShOK S) {res : Int32 × Me} {m : Me} (hf : fX11_pack_20 m = some res) (hI : Inv m) : TT InvS (Call 3) mX11_pack (20, [(0, .ref 138)], [], S, m) (some (.int res.1)) (S, res.2) := by
  unfold fX11_pack_20 at hf
  refine to_aload_n (q := 21) rfl (by decide) dX11_pack_20 rfl ?_
  refine to_iconst (q := 22) ic_1 dX11_pack_21 rfl ?_
  obtain ⟨r12, m13, hc10, hf⟩ := cl2_some hf
  have qc11 := kX11_no hS hc10 hI
  refine to_virtI (q := 25) mX11_no [.int (1 : Int32)] dX11_pack_22 rfl rfl (Nat.le_of_ble_eq_true rfl) mo_X11_no mv_X11_159 (Or.inl ⟨_, _, _, h_138 hS, rfl, rfl⟩) (Call_mono (by decide) qc11.1) ?_
  have hI := qc11.2
  cases hf
  exact to_iret dX11_pack_25 rfl rfl rfl rfl hI
def fX11_pack (x1 : Int32) (m : Me) : Option (Int32 × Me) := cl1 (fX11_good m) fun m3 => if (m3.1 138 14) = (0 : Int32) then fX11_pack_20 m3 else cl2 (fX11_within x1 (0 : Int32) (2 : Int32) m3) fun r7 m8 => if r7 = (0 : Int32) then fX11_pack_20 m8 else fX11_pack_33 FU x1 ((0 : Int32)) ((0 : Int32)) ((1 : Int32)) m8
set_option maxRecDepth 20000 in
theorem kX11_pack {S : Sh} (hS : ShOK S) {res : Int32 × Me} {x1 : Int32} {m : Me} (hf : fX11_pack x1 m = some res) (hI : Inv m) : Call 4 mX11_pack [.ref 138, .int x1] (S, m) (some (.int res.1)) (S, res.2) ∧ Inv res.2 := by
  refine call_of (P := InvS) (Nat.le_of_ble_eq_true rfl) (by simp [Value.category]) ?_
  show TT InvS (Call 3) mX11_pack (0, [(0, .ref 138), (1, .int x1)], [], S, m) _ _
  unfold fX11_pack at hf
  refine to_aload_n (q := 1) rfl (by decide) dX11_pack_0 rfl ?_
  obtain ⟨m3, hc1, hf⟩ := cl1_some hf
  have qc2 := kX11_good hS hc1 hI
  refine to_virtV (q := 4) mX11_good [] dX11_pack_1 rfl rfl (Nat.le_of_ble_eq_true rfl) mo_X11_good mv_X11_156 (Or.inl ⟨_, _, _, h_138 hS, rfl, rfl⟩) (Call_mono (by decide) qc2.1) ?_
  have hI := qc2.2
  refine to_aload_n (q := 5) rfl (by decide) dX11_pack_4 rfl ?_
  refine to_getI (q := 8) (k0 := 11) (C := RX11) (T := TX11) (N := 37) (j := 14) rfl fx_X11_169 (h_138 hS) rfl dX11_pack_5 rfl ?_
  by_cases h4 : (m3.1 138 14) = (0 : Int32)
  · have hf := ite_pos h4 hf
    refine to_ifT (q := 20) (op := .eq) h4 dX11_pack_8 rfl ?_
    exact to_ext [(0, .ref 138)] (ext_cons rfl ext_nil) (kX11_pack_20 hS hf hI)
  · have hf := ite_neg h4 hf
    refine to_ifF (q := 11) (op := .eq) 20 h4 dX11_pack_8 rfl rfl ?_
    refine to_iload_n (q := 12) rfl dX11_pack_11 rfl ?_
    refine to_iconst (q := 13) ic_0 dX11_pack_12 rfl ?_
    refine to_iconst (q := 14) ic_2 dX11_pack_13 rfl ?_
    obtain ⟨r7, m8, hc5, hf⟩ := cl2_some hf
    have qc6 := kX11_within hS hc5 hI
    refine to_statI (q := 17) mX11_within [.int x1, .int (0 : Int32), .int (2 : Int32)] dX11_pack_14 rfl rfl (Nat.le_of_ble_eq_true rfl) mo_X11_within (Or.inl ml_X11_140) sa_X11_within (Call_mono (by decide) qc6.1) ?_
    have hI := qc6.2
    by_cases h9 : r7 = (0 : Int32)
    · have hf := ite_pos h9 hf
      refine to_ifF (q := 20) (op := .ne) 26 (fun z => z h9) dX11_pack_17 rfl rfl ?_
      exact to_ext [(0, .ref 138)] (ext_cons rfl ext_nil) (kX11_pack_20 hS hf hI)
    · have hf := ite_neg h9 hf
      refine to_ifT (q := 26) (op := .ne) h9 dX11_pack_17 rfl ?_
      refine to_iconst (q := 27) ic_0 dX11_pack_26 rfl ?_
      refine to_istore_n (q := 28) [(2, .int (0 : Int32)), (0, .ref 138), (1, .int x1)] rfl (by decide) dX11_pack_27 rfl ?_
      refine to_iconst (q := 29) ic_0 dX11_pack_28 rfl ?_
      refine to_istore_n (q := 30) [(3, .int (0 : Int32)), (2, .int (0 : Int32)), (0, .ref 138), (1, .int x1)] rfl (by decide) dX11_pack_29 rfl ?_
      refine to_iconst (q := 31) ic_1 dX11_pack_30 rfl ?_
      refine to_istore (q := 33) [(4, .int (1 : Int32)), (3, .int (0 : Int32)), (2, .int (0 : Int32)), (0, .ref 138), (1, .int x1)] rfl (by decide) dX11_pack_31 rfl ?_
      exact to_ext [(0, .ref 138), (1, .int x1), (2, .int (0 : Int32)), (3, .int (0 : Int32)), (4, .int (1 : Int32))] (ext_cons rfl (ext_cons rfl (ext_cons rfl (ext_cons rfl (ext_cons rfl ext_nil))))) (kX11_pack_33 hS FU hf hI)
def fX11_laySure_156 (n : Nat) (k24 : Int32 → Me → Option (Int32 × Me)) (x1 : Int32) (x2 : Int32) (m : Me) : Option (Int32 × Me) := match n with
  | 0 => none
  | n + 1 => ck (inb ((126 : Int32) + x1) 186) (if (m.1 141 ((126 : Int32) + x1).toNatClampNeg) ≤ x2 then k24 ((x1 + (1 : Int32))) m else ck (inb ((108 : Int32) + x1) 186) (ck (inb ((120 : Int32) + x1) 186) (ck (inb ((m.1 141 ((120 : Int32) + x1).toNatClampNeg) + x2) 30) (ck (inb (((132 : Int32) + ((8 : Int32) * x1)) + x2) 186) (cl2 (fX11_seenAs ((m.1 141 (((132 : Int32) + ((8 : Int32) * x1)) + x2).toNatClampNeg)) m) fun r32 m33 => ck (inb (((30 : Int32) * (m.1 141 ((108 : Int32) + x1).toNatClampNeg)) + (m.1 147 ((m.1 141 ((120 : Int32) + x1).toNatClampNeg) + x2).toNatClampNeg)) 60) (fX11_laySure_156 n k24 x1 ((x2 + (1 : Int32))) (setI m33 154 (((30 : Int32) * (m.1 141 ((108 : Int32) + x1).toNatClampNeg)) + (m.1 147 ((m.1 141 ((120 : Int32) + x1).toNatClampNeg) + x2).toNatClampNeg)).toNatClampNeg r32)))))))
set_option maxRecDepth 20000 in
theorem kX11_laySure_156 {S : Sh} (hS : ShOK S) {res : Int32 × Me} {k24 : Int32 → Me → Option (Int32 × Me)} (hk24 : ∀ {x1 : Int32} {m : Me}, k24 x1 m = some res → Inv m → TT InvS (Call 2) mX11_laySure (24, [(0, .ref 138), (1, .int x1)], [], S, m) (some (.int res.1)) (S, res.2)) (n : Nat) : ∀ {x1 : Int32} {x2 : Int32} {m : Me}, fX11_laySure_156 n k24 x1 x2 m = some res → Inv m → TT InvS (Call 2) mX11_laySure (156, [(0, .ref 138), (1, .int x1), (2, .int x2)], [], S, m) (some (.int res.1)) (S, res.2) := by
  induction n with
  | zero => intro x1 x2 m hf; cases hf
  | succ n ih =>
    intro x1 x2 m hf  hI
    unfold fX11_laySure_156 at hf
    refine to_iload_n (q := 157) rfl dX11_laySure_156 rfl ?_
    refine to_aload_n (q := 158) rfl (by decide) dX11_laySure_157 rfl ?_
    refine to_getR (q := 161) (b := 141) (k0 := 11) (C := RX11) (T := TX11) (N := 37) (j := 15) rfl fx_X11_20 (h_138 hS) rfl (iv_138_15 hI) dX11_laySure_158 rfl ?_
    refine to_bipush (q := 163) bp_126 dX11_laySure_161 rfl ?_
    refine to_iload_n (q := 164) rfl dX11_laySure_163 rfl ?_
    refine to_iadd (q := 165) dX11_laySure_164 rfl ?_
    obtain ⟨hb24, hf⟩ := ck_some hf
    refine to_iaj (q := 166) (h_141 hS) hb24 (rfl) dX11_laySure_165 rfl ?_
    by_cases h25 : (m.1 141 ((126 : Int32) + x1).toNatClampNeg) ≤ x2
    · have hf := ite_pos h25 hf
      refine to_icT (q := 227) (op := .ge) h25 dX11_laySure_166 rfl ?_
      refine to_iinc (q := 230) (v := (x1 + (1 : Int32))) rfl (congrArg (fun z => x1 + z) ic_1) [(1, .int (x1 + (1 : Int32))), (0, .ref 138), (2, .int x2)] rfl (by decide) dX11_laySure_227 rfl ?_
      refine to_goto (q := 24) dX11_laySure_230 rfl ?_
      exact to_ext [(0, .ref 138), (1, .int (x1 + (1 : Int32)))] (ext_cons rfl (ext_cons rfl ext_nil)) (hk24 hf hI)
    · have hf := ite_neg h25 hf
      refine to_icF (q := 169) (op := .ge) 227 h25 dX11_laySure_166 rfl rfl ?_
      refine to_aload_n (q := 170) rfl (by decide) dX11_laySure_169 rfl ?_
      refine to_getR (q := 173) (b := 154) (k0 := 11) (C := RX11) (T := TX11) (N := 37) (j := 33) rfl fx_X11_59 (h_138 hS) rfl (iv_138_33 hI) dX11_laySure_170 rfl ?_
      refine to_bipush (q := 175) bp_30 dX11_laySure_173 rfl ?_
      refine to_aload_n (q := 176) rfl (by decide) dX11_laySure_175 rfl ?_
      refine to_getR (q := 179) (b := 141) (k0 := 11) (C := RX11) (T := TX11) (N := 37) (j := 15) rfl fx_X11_20 (h_138 hS) rfl (iv_138_15 hI) dX11_laySure_176 rfl ?_
      refine to_bipush (q := 181) bp_108 dX11_laySure_179 rfl ?_
      refine to_iload_n (q := 182) rfl dX11_laySure_181 rfl ?_
      refine to_iadd (q := 183) dX11_laySure_182 rfl ?_
      obtain ⟨hb26, hf⟩ := ck_some hf
      refine to_iaj (q := 184) (h_141 hS) hb26 (rfl) dX11_laySure_183 rfl ?_
      refine to_imul (q := 185) dX11_laySure_184 rfl ?_
      refine to_aload_n (q := 186) rfl (by decide) dX11_laySure_185 rfl ?_
      refine to_getR (q := 189) (b := 147) (k0 := 11) (C := RX11) (T := TX11) (N := 37) (j := 23) rfl fx_X11_38 (h_138 hS) rfl (iv_138_23 hI) dX11_laySure_186 rfl ?_
      refine to_aload_n (q := 190) rfl (by decide) dX11_laySure_189 rfl ?_
      refine to_getR (q := 193) (b := 141) (k0 := 11) (C := RX11) (T := TX11) (N := 37) (j := 15) rfl fx_X11_20 (h_138 hS) rfl (iv_138_15 hI) dX11_laySure_190 rfl ?_
      refine to_bipush (q := 195) bp_120 dX11_laySure_193 rfl ?_
      refine to_iload_n (q := 196) rfl dX11_laySure_195 rfl ?_
      refine to_iadd (q := 197) dX11_laySure_196 rfl ?_
      obtain ⟨hb27, hf⟩ := ck_some hf
      refine to_iaj (q := 198) (h_141 hS) hb27 (rfl) dX11_laySure_197 rfl ?_
      refine to_iload_n (q := 199) rfl dX11_laySure_198 rfl ?_
      refine to_iadd (q := 200) dX11_laySure_199 rfl ?_
      obtain ⟨hb28, hf⟩ := ck_some hf
      refine to_iaj (q := 201) (h_147 hS) hb28 (rfl) dX11_laySure_200 rfl ?_
      refine to_iadd (q := 202) dX11_laySure_201 rfl ?_
      refine to_aload_n (q := 203) rfl (by decide) dX11_laySure_202 rfl ?_
      refine to_getR (q := 206) (b := 141) (k0 := 11) (C := RX11) (T := TX11) (N := 37) (j := 15) rfl fx_X11_20 (h_138 hS) rfl (iv_138_15 hI) dX11_laySure_203 rfl ?_
      refine to_sipush (q := 209) sp_132 dX11_laySure_206 rfl ?_
      refine to_bipush (q := 211) bp_8 dX11_laySure_209 rfl ?_
      refine to_iload_n (q := 212) rfl dX11_laySure_211 rfl ?_
      refine to_imul (q := 213) dX11_laySure_212 rfl ?_
      refine to_iadd (q := 214) dX11_laySure_213 rfl ?_
      refine to_iload_n (q := 215) rfl dX11_laySure_214 rfl ?_
      refine to_iadd (q := 216) dX11_laySure_215 rfl ?_
      obtain ⟨hb29, hf⟩ := ck_some hf
      refine to_iaj (q := 217) (h_141 hS) hb29 (rfl) dX11_laySure_216 rfl ?_
      obtain ⟨r32, m33, hc30, hf⟩ := cl2_some hf
      have qc31 := kX11_seenAs hS hc30 hI
      refine to_statI (q := 220) mX11_seenAs [.int (m.1 141 (((132 : Int32) + ((8 : Int32) * x1)) + x2).toNatClampNeg)] dX11_laySure_217 rfl rfl (Nat.le_of_ble_eq_true rfl) mo_X11_seenAs (Or.inl ml_X11_270) sa_X11_seenAs (Call_mono (by decide) qc31.1) ?_
      have hI := qc31.2
      obtain ⟨hb34, hf⟩ := ck_some hf
      refine to_iasj (q := 221) (h_154 hS) hb34 (rfl) dX11_laySure_220 rfl ?_
      refine to_iinc (q := 224) (v := (x2 + (1 : Int32))) rfl (congrArg (fun z => x2 + z) ic_1) [(2, .int (x2 + (1 : Int32))), (0, .ref 138), (1, .int x1)] rfl (by decide) dX11_laySure_221 rfl ?_
      refine to_goto (q := 156) dX11_laySure_224 rfl ?_
      exact to_ext [(0, .ref 138), (1, .int x1), (2, .int (x2 + (1 : Int32)))] (ext_cons rfl (ext_cons rfl (ext_cons rfl ext_nil))) (ih hf hI)
def fX11_laySure_148 (k24 : Int32 → Me → Option (Int32 × Me)) (k65 : Int32 → Int32 → Me → Option (Int32 × Me)) (x1 : Int32) (x2 : Int32) (m : Me) : Option (Int32 × Me) := k65 x1 ((x2 + (1 : Int32))) m
set_option maxRecDepth 20000 in
theorem kX11_laySure_148 {S : Sh} (hS : ShOK S) {res : Int32 × Me} {k24 : Int32 → Me → Option (Int32 × Me)} (hk24 : ∀ {x1 : Int32} {m : Me}, k24 x1 m = some res → Inv m → TT InvS (Call 2) mX11_laySure (24, [(0, .ref 138), (1, .int x1)], [], S, m) (some (.int res.1)) (S, res.2)) {k65 : Int32 → Int32 → Me → Option (Int32 × Me)} (hk65 : ∀ {x1 : Int32} {x2 : Int32} {m : Me}, k65 x1 x2 m = some res → Inv m → TT InvS (Call 2) mX11_laySure (65, [(0, .ref 138), (1, .int x1), (2, .int x2)], [], S, m) (some (.int res.1)) (S, res.2)) {x1 : Int32} {x2 : Int32} {m : Me} (hf : fX11_laySure_148 k24 k65 x1 x2 m = some res) (hI : Inv m) : TT InvS (Call 2) mX11_laySure (148, [(0, .ref 138), (1, .int x1), (2, .int x2)], [], S, m) (some (.int res.1)) (S, res.2) := by
  unfold fX11_laySure_148 at hf
  refine to_iinc (q := 151) (v := (x2 + (1 : Int32))) rfl (congrArg (fun z => x2 + z) ic_1) [(2, .int (x2 + (1 : Int32))), (0, .ref 138), (1, .int x1)] rfl (by decide) dX11_laySure_148 rfl ?_
  refine to_goto (q := 65) dX11_laySure_151 rfl ?_
  exact to_ext [(0, .ref 138), (1, .int x1), (2, .int (x2 + (1 : Int32)))] (ext_cons rfl (ext_cons rfl (ext_cons rfl ext_nil))) (hk65 hf hI)
def fX11_laySure_65 (n : Nat) (k24 : Int32 → Me → Option (Int32 × Me)) (x1 : Int32) (x2 : Int32) (m : Me) : Option (Int32 × Me) := match n with
  | 0 => none
  | n + 1 => ck (inb ((126 : Int32) + x1) 186) (if (m.1 141 ((126 : Int32) + x1).toNatClampNeg) ≤ x2 then fX11_laySure_156 FU k24 x1 ((0 : Int32)) m else ck (inb ((108 : Int32) + x1) 186) (ck (inb ((120 : Int32) + x1) 186) (ck (inb ((m.1 141 ((120 : Int32) + x1).toNatClampNeg) + x2) 30) (ck (inb (((30 : Int32) * (m.1 141 ((108 : Int32) + x1).toNatClampNeg)) + (m.1 147 ((m.1 141 ((120 : Int32) + x1).toNatClampNeg) + x2).toNatClampNeg)) 60) (if (m.1 154 (((30 : Int32) * (m.1 141 ((108 : Int32) + x1).toNatClampNeg)) + (m.1 147 ((m.1 141 ((120 : Int32) + x1).toNatClampNeg) + x2).toNatClampNeg)).toNatClampNeg) = (-3 : Int32) then fX11_laySure_148 k24 (fX11_laySure_65 n k24) x1 x2 m else ck (inb (((30 : Int32) * (m.1 141 ((108 : Int32) + x1).toNatClampNeg)) + (m.1 147 ((m.1 141 ((120 : Int32) + x1).toNatClampNeg) + x2).toNatClampNeg)) 60) (ck (inb (((132 : Int32) + ((8 : Int32) * x1)) + x2) 186) (cl2 (fX11_seenAs ((m.1 141 (((132 : Int32) + ((8 : Int32) * x1)) + x2).toNatClampNeg)) m) fun r21 m22 => if (m.1 154 (((30 : Int32) * (m.1 141 ((108 : Int32) + x1).toNatClampNeg)) + (m.1 147 ((m.1 141 ((120 : Int32) + x1).toNatClampNeg) + x2).toNatClampNeg)).toNatClampNeg) = r21 then fX11_laySure_148 k24 (fX11_laySure_65 n k24) x1 x2 m22 else some (x1, m22))))))))
set_option maxRecDepth 20000 in
theorem kX11_laySure_65 {S : Sh} (hS : ShOK S) {res : Int32 × Me} {k24 : Int32 → Me → Option (Int32 × Me)} (hk24 : ∀ {x1 : Int32} {m : Me}, k24 x1 m = some res → Inv m → TT InvS (Call 2) mX11_laySure (24, [(0, .ref 138), (1, .int x1)], [], S, m) (some (.int res.1)) (S, res.2)) (n : Nat) : ∀ {x1 : Int32} {x2 : Int32} {m : Me}, fX11_laySure_65 n k24 x1 x2 m = some res → Inv m → TT InvS (Call 2) mX11_laySure (65, [(0, .ref 138), (1, .int x1), (2, .int x2)], [], S, m) (some (.int res.1)) (S, res.2) := by
  induction n with
  | zero => intro x1 x2 m hf; cases hf
  | succ n ih =>
    intro x1 x2 m hf  hI
    unfold fX11_laySure_65 at hf
    refine to_iload_n (q := 66) rfl dX11_laySure_65 rfl ?_
    refine to_aload_n (q := 67) rfl (by decide) dX11_laySure_66 rfl ?_
    refine to_getR (q := 70) (b := 141) (k0 := 11) (C := RX11) (T := TX11) (N := 37) (j := 15) rfl fx_X11_20 (h_138 hS) rfl (iv_138_15 hI) dX11_laySure_67 rfl ?_
    refine to_bipush (q := 72) bp_126 dX11_laySure_70 rfl ?_
    refine to_iload_n (q := 73) rfl dX11_laySure_72 rfl ?_
    refine to_iadd (q := 74) dX11_laySure_73 rfl ?_
    obtain ⟨hb10, hf⟩ := ck_some hf
    refine to_iaj (q := 75) (h_141 hS) hb10 (rfl) dX11_laySure_74 rfl ?_
    by_cases h11 : (m.1 141 ((126 : Int32) + x1).toNatClampNeg) ≤ x2
    · have hf := ite_pos h11 hf
      refine to_icT (q := 154) (op := .ge) h11 dX11_laySure_75 rfl ?_
      refine to_iconst (q := 155) ic_0 dX11_laySure_154 rfl ?_
      refine to_istore_n (q := 156) [(2, .int (0 : Int32)), (0, .ref 138), (1, .int x1)] rfl (by decide) dX11_laySure_155 rfl ?_
      exact to_ext [(0, .ref 138), (1, .int x1), (2, .int (0 : Int32))] (ext_cons rfl (ext_cons rfl (ext_cons rfl ext_nil))) (kX11_laySure_156 hS hk24 FU hf hI)
    · have hf := ite_neg h11 hf
      refine to_icF (q := 78) (op := .ge) 154 h11 dX11_laySure_75 rfl rfl ?_
      refine to_bipush (q := 80) bp_30 dX11_laySure_78 rfl ?_
      refine to_aload_n (q := 81) rfl (by decide) dX11_laySure_80 rfl ?_
      refine to_getR (q := 84) (b := 141) (k0 := 11) (C := RX11) (T := TX11) (N := 37) (j := 15) rfl fx_X11_20 (h_138 hS) rfl (iv_138_15 hI) dX11_laySure_81 rfl ?_
      refine to_bipush (q := 86) bp_108 dX11_laySure_84 rfl ?_
      refine to_iload_n (q := 87) rfl dX11_laySure_86 rfl ?_
      refine to_iadd (q := 88) dX11_laySure_87 rfl ?_
      obtain ⟨hb12, hf⟩ := ck_some hf
      refine to_iaj (q := 89) (h_141 hS) hb12 (rfl) dX11_laySure_88 rfl ?_
      refine to_imul (q := 90) dX11_laySure_89 rfl ?_
      refine to_aload_n (q := 91) rfl (by decide) dX11_laySure_90 rfl ?_
      refine to_getR (q := 94) (b := 147) (k0 := 11) (C := RX11) (T := TX11) (N := 37) (j := 23) rfl fx_X11_38 (h_138 hS) rfl (iv_138_23 hI) dX11_laySure_91 rfl ?_
      refine to_aload_n (q := 95) rfl (by decide) dX11_laySure_94 rfl ?_
      refine to_getR (q := 98) (b := 141) (k0 := 11) (C := RX11) (T := TX11) (N := 37) (j := 15) rfl fx_X11_20 (h_138 hS) rfl (iv_138_15 hI) dX11_laySure_95 rfl ?_
      refine to_bipush (q := 100) bp_120 dX11_laySure_98 rfl ?_
      refine to_iload_n (q := 101) rfl dX11_laySure_100 rfl ?_
      refine to_iadd (q := 102) dX11_laySure_101 rfl ?_
      obtain ⟨hb13, hf⟩ := ck_some hf
      refine to_iaj (q := 103) (h_141 hS) hb13 (rfl) dX11_laySure_102 rfl ?_
      refine to_iload_n (q := 104) rfl dX11_laySure_103 rfl ?_
      refine to_iadd (q := 105) dX11_laySure_104 rfl ?_
      obtain ⟨hb14, hf⟩ := ck_some hf
      refine to_iaj (q := 106) (h_147 hS) hb14 (rfl) dX11_laySure_105 rfl ?_
      refine to_iadd (q := 107) dX11_laySure_106 rfl ?_
      refine to_istore_n (q := 108) [(3, .int (((30 : Int32) * (m.1 141 ((108 : Int32) + x1).toNatClampNeg)) + (m.1 147 ((m.1 141 ((120 : Int32) + x1).toNatClampNeg) + x2).toNatClampNeg))), (0, .ref 138), (1, .int x1), (2, .int x2)] rfl (by decide) dX11_laySure_107 rfl ?_
      refine to_aload_n (q := 109) rfl (by decide) dX11_laySure_108 rfl ?_
      refine to_getR (q := 112) (b := 154) (k0 := 11) (C := RX11) (T := TX11) (N := 37) (j := 33) rfl fx_X11_59 (h_138 hS) rfl (iv_138_33 hI) dX11_laySure_109 rfl ?_
      refine to_iload_n (q := 113) rfl dX11_laySure_112 rfl ?_
      obtain ⟨hb15, hf⟩ := ck_some hf
      refine to_iaj (q := 114) (h_154 hS) hb15 (rfl) dX11_laySure_113 rfl ?_
      refine to_bipush (q := 116) bp_m3 dX11_laySure_114 rfl ?_
      by_cases h16 : (m.1 154 (((30 : Int32) * (m.1 141 ((108 : Int32) + x1).toNatClampNeg)) + (m.1 147 ((m.1 141 ((120 : Int32) + x1).toNatClampNeg) + x2).toNatClampNeg)).toNatClampNeg) = (-3 : Int32)
      · have hf := ite_pos h16 hf
        refine to_icT (q := 148) (op := .eq) h16 dX11_laySure_116 rfl ?_
        exact to_ext [(0, .ref 138), (1, .int x1), (2, .int x2)] (ext_cons rfl (ext_cons rfl (ext_cons rfl ext_nil))) (kX11_laySure_148 hS hk24 ih hf hI)
      · have hf := ite_neg h16 hf
        refine to_icF (q := 119) (op := .eq) 148 h16 dX11_laySure_116 rfl rfl ?_
        refine to_aload_n (q := 120) rfl (by decide) dX11_laySure_119 rfl ?_
        refine to_getR (q := 123) (b := 154) (k0 := 11) (C := RX11) (T := TX11) (N := 37) (j := 33) rfl fx_X11_59 (h_138 hS) rfl (iv_138_33 hI) dX11_laySure_120 rfl ?_
        refine to_iload_n (q := 124) rfl dX11_laySure_123 rfl ?_
        obtain ⟨hb17, hf⟩ := ck_some hf
        refine to_iaj (q := 125) (h_154 hS) hb17 (rfl) dX11_laySure_124 rfl ?_
        refine to_aload_n (q := 126) rfl (by decide) dX11_laySure_125 rfl ?_
        refine to_getR (q := 129) (b := 141) (k0 := 11) (C := RX11) (T := TX11) (N := 37) (j := 15) rfl fx_X11_20 (h_138 hS) rfl (iv_138_15 hI) dX11_laySure_126 rfl ?_
        refine to_sipush (q := 132) sp_132 dX11_laySure_129 rfl ?_
        refine to_bipush (q := 134) bp_8 dX11_laySure_132 rfl ?_
        refine to_iload_n (q := 135) rfl dX11_laySure_134 rfl ?_
        refine to_imul (q := 136) dX11_laySure_135 rfl ?_
        refine to_iadd (q := 137) dX11_laySure_136 rfl ?_
        refine to_iload_n (q := 138) rfl dX11_laySure_137 rfl ?_
        refine to_iadd (q := 139) dX11_laySure_138 rfl ?_
        obtain ⟨hb18, hf⟩ := ck_some hf
        refine to_iaj (q := 140) (h_141 hS) hb18 (rfl) dX11_laySure_139 rfl ?_
        obtain ⟨r21, m22, hc19, hf⟩ := cl2_some hf
        have qc20 := kX11_seenAs hS hc19 hI
        refine to_statI (q := 143) mX11_seenAs [.int (m.1 141 (((132 : Int32) + ((8 : Int32) * x1)) + x2).toNatClampNeg)] dX11_laySure_140 rfl rfl (Nat.le_of_ble_eq_true rfl) mo_X11_seenAs (Or.inl ml_X11_270) sa_X11_seenAs (Call_mono (by decide) qc20.1) ?_
        have hI := qc20.2
        by_cases h23 : (m.1 154 (((30 : Int32) * (m.1 141 ((108 : Int32) + x1).toNatClampNeg)) + (m.1 147 ((m.1 141 ((120 : Int32) + x1).toNatClampNeg) + x2).toNatClampNeg)).toNatClampNeg) = r21
        · have hf := ite_pos h23 hf
          refine to_icT (q := 148) (op := .eq) h23 dX11_laySure_143 rfl ?_
          exact to_ext [(0, .ref 138), (1, .int x1), (2, .int x2)] (ext_cons rfl (ext_cons rfl (ext_cons rfl ext_nil))) (kX11_laySure_148 hS hk24 ih hf hI)
        · have hf := ite_neg h23 hf
          refine to_icF (q := 146) (op := .eq) 148 h23 dX11_laySure_143 rfl rfl ?_
          refine to_iload_n (q := 147) rfl dX11_laySure_146 rfl ?_
          cases hf
          exact to_iret dX11_laySure_147 rfl rfl rfl rfl hI
def fX11_laySure_24 (n : Nat) (x1 : Int32) (m : Me) : Option (Int32 × Me) := match n with
  | 0 => none
  | n + 1 => if (m.1 141 7) ≤ x1 then some ((-2 : Int32), m) else ck (inb ((108 : Int32) + x1) 186) (ck (inb ((114 : Int32) + x1) 186) (cl2 (fX11_lay 141 ((m.1 141 ((108 : Int32) + x1).toNatClampNeg)) ((m.1 141 ((114 : Int32) + x1).toNatClampNeg)) (0 : Int32) m) fun r8 m9 => fX11_laySure_65 FU (fX11_laySure_24 n) x1 ((0 : Int32)) m9))
set_option maxRecDepth 20000 in
theorem kX11_laySure_24 {S : Sh} (hS : ShOK S) {res : Int32 × Me} (n : Nat) : ∀ {x1 : Int32} {m : Me}, fX11_laySure_24 n x1 m = some res → Inv m → TT InvS (Call 2) mX11_laySure (24, [(0, .ref 138), (1, .int x1)], [], S, m) (some (.int res.1)) (S, res.2) := by
  induction n with
  | zero => intro x1 m hf; cases hf
  | succ n ih =>
    intro x1 m hf  hI
    unfold fX11_laySure_24 at hf
    refine to_iload_n (q := 25) rfl dX11_laySure_24 rfl ?_
    refine to_aload_n (q := 26) rfl (by decide) dX11_laySure_25 rfl ?_
    refine to_getR (q := 29) (b := 141) (k0 := 11) (C := RX11) (T := TX11) (N := 37) (j := 15) rfl fx_X11_20 (h_138 hS) rfl (iv_138_15 hI) dX11_laySure_26 rfl ?_
    refine to_bipush (q := 31) bp_7 dX11_laySure_29 rfl ?_
    refine to_iaj (q := 32) (h_141 hS) (by decide) (tn_7) dX11_laySure_31 rfl ?_
    by_cases h3 : (m.1 141 7) ≤ x1
    · have hf := ite_pos h3 hf
      refine to_icT (q := 233) (op := .ge) h3 dX11_laySure_32 rfl ?_
      refine to_bipush (q := 235) bp_m2 dX11_laySure_233 rfl ?_
      cases hf
      exact to_iret dX11_laySure_235 rfl rfl rfl rfl hI
    · have hf := ite_neg h3 hf
      refine to_icF (q := 35) (op := .ge) 233 h3 dX11_laySure_32 rfl rfl ?_
      refine to_aload_n (q := 36) rfl (by decide) dX11_laySure_35 rfl ?_
      refine to_aload_n (q := 37) rfl (by decide) dX11_laySure_36 rfl ?_
      refine to_getR (q := 40) (b := 141) (k0 := 11) (C := RX11) (T := TX11) (N := 37) (j := 15) rfl fx_X11_20 (h_138 hS) rfl (iv_138_15 hI) dX11_laySure_37 rfl ?_
      refine to_aload_n (q := 41) rfl (by decide) dX11_laySure_40 rfl ?_
      refine to_getR (q := 44) (b := 141) (k0 := 11) (C := RX11) (T := TX11) (N := 37) (j := 15) rfl fx_X11_20 (h_138 hS) rfl (iv_138_15 hI) dX11_laySure_41 rfl ?_
      refine to_bipush (q := 46) bp_108 dX11_laySure_44 rfl ?_
      refine to_iload_n (q := 47) rfl dX11_laySure_46 rfl ?_
      refine to_iadd (q := 48) dX11_laySure_47 rfl ?_
      obtain ⟨hb4, hf⟩ := ck_some hf
      refine to_iaj (q := 49) (h_141 hS) hb4 (rfl) dX11_laySure_48 rfl ?_
      refine to_aload_n (q := 50) rfl (by decide) dX11_laySure_49 rfl ?_
      refine to_getR (q := 53) (b := 141) (k0 := 11) (C := RX11) (T := TX11) (N := 37) (j := 15) rfl fx_X11_20 (h_138 hS) rfl (iv_138_15 hI) dX11_laySure_50 rfl ?_
      refine to_bipush (q := 55) bp_114 dX11_laySure_53 rfl ?_
      refine to_iload_n (q := 56) rfl dX11_laySure_55 rfl ?_
      refine to_iadd (q := 57) dX11_laySure_56 rfl ?_
      obtain ⟨hb5, hf⟩ := ck_some hf
      refine to_iaj (q := 58) (h_141 hS) hb5 (rfl) dX11_laySure_57 rfl ?_
      refine to_iconst (q := 59) ic_0 dX11_laySure_58 rfl ?_
      obtain ⟨r8, m9, hc6, hf⟩ := cl2_some hf
      have qc7 := kX11_lay hS hc6 rfl hI
      refine to_virtI (q := 62) mX11_lay [.ref 141, .int (m.1 141 ((108 : Int32) + x1).toNatClampNeg), .int (m.1 141 ((114 : Int32) + x1).toNatClampNeg), .int (0 : Int32)] dX11_laySure_59 rfl rfl (Nat.le_of_ble_eq_true rfl) mo_X11_lay mv_X11_245 (Or.inl ⟨_, _, _, h_138 hS, rfl, rfl⟩) (Call_mono (by decide) qc7.1) ?_
      have hI := qc7.2
      refine to_pop (q := 63) rfl dX11_laySure_62 rfl ?_
      refine to_iconst (q := 64) ic_0 dX11_laySure_63 rfl ?_
      refine to_istore_n (q := 65) [(2, .int (0 : Int32)), (0, .ref 138), (1, .int x1)] rfl (by decide) dX11_laySure_64 rfl ?_
      exact to_ext [(0, .ref 138), (1, .int x1), (2, .int (0 : Int32))] (ext_cons rfl (ext_cons rfl (ext_cons rfl ext_nil))) (kX11_laySure_65 hS ih FU hf hI)
def fX11_laySure_2 (n : Nat) (x1 : Int32) (m : Me) : Option (Int32 × Me) := match n with
  | 0 => none
  | n + 1 => if (60 : Int32) ≤ x1 then fX11_laySure_24 FU ((0 : Int32)) m else ck (inb x1 60) (fX11_laySure_2 n ((x1 + (1 : Int32))) (setI m 154 x1.toNatClampNeg (-3 : Int32)))
set_option maxRecDepth 20000 in
theorem kX11_laySure_2 {S : Sh} (hS : ShOK S) {res : Int32 × Me} (n : Nat) : ∀ {x1 : Int32} {m : Me}, fX11_laySure_2 n x1 m = some res → Inv m → TT InvS (Call 2) mX11_laySure (2, [(0, .ref 138), (1, .int x1)], [], S, m) (some (.int res.1)) (S, res.2) := by
  induction n with
  | zero => intro x1 m hf; cases hf
  | succ n ih =>
    intro x1 m hf  hI
    unfold fX11_laySure_2 at hf
    refine to_iload_n (q := 3) rfl dX11_laySure_2 rfl ?_
    refine to_bipush (q := 5) bp_60 dX11_laySure_3 rfl ?_
    by_cases h1 : (60 : Int32) ≤ x1
    · have hf := ite_pos h1 hf
      refine to_icT (q := 22) (op := .ge) h1 dX11_laySure_5 rfl ?_
      refine to_iconst (q := 23) ic_0 dX11_laySure_22 rfl ?_
      refine to_istore_n (q := 24) [(1, .int (0 : Int32)), (0, .ref 138)] rfl (by decide) dX11_laySure_23 rfl ?_
      exact to_ext [(0, .ref 138), (1, .int (0 : Int32))] (ext_cons rfl (ext_cons rfl ext_nil)) (kX11_laySure_24 hS FU hf hI)
    · have hf := ite_neg h1 hf
      refine to_icF (q := 8) (op := .ge) 22 h1 dX11_laySure_5 rfl rfl ?_
      refine to_aload_n (q := 9) rfl (by decide) dX11_laySure_8 rfl ?_
      refine to_getR (q := 12) (b := 154) (k0 := 11) (C := RX11) (T := TX11) (N := 37) (j := 33) rfl fx_X11_59 (h_138 hS) rfl (iv_138_33 hI) dX11_laySure_9 rfl ?_
      refine to_iload_n (q := 13) rfl dX11_laySure_12 rfl ?_
      refine to_bipush (q := 15) bp_m3 dX11_laySure_13 rfl ?_
      obtain ⟨hb2, hf⟩ := ck_some hf
      refine to_iasj (q := 16) (h_154 hS) hb2 (rfl) dX11_laySure_15 rfl ?_
      refine to_iinc (q := 19) (v := (x1 + (1 : Int32))) rfl (congrArg (fun z => x1 + z) ic_1) [(1, .int (x1 + (1 : Int32))), (0, .ref 138)] rfl (by decide) dX11_laySure_16 rfl ?_
      refine to_goto (q := 2) dX11_laySure_19 rfl ?_
      exact to_ext [(0, .ref 138), (1, .int (x1 + (1 : Int32)))] (ext_cons rfl (ext_cons rfl ext_nil)) (ih hf hI)
def fX11_laySure (m : Me) : Option (Int32 × Me) := fX11_laySure_2 FU ((0 : Int32)) m
set_option maxRecDepth 20000 in
theorem kX11_laySure {S : Sh} (hS : ShOK S) {res : Int32 × Me} {m : Me} (hf : fX11_laySure m = some res) (hI : Inv m) : Call 3 mX11_laySure [.ref 138] (S, m) (some (.int res.1)) (S, res.2) ∧ Inv res.2 := by
  refine call_of (P := InvS) (Nat.le_of_ble_eq_true rfl) (by simp [Value.category]) ?_
  show TT InvS (Call 2) mX11_laySure (0, [(0, .ref 138)], [], S, m) _ _
  unfold fX11_laySure at hf
  refine to_iconst (q := 1) ic_0 dX11_laySure_0 rfl ?_
  refine to_istore_n (q := 2) [(1, .int (0 : Int32)), (0, .ref 138)] rfl (by decide) dX11_laySure_1 rfl ?_
  exact to_ext [(0, .ref 138), (1, .int (0 : Int32))] (ext_cons rfl (ext_cons rfl ext_nil)) (kX11_laySure_2 hS FU hf hI)
def fX11_clash_23 (t0 : Int32) (m : Me) : Option (Int32 × Me) := some (t0, m)
set_option maxRecDepth 20000 in
theorem kX11_clash_23 {S : Sh} (hS : ShOK S) {res : Int32 × Me} {t0 : Int32} {m : Me} (hf : fX11_clash_23 t0 m = some res) (hI : Inv m) : TT InvS (Call 3) mX11_clash (23, [], [.int t0], S, m) (some (.int res.1)) (S, res.2) := by
  unfold fX11_clash_23 at hf
  cases hf
  exact to_iret dX11_clash_23 rfl rfl rfl rfl hI
def fX11_clash (m : Me) : Option (Int32 × Me) := cl1 (fX11_good m) fun m3 => if (m3.1 138 14) = (0 : Int32) then cl2 (fX11_no (1 : Int32) m3) fun r7 m8 => fX11_clash_23 r7 m8 else cl2 (fX11_laySure m3) fun r11 m12 => fX11_clash_23 r11 m12
set_option maxRecDepth 20000 in
theorem kX11_clash {S : Sh} (hS : ShOK S) {res : Int32 × Me} {m : Me} (hf : fX11_clash m = some res) (hI : Inv m) : Call 4 mX11_clash [.ref 138] (S, m) (some (.int res.1)) (S, res.2) ∧ Inv res.2 := by
  refine call_of (P := InvS) (Nat.le_of_ble_eq_true rfl) (by simp [Value.category]) ?_
  show TT InvS (Call 3) mX11_clash (0, [(0, .ref 138)], [], S, m) _ _
  unfold fX11_clash at hf
  refine to_aload_n (q := 1) rfl (by decide) dX11_clash_0 rfl ?_
  obtain ⟨m3, hc1, hf⟩ := cl1_some hf
  have qc2 := kX11_good hS hc1 hI
  refine to_virtV (q := 4) mX11_good [] dX11_clash_1 rfl rfl (Nat.le_of_ble_eq_true rfl) mo_X11_good mv_X11_156 (Or.inl ⟨_, _, _, h_138 hS, rfl, rfl⟩) (Call_mono (by decide) qc2.1) ?_
  have hI := qc2.2
  refine to_aload_n (q := 5) rfl (by decide) dX11_clash_4 rfl ?_
  refine to_getI (q := 8) (k0 := 11) (C := RX11) (T := TX11) (N := 37) (j := 14) rfl fx_X11_169 (h_138 hS) rfl dX11_clash_5 rfl ?_
  by_cases h4 : (m3.1 138 14) = (0 : Int32)
  · have hf := ite_pos h4 hf
    refine to_ifT (q := 18) (op := .eq) h4 dX11_clash_8 rfl ?_
    refine to_aload_n (q := 19) rfl (by decide) dX11_clash_18 rfl ?_
    refine to_iconst (q := 20) ic_1 dX11_clash_19 rfl ?_
    obtain ⟨r7, m8, hc5, hf⟩ := cl2_some hf
    have qc6 := kX11_no hS hc5 hI
    refine to_virtI (q := 23) mX11_no [.int (1 : Int32)] dX11_clash_20 rfl rfl (Nat.le_of_ble_eq_true rfl) mo_X11_no mv_X11_159 (Or.inl ⟨_, _, _, h_138 hS, rfl, rfl⟩) (Call_mono (by decide) qc6.1) ?_
    have hI := qc6.2
    exact to_ext [] ext_nil (kX11_clash_23 hS hf hI)
  · have hf := ite_neg h4 hf
    refine to_ifF (q := 11) (op := .eq) 18 h4 dX11_clash_8 rfl rfl ?_
    refine to_aload_n (q := 12) rfl (by decide) dX11_clash_11 rfl ?_
    obtain ⟨r11, m12, hc9, hf⟩ := cl2_some hf
    have qc10 := kX11_laySure hS hc9 hI
    refine to_virtI (q := 15) mX11_laySure [] dX11_clash_12 rfl rfl (Nat.le_of_ble_eq_true rfl) mo_X11_laySure mv_X11_362 (Or.inl ⟨_, _, _, h_138 hS, rfl, rfl⟩) (Call_mono (by decide) qc10.1) ?_
    have hI := qc10.2
    refine to_goto (q := 23) dX11_clash_15 rfl ?_
    exact to_ext [] ext_nil (kX11_clash_23 hS hf hI)
def fX11_sure (x1 : Int32) (x2 : Int32) (x3 : Int32) (m : Me) : Option (Int32 × Me) := cl1 (fX11_good m) fun m3 => cl2 (fX11_isCell x1 x2 x3 m3) fun r6 m7 => if r6 = (0 : Int32) then cl2 (fX11_no (1 : Int32) m7) fun r16 m17 => some (r16, m17) else cl2 (fX11_laySure m7) fun r11 m12 => ck (inb ((((30 : Int32) * x1) + ((3 : Int32) * x2)) + x3) 60) (some ((m12.1 154 ((((30 : Int32) * x1) + ((3 : Int32) * x2)) + x3).toNatClampNeg), m12))
set_option maxRecDepth 20000 in
theorem kX11_sure {S : Sh} (hS : ShOK S) {res : Int32 × Me} {x1 : Int32} {x2 : Int32} {x3 : Int32} {m : Me} (hf : fX11_sure x1 x2 x3 m = some res) (hI : Inv m) : Call 4 mX11_sure [.ref 138, .int x1, .int x2, .int x3] (S, m) (some (.int res.1)) (S, res.2) ∧ Inv res.2 := by
  refine call_of (P := InvS) (Nat.le_of_ble_eq_true rfl) (by simp [Value.category]) ?_
  show TT InvS (Call 3) mX11_sure (0, [(0, .ref 138), (1, .int x1), (2, .int x2), (3, .int x3)], [], S, m) _ _
  unfold fX11_sure at hf
  refine to_aload_n (q := 1) rfl (by decide) dX11_sure_0 rfl ?_
  obtain ⟨m3, hc1, hf⟩ := cl1_some hf
  have qc2 := kX11_good hS hc1 hI
  refine to_virtV (q := 4) mX11_good [] dX11_sure_1 rfl rfl (Nat.le_of_ble_eq_true rfl) mo_X11_good mv_X11_156 (Or.inl ⟨_, _, _, h_138 hS, rfl, rfl⟩) (Call_mono (by decide) qc2.1) ?_
  have hI := qc2.2
  refine to_aload_n (q := 5) rfl (by decide) dX11_sure_4 rfl ?_
  refine to_iload_n (q := 6) rfl dX11_sure_5 rfl ?_
  refine to_iload_n (q := 7) rfl dX11_sure_6 rfl ?_
  refine to_iload_n (q := 8) rfl dX11_sure_7 rfl ?_
  obtain ⟨r6, m7, hc4, hf⟩ := cl2_some hf
  have qc5 := kX11_isCell hS hc4 hI
  refine to_virtI (q := 11) mX11_isCell [.int x1, .int x2, .int x3] dX11_sure_8 rfl rfl (Nat.le_of_ble_eq_true rfl) mo_X11_isCell mv_X11_267 (Or.inl ⟨_, _, _, h_138 hS, rfl, rfl⟩) (Call_mono (by decide) qc5.1) ?_
  have hI := qc5.2
  by_cases h8 : r6 = (0 : Int32)
  · have hf := ite_pos h8 hf
    refine to_ifF (q := 14) (op := .ne) 20 (fun z => z h8) dX11_sure_11 rfl rfl ?_
    refine to_aload_n (q := 15) rfl (by decide) dX11_sure_14 rfl ?_
    refine to_iconst (q := 16) ic_1 dX11_sure_15 rfl ?_
    obtain ⟨r16, m17, hc14, hf⟩ := cl2_some hf
    have qc15 := kX11_no hS hc14 hI
    refine to_virtI (q := 19) mX11_no [.int (1 : Int32)] dX11_sure_16 rfl rfl (Nat.le_of_ble_eq_true rfl) mo_X11_no mv_X11_159 (Or.inl ⟨_, _, _, h_138 hS, rfl, rfl⟩) (Call_mono (by decide) qc15.1) ?_
    have hI := qc15.2
    cases hf
    exact to_iret dX11_sure_19 rfl rfl rfl rfl hI
  · have hf := ite_neg h8 hf
    refine to_ifT (q := 20) (op := .ne) h8 dX11_sure_11 rfl ?_
    refine to_aload_n (q := 21) rfl (by decide) dX11_sure_20 rfl ?_
    obtain ⟨r11, m12, hc9, hf⟩ := cl2_some hf
    have qc10 := kX11_laySure hS hc9 hI
    refine to_virtI (q := 24) mX11_laySure [] dX11_sure_21 rfl rfl (Nat.le_of_ble_eq_true rfl) mo_X11_laySure mv_X11_362 (Or.inl ⟨_, _, _, h_138 hS, rfl, rfl⟩) (Call_mono (by decide) qc10.1) ?_
    have hI := qc10.2
    refine to_pop (q := 25) rfl dX11_sure_24 rfl ?_
    refine to_aload_n (q := 26) rfl (by decide) dX11_sure_25 rfl ?_
    refine to_getR (q := 29) (b := 154) (k0 := 11) (C := RX11) (T := TX11) (N := 37) (j := 33) rfl fx_X11_59 (h_138 hS) rfl (iv_138_33 hI) dX11_sure_26 rfl ?_
    refine to_bipush (q := 31) bp_30 dX11_sure_29 rfl ?_
    refine to_iload_n (q := 32) rfl dX11_sure_31 rfl ?_
    refine to_imul (q := 33) dX11_sure_32 rfl ?_
    refine to_iconst (q := 34) ic_3 dX11_sure_33 rfl ?_
    refine to_iload_n (q := 35) rfl dX11_sure_34 rfl ?_
    refine to_imul (q := 36) dX11_sure_35 rfl ?_
    refine to_iadd (q := 37) dX11_sure_36 rfl ?_
    refine to_iload_n (q := 38) rfl dX11_sure_37 rfl ?_
    refine to_iadd (q := 39) dX11_sure_38 rfl ?_
    obtain ⟨hb13, hf⟩ := ck_some hf
    refine to_iaj (q := 40) (h_154 hS) hb13 (rfl) dX11_sure_39 rfl ?_
    cases hf
    exact to_iret dX11_sure_40 rfl rfl rfl rfl hI
def fX11_sureCells_49 (k26 : Int32 → Int32 → Me → Option (Int32 × Me)) (x2 : Int32) (t0 : Int32) (t1 : Int32) (m : Me) : Option (Int32 × Me) := k26 ((t1 + t0)) ((x2 + (1 : Int32))) m
set_option maxRecDepth 20000 in
theorem kX11_sureCells_49 {S : Sh} (hS : ShOK S) {res : Int32 × Me} {k26 : Int32 → Int32 → Me → Option (Int32 × Me)} (hk26 : ∀ {x1 : Int32} {x2 : Int32} {m : Me}, k26 x1 x2 m = some res → Inv m → TT InvS (Call 3) mX11_sureCells (26, [(0, .ref 138), (1, .int x1), (2, .int x2)], [], S, m) (some (.int res.1)) (S, res.2)) {x2 : Int32} {t0 : Int32} {t1 : Int32} {m : Me} (hf : fX11_sureCells_49 k26 x2 t0 t1 m = some res) (hI : Inv m) : TT InvS (Call 3) mX11_sureCells (49, [(0, .ref 138), (2, .int x2)], [.int t0, .int t1], S, m) (some (.int res.1)) (S, res.2) := by
  unfold fX11_sureCells_49 at hf
  refine to_iadd (q := 50) dX11_sureCells_49 rfl ?_
  refine to_istore_n (q := 51) [(1, .int (t1 + t0)), (0, .ref 138), (2, .int x2)] rfl (by decide) dX11_sureCells_50 rfl ?_
  refine to_iinc (q := 54) (v := (x2 + (1 : Int32))) rfl (congrArg (fun z => x2 + z) ic_1) [(2, .int (x2 + (1 : Int32))), (1, .int (t1 + t0)), (0, .ref 138)] rfl (by decide) dX11_sureCells_51 rfl ?_
  refine to_goto (q := 26) dX11_sureCells_54 rfl ?_
  exact to_ext [(0, .ref 138), (1, .int (t1 + t0)), (2, .int (x2 + (1 : Int32)))] (ext_cons rfl (ext_cons rfl (ext_cons rfl ext_nil))) (hk26 hf hI)
def fX11_sureCells_26 (n : Nat) (x1 : Int32) (x2 : Int32) (m : Me) : Option (Int32 × Me) := match n with
  | 0 => none
  | n + 1 => if (60 : Int32) ≤ x2 then some (x1, m) else ck (inb x2 60) (if (m.1 154 x2.toNatClampNeg) = (-3 : Int32) then fX11_sureCells_49 (fX11_sureCells_26 n) x2 ((0 : Int32)) x1 m else fX11_sureCells_49 (fX11_sureCells_26 n) x2 ((1 : Int32)) x1 m)
set_option maxRecDepth 20000 in
theorem kX11_sureCells_26 {S : Sh} (hS : ShOK S) {res : Int32 × Me} (n : Nat) : ∀ {x1 : Int32} {x2 : Int32} {m : Me}, fX11_sureCells_26 n x1 x2 m = some res → Inv m → TT InvS (Call 3) mX11_sureCells (26, [(0, .ref 138), (1, .int x1), (2, .int x2)], [], S, m) (some (.int res.1)) (S, res.2) := by
  induction n with
  | zero => intro x1 x2 m hf; cases hf
  | succ n ih =>
    intro x1 x2 m hf  hI
    unfold fX11_sureCells_26 at hf
    refine to_iload_n (q := 27) rfl dX11_sureCells_26 rfl ?_
    refine to_bipush (q := 29) bp_60 dX11_sureCells_27 rfl ?_
    by_cases h13 : (60 : Int32) ≤ x2
    · have hf := ite_pos h13 hf
      refine to_icT (q := 57) (op := .ge) h13 dX11_sureCells_29 rfl ?_
      refine to_iload_n (q := 58) rfl dX11_sureCells_57 rfl ?_
      cases hf
      exact to_iret dX11_sureCells_58 rfl rfl rfl rfl hI
    · have hf := ite_neg h13 hf
      refine to_icF (q := 32) (op := .ge) 57 h13 dX11_sureCells_29 rfl rfl ?_
      refine to_iload_n (q := 33) rfl dX11_sureCells_32 rfl ?_
      refine to_aload_n (q := 34) rfl (by decide) dX11_sureCells_33 rfl ?_
      refine to_getR (q := 37) (b := 154) (k0 := 11) (C := RX11) (T := TX11) (N := 37) (j := 33) rfl fx_X11_59 (h_138 hS) rfl (iv_138_33 hI) dX11_sureCells_34 rfl ?_
      refine to_iload_n (q := 38) rfl dX11_sureCells_37 rfl ?_
      obtain ⟨hb14, hf⟩ := ck_some hf
      refine to_iaj (q := 39) (h_154 hS) hb14 (rfl) dX11_sureCells_38 rfl ?_
      refine to_bipush (q := 41) bp_m3 dX11_sureCells_39 rfl ?_
      by_cases h15 : (m.1 154 x2.toNatClampNeg) = (-3 : Int32)
      · have hf := ite_pos h15 hf
        refine to_icF (q := 44) (op := .ne) 48 (fun z => z h15) dX11_sureCells_41 rfl rfl ?_
        refine to_iconst (q := 45) ic_0 dX11_sureCells_44 rfl ?_
        refine to_goto (q := 49) dX11_sureCells_45 rfl ?_
        exact to_ext [(0, .ref 138), (2, .int x2)] (ext_cons rfl (ext_cons rfl ext_nil)) (kX11_sureCells_49 hS ih hf hI)
      · have hf := ite_neg h15 hf
        refine to_icT (q := 48) (op := .ne) h15 dX11_sureCells_41 rfl ?_
        refine to_iconst (q := 49) ic_1 dX11_sureCells_48 rfl ?_
        exact to_ext [(0, .ref 138), (2, .int x2)] (ext_cons rfl (ext_cons rfl ext_nil)) (kX11_sureCells_49 hS ih hf hI)
def fX11_sureCells (m : Me) : Option (Int32 × Me) := cl1 (fX11_good m) fun m3 => if (m3.1 138 14) = (0 : Int32) then cl2 (fX11_no (1 : Int32) m3) fun r11 m12 => some (r11, m12) else cl2 (fX11_laySure m3) fun r7 m8 => fX11_sureCells_26 FU ((0 : Int32)) ((0 : Int32)) m8
set_option maxRecDepth 20000 in
theorem kX11_sureCells {S : Sh} (hS : ShOK S) {res : Int32 × Me} {m : Me} (hf : fX11_sureCells m = some res) (hI : Inv m) : Call 4 mX11_sureCells [.ref 138] (S, m) (some (.int res.1)) (S, res.2) ∧ Inv res.2 := by
  refine call_of (P := InvS) (Nat.le_of_ble_eq_true rfl) (by simp [Value.category]) ?_
  show TT InvS (Call 3) mX11_sureCells (0, [(0, .ref 138)], [], S, m) _ _
  unfold fX11_sureCells at hf
  refine to_aload_n (q := 1) rfl (by decide) dX11_sureCells_0 rfl ?_
  obtain ⟨m3, hc1, hf⟩ := cl1_some hf
  have qc2 := kX11_good hS hc1 hI
  refine to_virtV (q := 4) mX11_good [] dX11_sureCells_1 rfl rfl (Nat.le_of_ble_eq_true rfl) mo_X11_good mv_X11_156 (Or.inl ⟨_, _, _, h_138 hS, rfl, rfl⟩) (Call_mono (by decide) qc2.1) ?_
  have hI := qc2.2
  refine to_aload_n (q := 5) rfl (by decide) dX11_sureCells_4 rfl ?_
  refine to_getI (q := 8) (k0 := 11) (C := RX11) (T := TX11) (N := 37) (j := 14) rfl fx_X11_169 (h_138 hS) rfl dX11_sureCells_5 rfl ?_
  by_cases h4 : (m3.1 138 14) = (0 : Int32)
  · have hf := ite_pos h4 hf
    refine to_ifF (q := 11) (op := .ne) 17 (fun z => z h4) dX11_sureCells_8 rfl rfl ?_
    refine to_aload_n (q := 12) rfl (by decide) dX11_sureCells_11 rfl ?_
    refine to_iconst (q := 13) ic_1 dX11_sureCells_12 rfl ?_
    obtain ⟨r11, m12, hc9, hf⟩ := cl2_some hf
    have qc10 := kX11_no hS hc9 hI
    refine to_virtI (q := 16) mX11_no [.int (1 : Int32)] dX11_sureCells_13 rfl rfl (Nat.le_of_ble_eq_true rfl) mo_X11_no mv_X11_159 (Or.inl ⟨_, _, _, h_138 hS, rfl, rfl⟩) (Call_mono (by decide) qc10.1) ?_
    have hI := qc10.2
    cases hf
    exact to_iret dX11_sureCells_16 rfl rfl rfl rfl hI
  · have hf := ite_neg h4 hf
    refine to_ifT (q := 17) (op := .ne) h4 dX11_sureCells_8 rfl ?_
    refine to_aload_n (q := 18) rfl (by decide) dX11_sureCells_17 rfl ?_
    obtain ⟨r7, m8, hc5, hf⟩ := cl2_some hf
    have qc6 := kX11_laySure hS hc5 hI
    refine to_virtI (q := 21) mX11_laySure [] dX11_sureCells_18 rfl rfl (Nat.le_of_ble_eq_true rfl) mo_X11_laySure mv_X11_362 (Or.inl ⟨_, _, _, h_138 hS, rfl, rfl⟩) (Call_mono (by decide) qc6.1) ?_
    have hI := qc6.2
    refine to_pop (q := 22) rfl dX11_sureCells_21 rfl ?_
    refine to_iconst (q := 23) ic_0 dX11_sureCells_22 rfl ?_
    refine to_istore_n (q := 24) [(1, .int (0 : Int32)), (0, .ref 138)] rfl (by decide) dX11_sureCells_23 rfl ?_
    refine to_iconst (q := 25) ic_0 dX11_sureCells_24 rfl ?_
    refine to_istore_n (q := 26) [(2, .int (0 : Int32)), (1, .int (0 : Int32)), (0, .ref 138)] rfl (by decide) dX11_sureCells_25 rfl ?_
    exact to_ext [(0, .ref 138), (1, .int (0 : Int32)), (2, .int (0 : Int32))] (ext_cons rfl (ext_cons rfl (ext_cons rfl ext_nil))) (kX11_sureCells_26 hS FU hf hI)
def fX11_fits_148 (t0 : Int32) (m : Me) : Option (Int32 × Me) := some (t0, m)
set_option maxRecDepth 20000 in
theorem kX11_fits_148 {S : Sh} (hS : ShOK S) {res : Int32 × Me} {t0 : Int32} {m : Me} (hf : fX11_fits_148 t0 m = some res) (hI : Inv m) : TT InvS (Call 2) mX11_fits (148, [], [.int t0], S, m) (some (.int res.1)) (S, res.2) := by
  unfold fX11_fits_148 at hf
  cases hf
  exact to_iret dX11_fits_148 rfl rfl rfl rfl hI
def fX11_fits_126 (k21 : Int32 → Int32 → Me → Option (Int32 × Me)) (k62 : Int32 → Int32 → Int32 → Me → Option (Int32 × Me)) (x2 : Int32) (x3 : Int32) (t0 : Int32) (m : Me) : Option (Int32 × Me) := k62 t0 x2 ((x3 + (1 : Int32))) m
set_option maxRecDepth 20000 in
theorem kX11_fits_126 {S : Sh} (hS : ShOK S) {res : Int32 × Me} {k21 : Int32 → Int32 → Me → Option (Int32 × Me)} (hk21 : ∀ {x1 : Int32} {x2 : Int32} {m : Me}, k21 x1 x2 m = some res → Inv m → TT InvS (Call 2) mX11_fits (21, [(0, .ref 138), (1, .int x1), (2, .int x2)], [], S, m) (some (.int res.1)) (S, res.2)) {k62 : Int32 → Int32 → Int32 → Me → Option (Int32 × Me)} (hk62 : ∀ {x1 : Int32} {x2 : Int32} {x3 : Int32} {m : Me}, k62 x1 x2 x3 m = some res → Inv m → TT InvS (Call 2) mX11_fits (62, [(0, .ref 138), (1, .int x1), (2, .int x2), (3, .int x3)], [], S, m) (some (.int res.1)) (S, res.2)) {x2 : Int32} {x3 : Int32} {t0 : Int32} {m : Me} (hf : fX11_fits_126 k21 k62 x2 x3 t0 m = some res) (hI : Inv m) : TT InvS (Call 2) mX11_fits (126, [(0, .ref 138), (2, .int x2), (3, .int x3)], [.int t0], S, m) (some (.int res.1)) (S, res.2) := by
  unfold fX11_fits_126 at hf
  refine to_istore_n (q := 127) [(1, .int t0), (0, .ref 138), (2, .int x2), (3, .int x3)] rfl (by decide) dX11_fits_126 rfl ?_
  refine to_iinc (q := 130) (v := (x3 + (1 : Int32))) rfl (congrArg (fun z => x3 + z) ic_1) [(3, .int (x3 + (1 : Int32))), (1, .int t0), (0, .ref 138), (2, .int x2)] rfl (by decide) dX11_fits_127 rfl ?_
  refine to_goto (q := 62) dX11_fits_130 rfl ?_
  exact to_ext [(0, .ref 138), (1, .int t0), (2, .int x2), (3, .int (x3 + (1 : Int32)))] (ext_cons rfl (ext_cons rfl (ext_cons rfl (ext_cons rfl ext_nil)))) (hk62 hf hI)
def fX11_fits_125 (k21 : Int32 → Int32 → Me → Option (Int32 × Me)) (k62 : Int32 → Int32 → Int32 → Me → Option (Int32 × Me)) (x2 : Int32) (x3 : Int32) (m : Me) : Option (Int32 × Me) := fX11_fits_126 k21 k62 x2 x3 ((0 : Int32)) m
set_option maxRecDepth 20000 in
theorem kX11_fits_125 {S : Sh} (hS : ShOK S) {res : Int32 × Me} {k21 : Int32 → Int32 → Me → Option (Int32 × Me)} (hk21 : ∀ {x1 : Int32} {x2 : Int32} {m : Me}, k21 x1 x2 m = some res → Inv m → TT InvS (Call 2) mX11_fits (21, [(0, .ref 138), (1, .int x1), (2, .int x2)], [], S, m) (some (.int res.1)) (S, res.2)) {k62 : Int32 → Int32 → Int32 → Me → Option (Int32 × Me)} (hk62 : ∀ {x1 : Int32} {x2 : Int32} {x3 : Int32} {m : Me}, k62 x1 x2 x3 m = some res → Inv m → TT InvS (Call 2) mX11_fits (62, [(0, .ref 138), (1, .int x1), (2, .int x2), (3, .int x3)], [], S, m) (some (.int res.1)) (S, res.2)) {x2 : Int32} {x3 : Int32} {m : Me} (hf : fX11_fits_125 k21 k62 x2 x3 m = some res) (hI : Inv m) : TT InvS (Call 2) mX11_fits (125, [(0, .ref 138), (2, .int x2), (3, .int x3)], [], S, m) (some (.int res.1)) (S, res.2) := by
  unfold fX11_fits_125 at hf
  refine to_iconst (q := 126) ic_0 dX11_fits_125 rfl ?_
  exact to_ext [(0, .ref 138), (2, .int x2), (3, .int x3)] (ext_cons rfl (ext_cons rfl (ext_cons rfl ext_nil))) (kX11_fits_126 hS hk21 hk62 hf hI)
def fX11_fits_62 (n : Nat) (k21 : Int32 → Int32 → Me → Option (Int32 × Me)) (x1 : Int32) (x2 : Int32) (x3 : Int32) (m : Me) : Option (Int32 × Me) := match n with
  | 0 => none
  | n + 1 => ck (inb ((126 : Int32) + x2) 186) (if (m.1 141 ((126 : Int32) + x2).toNatClampNeg) ≤ x3 then k21 x1 ((x2 + (1 : Int32))) m else if x1 = (0 : Int32) then fX11_fits_125 k21 (fX11_fits_62 n k21) x2 x3 m else ck (inb ((108 : Int32) + x2) 186) (ck (inb ((120 : Int32) + x2) 186) (cl2 (fX11_letterAt ((m.1 141 ((108 : Int32) + x2).toNatClampNeg)) (((m.1 141 ((120 : Int32) + x2).toNatClampNeg) + x3)) m) fun r24 m25 => ck (inb (((132 : Int32) + ((8 : Int32) * x2)) + x3) 186) (if r24 = (m25.1 141 (((132 : Int32) + ((8 : Int32) * x2)) + x3).toNatClampNeg) then fX11_fits_126 k21 (fX11_fits_62 n k21) x2 x3 ((1 : Int32)) m25 else fX11_fits_125 k21 (fX11_fits_62 n k21) x2 x3 m25))))
set_option maxRecDepth 20000 in
theorem kX11_fits_62 {S : Sh} (hS : ShOK S) {res : Int32 × Me} {k21 : Int32 → Int32 → Me → Option (Int32 × Me)} (hk21 : ∀ {x1 : Int32} {x2 : Int32} {m : Me}, k21 x1 x2 m = some res → Inv m → TT InvS (Call 2) mX11_fits (21, [(0, .ref 138), (1, .int x1), (2, .int x2)], [], S, m) (some (.int res.1)) (S, res.2)) (n : Nat) : ∀ {x1 : Int32} {x2 : Int32} {x3 : Int32} {m : Me}, fX11_fits_62 n k21 x1 x2 x3 m = some res → Inv m → TT InvS (Call 2) mX11_fits (62, [(0, .ref 138), (1, .int x1), (2, .int x2), (3, .int x3)], [], S, m) (some (.int res.1)) (S, res.2) := by
  induction n with
  | zero => intro x1 x2 x3 m hf; cases hf
  | succ n ih =>
    intro x1 x2 x3 m hf  hI
    unfold fX11_fits_62 at hf
    refine to_iload_n (q := 63) rfl dX11_fits_62 rfl ?_
    refine to_aload_n (q := 64) rfl (by decide) dX11_fits_63 rfl ?_
    refine to_getR (q := 67) (b := 141) (k0 := 11) (C := RX11) (T := TX11) (N := 37) (j := 15) rfl fx_X11_20 (h_138 hS) rfl (iv_138_15 hI) dX11_fits_64 rfl ?_
    refine to_bipush (q := 69) bp_126 dX11_fits_67 rfl ?_
    refine to_iload_n (q := 70) rfl dX11_fits_69 rfl ?_
    refine to_iadd (q := 71) dX11_fits_70 rfl ?_
    obtain ⟨hb17, hf⟩ := ck_some hf
    refine to_iaj (q := 72) (h_141 hS) hb17 (rfl) dX11_fits_71 rfl ?_
    by_cases h18 : (m.1 141 ((126 : Int32) + x2).toNatClampNeg) ≤ x3
    · have hf := ite_pos h18 hf
      refine to_icT (q := 133) (op := .ge) h18 dX11_fits_72 rfl ?_
      refine to_iinc (q := 136) (v := (x2 + (1 : Int32))) rfl (congrArg (fun z => x2 + z) ic_1) [(2, .int (x2 + (1 : Int32))), (0, .ref 138), (1, .int x1), (3, .int x3)] rfl (by decide) dX11_fits_133 rfl ?_
      refine to_goto (q := 21) dX11_fits_136 rfl ?_
      exact to_ext [(0, .ref 138), (1, .int x1), (2, .int (x2 + (1 : Int32)))] (ext_cons rfl (ext_cons rfl (ext_cons rfl ext_nil))) (hk21 hf hI)
    · have hf := ite_neg h18 hf
      refine to_icF (q := 75) (op := .ge) 133 h18 dX11_fits_72 rfl rfl ?_
      refine to_iload_n (q := 76) rfl dX11_fits_75 rfl ?_
      by_cases h19 : x1 = (0 : Int32)
      · have hf := ite_pos h19 hf
        refine to_ifT (q := 125) (op := .eq) h19 dX11_fits_76 rfl ?_
        exact to_ext [(0, .ref 138), (2, .int x2), (3, .int x3)] (ext_cons rfl (ext_cons rfl (ext_cons rfl ext_nil))) (kX11_fits_125 hS hk21 ih hf hI)
      · have hf := ite_neg h19 hf
        refine to_ifF (q := 79) (op := .eq) 125 h19 dX11_fits_76 rfl rfl ?_
        refine to_aload_n (q := 80) rfl (by decide) dX11_fits_79 rfl ?_
        refine to_aload_n (q := 81) rfl (by decide) dX11_fits_80 rfl ?_
        refine to_getR (q := 84) (b := 141) (k0 := 11) (C := RX11) (T := TX11) (N := 37) (j := 15) rfl fx_X11_20 (h_138 hS) rfl (iv_138_15 hI) dX11_fits_81 rfl ?_
        refine to_bipush (q := 86) bp_108 dX11_fits_84 rfl ?_
        refine to_iload_n (q := 87) rfl dX11_fits_86 rfl ?_
        refine to_iadd (q := 88) dX11_fits_87 rfl ?_
        obtain ⟨hb20, hf⟩ := ck_some hf
        refine to_iaj (q := 89) (h_141 hS) hb20 (rfl) dX11_fits_88 rfl ?_
        refine to_aload_n (q := 90) rfl (by decide) dX11_fits_89 rfl ?_
        refine to_getR (q := 93) (b := 141) (k0 := 11) (C := RX11) (T := TX11) (N := 37) (j := 15) rfl fx_X11_20 (h_138 hS) rfl (iv_138_15 hI) dX11_fits_90 rfl ?_
        refine to_bipush (q := 95) bp_120 dX11_fits_93 rfl ?_
        refine to_iload_n (q := 96) rfl dX11_fits_95 rfl ?_
        refine to_iadd (q := 97) dX11_fits_96 rfl ?_
        obtain ⟨hb21, hf⟩ := ck_some hf
        refine to_iaj (q := 98) (h_141 hS) hb21 (rfl) dX11_fits_97 rfl ?_
        refine to_iload_n (q := 99) rfl dX11_fits_98 rfl ?_
        refine to_iadd (q := 100) dX11_fits_99 rfl ?_
        obtain ⟨r24, m25, hc22, hf⟩ := cl2_some hf
        have qc23 := kX11_letterAt hS hc22 hI
        refine to_virtI (q := 103) mX11_letterAt [.int (m.1 141 ((108 : Int32) + x2).toNatClampNeg), .int ((m.1 141 ((120 : Int32) + x2).toNatClampNeg) + x3)] dX11_fits_100 rfl rfl (Nat.le_of_ble_eq_true rfl) mo_X11_letterAt mv_X11_286 (Or.inl ⟨_, _, _, h_138 hS, rfl, rfl⟩) (Call_mono (by decide) qc23.1) ?_
        have hI := qc23.2
        refine to_aload_n (q := 104) rfl (by decide) dX11_fits_103 rfl ?_
        refine to_getR (q := 107) (b := 141) (k0 := 11) (C := RX11) (T := TX11) (N := 37) (j := 15) rfl fx_X11_20 (h_138 hS) rfl (iv_138_15 hI) dX11_fits_104 rfl ?_
        refine to_sipush (q := 110) sp_132 dX11_fits_107 rfl ?_
        refine to_bipush (q := 112) bp_8 dX11_fits_110 rfl ?_
        refine to_iload_n (q := 113) rfl dX11_fits_112 rfl ?_
        refine to_imul (q := 114) dX11_fits_113 rfl ?_
        refine to_iadd (q := 115) dX11_fits_114 rfl ?_
        refine to_iload_n (q := 116) rfl dX11_fits_115 rfl ?_
        refine to_iadd (q := 117) dX11_fits_116 rfl ?_
        obtain ⟨hb26, hf⟩ := ck_some hf
        refine to_iaj (q := 118) (h_141 hS) hb26 (rfl) dX11_fits_117 rfl ?_
        by_cases h27 : r24 = (m25.1 141 (((132 : Int32) + ((8 : Int32) * x2)) + x3).toNatClampNeg)
        · have hf := ite_pos h27 hf
          refine to_icF (q := 121) (op := .ne) 125 (fun z => z h27) dX11_fits_118 rfl rfl ?_
          refine to_iconst (q := 122) ic_1 dX11_fits_121 rfl ?_
          refine to_goto (q := 126) dX11_fits_122 rfl ?_
          exact to_ext [(0, .ref 138), (2, .int x2), (3, .int x3)] (ext_cons rfl (ext_cons rfl (ext_cons rfl ext_nil))) (kX11_fits_126 hS hk21 ih hf hI)
        · have hf := ite_neg h27 hf
          refine to_icT (q := 125) (op := .ne) h27 dX11_fits_118 rfl ?_
          exact to_ext [(0, .ref 138), (2, .int x2), (3, .int x3)] (ext_cons rfl (ext_cons rfl (ext_cons rfl ext_nil))) (kX11_fits_125 hS hk21 ih hf hI)
def fX11_fits_21 (n : Nat) (x1 : Int32) (x2 : Int32) (m : Me) : Option (Int32 × Me) := match n with
  | 0 => none
  | n + 1 => if (m.1 141 7) ≤ x2 then if x1 = (0 : Int32) then fX11_fits_148 ((0 : Int32)) m else fX11_fits_148 ((1 : Int32)) m else ck (inb ((108 : Int32) + x2) 186) (ck (inb ((114 : Int32) + x2) 186) (cl2 (fX11_lay 141 ((m.1 141 ((108 : Int32) + x2).toNatClampNeg)) ((m.1 141 ((114 : Int32) + x2).toNatClampNeg)) (0 : Int32) m) fun r15 m16 => fX11_fits_62 FU (fX11_fits_21 n) x1 x2 ((0 : Int32)) m16))
set_option maxRecDepth 20000 in
theorem kX11_fits_21 {S : Sh} (hS : ShOK S) {res : Int32 × Me} (n : Nat) : ∀ {x1 : Int32} {x2 : Int32} {m : Me}, fX11_fits_21 n x1 x2 m = some res → Inv m → TT InvS (Call 2) mX11_fits (21, [(0, .ref 138), (1, .int x1), (2, .int x2)], [], S, m) (some (.int res.1)) (S, res.2) := by
  induction n with
  | zero => intro x1 x2 m hf; cases hf
  | succ n ih =>
    intro x1 x2 m hf  hI
    unfold fX11_fits_21 at hf
    refine to_iload_n (q := 22) rfl dX11_fits_21 rfl ?_
    refine to_aload_n (q := 23) rfl (by decide) dX11_fits_22 rfl ?_
    refine to_getR (q := 26) (b := 141) (k0 := 11) (C := RX11) (T := TX11) (N := 37) (j := 15) rfl fx_X11_20 (h_138 hS) rfl (iv_138_15 hI) dX11_fits_23 rfl ?_
    refine to_bipush (q := 28) bp_7 dX11_fits_26 rfl ?_
    refine to_iaj (q := 29) (h_141 hS) (by decide) (tn_7) dX11_fits_28 rfl ?_
    by_cases h9 : (m.1 141 7) ≤ x2
    · have hf := ite_pos h9 hf
      refine to_icT (q := 139) (op := .ge) h9 dX11_fits_29 rfl ?_
      refine to_iload_n (q := 140) rfl dX11_fits_139 rfl ?_
      by_cases h10 : x1 = (0 : Int32)
      · have hf := ite_pos h10 hf
        refine to_ifT (q := 147) (op := .eq) h10 dX11_fits_140 rfl ?_
        refine to_iconst (q := 148) ic_0 dX11_fits_147 rfl ?_
        exact to_ext [] ext_nil (kX11_fits_148 hS hf hI)
      · have hf := ite_neg h10 hf
        refine to_ifF (q := 143) (op := .eq) 147 h10 dX11_fits_140 rfl rfl ?_
        refine to_iconst (q := 144) ic_1 dX11_fits_143 rfl ?_
        refine to_goto (q := 148) dX11_fits_144 rfl ?_
        exact to_ext [] ext_nil (kX11_fits_148 hS hf hI)
    · have hf := ite_neg h9 hf
      refine to_icF (q := 32) (op := .ge) 139 h9 dX11_fits_29 rfl rfl ?_
      refine to_aload_n (q := 33) rfl (by decide) dX11_fits_32 rfl ?_
      refine to_aload_n (q := 34) rfl (by decide) dX11_fits_33 rfl ?_
      refine to_getR (q := 37) (b := 141) (k0 := 11) (C := RX11) (T := TX11) (N := 37) (j := 15) rfl fx_X11_20 (h_138 hS) rfl (iv_138_15 hI) dX11_fits_34 rfl ?_
      refine to_aload_n (q := 38) rfl (by decide) dX11_fits_37 rfl ?_
      refine to_getR (q := 41) (b := 141) (k0 := 11) (C := RX11) (T := TX11) (N := 37) (j := 15) rfl fx_X11_20 (h_138 hS) rfl (iv_138_15 hI) dX11_fits_38 rfl ?_
      refine to_bipush (q := 43) bp_108 dX11_fits_41 rfl ?_
      refine to_iload_n (q := 44) rfl dX11_fits_43 rfl ?_
      refine to_iadd (q := 45) dX11_fits_44 rfl ?_
      obtain ⟨hb11, hf⟩ := ck_some hf
      refine to_iaj (q := 46) (h_141 hS) hb11 (rfl) dX11_fits_45 rfl ?_
      refine to_aload_n (q := 47) rfl (by decide) dX11_fits_46 rfl ?_
      refine to_getR (q := 50) (b := 141) (k0 := 11) (C := RX11) (T := TX11) (N := 37) (j := 15) rfl fx_X11_20 (h_138 hS) rfl (iv_138_15 hI) dX11_fits_47 rfl ?_
      refine to_bipush (q := 52) bp_114 dX11_fits_50 rfl ?_
      refine to_iload_n (q := 53) rfl dX11_fits_52 rfl ?_
      refine to_iadd (q := 54) dX11_fits_53 rfl ?_
      obtain ⟨hb12, hf⟩ := ck_some hf
      refine to_iaj (q := 55) (h_141 hS) hb12 (rfl) dX11_fits_54 rfl ?_
      refine to_iconst (q := 56) ic_0 dX11_fits_55 rfl ?_
      obtain ⟨r15, m16, hc13, hf⟩ := cl2_some hf
      have qc14 := kX11_lay hS hc13 rfl hI
      refine to_virtI (q := 59) mX11_lay [.ref 141, .int (m.1 141 ((108 : Int32) + x2).toNatClampNeg), .int (m.1 141 ((114 : Int32) + x2).toNatClampNeg), .int (0 : Int32)] dX11_fits_56 rfl rfl (Nat.le_of_ble_eq_true rfl) mo_X11_lay mv_X11_245 (Or.inl ⟨_, _, _, h_138 hS, rfl, rfl⟩) (Call_mono (by decide) qc14.1) ?_
      have hI := qc14.2
      refine to_pop (q := 60) rfl dX11_fits_59 rfl ?_
      refine to_iconst (q := 61) ic_0 dX11_fits_60 rfl ?_
      refine to_istore_n (q := 62) [(3, .int (0 : Int32)), (0, .ref 138), (1, .int x1), (2, .int x2)] rfl (by decide) dX11_fits_61 rfl ?_
      exact to_ext [(0, .ref 138), (1, .int x1), (2, .int x2), (3, .int (0 : Int32))] (ext_cons rfl (ext_cons rfl (ext_cons rfl (ext_cons rfl ext_nil)))) (kX11_fits_62 hS ih FU hf hI)
def fX11_fits (m : Me) : Option (Int32 × Me) := cl1 (fX11_good m) fun m3 => if (m3.1 138 14) = (0 : Int32) then cl2 (fX11_no (1 : Int32) m3) fun r7 m8 => some (r7, m8) else fX11_fits_21 FU ((1 : Int32)) ((0 : Int32)) m3
set_option maxRecDepth 20000 in
theorem kX11_fits {S : Sh} (hS : ShOK S) {res : Int32 × Me} {m : Me} (hf : fX11_fits m = some res) (hI : Inv m) : Call 3 mX11_fits [.ref 138] (S, m) (some (.int res.1)) (S, res.2) ∧ Inv res.2 := by
  refine call_of (P := InvS) (Nat.le_of_ble_eq_true rfl) (by simp [Value.category]) ?_
  show TT InvS (Call 2) mX11_fits (0, [(0, .ref 138)], [], S, m) _ _
  unfold fX11_fits at hf
  refine to_aload_n (q := 1) rfl (by decide) dX11_fits_0 rfl ?_
  obtain ⟨m3, hc1, hf⟩ := cl1_some hf
  have qc2 := kX11_good hS hc1 hI
  refine to_virtV (q := 4) mX11_good [] dX11_fits_1 rfl rfl (Nat.le_of_ble_eq_true rfl) mo_X11_good mv_X11_156 (Or.inl ⟨_, _, _, h_138 hS, rfl, rfl⟩) (Call_mono (by decide) qc2.1) ?_
  have hI := qc2.2
  refine to_aload_n (q := 5) rfl (by decide) dX11_fits_4 rfl ?_
  refine to_getI (q := 8) (k0 := 11) (C := RX11) (T := TX11) (N := 37) (j := 14) rfl fx_X11_169 (h_138 hS) rfl dX11_fits_5 rfl ?_
  by_cases h4 : (m3.1 138 14) = (0 : Int32)
  · have hf := ite_pos h4 hf
    refine to_ifF (q := 11) (op := .ne) 17 (fun z => z h4) dX11_fits_8 rfl rfl ?_
    refine to_aload_n (q := 12) rfl (by decide) dX11_fits_11 rfl ?_
    refine to_iconst (q := 13) ic_1 dX11_fits_12 rfl ?_
    obtain ⟨r7, m8, hc5, hf⟩ := cl2_some hf
    have qc6 := kX11_no hS hc5 hI
    refine to_virtI (q := 16) mX11_no [.int (1 : Int32)] dX11_fits_13 rfl rfl (Nat.le_of_ble_eq_true rfl) mo_X11_no mv_X11_159 (Or.inl ⟨_, _, _, h_138 hS, rfl, rfl⟩) (Call_mono (by decide) qc6.1) ?_
    have hI := qc6.2
    cases hf
    exact to_iret dX11_fits_16 rfl rfl rfl rfl hI
  · have hf := ite_neg h4 hf
    refine to_ifT (q := 17) (op := .ne) h4 dX11_fits_8 rfl ?_
    refine to_iconst (q := 18) ic_1 dX11_fits_17 rfl ?_
    refine to_istore_n (q := 19) [(1, .int (1 : Int32)), (0, .ref 138)] rfl (by decide) dX11_fits_18 rfl ?_
    refine to_iconst (q := 20) ic_0 dX11_fits_19 rfl ?_
    refine to_istore_n (q := 21) [(2, .int (0 : Int32)), (1, .int (1 : Int32)), (0, .ref 138)] rfl (by decide) dX11_fits_20 rfl ?_
    exact to_ext [(0, .ref 138), (1, .int (1 : Int32)), (2, .int (0 : Int32))] (ext_cons rfl (ext_cons rfl (ext_cons rfl ext_nil))) (kX11_fits_21 hS FU hf hI)
def fX11_ask_134 (k29 : Int32 → Int32 → Int32 → Me → Option (Int32 × Me)) (k37 : Int32 → Int32 → Int32 → Int32 → Me → Option (Int32 × Me)) (x1 : Int32) (x2 : Int32) (x3 : Int32) (x4 : Int32) (m : Me) : Option (Int32 × Me) := k37 x1 x2 x3 ((x4 + (1 : Int32))) m
set_option maxRecDepth 20000 in
theorem kX11_ask_134 {S : Sh} (hS : ShOK S) {res : Int32 × Me} {k29 : Int32 → Int32 → Int32 → Me → Option (Int32 × Me)} (hk29 : ∀ {x1 : Int32} {x2 : Int32} {x3 : Int32} {m : Me}, k29 x1 x2 x3 m = some res → Inv m → TT InvS (Call 3) mX11_ask (29, [(0, .ref 138), (1, .int x1), (2, .int x2), (3, .int x3)], [], S, m) (some (.int res.1)) (S, res.2)) {k37 : Int32 → Int32 → Int32 → Int32 → Me → Option (Int32 × Me)} (hk37 : ∀ {x1 : Int32} {x2 : Int32} {x3 : Int32} {x4 : Int32} {m : Me}, k37 x1 x2 x3 x4 m = some res → Inv m → TT InvS (Call 3) mX11_ask (37, [(0, .ref 138), (1, .int x1), (2, .int x2), (3, .int x3), (4, .int x4)], [], S, m) (some (.int res.1)) (S, res.2)) {x1 : Int32} {x2 : Int32} {x3 : Int32} {x4 : Int32} {m : Me} (hf : fX11_ask_134 k29 k37 x1 x2 x3 x4 m = some res) (hI : Inv m) : TT InvS (Call 3) mX11_ask (134, [(0, .ref 138), (1, .int x1), (2, .int x2), (3, .int x3), (4, .int x4)], [], S, m) (some (.int res.1)) (S, res.2) := by
  unfold fX11_ask_134 at hf
  refine to_iinc (q := 137) (v := (x4 + (1 : Int32))) rfl (congrArg (fun z => x4 + z) ic_1) [(4, .int (x4 + (1 : Int32))), (0, .ref 138), (1, .int x1), (2, .int x2), (3, .int x3)] rfl (by decide) dX11_ask_134 rfl ?_
  refine to_goto (q := 37) dX11_ask_137 rfl ?_
  exact to_ext [(0, .ref 138), (1, .int x1), (2, .int x2), (3, .int x3), (4, .int (x4 + (1 : Int32)))] (ext_cons rfl (ext_cons rfl (ext_cons rfl (ext_cons rfl (ext_cons rfl ext_nil))))) (hk37 hf hI)
def fX11_ask_105 (k29 : Int32 → Int32 → Int32 → Me → Option (Int32 × Me)) (k37 : Int32 → Int32 → Int32 → Int32 → Me → Option (Int32 × Me)) (k69 : Int32 → Int32 → Int32 → Int32 → Int32 → Int32 → Int32 → Me → Option (Int32 × Me)) (x1 : Int32) (x2 : Int32) (x3 : Int32) (x4 : Int32) (x6 : Int32) (x7 : Int32) (t0 : Int32) (t1 : Int32) (m : Me) : Option (Int32 × Me) := k69 x1 x2 x3 x4 ((t1 + t0)) x6 ((x7 + (1 : Int32))) m
set_option maxRecDepth 20000 in
theorem kX11_ask_105 {S : Sh} (hS : ShOK S) {res : Int32 × Me} {k29 : Int32 → Int32 → Int32 → Me → Option (Int32 × Me)} (hk29 : ∀ {x1 : Int32} {x2 : Int32} {x3 : Int32} {m : Me}, k29 x1 x2 x3 m = some res → Inv m → TT InvS (Call 3) mX11_ask (29, [(0, .ref 138), (1, .int x1), (2, .int x2), (3, .int x3)], [], S, m) (some (.int res.1)) (S, res.2)) {k37 : Int32 → Int32 → Int32 → Int32 → Me → Option (Int32 × Me)} (hk37 : ∀ {x1 : Int32} {x2 : Int32} {x3 : Int32} {x4 : Int32} {m : Me}, k37 x1 x2 x3 x4 m = some res → Inv m → TT InvS (Call 3) mX11_ask (37, [(0, .ref 138), (1, .int x1), (2, .int x2), (3, .int x3), (4, .int x4)], [], S, m) (some (.int res.1)) (S, res.2)) {k69 : Int32 → Int32 → Int32 → Int32 → Int32 → Int32 → Int32 → Me → Option (Int32 × Me)} (hk69 : ∀ {x1 : Int32} {x2 : Int32} {x3 : Int32} {x4 : Int32} {x5 : Int32} {x6 : Int32} {x7 : Int32} {m : Me}, k69 x1 x2 x3 x4 x5 x6 x7 m = some res → Inv m → TT InvS (Call 3) mX11_ask (69, [(0, .ref 138), (1, .int x1), (2, .int x2), (3, .int x3), (4, .int x4), (5, .int x5), (6, .int x6), (7, .int x7)], [], S, m) (some (.int res.1)) (S, res.2)) {x1 : Int32} {x2 : Int32} {x3 : Int32} {x4 : Int32} {x6 : Int32} {x7 : Int32} {t0 : Int32} {t1 : Int32} {m : Me} (hf : fX11_ask_105 k29 k37 k69 x1 x2 x3 x4 x6 x7 t0 t1 m = some res) (hI : Inv m) : TT InvS (Call 3) mX11_ask (105, [(0, .ref 138), (1, .int x1), (2, .int x2), (3, .int x3), (4, .int x4), (6, .int x6), (7, .int x7)], [.int t0, .int t1], S, m) (some (.int res.1)) (S, res.2) := by
  unfold fX11_ask_105 at hf
  refine to_iadd (q := 106) dX11_ask_105 rfl ?_
  refine to_istore (q := 108) [(5, .int (t1 + t0)), (0, .ref 138), (1, .int x1), (2, .int x2), (3, .int x3), (4, .int x4), (6, .int x6), (7, .int x7)] rfl (by decide) dX11_ask_106 rfl ?_
  refine to_iinc (q := 111) (v := (x7 + (1 : Int32))) rfl (congrArg (fun z => x7 + z) ic_1) [(7, .int (x7 + (1 : Int32))), (5, .int (t1 + t0)), (0, .ref 138), (1, .int x1), (2, .int x2), (3, .int x3), (4, .int x4), (6, .int x6)] rfl (by decide) dX11_ask_108 rfl ?_
  refine to_goto (q := 69) dX11_ask_111 rfl ?_
  exact to_ext [(0, .ref 138), (1, .int x1), (2, .int x2), (3, .int x3), (4, .int x4), (5, .int (t1 + t0)), (6, .int x6), (7, .int (x7 + (1 : Int32)))] (ext_cons rfl (ext_cons rfl (ext_cons rfl (ext_cons rfl (ext_cons rfl (ext_cons rfl (ext_cons rfl (ext_cons rfl ext_nil)))))))) (hk69 hf hI)
def fX11_ask_69 (n : Nat) (k29 : Int32 → Int32 → Int32 → Me → Option (Int32 × Me)) (k37 : Int32 → Int32 → Int32 → Int32 → Me → Option (Int32 × Me)) (x1 : Int32) (x2 : Int32) (x3 : Int32) (x4 : Int32) (x5 : Int32) (x6 : Int32) (x7 : Int32) (m : Me) : Option (Int32 × Me) := match n with
  | 0 => none
  | n + 1 => if x6 ≤ x7 then if x2 < x5 then fX11_ask_134 k29 k37 ((((50 : Int32) * x3) + x4)) x5 x3 x4 m else fX11_ask_134 k29 k37 x1 x2 x3 x4 m else ck (inb x7 30) (ck (inb (((30 : Int32) * x3) + (m.1 147 x7.toNatClampNeg)) 60) (if (m.1 154 (((30 : Int32) * x3) + (m.1 147 x7.toNatClampNeg)).toNatClampNeg) = (-3 : Int32) then fX11_ask_105 k29 k37 (fX11_ask_69 n k29 k37) x1 x2 x3 x4 x6 x7 ((1 : Int32)) x5 m else fX11_ask_105 k29 k37 (fX11_ask_69 n k29 k37) x1 x2 x3 x4 x6 x7 ((0 : Int32)) x5 m))
set_option maxRecDepth 20000 in
theorem kX11_ask_69 {S : Sh} (hS : ShOK S) {res : Int32 × Me} {k29 : Int32 → Int32 → Int32 → Me → Option (Int32 × Me)} (hk29 : ∀ {x1 : Int32} {x2 : Int32} {x3 : Int32} {m : Me}, k29 x1 x2 x3 m = some res → Inv m → TT InvS (Call 3) mX11_ask (29, [(0, .ref 138), (1, .int x1), (2, .int x2), (3, .int x3)], [], S, m) (some (.int res.1)) (S, res.2)) {k37 : Int32 → Int32 → Int32 → Int32 → Me → Option (Int32 × Me)} (hk37 : ∀ {x1 : Int32} {x2 : Int32} {x3 : Int32} {x4 : Int32} {m : Me}, k37 x1 x2 x3 x4 m = some res → Inv m → TT InvS (Call 3) mX11_ask (37, [(0, .ref 138), (1, .int x1), (2, .int x2), (3, .int x3), (4, .int x4)], [], S, m) (some (.int res.1)) (S, res.2)) (n : Nat) : ∀ {x1 : Int32} {x2 : Int32} {x3 : Int32} {x4 : Int32} {x5 : Int32} {x6 : Int32} {x7 : Int32} {m : Me}, fX11_ask_69 n k29 k37 x1 x2 x3 x4 x5 x6 x7 m = some res → Inv m → TT InvS (Call 3) mX11_ask (69, [(0, .ref 138), (1, .int x1), (2, .int x2), (3, .int x3), (4, .int x4), (5, .int x5), (6, .int x6), (7, .int x7)], [], S, m) (some (.int res.1)) (S, res.2) := by
  induction n with
  | zero => intro x1 x2 x3 x4 x5 x6 x7 m hf; cases hf
  | succ n ih =>
    intro x1 x2 x3 x4 x5 x6 x7 m hf  hI
    unfold fX11_ask_69 at hf
    refine to_iload (q := 71) rfl dX11_ask_69 rfl ?_
    refine to_iload (q := 73) rfl dX11_ask_71 rfl ?_
    by_cases h23 : x6 ≤ x7
    · have hf := ite_pos h23 hf
      refine to_icT (q := 114) (op := .ge) h23 dX11_ask_73 rfl ?_
      refine to_iload (q := 116) rfl dX11_ask_114 rfl ?_
      refine to_iload_n (q := 117) rfl dX11_ask_116 rfl ?_
      by_cases h24 : x2 < x5
      · have hf := ite_pos h24 hf
        refine to_icT (q := 123) (op := .gt) h24 dX11_ask_117 rfl ?_
        refine to_bipush (q := 125) bp_50 dX11_ask_123 rfl ?_
        refine to_iload_n (q := 126) rfl dX11_ask_125 rfl ?_
        refine to_imul (q := 127) dX11_ask_126 rfl ?_
        refine to_iload (q := 129) rfl dX11_ask_127 rfl ?_
        refine to_iadd (q := 130) dX11_ask_129 rfl ?_
        refine to_istore_n (q := 131) [(1, .int (((50 : Int32) * x3) + x4)), (0, .ref 138), (2, .int x2), (3, .int x3), (4, .int x4), (5, .int x5), (6, .int x6), (7, .int x7)] rfl (by decide) dX11_ask_130 rfl ?_
        refine to_iload (q := 133) rfl dX11_ask_131 rfl ?_
        refine to_istore_n (q := 134) [(2, .int x5), (1, .int (((50 : Int32) * x3) + x4)), (0, .ref 138), (3, .int x3), (4, .int x4), (5, .int x5), (6, .int x6), (7, .int x7)] rfl (by decide) dX11_ask_133 rfl ?_
        exact to_ext [(0, .ref 138), (1, .int (((50 : Int32) * x3) + x4)), (2, .int x5), (3, .int x3), (4, .int x4)] (ext_cons rfl (ext_cons rfl (ext_cons rfl (ext_cons rfl (ext_cons rfl ext_nil))))) (kX11_ask_134 hS hk29 hk37 hf hI)
      · have hf := ite_neg h24 hf
        refine to_icF (q := 120) (op := .gt) 123 h24 dX11_ask_117 rfl rfl ?_
        refine to_goto (q := 134) dX11_ask_120 rfl ?_
        exact to_ext [(0, .ref 138), (1, .int x1), (2, .int x2), (3, .int x3), (4, .int x4)] (ext_cons rfl (ext_cons rfl (ext_cons rfl (ext_cons rfl (ext_cons rfl ext_nil))))) (kX11_ask_134 hS hk29 hk37 hf hI)
    · have hf := ite_neg h23 hf
      refine to_icF (q := 76) (op := .ge) 114 h23 dX11_ask_73 rfl rfl ?_
      refine to_iload (q := 78) rfl dX11_ask_76 rfl ?_
      refine to_aload_n (q := 79) rfl (by decide) dX11_ask_78 rfl ?_
      refine to_getR (q := 82) (b := 154) (k0 := 11) (C := RX11) (T := TX11) (N := 37) (j := 33) rfl fx_X11_59 (h_138 hS) rfl (iv_138_33 hI) dX11_ask_79 rfl ?_
      refine to_bipush (q := 84) bp_30 dX11_ask_82 rfl ?_
      refine to_iload_n (q := 85) rfl dX11_ask_84 rfl ?_
      refine to_imul (q := 86) dX11_ask_85 rfl ?_
      refine to_aload_n (q := 87) rfl (by decide) dX11_ask_86 rfl ?_
      refine to_getR (q := 90) (b := 147) (k0 := 11) (C := RX11) (T := TX11) (N := 37) (j := 23) rfl fx_X11_38 (h_138 hS) rfl (iv_138_23 hI) dX11_ask_87 rfl ?_
      refine to_iload (q := 92) rfl dX11_ask_90 rfl ?_
      obtain ⟨hb25, hf⟩ := ck_some hf
      refine to_iaj (q := 93) (h_147 hS) hb25 (rfl) dX11_ask_92 rfl ?_
      refine to_iadd (q := 94) dX11_ask_93 rfl ?_
      obtain ⟨hb26, hf⟩ := ck_some hf
      refine to_iaj (q := 95) (h_154 hS) hb26 (rfl) dX11_ask_94 rfl ?_
      refine to_bipush (q := 97) bp_m3 dX11_ask_95 rfl ?_
      by_cases h27 : (m.1 154 (((30 : Int32) * x3) + (m.1 147 x7.toNatClampNeg)).toNatClampNeg) = (-3 : Int32)
      · have hf := ite_pos h27 hf
        refine to_icF (q := 100) (op := .ne) 104 (fun z => z h27) dX11_ask_97 rfl rfl ?_
        refine to_iconst (q := 101) ic_1 dX11_ask_100 rfl ?_
        refine to_goto (q := 105) dX11_ask_101 rfl ?_
        exact to_ext [(0, .ref 138), (1, .int x1), (2, .int x2), (3, .int x3), (4, .int x4), (6, .int x6), (7, .int x7)] (ext_cons rfl (ext_cons rfl (ext_cons rfl (ext_cons rfl (ext_cons rfl (ext_cons rfl (ext_cons rfl ext_nil))))))) (kX11_ask_105 hS hk29 hk37 ih hf hI)
      · have hf := ite_neg h27 hf
        refine to_icT (q := 104) (op := .ne) h27 dX11_ask_97 rfl ?_
        refine to_iconst (q := 105) ic_0 dX11_ask_104 rfl ?_
        exact to_ext [(0, .ref 138), (1, .int x1), (2, .int x2), (3, .int x3), (4, .int x4), (6, .int x6), (7, .int x7)] (ext_cons rfl (ext_cons rfl (ext_cons rfl (ext_cons rfl (ext_cons rfl (ext_cons rfl (ext_cons rfl ext_nil))))))) (kX11_ask_105 hS hk29 hk37 ih hf hI)
def fX11_ask_37 (n : Nat) (k29 : Int32 → Int32 → Int32 → Me → Option (Int32 × Me)) (x1 : Int32) (x2 : Int32) (x3 : Int32) (x4 : Int32) (m : Me) : Option (Int32 × Me) := match n with
  | 0 => none
  | n + 1 => cl2 (fX11_mostOpen 141 m) fun r16 m17 => if r16 < x4 then k29 x1 x2 ((x3 + (1 : Int32))) m17 else cl2 (fX11_lay 141 x3 x4 (0 : Int32) m17) fun r21 m22 => fX11_ask_69 FU k29 (fX11_ask_37 n k29) x1 x2 x3 x4 ((0 : Int32)) r21 ((0 : Int32)) m22
set_option maxRecDepth 20000 in
theorem kX11_ask_37 {S : Sh} (hS : ShOK S) {res : Int32 × Me} {k29 : Int32 → Int32 → Int32 → Me → Option (Int32 × Me)} (hk29 : ∀ {x1 : Int32} {x2 : Int32} {x3 : Int32} {m : Me}, k29 x1 x2 x3 m = some res → Inv m → TT InvS (Call 3) mX11_ask (29, [(0, .ref 138), (1, .int x1), (2, .int x2), (3, .int x3)], [], S, m) (some (.int res.1)) (S, res.2)) (n : Nat) : ∀ {x1 : Int32} {x2 : Int32} {x3 : Int32} {x4 : Int32} {m : Me}, fX11_ask_37 n k29 x1 x2 x3 x4 m = some res → Inv m → TT InvS (Call 3) mX11_ask (37, [(0, .ref 138), (1, .int x1), (2, .int x2), (3, .int x3), (4, .int x4)], [], S, m) (some (.int res.1)) (S, res.2) := by
  induction n with
  | zero => intro x1 x2 x3 x4 m hf; cases hf
  | succ n ih =>
    intro x1 x2 x3 x4 m hf  hI
    unfold fX11_ask_37 at hf
    refine to_iload (q := 39) rfl dX11_ask_37 rfl ?_
    refine to_aload_n (q := 40) rfl (by decide) dX11_ask_39 rfl ?_
    refine to_getR (q := 43) (b := 141) (k0 := 11) (C := RX11) (T := TX11) (N := 37) (j := 15) rfl fx_X11_20 (h_138 hS) rfl (iv_138_15 hI) dX11_ask_40 rfl ?_
    obtain ⟨r16, m17, hc14, hf⟩ := cl2_some hf
    have qc15 := kX11_mostOpen hS hc14 rfl hI
    refine to_statI (q := 46) mX11_mostOpen [.ref 141] dX11_ask_43 rfl rfl (Nat.le_of_ble_eq_true rfl) mo_X11_mostOpen (Or.inl ml_X11_178) sa_X11_mostOpen (Call_mono (by decide) qc15.1) ?_
    have hI := qc15.2
    by_cases h18 : r16 < x4
    · have hf := ite_pos h18 hf
      refine to_icT (q := 140) (op := .gt) h18 dX11_ask_46 rfl ?_
      refine to_iinc (q := 143) (v := (x3 + (1 : Int32))) rfl (congrArg (fun z => x3 + z) ic_1) [(3, .int (x3 + (1 : Int32))), (0, .ref 138), (1, .int x1), (2, .int x2), (4, .int x4)] rfl (by decide) dX11_ask_140 rfl ?_
      refine to_goto (q := 29) dX11_ask_143 rfl ?_
      exact to_ext [(0, .ref 138), (1, .int x1), (2, .int x2), (3, .int (x3 + (1 : Int32)))] (ext_cons rfl (ext_cons rfl (ext_cons rfl (ext_cons rfl ext_nil)))) (hk29 hf hI)
    · have hf := ite_neg h18 hf
      refine to_icF (q := 49) (op := .gt) 140 h18 dX11_ask_46 rfl rfl ?_
      refine to_iconst (q := 50) ic_0 dX11_ask_49 rfl ?_
      refine to_istore (q := 52) [(5, .int (0 : Int32)), (0, .ref 138), (1, .int x1), (2, .int x2), (3, .int x3), (4, .int x4)] rfl (by decide) dX11_ask_50 rfl ?_
      refine to_aload_n (q := 53) rfl (by decide) dX11_ask_52 rfl ?_
      refine to_aload_n (q := 54) rfl (by decide) dX11_ask_53 rfl ?_
      refine to_getR (q := 57) (b := 141) (k0 := 11) (C := RX11) (T := TX11) (N := 37) (j := 15) rfl fx_X11_20 (h_138 hS) rfl (iv_138_15 hI) dX11_ask_54 rfl ?_
      refine to_iload_n (q := 58) rfl dX11_ask_57 rfl ?_
      refine to_iload (q := 60) rfl dX11_ask_58 rfl ?_
      refine to_iconst (q := 61) ic_0 dX11_ask_60 rfl ?_
      obtain ⟨r21, m22, hc19, hf⟩ := cl2_some hf
      have qc20 := kX11_lay hS hc19 rfl hI
      refine to_virtI (q := 64) mX11_lay [.ref 141, .int x3, .int x4, .int (0 : Int32)] dX11_ask_61 rfl rfl (Nat.le_of_ble_eq_true rfl) mo_X11_lay mv_X11_245 (Or.inl ⟨_, _, _, h_138 hS, rfl, rfl⟩) (Call_mono (by decide) qc20.1) ?_
      have hI := qc20.2
      refine to_istore (q := 66) [(6, .int r21), (5, .int (0 : Int32)), (0, .ref 138), (1, .int x1), (2, .int x2), (3, .int x3), (4, .int x4)] rfl (by decide) dX11_ask_64 rfl ?_
      refine to_iconst (q := 67) ic_0 dX11_ask_66 rfl ?_
      refine to_istore (q := 69) [(7, .int (0 : Int32)), (6, .int r21), (5, .int (0 : Int32)), (0, .ref 138), (1, .int x1), (2, .int x2), (3, .int x3), (4, .int x4)] rfl (by decide) dX11_ask_67 rfl ?_
      exact to_ext [(0, .ref 138), (1, .int x1), (2, .int x2), (3, .int x3), (4, .int x4), (5, .int (0 : Int32)), (6, .int r21), (7, .int (0 : Int32))] (ext_cons rfl (ext_cons rfl (ext_cons rfl (ext_cons rfl (ext_cons rfl (ext_cons rfl (ext_cons rfl (ext_cons rfl ext_nil)))))))) (kX11_ask_69 hS hk29 ih FU hf hI)
def fX11_ask_29 (n : Nat) (x1 : Int32) (x2 : Int32) (x3 : Int32) (m : Me) : Option (Int32 × Me) := match n with
  | 0 => none
  | n + 1 => if (2 : Int32) ≤ x3 then some (x1, m) else fX11_ask_37 FU (fX11_ask_29 n) x1 x2 x3 ((0 : Int32)) m
set_option maxRecDepth 20000 in
theorem kX11_ask_29 {S : Sh} (hS : ShOK S) {res : Int32 × Me} (n : Nat) : ∀ {x1 : Int32} {x2 : Int32} {x3 : Int32} {m : Me}, fX11_ask_29 n x1 x2 x3 m = some res → Inv m → TT InvS (Call 3) mX11_ask (29, [(0, .ref 138), (1, .int x1), (2, .int x2), (3, .int x3)], [], S, m) (some (.int res.1)) (S, res.2) := by
  induction n with
  | zero => intro x1 x2 x3 m hf; cases hf
  | succ n ih =>
    intro x1 x2 x3 m hf  hI
    unfold fX11_ask_29 at hf
    refine to_iload_n (q := 30) rfl dX11_ask_29 rfl ?_
    refine to_iconst (q := 31) ic_2 dX11_ask_30 rfl ?_
    by_cases h13 : (2 : Int32) ≤ x3
    · have hf := ite_pos h13 hf
      refine to_icT (q := 146) (op := .ge) h13 dX11_ask_31 rfl ?_
      refine to_iload_n (q := 147) rfl dX11_ask_146 rfl ?_
      cases hf
      exact to_iret dX11_ask_147 rfl rfl rfl rfl hI
    · have hf := ite_neg h13 hf
      refine to_icF (q := 34) (op := .ge) 146 h13 dX11_ask_31 rfl rfl ?_
      refine to_iconst (q := 35) ic_0 dX11_ask_34 rfl ?_
      refine to_istore (q := 37) [(4, .int (0 : Int32)), (0, .ref 138), (1, .int x1), (2, .int x2), (3, .int x3)] rfl (by decide) dX11_ask_35 rfl ?_
      exact to_ext [(0, .ref 138), (1, .int x1), (2, .int x2), (3, .int x3), (4, .int (0 : Int32))] (ext_cons rfl (ext_cons rfl (ext_cons rfl (ext_cons rfl (ext_cons rfl ext_nil))))) (kX11_ask_37 hS ih FU hf hI)
def fX11_ask (m : Me) : Option (Int32 × Me) := cl1 (fX11_good m) fun m3 => if (m3.1 138 14) = (0 : Int32) then cl2 (fX11_no (1 : Int32) m3) fun r11 m12 => some (r11, m12) else cl2 (fX11_laySure m3) fun r7 m8 => fX11_ask_29 FU ((-2 : Int32)) ((0 : Int32)) ((0 : Int32)) m8
set_option maxRecDepth 20000 in
theorem kX11_ask {S : Sh} (hS : ShOK S) {res : Int32 × Me} {m : Me} (hf : fX11_ask m = some res) (hI : Inv m) : Call 4 mX11_ask [.ref 138] (S, m) (some (.int res.1)) (S, res.2) ∧ Inv res.2 := by
  refine call_of (P := InvS) (Nat.le_of_ble_eq_true rfl) (by simp [Value.category]) ?_
  show TT InvS (Call 3) mX11_ask (0, [(0, .ref 138)], [], S, m) _ _
  unfold fX11_ask at hf
  refine to_aload_n (q := 1) rfl (by decide) dX11_ask_0 rfl ?_
  obtain ⟨m3, hc1, hf⟩ := cl1_some hf
  have qc2 := kX11_good hS hc1 hI
  refine to_virtV (q := 4) mX11_good [] dX11_ask_1 rfl rfl (Nat.le_of_ble_eq_true rfl) mo_X11_good mv_X11_156 (Or.inl ⟨_, _, _, h_138 hS, rfl, rfl⟩) (Call_mono (by decide) qc2.1) ?_
  have hI := qc2.2
  refine to_aload_n (q := 5) rfl (by decide) dX11_ask_4 rfl ?_
  refine to_getI (q := 8) (k0 := 11) (C := RX11) (T := TX11) (N := 37) (j := 14) rfl fx_X11_169 (h_138 hS) rfl dX11_ask_5 rfl ?_
  by_cases h4 : (m3.1 138 14) = (0 : Int32)
  · have hf := ite_pos h4 hf
    refine to_ifF (q := 11) (op := .ne) 17 (fun z => z h4) dX11_ask_8 rfl rfl ?_
    refine to_aload_n (q := 12) rfl (by decide) dX11_ask_11 rfl ?_
    refine to_iconst (q := 13) ic_1 dX11_ask_12 rfl ?_
    obtain ⟨r11, m12, hc9, hf⟩ := cl2_some hf
    have qc10 := kX11_no hS hc9 hI
    refine to_virtI (q := 16) mX11_no [.int (1 : Int32)] dX11_ask_13 rfl rfl (Nat.le_of_ble_eq_true rfl) mo_X11_no mv_X11_159 (Or.inl ⟨_, _, _, h_138 hS, rfl, rfl⟩) (Call_mono (by decide) qc10.1) ?_
    have hI := qc10.2
    cases hf
    exact to_iret dX11_ask_16 rfl rfl rfl rfl hI
  · have hf := ite_neg h4 hf
    refine to_ifT (q := 17) (op := .ne) h4 dX11_ask_8 rfl ?_
    refine to_aload_n (q := 18) rfl (by decide) dX11_ask_17 rfl ?_
    obtain ⟨r7, m8, hc5, hf⟩ := cl2_some hf
    have qc6 := kX11_laySure hS hc5 hI
    refine to_virtI (q := 21) mX11_laySure [] dX11_ask_18 rfl rfl (Nat.le_of_ble_eq_true rfl) mo_X11_laySure mv_X11_362 (Or.inl ⟨_, _, _, h_138 hS, rfl, rfl⟩) (Call_mono (by decide) qc6.1) ?_
    have hI := qc6.2
    refine to_pop (q := 22) rfl dX11_ask_21 rfl ?_
    refine to_bipush (q := 24) bp_m2 dX11_ask_22 rfl ?_
    refine to_istore_n (q := 25) [(1, .int (-2 : Int32)), (0, .ref 138)] rfl (by decide) dX11_ask_24 rfl ?_
    refine to_iconst (q := 26) ic_0 dX11_ask_25 rfl ?_
    refine to_istore_n (q := 27) [(2, .int (0 : Int32)), (1, .int (-2 : Int32)), (0, .ref 138)] rfl (by decide) dX11_ask_26 rfl ?_
    refine to_iconst (q := 28) ic_0 dX11_ask_27 rfl ?_
    refine to_istore_n (q := 29) [(3, .int (0 : Int32)), (2, .int (0 : Int32)), (1, .int (-2 : Int32)), (0, .ref 138)] rfl (by decide) dX11_ask_28 rfl ?_
    exact to_ext [(0, .ref 138), (1, .int (-2 : Int32)), (2, .int (0 : Int32)), (3, .int (0 : Int32))] (ext_cons rfl (ext_cons rfl (ext_cons rfl (ext_cons rfl ext_nil)))) (kX11_ask_29 hS FU hf hI)
def fX11_smearOf_118 (x6 : Int32) (m : Me) : Option (Int32 × Me) := some (x6, m)
set_option maxRecDepth 20000 in
theorem kX11_smearOf_118 {S : Sh} (hS : ShOK S) {res : Int32 × Me} {x6 : Int32} {m : Me} (hf : fX11_smearOf_118 x6 m = some res) (hI : Inv m) : TT InvS (Call 3) mX11_smearOf (118, [(6, .int x6)], [], S, m) (some (.int res.1)) (S, res.2) := by
  unfold fX11_smearOf_118 at hf
  refine to_iload (q := 120) rfl dX11_smearOf_118 rfl ?_
  cases hf
  exact to_iret dX11_smearOf_120 rfl rfl rfl rfl hI
def fX11_smearOf_109 (k71 : Int32 → Int32 → Int32 → Int32 → Int32 → Me → Option (Int32 × Me)) (x1 : Int32) (x4 : Int32) (x5 : Int32) (x7 : Int32) (t0 : Int32) (t1 : Int32) (m : Me) : Option (Int32 × Me) := k71 x1 x4 x5 ((t1 + t0)) ((x7 + (1 : Int32))) m
set_option maxRecDepth 20000 in
theorem kX11_smearOf_109 {S : Sh} (hS : ShOK S) {res : Int32 × Me} {k71 : Int32 → Int32 → Int32 → Int32 → Int32 → Me → Option (Int32 × Me)} (hk71 : ∀ {x1 : Int32} {x4 : Int32} {x5 : Int32} {x6 : Int32} {x7 : Int32} {m : Me}, k71 x1 x4 x5 x6 x7 m = some res → Inv m → TT InvS (Call 3) mX11_smearOf (71, [(0, .ref 138), (1, .int x1), (4, .int x4), (5, .int x5), (6, .int x6), (7, .int x7)], [], S, m) (some (.int res.1)) (S, res.2)) {x1 : Int32} {x4 : Int32} {x5 : Int32} {x7 : Int32} {t0 : Int32} {t1 : Int32} {m : Me} (hf : fX11_smearOf_109 k71 x1 x4 x5 x7 t0 t1 m = some res) (hI : Inv m) : TT InvS (Call 3) mX11_smearOf (109, [(0, .ref 138), (1, .int x1), (4, .int x4), (5, .int x5), (7, .int x7)], [.int t0, .int t1], S, m) (some (.int res.1)) (S, res.2) := by
  unfold fX11_smearOf_109 at hf
  refine to_iadd (q := 110) dX11_smearOf_109 rfl ?_
  refine to_istore (q := 112) [(6, .int (t1 + t0)), (0, .ref 138), (1, .int x1), (4, .int x4), (5, .int x5), (7, .int x7)] rfl (by decide) dX11_smearOf_110 rfl ?_
  refine to_iinc (q := 115) (v := (x7 + (1 : Int32))) rfl (congrArg (fun z => x7 + z) ic_1) [(7, .int (x7 + (1 : Int32))), (6, .int (t1 + t0)), (0, .ref 138), (1, .int x1), (4, .int x4), (5, .int x5)] rfl (by decide) dX11_smearOf_112 rfl ?_
  refine to_goto (q := 71) dX11_smearOf_115 rfl ?_
  exact to_ext [(0, .ref 138), (1, .int x1), (4, .int x4), (5, .int x5), (6, .int (t1 + t0)), (7, .int (x7 + (1 : Int32)))] (ext_cons rfl (ext_cons rfl (ext_cons rfl (ext_cons rfl (ext_cons rfl (ext_cons rfl ext_nil)))))) (hk71 hf hI)
def fX11_smearOf_71 (n : Nat) (x1 : Int32) (x4 : Int32) (x5 : Int32) (x6 : Int32) (x7 : Int32) (m : Me) : Option (Int32 × Me) := match n with
  | 0 => none
  | n + 1 => if x4 ≤ x7 then fX11_smearOf_118 x6 m else if x5 ≤ x7 then fX11_smearOf_118 x6 m else ck (inb x7 30) (cl2 (fX11_letterAt x1 x7 m) fun r21 m22 => if (m.1 148 x7.toNatClampNeg) = r21 then fX11_smearOf_109 (fX11_smearOf_71 n) x1 x4 x5 x7 ((0 : Int32)) x6 m22 else fX11_smearOf_109 (fX11_smearOf_71 n) x1 x4 x5 x7 ((1 : Int32)) x6 m22)
set_option maxRecDepth 20000 in
theorem kX11_smearOf_71 {S : Sh} (hS : ShOK S) {res : Int32 × Me} (n : Nat) : ∀ {x1 : Int32} {x4 : Int32} {x5 : Int32} {x6 : Int32} {x7 : Int32} {m : Me}, fX11_smearOf_71 n x1 x4 x5 x6 x7 m = some res → Inv m → TT InvS (Call 3) mX11_smearOf (71, [(0, .ref 138), (1, .int x1), (4, .int x4), (5, .int x5), (6, .int x6), (7, .int x7)], [], S, m) (some (.int res.1)) (S, res.2) := by
  induction n with
  | zero => intro x1 x4 x5 x6 x7 m hf; cases hf
  | succ n ih =>
    intro x1 x4 x5 x6 x7 m hf  hI
    unfold fX11_smearOf_71 at hf
    refine to_iload (q := 73) rfl dX11_smearOf_71 rfl ?_
    refine to_iload (q := 75) rfl dX11_smearOf_73 rfl ?_
    by_cases h16 : x4 ≤ x7
    · have hf := ite_pos h16 hf
      refine to_icT (q := 118) (op := .ge) h16 dX11_smearOf_75 rfl ?_
      exact to_ext [(6, .int x6)] (ext_cons rfl ext_nil) (kX11_smearOf_118 hS hf hI)
    · have hf := ite_neg h16 hf
      refine to_icF (q := 78) (op := .ge) 118 h16 dX11_smearOf_75 rfl rfl ?_
      refine to_iload (q := 80) rfl dX11_smearOf_78 rfl ?_
      refine to_iload (q := 82) rfl dX11_smearOf_80 rfl ?_
      by_cases h17 : x5 ≤ x7
      · have hf := ite_pos h17 hf
        refine to_icT (q := 118) (op := .ge) h17 dX11_smearOf_82 rfl ?_
        exact to_ext [(6, .int x6)] (ext_cons rfl ext_nil) (kX11_smearOf_118 hS hf hI)
      · have hf := ite_neg h17 hf
        refine to_icF (q := 85) (op := .ge) 118 h17 dX11_smearOf_82 rfl rfl ?_
        refine to_iload (q := 87) rfl dX11_smearOf_85 rfl ?_
        refine to_aload_n (q := 88) rfl (by decide) dX11_smearOf_87 rfl ?_
        refine to_getR (q := 91) (b := 148) (k0 := 11) (C := RX11) (T := TX11) (N := 37) (j := 24) rfl fx_X11_41 (h_138 hS) rfl (iv_138_24 hI) dX11_smearOf_88 rfl ?_
        refine to_iload (q := 93) rfl dX11_smearOf_91 rfl ?_
        obtain ⟨hb18, hf⟩ := ck_some hf
        refine to_iaj (q := 94) (h_148 hS) hb18 (rfl) dX11_smearOf_93 rfl ?_
        refine to_aload_n (q := 95) rfl (by decide) dX11_smearOf_94 rfl ?_
        refine to_iload_n (q := 96) rfl dX11_smearOf_95 rfl ?_
        refine to_iload (q := 98) rfl dX11_smearOf_96 rfl ?_
        obtain ⟨r21, m22, hc19, hf⟩ := cl2_some hf
        have qc20 := kX11_letterAt hS hc19 hI
        refine to_virtI (q := 101) mX11_letterAt [.int x1, .int x7] dX11_smearOf_98 rfl rfl (Nat.le_of_ble_eq_true rfl) mo_X11_letterAt mv_X11_286 (Or.inl ⟨_, _, _, h_138 hS, rfl, rfl⟩) (Call_mono (by decide) qc20.1) ?_
        have hI := qc20.2
        by_cases h23 : (m.1 148 x7.toNatClampNeg) = r21
        · have hf := ite_pos h23 hf
          refine to_icT (q := 108) (op := .eq) h23 dX11_smearOf_101 rfl ?_
          refine to_iconst (q := 109) ic_0 dX11_smearOf_108 rfl ?_
          exact to_ext [(0, .ref 138), (1, .int x1), (4, .int x4), (5, .int x5), (7, .int x7)] (ext_cons rfl (ext_cons rfl (ext_cons rfl (ext_cons rfl (ext_cons rfl ext_nil))))) (kX11_smearOf_109 hS ih hf hI)
        · have hf := ite_neg h23 hf
          refine to_icF (q := 104) (op := .eq) 108 h23 dX11_smearOf_101 rfl rfl ?_
          refine to_iconst (q := 105) ic_1 dX11_smearOf_104 rfl ?_
          refine to_goto (q := 109) dX11_smearOf_105 rfl ?_
          exact to_ext [(0, .ref 138), (1, .int x1), (4, .int x4), (5, .int x5), (7, .int x7)] (ext_cons rfl (ext_cons rfl (ext_cons rfl (ext_cons rfl (ext_cons rfl ext_nil))))) (kX11_smearOf_109 hS ih hf hI)
def fX11_smearOf_66 (x1 : Int32) (x4 : Int32) (x5 : Int32) (t0 : Int32) (m : Me) : Option (Int32 × Me) := fX11_smearOf_71 FU x1 x4 x5 t0 ((0 : Int32)) m
set_option maxRecDepth 20000 in
theorem kX11_smearOf_66 {S : Sh} (hS : ShOK S) {res : Int32 × Me} {x1 : Int32} {x4 : Int32} {x5 : Int32} {t0 : Int32} {m : Me} (hf : fX11_smearOf_66 x1 x4 x5 t0 m = some res) (hI : Inv m) : TT InvS (Call 3) mX11_smearOf (66, [(0, .ref 138), (1, .int x1), (4, .int x4), (5, .int x5)], [.int t0], S, m) (some (.int res.1)) (S, res.2) := by
  unfold fX11_smearOf_66 at hf
  refine to_istore (q := 68) [(6, .int t0), (0, .ref 138), (1, .int x1), (4, .int x4), (5, .int x5)] rfl (by decide) dX11_smearOf_66 rfl ?_
  refine to_iconst (q := 69) ic_0 dX11_smearOf_68 rfl ?_
  refine to_istore (q := 71) [(7, .int (0 : Int32)), (6, .int t0), (0, .ref 138), (1, .int x1), (4, .int x4), (5, .int x5)] rfl (by decide) dX11_smearOf_69 rfl ?_
  exact to_ext [(0, .ref 138), (1, .int x1), (4, .int x4), (5, .int x5), (6, .int t0), (7, .int (0 : Int32))] (ext_cons rfl (ext_cons rfl (ext_cons rfl (ext_cons rfl (ext_cons rfl (ext_cons rfl ext_nil)))))) (kX11_smearOf_71 hS FU hf hI)
def fX11_smearOf_11 (n : Nat) (x1 : Int32) (x3 : Int32) (x4 : Int32) (x5 : Int32) (m : Me) : Option (Int32 × Me) := match n with
  | 0 => none
  | n + 1 => if x4 ≤ x5 then cl2 (fX11_layNow x1 x3 m) fun r8 m9 => if r8 ≤ x4 then fX11_smearOf_66 x1 x4 r8 ((x4 - r8)) m9 else fX11_smearOf_66 x1 x4 r8 ((r8 - x4)) m9 else cl2 (fX11_letterAt x1 x5 m) fun r13 m14 => ck (inb x5 30) (fX11_smearOf_11 n x1 x3 x4 ((x5 + (1 : Int32))) (setI m14 148 x5.toNatClampNeg r13))
set_option maxRecDepth 20000 in
theorem kX11_smearOf_11 {S : Sh} (hS : ShOK S) {res : Int32 × Me} (n : Nat) : ∀ {x1 : Int32} {x3 : Int32} {x4 : Int32} {x5 : Int32} {m : Me}, fX11_smearOf_11 n x1 x3 x4 x5 m = some res → Inv m → TT InvS (Call 3) mX11_smearOf (11, [(0, .ref 138), (1, .int x1), (3, .int x3), (4, .int x4), (5, .int x5)], [], S, m) (some (.int res.1)) (S, res.2) := by
  induction n with
  | zero => intro x1 x3 x4 x5 m hf; cases hf
  | succ n ih =>
    intro x1 x3 x4 x5 m hf  hI
    unfold fX11_smearOf_11 at hf
    refine to_iload (q := 13) rfl dX11_smearOf_11 rfl ?_
    refine to_iload (q := 15) rfl dX11_smearOf_13 rfl ?_
    by_cases h5 : x4 ≤ x5
    · have hf := ite_pos h5 hf
      refine to_icT (q := 38) (op := .ge) h5 dX11_smearOf_15 rfl ?_
      refine to_aload_n (q := 39) rfl (by decide) dX11_smearOf_38 rfl ?_
      refine to_iload_n (q := 40) rfl dX11_smearOf_39 rfl ?_
      refine to_iload_n (q := 41) rfl dX11_smearOf_40 rfl ?_
      obtain ⟨r8, m9, hc6, hf⟩ := cl2_some hf
      have qc7 := kX11_layNow hS hc6 hI
      refine to_virtI (q := 44) mX11_layNow [.int x1, .int x3] dX11_smearOf_41 rfl rfl (Nat.le_of_ble_eq_true rfl) mo_X11_layNow mv_X11_279 (Or.inl ⟨_, _, _, h_138 hS, rfl, rfl⟩) (Call_mono (by decide) qc7.1) ?_
      have hI := qc7.2
      refine to_istore (q := 46) [(5, .int r8), (0, .ref 138), (1, .int x1), (3, .int x3), (4, .int x4)] rfl (by decide) dX11_smearOf_44 rfl ?_
      refine to_iload (q := 48) rfl dX11_smearOf_46 rfl ?_
      refine to_iload (q := 50) rfl dX11_smearOf_48 rfl ?_
      by_cases h10 : r8 ≤ x4
      · have hf := ite_pos h10 hf
        refine to_icT (q := 61) (op := .ge) h10 dX11_smearOf_50 rfl ?_
        refine to_iload (q := 63) rfl dX11_smearOf_61 rfl ?_
        refine to_iload (q := 65) rfl dX11_smearOf_63 rfl ?_
        refine to_isub (q := 66) dX11_smearOf_65 rfl ?_
        exact to_ext [(0, .ref 138), (1, .int x1), (4, .int x4), (5, .int r8)] (ext_cons rfl (ext_cons rfl (ext_cons rfl (ext_cons rfl ext_nil)))) (kX11_smearOf_66 hS hf hI)
      · have hf := ite_neg h10 hf
        refine to_icF (q := 53) (op := .ge) 61 h10 dX11_smearOf_50 rfl rfl ?_
        refine to_iload (q := 55) rfl dX11_smearOf_53 rfl ?_
        refine to_iload (q := 57) rfl dX11_smearOf_55 rfl ?_
        refine to_isub (q := 58) dX11_smearOf_57 rfl ?_
        refine to_goto (q := 66) dX11_smearOf_58 rfl ?_
        exact to_ext [(0, .ref 138), (1, .int x1), (4, .int x4), (5, .int r8)] (ext_cons rfl (ext_cons rfl (ext_cons rfl (ext_cons rfl ext_nil)))) (kX11_smearOf_66 hS hf hI)
    · have hf := ite_neg h5 hf
      refine to_icF (q := 18) (op := .ge) 38 h5 dX11_smearOf_15 rfl rfl ?_
      refine to_aload_n (q := 19) rfl (by decide) dX11_smearOf_18 rfl ?_
      refine to_getR (q := 22) (b := 148) (k0 := 11) (C := RX11) (T := TX11) (N := 37) (j := 24) rfl fx_X11_41 (h_138 hS) rfl (iv_138_24 hI) dX11_smearOf_19 rfl ?_
      refine to_iload (q := 24) rfl dX11_smearOf_22 rfl ?_
      refine to_aload_n (q := 25) rfl (by decide) dX11_smearOf_24 rfl ?_
      refine to_iload_n (q := 26) rfl dX11_smearOf_25 rfl ?_
      refine to_iload (q := 28) rfl dX11_smearOf_26 rfl ?_
      obtain ⟨r13, m14, hc11, hf⟩ := cl2_some hf
      have qc12 := kX11_letterAt hS hc11 hI
      refine to_virtI (q := 31) mX11_letterAt [.int x1, .int x5] dX11_smearOf_28 rfl rfl (Nat.le_of_ble_eq_true rfl) mo_X11_letterAt mv_X11_286 (Or.inl ⟨_, _, _, h_138 hS, rfl, rfl⟩) (Call_mono (by decide) qc12.1) ?_
      have hI := qc12.2
      obtain ⟨hb15, hf⟩ := ck_some hf
      refine to_iasj (q := 32) (h_148 hS) hb15 (rfl) dX11_smearOf_31 rfl ?_
      refine to_iinc (q := 35) (v := (x5 + (1 : Int32))) rfl (congrArg (fun z => x5 + z) ic_1) [(5, .int (x5 + (1 : Int32))), (0, .ref 138), (1, .int x1), (3, .int x3), (4, .int x4)] rfl (by decide) dX11_smearOf_32 rfl ?_
      refine to_goto (q := 11) dX11_smearOf_35 rfl ?_
      exact to_ext [(0, .ref 138), (1, .int x1), (3, .int x3), (4, .int x4), (5, .int (x5 + (1 : Int32)))] (ext_cons rfl (ext_cons rfl (ext_cons rfl (ext_cons rfl (ext_cons rfl ext_nil))))) (ih hf hI)
def fX11_smearOf (x1 : Int32) (x2 : Int32) (x3 : Int32) (m : Me) : Option (Int32 × Me) := cl2 (fX11_layNow x1 x2 m) fun r3 m4 => fX11_smearOf_11 FU x1 x3 r3 ((0 : Int32)) m4
set_option maxRecDepth 20000 in
theorem kX11_smearOf {S : Sh} (hS : ShOK S) {res : Int32 × Me} {x1 : Int32} {x2 : Int32} {x3 : Int32} {m : Me} (hf : fX11_smearOf x1 x2 x3 m = some res) (hI : Inv m) : Call 4 mX11_smearOf [.ref 138, .int x1, .int x2, .int x3] (S, m) (some (.int res.1)) (S, res.2) ∧ Inv res.2 := by
  refine call_of (P := InvS) (Nat.le_of_ble_eq_true rfl) (by simp [Value.category]) ?_
  show TT InvS (Call 3) mX11_smearOf (0, [(0, .ref 138), (1, .int x1), (2, .int x2), (3, .int x3)], [], S, m) _ _
  unfold fX11_smearOf at hf
  refine to_aload_n (q := 1) rfl (by decide) dX11_smearOf_0 rfl ?_
  refine to_iload_n (q := 2) rfl dX11_smearOf_1 rfl ?_
  refine to_iload_n (q := 3) rfl dX11_smearOf_2 rfl ?_
  obtain ⟨r3, m4, hc1, hf⟩ := cl2_some hf
  have qc2 := kX11_layNow hS hc1 hI
  refine to_virtI (q := 6) mX11_layNow [.int x1, .int x2] dX11_smearOf_3 rfl rfl (Nat.le_of_ble_eq_true rfl) mo_X11_layNow mv_X11_279 (Or.inl ⟨_, _, _, h_138 hS, rfl, rfl⟩) (Call_mono (by decide) qc2.1) ?_
  have hI := qc2.2
  refine to_istore (q := 8) [(4, .int r3), (0, .ref 138), (1, .int x1), (2, .int x2), (3, .int x3)] rfl (by decide) dX11_smearOf_6 rfl ?_
  refine to_iconst (q := 9) ic_0 dX11_smearOf_8 rfl ?_
  refine to_istore (q := 11) [(5, .int (0 : Int32)), (4, .int r3), (0, .ref 138), (1, .int x1), (2, .int x2), (3, .int x3)] rfl (by decide) dX11_smearOf_9 rfl ?_
  exact to_ext [(0, .ref 138), (1, .int x1), (3, .int x3), (4, .int r3), (5, .int (0 : Int32))] (ext_cons rfl (ext_cons rfl (ext_cons rfl (ext_cons rfl (ext_cons rfl ext_nil))))) (kX11_smearOf_11 hS FU hf hI)
def fX11_smear_49 (t0 : Int32) (m : Me) : Option (Int32 × Me) := some (t0, m)
set_option maxRecDepth 20000 in
theorem kX11_smear_49 {S : Sh} (hS : ShOK S) {res : Int32 × Me} {t0 : Int32} {m : Me} (hf : fX11_smear_49 t0 m = some res) (hI : Inv m) : TT InvS (Call 4) mX11_smear (49, [], [.int t0], S, m) (some (.int res.1)) (S, res.2) := by
  unfold fX11_smear_49 at hf
  cases hf
  exact to_iret dX11_smear_49 rfl rfl rfl rfl hI
def fX11_smear_44 (m : Me) : Option (Int32 × Me) := cl2 (fX11_no (2 : Int32) m) fun r29 m30 => fX11_smear_49 r29 m30
set_option maxRecDepth 20000 in
theorem kX11_smear_44 {S : Sh} (hS : ShOK S) {res : Int32 × Me} {m : Me} (hf : fX11_smear_44 m = some res) (hI : Inv m) : TT InvS (Call 4) mX11_smear (44, [(0, .ref 138)], [], S, m) (some (.int res.1)) (S, res.2) := by
  unfold fX11_smear_44 at hf
  refine to_aload_n (q := 45) rfl (by decide) dX11_smear_44 rfl ?_
  refine to_iconst (q := 46) ic_2 dX11_smear_45 rfl ?_
  obtain ⟨r29, m30, hc27, hf⟩ := cl2_some hf
  have qc28 := kX11_no hS hc27 hI
  refine to_virtI (q := 49) mX11_no [.int (2 : Int32)] dX11_smear_46 rfl rfl (Nat.le_of_ble_eq_true rfl) mo_X11_no mv_X11_159 (Or.inl ⟨_, _, _, h_138 hS, rfl, rfl⟩) (Call_mono (by decide) qc28.1) ?_
  have hI := qc28.2
  exact to_ext [] ext_nil (kX11_smear_49 hS hf hI)
def fX11_smear (x1 : Int32) (x2 : Int32) (x3 : Int32) (m : Me) : Option (Int32 × Me) := cl1 (fX11_good m) fun m3 => cl2 (fX11_isSide x1 m3) fun r6 m7 => if r6 = (0 : Int32) then cl2 (fX11_no (1 : Int32) m7) fun r25 m26 => some (r25, m26) else cl2 (fX11_isOpening x2 m7) fun r11 m12 => if r11 = (0 : Int32) then fX11_smear_44 m12 else cl2 (fX11_isOpening x3 m12) fun r16 m17 => if r16 = (0 : Int32) then fX11_smear_44 m17 else cl2 (fX11_smearOf x1 x2 x3 m17) fun r21 m22 => fX11_smear_49 r21 m22
set_option maxRecDepth 20000 in
theorem kX11_smear {S : Sh} (hS : ShOK S) {res : Int32 × Me} {x1 : Int32} {x2 : Int32} {x3 : Int32} {m : Me} (hf : fX11_smear x1 x2 x3 m = some res) (hI : Inv m) : Call 5 mX11_smear [.ref 138, .int x1, .int x2, .int x3] (S, m) (some (.int res.1)) (S, res.2) ∧ Inv res.2 := by
  refine call_of (P := InvS) (Nat.le_of_ble_eq_true rfl) (by simp [Value.category]) ?_
  show TT InvS (Call 4) mX11_smear (0, [(0, .ref 138), (1, .int x1), (2, .int x2), (3, .int x3)], [], S, m) _ _
  unfold fX11_smear at hf
  refine to_aload_n (q := 1) rfl (by decide) dX11_smear_0 rfl ?_
  obtain ⟨m3, hc1, hf⟩ := cl1_some hf
  have qc2 := kX11_good hS hc1 hI
  refine to_virtV (q := 4) mX11_good [] dX11_smear_1 rfl rfl (Nat.le_of_ble_eq_true rfl) mo_X11_good mv_X11_156 (Or.inl ⟨_, _, _, h_138 hS, rfl, rfl⟩) (Call_mono (by decide) qc2.1) ?_
  have hI := qc2.2
  refine to_aload_n (q := 5) rfl (by decide) dX11_smear_4 rfl ?_
  refine to_iload_n (q := 6) rfl dX11_smear_5 rfl ?_
  obtain ⟨r6, m7, hc4, hf⟩ := cl2_some hf
  have qc5 := kX11_isSide hS hc4 hI
  refine to_virtI (q := 9) mX11_isSide [.int x1] dX11_smear_6 rfl rfl (Nat.le_of_ble_eq_true rfl) mo_X11_isSide mv_X11_253 (Or.inl ⟨_, _, _, h_138 hS, rfl, rfl⟩) (Call_mono (by decide) qc5.1) ?_
  have hI := qc5.2
  by_cases h8 : r6 = (0 : Int32)
  · have hf := ite_pos h8 hf
    refine to_ifF (q := 12) (op := .ne) 18 (fun z => z h8) dX11_smear_9 rfl rfl ?_
    refine to_aload_n (q := 13) rfl (by decide) dX11_smear_12 rfl ?_
    refine to_iconst (q := 14) ic_1 dX11_smear_13 rfl ?_
    obtain ⟨r25, m26, hc23, hf⟩ := cl2_some hf
    have qc24 := kX11_no hS hc23 hI
    refine to_virtI (q := 17) mX11_no [.int (1 : Int32)] dX11_smear_14 rfl rfl (Nat.le_of_ble_eq_true rfl) mo_X11_no mv_X11_159 (Or.inl ⟨_, _, _, h_138 hS, rfl, rfl⟩) (Call_mono (by decide) qc24.1) ?_
    have hI := qc24.2
    cases hf
    exact to_iret dX11_smear_17 rfl rfl rfl rfl hI
  · have hf := ite_neg h8 hf
    refine to_ifT (q := 18) (op := .ne) h8 dX11_smear_9 rfl ?_
    refine to_aload_n (q := 19) rfl (by decide) dX11_smear_18 rfl ?_
    refine to_iload_n (q := 20) rfl dX11_smear_19 rfl ?_
    obtain ⟨r11, m12, hc9, hf⟩ := cl2_some hf
    have qc10 := kX11_isOpening hS hc9 hI
    refine to_virtI (q := 23) mX11_isOpening [.int x2] dX11_smear_20 rfl rfl (Nat.le_of_ble_eq_true rfl) mo_X11_isOpening mv_X11_273 (Or.inl ⟨_, _, _, h_138 hS, rfl, rfl⟩) (Call_mono (by decide) qc10.1) ?_
    have hI := qc10.2
    by_cases h13 : r11 = (0 : Int32)
    · have hf := ite_pos h13 hf
      refine to_ifT (q := 44) (op := .eq) h13 dX11_smear_23 rfl ?_
      exact to_ext [(0, .ref 138)] (ext_cons rfl ext_nil) (kX11_smear_44 hS hf hI)
    · have hf := ite_neg h13 hf
      refine to_ifF (q := 26) (op := .eq) 44 h13 dX11_smear_23 rfl rfl ?_
      refine to_aload_n (q := 27) rfl (by decide) dX11_smear_26 rfl ?_
      refine to_iload_n (q := 28) rfl dX11_smear_27 rfl ?_
      obtain ⟨r16, m17, hc14, hf⟩ := cl2_some hf
      have qc15 := kX11_isOpening hS hc14 hI
      refine to_virtI (q := 31) mX11_isOpening [.int x3] dX11_smear_28 rfl rfl (Nat.le_of_ble_eq_true rfl) mo_X11_isOpening mv_X11_273 (Or.inl ⟨_, _, _, h_138 hS, rfl, rfl⟩) (Call_mono (by decide) qc15.1) ?_
      have hI := qc15.2
      by_cases h18 : r16 = (0 : Int32)
      · have hf := ite_pos h18 hf
        refine to_ifT (q := 44) (op := .eq) h18 dX11_smear_31 rfl ?_
        exact to_ext [(0, .ref 138)] (ext_cons rfl ext_nil) (kX11_smear_44 hS hf hI)
      · have hf := ite_neg h18 hf
        refine to_ifF (q := 34) (op := .eq) 44 h18 dX11_smear_31 rfl rfl ?_
        refine to_aload_n (q := 35) rfl (by decide) dX11_smear_34 rfl ?_
        refine to_iload_n (q := 36) rfl dX11_smear_35 rfl ?_
        refine to_iload_n (q := 37) rfl dX11_smear_36 rfl ?_
        refine to_iload_n (q := 38) rfl dX11_smear_37 rfl ?_
        obtain ⟨r21, m22, hc19, hf⟩ := cl2_some hf
        have qc20 := kX11_smearOf hS hc19 hI
        refine to_virtI (q := 41) mX11_smearOf [.int x1, .int x2, .int x3] dX11_smear_38 rfl rfl (Nat.le_of_ble_eq_true rfl) mo_X11_smearOf mv_X11_365 (Or.inl ⟨_, _, _, h_138 hS, rfl, rfl⟩) (Call_mono (by decide) qc20.1) ?_
        have hI := qc20.2
        refine to_goto (q := 49) dX11_smear_41 rfl ?_
        exact to_ext [] ext_nil (kX11_smear_49 hS hf hI)
def fX11_beatWhy_27 (t0 : Int32) (m : Me) : Option (Int32 × Me) := some (t0, m)
set_option maxRecDepth 20000 in
theorem kX11_beatWhy_27 {S : Sh} (hS : ShOK S) {res : Int32 × Me} {t0 : Int32} {m : Me} (hf : fX11_beatWhy_27 t0 m = some res) (hI : Inv m) : TT InvS (Call 0) mX11_beatWhy (27, [], [.int t0], S, m) (some (.int res.1)) (S, res.2) := by
  unfold fX11_beatWhy_27 at hf
  cases hf
  exact to_iret dX11_beatWhy_27 rfl rfl rfl rfl hI
def fX11_beatWhy (m : Me) : Option (Int32 × Me) := if (m.1 138 14) = (0 : Int32) then fX11_beatWhy_27 ((1 : Int32)) m else if (m.1 141 8) = (0 : Int32) then fX11_beatWhy_27 ((6 : Int32)) m else fX11_beatWhy_27 ((0 : Int32)) m
set_option maxRecDepth 20000 in
theorem kX11_beatWhy {S : Sh} (hS : ShOK S) {res : Int32 × Me} {m : Me} (hf : fX11_beatWhy m = some res) (hI : Inv m) : Call 1 mX11_beatWhy [.ref 138] (S, m) (some (.int res.1)) (S, res.2) ∧ Inv res.2 := by
  refine call_of (P := InvS) (Nat.le_of_ble_eq_true rfl) (by simp [Value.category]) ?_
  show TT InvS (Call 0) mX11_beatWhy (0, [(0, .ref 138)], [], S, m) _ _
  unfold fX11_beatWhy at hf
  refine to_aload_n (q := 1) rfl (by decide) dX11_beatWhy_0 rfl ?_
  refine to_getI (q := 4) (k0 := 11) (C := RX11) (T := TX11) (N := 37) (j := 14) rfl fx_X11_169 (h_138 hS) rfl dX11_beatWhy_1 rfl ?_
  by_cases h1 : (m.1 138 14) = (0 : Int32)
  · have hf := ite_pos h1 hf
    refine to_ifF (q := 7) (op := .ne) 11 (fun z => z h1) dX11_beatWhy_4 rfl rfl ?_
    refine to_iconst (q := 8) ic_1 dX11_beatWhy_7 rfl ?_
    refine to_goto (q := 27) dX11_beatWhy_8 rfl ?_
    exact to_ext [] ext_nil (kX11_beatWhy_27 hS hf hI)
  · have hf := ite_neg h1 hf
    refine to_ifT (q := 11) (op := .ne) h1 dX11_beatWhy_4 rfl ?_
    refine to_aload_n (q := 12) rfl (by decide) dX11_beatWhy_11 rfl ?_
    refine to_getR (q := 15) (b := 141) (k0 := 11) (C := RX11) (T := TX11) (N := 37) (j := 15) rfl fx_X11_20 (h_138 hS) rfl (iv_138_15 hI) dX11_beatWhy_12 rfl ?_
    refine to_bipush (q := 17) bp_8 dX11_beatWhy_15 rfl ?_
    refine to_iaj (q := 18) (h_141 hS) (by decide) (tn_8) dX11_beatWhy_17 rfl ?_
    by_cases h2 : (m.1 141 8) = (0 : Int32)
    · have hf := ite_pos h2 hf
      refine to_ifF (q := 21) (op := .ne) 26 (fun z => z h2) dX11_beatWhy_18 rfl rfl ?_
      refine to_bipush (q := 23) bp_6 dX11_beatWhy_21 rfl ?_
      refine to_goto (q := 27) dX11_beatWhy_23 rfl ?_
      exact to_ext [] ext_nil (kX11_beatWhy_27 hS hf hI)
    · have hf := ite_neg h2 hf
      refine to_ifT (q := 26) (op := .ne) h2 dX11_beatWhy_18 rfl ?_
      refine to_iconst (q := 27) ic_0 dX11_beatWhy_26 rfl ?_
      exact to_ext [] ext_nil (kX11_beatWhy_27 hS hf hI)
def fX11_beatsOf_4 (n : Nat) (x1 : Int32) (x2 : Int32) (m : Me) : Option (Int32 × Me) := match n with
  | 0 => none
  | n + 1 => if (m.1 141 8) ≤ x2 then some (x1, m) else ck (inb (((180 : Int32) + x2) - (1 : Int32)) 186) (ck (inb ((180 : Int32) + x2) 186) (cl2 (fX11_smearOf (0 : Int32) ((m.1 141 (((180 : Int32) + x2) - (1 : Int32)).toNatClampNeg)) ((m.1 141 ((180 : Int32) + x2).toNatClampNeg)) m) fun r6 m7 => fX11_beatsOf_4 n ((x1 + r6)) ((x2 + (1 : Int32))) m7))
set_option maxRecDepth 20000 in
theorem kX11_beatsOf_4 {S : Sh} (hS : ShOK S) {res : Int32 × Me} (n : Nat) : ∀ {x1 : Int32} {x2 : Int32} {m : Me}, fX11_beatsOf_4 n x1 x2 m = some res → Inv m → TT InvS (Call 4) mX11_beatsOf (4, [(0, .ref 138), (1, .int x1), (2, .int x2)], [], S, m) (some (.int res.1)) (S, res.2) := by
  induction n with
  | zero => intro x1 x2 m hf; cases hf
  | succ n ih =>
    intro x1 x2 m hf  hI
    unfold fX11_beatsOf_4 at hf
    refine to_iload_n (q := 5) rfl dX11_beatsOf_4 rfl ?_
    refine to_aload_n (q := 6) rfl (by decide) dX11_beatsOf_5 rfl ?_
    refine to_getR (q := 9) (b := 141) (k0 := 11) (C := RX11) (T := TX11) (N := 37) (j := 15) rfl fx_X11_20 (h_138 hS) rfl (iv_138_15 hI) dX11_beatsOf_6 rfl ?_
    refine to_bipush (q := 11) bp_8 dX11_beatsOf_9 rfl ?_
    refine to_iaj (q := 12) (h_141 hS) (by decide) (tn_8) dX11_beatsOf_11 rfl ?_
    by_cases h1 : (m.1 141 8) ≤ x2
    · have hf := ite_pos h1 hf
      refine to_icT (q := 51) (op := .ge) h1 dX11_beatsOf_12 rfl ?_
      refine to_iload_n (q := 52) rfl dX11_beatsOf_51 rfl ?_
      cases hf
      exact to_iret dX11_beatsOf_52 rfl rfl rfl rfl hI
    · have hf := ite_neg h1 hf
      refine to_icF (q := 15) (op := .ge) 51 h1 dX11_beatsOf_12 rfl rfl ?_
      refine to_iload_n (q := 16) rfl dX11_beatsOf_15 rfl ?_
      refine to_aload_n (q := 17) rfl (by decide) dX11_beatsOf_16 rfl ?_
      refine to_iconst (q := 18) ic_0 dX11_beatsOf_17 rfl ?_
      refine to_aload_n (q := 19) rfl (by decide) dX11_beatsOf_18 rfl ?_
      refine to_getR (q := 22) (b := 141) (k0 := 11) (C := RX11) (T := TX11) (N := 37) (j := 15) rfl fx_X11_20 (h_138 hS) rfl (iv_138_15 hI) dX11_beatsOf_19 rfl ?_
      refine to_sipush (q := 25) sp_180 dX11_beatsOf_22 rfl ?_
      refine to_iload_n (q := 26) rfl dX11_beatsOf_25 rfl ?_
      refine to_iadd (q := 27) dX11_beatsOf_26 rfl ?_
      refine to_iconst (q := 28) ic_1 dX11_beatsOf_27 rfl ?_
      refine to_isub (q := 29) dX11_beatsOf_28 rfl ?_
      obtain ⟨hb2, hf⟩ := ck_some hf
      refine to_iaj (q := 30) (h_141 hS) hb2 (rfl) dX11_beatsOf_29 rfl ?_
      refine to_aload_n (q := 31) rfl (by decide) dX11_beatsOf_30 rfl ?_
      refine to_getR (q := 34) (b := 141) (k0 := 11) (C := RX11) (T := TX11) (N := 37) (j := 15) rfl fx_X11_20 (h_138 hS) rfl (iv_138_15 hI) dX11_beatsOf_31 rfl ?_
      refine to_sipush (q := 37) sp_180 dX11_beatsOf_34 rfl ?_
      refine to_iload_n (q := 38) rfl dX11_beatsOf_37 rfl ?_
      refine to_iadd (q := 39) dX11_beatsOf_38 rfl ?_
      obtain ⟨hb3, hf⟩ := ck_some hf
      refine to_iaj (q := 40) (h_141 hS) hb3 (rfl) dX11_beatsOf_39 rfl ?_
      obtain ⟨r6, m7, hc4, hf⟩ := cl2_some hf
      have qc5 := kX11_smearOf hS hc4 hI
      refine to_virtI (q := 43) mX11_smearOf [.int (0 : Int32), .int (m.1 141 (((180 : Int32) + x2) - (1 : Int32)).toNatClampNeg), .int (m.1 141 ((180 : Int32) + x2).toNatClampNeg)] dX11_beatsOf_40 rfl rfl (Nat.le_of_ble_eq_true rfl) mo_X11_smearOf mv_X11_365 (Or.inl ⟨_, _, _, h_138 hS, rfl, rfl⟩) (Call_mono (by decide) qc5.1) ?_
      have hI := qc5.2
      refine to_iadd (q := 44) dX11_beatsOf_43 rfl ?_
      refine to_istore_n (q := 45) [(1, .int (x1 + r6)), (0, .ref 138), (2, .int x2)] rfl (by decide) dX11_beatsOf_44 rfl ?_
      refine to_iinc (q := 48) (v := (x2 + (1 : Int32))) rfl (congrArg (fun z => x2 + z) ic_1) [(2, .int (x2 + (1 : Int32))), (1, .int (x1 + r6)), (0, .ref 138)] rfl (by decide) dX11_beatsOf_45 rfl ?_
      refine to_goto (q := 4) dX11_beatsOf_48 rfl ?_
      exact to_ext [(0, .ref 138), (1, .int (x1 + r6)), (2, .int (x2 + (1 : Int32)))] (ext_cons rfl (ext_cons rfl (ext_cons rfl ext_nil))) (ih hf hI)
def fX11_beatsOf (m : Me) : Option (Int32 × Me) := fX11_beatsOf_4 FU ((0 : Int32)) ((1 : Int32)) m
set_option maxRecDepth 20000 in
theorem kX11_beatsOf {S : Sh} (hS : ShOK S) {res : Int32 × Me} {m : Me} (hf : fX11_beatsOf m = some res) (hI : Inv m) : Call 5 mX11_beatsOf [.ref 138] (S, m) (some (.int res.1)) (S, res.2) ∧ Inv res.2 := by
  refine call_of (P := InvS) (Nat.le_of_ble_eq_true rfl) (by simp [Value.category]) ?_
  show TT InvS (Call 4) mX11_beatsOf (0, [(0, .ref 138)], [], S, m) _ _
  unfold fX11_beatsOf at hf
  refine to_iconst (q := 1) ic_0 dX11_beatsOf_0 rfl ?_
  refine to_istore_n (q := 2) [(1, .int (0 : Int32)), (0, .ref 138)] rfl (by decide) dX11_beatsOf_1 rfl ?_
  refine to_iconst (q := 3) ic_1 dX11_beatsOf_2 rfl ?_
  refine to_istore_n (q := 4) [(2, .int (1 : Int32)), (1, .int (0 : Int32)), (0, .ref 138)] rfl (by decide) dX11_beatsOf_3 rfl ?_
  exact to_ext [(0, .ref 138), (1, .int (0 : Int32)), (2, .int (1 : Int32))] (ext_cons rfl (ext_cons rfl (ext_cons rfl ext_nil))) (kX11_beatsOf_4 hS FU hf hI)
def fX11_beats_25 (t0 : Int32) (m : Me) : Option (Int32 × Me) := some (t0, m)
set_option maxRecDepth 20000 in
theorem kX11_beats_25 {S : Sh} (hS : ShOK S) {res : Int32 × Me} {t0 : Int32} {m : Me} (hf : fX11_beats_25 t0 m = some res) (hI : Inv m) : TT InvS (Call 5) mX11_beats (25, [], [.int t0], S, m) (some (.int res.1)) (S, res.2) := by
  unfold fX11_beats_25 at hf
  cases hf
  exact to_iret dX11_beats_25 rfl rfl rfl rfl hI
def fX11_beats (m : Me) : Option (Int32 × Me) := cl1 (fX11_good m) fun m3 => cl2 (fX11_beatWhy m3) fun r6 m7 => if r6 = (0 : Int32) then cl2 (fX11_beatsOf m7) fun r11 m12 => fX11_beats_25 r11 m12 else cl2 (fX11_no r6 m7) fun r15 m16 => fX11_beats_25 r15 m16
set_option maxRecDepth 20000 in
theorem kX11_beats {S : Sh} (hS : ShOK S) {res : Int32 × Me} {m : Me} (hf : fX11_beats m = some res) (hI : Inv m) : Call 6 mX11_beats [.ref 138] (S, m) (some (.int res.1)) (S, res.2) ∧ Inv res.2 := by
  refine call_of (P := InvS) (Nat.le_of_ble_eq_true rfl) (by simp [Value.category]) ?_
  show TT InvS (Call 5) mX11_beats (0, [(0, .ref 138)], [], S, m) _ _
  unfold fX11_beats at hf
  refine to_aload_n (q := 1) rfl (by decide) dX11_beats_0 rfl ?_
  obtain ⟨m3, hc1, hf⟩ := cl1_some hf
  have qc2 := kX11_good hS hc1 hI
  refine to_virtV (q := 4) mX11_good [] dX11_beats_1 rfl rfl (Nat.le_of_ble_eq_true rfl) mo_X11_good mv_X11_156 (Or.inl ⟨_, _, _, h_138 hS, rfl, rfl⟩) (Call_mono (by decide) qc2.1) ?_
  have hI := qc2.2
  refine to_aload_n (q := 5) rfl (by decide) dX11_beats_4 rfl ?_
  obtain ⟨r6, m7, hc4, hf⟩ := cl2_some hf
  have qc5 := kX11_beatWhy hS hc4 hI
  refine to_virtI (q := 8) mX11_beatWhy [] dX11_beats_5 rfl rfl (Nat.le_of_ble_eq_true rfl) mo_X11_beatWhy mv_X11_368 (Or.inl ⟨_, _, _, h_138 hS, rfl, rfl⟩) (Call_mono (by decide) qc5.1) ?_
  have hI := qc5.2
  refine to_istore_n (q := 9) [(1, .int r6), (0, .ref 138)] rfl (by decide) dX11_beats_8 rfl ?_
  refine to_iload_n (q := 10) rfl dX11_beats_9 rfl ?_
  by_cases h8 : r6 = (0 : Int32)
  · have hf := ite_pos h8 hf
    refine to_ifT (q := 21) (op := .eq) h8 dX11_beats_10 rfl ?_
    refine to_aload_n (q := 22) rfl (by decide) dX11_beats_21 rfl ?_
    obtain ⟨r11, m12, hc9, hf⟩ := cl2_some hf
    have qc10 := kX11_beatsOf hS hc9 hI
    refine to_virtI (q := 25) mX11_beatsOf [] dX11_beats_22 rfl rfl (Nat.le_of_ble_eq_true rfl) mo_X11_beatsOf mv_X11_371 (Or.inl ⟨_, _, _, h_138 hS, rfl, rfl⟩) (Call_mono (by decide) qc10.1) ?_
    have hI := qc10.2
    exact to_ext [] ext_nil (kX11_beats_25 hS hf hI)
  · have hf := ite_neg h8 hf
    refine to_ifF (q := 13) (op := .eq) 21 h8 dX11_beats_10 rfl rfl ?_
    refine to_aload_n (q := 14) rfl (by decide) dX11_beats_13 rfl ?_
    refine to_iload_n (q := 15) rfl dX11_beats_14 rfl ?_
    obtain ⟨r15, m16, hc13, hf⟩ := cl2_some hf
    have qc14 := kX11_no hS hc13 hI
    refine to_virtI (q := 18) mX11_no [.int r6] dX11_beats_15 rfl rfl (Nat.le_of_ble_eq_true rfl) mo_X11_no mv_X11_159 (Or.inl ⟨_, _, _, h_138 hS, rfl, rfl⟩) (Call_mono (by decide) qc14.1) ?_
    have hI := qc14.2
    refine to_goto (q := 25) dX11_beats_18 rfl ?_
    exact to_ext [] ext_nil (kX11_beats_25 hS hf hI)
def fX11_flutters_77 (k39 : Int32 → Int32 → Int32 → Me → Option (Int32 × Me)) (x1 : Int32) (x3 : Int32) (t0 : Int32) (t1 : Int32) (m : Me) : Option (Int32 × Me) := k39 x1 ((t1 ||| t0)) ((x3 + (1 : Int32))) m
set_option maxRecDepth 20000 in
theorem kX11_flutters_77 {S : Sh} (hS : ShOK S) {res : Int32 × Me} {k39 : Int32 → Int32 → Int32 → Me → Option (Int32 × Me)} (hk39 : ∀ {x1 : Int32} {x2 : Int32} {x3 : Int32} {m : Me}, k39 x1 x2 x3 m = some res → Inv m → TT InvS (Call 4) mX11_flutters (39, [(0, .ref 138), (1, .int x1), (2, .int x2), (3, .int x3)], [], S, m) (some (.int res.1)) (S, res.2)) {x1 : Int32} {x3 : Int32} {t0 : Int32} {t1 : Int32} {m : Me} (hf : fX11_flutters_77 k39 x1 x3 t0 t1 m = some res) (hI : Inv m) : TT InvS (Call 4) mX11_flutters (77, [(0, .ref 138), (1, .int x1), (3, .int x3)], [.int t0, .int t1], S, m) (some (.int res.1)) (S, res.2) := by
  unfold fX11_flutters_77 at hf
  refine to_ior (q := 78) dX11_flutters_77 rfl ?_
  refine to_istore_n (q := 79) [(2, .int (t1 ||| t0)), (0, .ref 138), (1, .int x1), (3, .int x3)] rfl (by decide) dX11_flutters_78 rfl ?_
  refine to_iinc (q := 82) (v := (x3 + (1 : Int32))) rfl (congrArg (fun z => x3 + z) ic_1) [(3, .int (x3 + (1 : Int32))), (2, .int (t1 ||| t0)), (0, .ref 138), (1, .int x1)] rfl (by decide) dX11_flutters_79 rfl ?_
  refine to_goto (q := 39) dX11_flutters_82 rfl ?_
  exact to_ext [(0, .ref 138), (1, .int x1), (2, .int (t1 ||| t0)), (3, .int (x3 + (1 : Int32)))] (ext_cons rfl (ext_cons rfl (ext_cons rfl (ext_cons rfl ext_nil)))) (hk39 hf hI)
def fX11_flutters_39 (n : Nat) (x1 : Int32) (x2 : Int32) (x3 : Int32) (m : Me) : Option (Int32 × Me) := match n with
  | 0 => none
  | n + 1 => if (m.1 141 8) ≤ x3 then some (x2, m) else ck (inb ((180 : Int32) + x3) 186) (cl2 (fX11_readsWord x1 (0 : Int32) ((m.1 141 ((180 : Int32) + x3).toNatClampNeg)) m) fun r22 m23 => if r22 ≤ (0 : Int32) then fX11_flutters_77 (fX11_flutters_39 n) x1 x3 ((0 : Int32)) x2 m23 else fX11_flutters_77 (fX11_flutters_39 n) x1 x3 (((1 : Int32) <<< (x3 &&& 31))) x2 m23)
set_option maxRecDepth 20000 in
theorem kX11_flutters_39 {S : Sh} (hS : ShOK S) {res : Int32 × Me} (n : Nat) : ∀ {x1 : Int32} {x2 : Int32} {x3 : Int32} {m : Me}, fX11_flutters_39 n x1 x2 x3 m = some res → Inv m → TT InvS (Call 4) mX11_flutters (39, [(0, .ref 138), (1, .int x1), (2, .int x2), (3, .int x3)], [], S, m) (some (.int res.1)) (S, res.2) := by
  induction n with
  | zero => intro x1 x2 x3 m hf; cases hf
  | succ n ih =>
    intro x1 x2 x3 m hf  hI
    unfold fX11_flutters_39 at hf
    refine to_iload_n (q := 40) rfl dX11_flutters_39 rfl ?_
    refine to_aload_n (q := 41) rfl (by decide) dX11_flutters_40 rfl ?_
    refine to_getR (q := 44) (b := 141) (k0 := 11) (C := RX11) (T := TX11) (N := 37) (j := 15) rfl fx_X11_20 (h_138 hS) rfl (iv_138_15 hI) dX11_flutters_41 rfl ?_
    refine to_bipush (q := 46) bp_8 dX11_flutters_44 rfl ?_
    refine to_iaj (q := 47) (h_141 hS) (by decide) (tn_8) dX11_flutters_46 rfl ?_
    by_cases h18 : (m.1 141 8) ≤ x3
    · have hf := ite_pos h18 hf
      refine to_icT (q := 85) (op := .ge) h18 dX11_flutters_47 rfl ?_
      refine to_iload_n (q := 86) rfl dX11_flutters_85 rfl ?_
      cases hf
      exact to_iret dX11_flutters_86 rfl rfl rfl rfl hI
    · have hf := ite_neg h18 hf
      refine to_icF (q := 50) (op := .ge) 85 h18 dX11_flutters_47 rfl rfl ?_
      refine to_iload_n (q := 51) rfl dX11_flutters_50 rfl ?_
      refine to_aload_n (q := 52) rfl (by decide) dX11_flutters_51 rfl ?_
      refine to_iload_n (q := 53) rfl dX11_flutters_52 rfl ?_
      refine to_iconst (q := 54) ic_0 dX11_flutters_53 rfl ?_
      refine to_aload_n (q := 55) rfl (by decide) dX11_flutters_54 rfl ?_
      refine to_getR (q := 58) (b := 141) (k0 := 11) (C := RX11) (T := TX11) (N := 37) (j := 15) rfl fx_X11_20 (h_138 hS) rfl (iv_138_15 hI) dX11_flutters_55 rfl ?_
      refine to_sipush (q := 61) sp_180 dX11_flutters_58 rfl ?_
      refine to_iload_n (q := 62) rfl dX11_flutters_61 rfl ?_
      refine to_iadd (q := 63) dX11_flutters_62 rfl ?_
      obtain ⟨hb19, hf⟩ := ck_some hf
      refine to_iaj (q := 64) (h_141 hS) hb19 (rfl) dX11_flutters_63 rfl ?_
      obtain ⟨r22, m23, hc20, hf⟩ := cl2_some hf
      have qc21 := kX11_readsWord hS hc20 hI
      refine to_virtI (q := 67) mX11_readsWord [.int x1, .int (0 : Int32), .int (m.1 141 ((180 : Int32) + x3).toNatClampNeg)] dX11_flutters_64 rfl rfl (Nat.le_of_ble_eq_true rfl) mo_X11_readsWord mv_X11_309 (Or.inl ⟨_, _, _, h_138 hS, rfl, rfl⟩) (Call_mono (by decide) qc21.1) ?_
      have hI := qc21.2
      by_cases h24 : r22 ≤ (0 : Int32)
      · have hf := ite_pos h24 hf
        refine to_ifT (q := 76) (op := .le) h24 dX11_flutters_67 rfl ?_
        refine to_iconst (q := 77) ic_0 dX11_flutters_76 rfl ?_
        exact to_ext [(0, .ref 138), (1, .int x1), (3, .int x3)] (ext_cons rfl (ext_cons rfl (ext_cons rfl ext_nil))) (kX11_flutters_77 hS ih hf hI)
      · have hf := ite_neg h24 hf
        refine to_ifF (q := 70) (op := .le) 76 h24 dX11_flutters_67 rfl rfl ?_
        refine to_iconst (q := 71) ic_1 dX11_flutters_70 rfl ?_
        refine to_iload_n (q := 72) rfl dX11_flutters_71 rfl ?_
        refine to_ishl (q := 73) dX11_flutters_72 rfl ?_
        refine to_goto (q := 77) dX11_flutters_73 rfl ?_
        exact to_ext [(0, .ref 138), (1, .int x1), (3, .int x3)] (ext_cons rfl (ext_cons rfl (ext_cons rfl ext_nil))) (kX11_flutters_77 hS ih hf hI)
def fX11_flutters (x1 : Int32) (m : Me) : Option (Int32 × Me) := cl1 (fX11_good m) fun m3 => cl2 (fX11_isWordThere x1 m3) fun r6 m7 => if r6 = (0 : Int32) then cl2 (fX11_no (1 : Int32) m7) fun r16 m17 => some (r16, m17) else if (m7.1 141 8) = (0 : Int32) then cl2 (fX11_no (6 : Int32) m7) fun r12 m13 => some (r12, m13) else fX11_flutters_39 FU x1 ((0 : Int32)) ((0 : Int32)) m7
set_option maxRecDepth 20000 in
theorem kX11_flutters {S : Sh} (hS : ShOK S) {res : Int32 × Me} {x1 : Int32} {m : Me} (hf : fX11_flutters x1 m = some res) (hI : Inv m) : Call 5 mX11_flutters [.ref 138, .int x1] (S, m) (some (.int res.1)) (S, res.2) ∧ Inv res.2 := by
  refine call_of (P := InvS) (Nat.le_of_ble_eq_true rfl) (by simp [Value.category]) ?_
  show TT InvS (Call 4) mX11_flutters (0, [(0, .ref 138), (1, .int x1)], [], S, m) _ _
  unfold fX11_flutters at hf
  refine to_aload_n (q := 1) rfl (by decide) dX11_flutters_0 rfl ?_
  obtain ⟨m3, hc1, hf⟩ := cl1_some hf
  have qc2 := kX11_good hS hc1 hI
  refine to_virtV (q := 4) mX11_good [] dX11_flutters_1 rfl rfl (Nat.le_of_ble_eq_true rfl) mo_X11_good mv_X11_156 (Or.inl ⟨_, _, _, h_138 hS, rfl, rfl⟩) (Call_mono (by decide) qc2.1) ?_
  have hI := qc2.2
  refine to_aload_n (q := 5) rfl (by decide) dX11_flutters_4 rfl ?_
  refine to_iload_n (q := 6) rfl dX11_flutters_5 rfl ?_
  obtain ⟨r6, m7, hc4, hf⟩ := cl2_some hf
  have qc5 := kX11_isWordThere hS hc4 hI
  refine to_virtI (q := 9) mX11_isWordThere [.int x1] dX11_flutters_6 rfl rfl (Nat.le_of_ble_eq_true rfl) mo_X11_isWordThere mv_X11_303 (Or.inl ⟨_, _, _, h_138 hS, rfl, rfl⟩) (Call_mono (by decide) qc5.1) ?_
  have hI := qc5.2
  by_cases h8 : r6 = (0 : Int32)
  · have hf := ite_pos h8 hf
    refine to_ifF (q := 12) (op := .ne) 18 (fun z => z h8) dX11_flutters_9 rfl rfl ?_
    refine to_aload_n (q := 13) rfl (by decide) dX11_flutters_12 rfl ?_
    refine to_iconst (q := 14) ic_1 dX11_flutters_13 rfl ?_
    obtain ⟨r16, m17, hc14, hf⟩ := cl2_some hf
    have qc15 := kX11_no hS hc14 hI
    refine to_virtI (q := 17) mX11_no [.int (1 : Int32)] dX11_flutters_14 rfl rfl (Nat.le_of_ble_eq_true rfl) mo_X11_no mv_X11_159 (Or.inl ⟨_, _, _, h_138 hS, rfl, rfl⟩) (Call_mono (by decide) qc15.1) ?_
    have hI := qc15.2
    cases hf
    exact to_iret dX11_flutters_17 rfl rfl rfl rfl hI
  · have hf := ite_neg h8 hf
    refine to_ifT (q := 18) (op := .ne) h8 dX11_flutters_9 rfl ?_
    refine to_aload_n (q := 19) rfl (by decide) dX11_flutters_18 rfl ?_
    refine to_getR (q := 22) (b := 141) (k0 := 11) (C := RX11) (T := TX11) (N := 37) (j := 15) rfl fx_X11_20 (h_138 hS) rfl (iv_138_15 hI) dX11_flutters_19 rfl ?_
    refine to_bipush (q := 24) bp_8 dX11_flutters_22 rfl ?_
    refine to_iaj (q := 25) (h_141 hS) (by decide) (tn_8) dX11_flutters_24 rfl ?_
    by_cases h9 : (m7.1 141 8) = (0 : Int32)
    · have hf := ite_pos h9 hf
      refine to_ifF (q := 28) (op := .ne) 35 (fun z => z h9) dX11_flutters_25 rfl rfl ?_
      refine to_aload_n (q := 29) rfl (by decide) dX11_flutters_28 rfl ?_
      refine to_bipush (q := 31) bp_6 dX11_flutters_29 rfl ?_
      obtain ⟨r12, m13, hc10, hf⟩ := cl2_some hf
      have qc11 := kX11_no hS hc10 hI
      refine to_virtI (q := 34) mX11_no [.int (6 : Int32)] dX11_flutters_31 rfl rfl (Nat.le_of_ble_eq_true rfl) mo_X11_no mv_X11_159 (Or.inl ⟨_, _, _, h_138 hS, rfl, rfl⟩) (Call_mono (by decide) qc11.1) ?_
      have hI := qc11.2
      cases hf
      exact to_iret dX11_flutters_34 rfl rfl rfl rfl hI
    · have hf := ite_neg h9 hf
      refine to_ifT (q := 35) (op := .ne) h9 dX11_flutters_25 rfl ?_
      refine to_iconst (q := 36) ic_0 dX11_flutters_35 rfl ?_
      refine to_istore_n (q := 37) [(2, .int (0 : Int32)), (0, .ref 138), (1, .int x1)] rfl (by decide) dX11_flutters_36 rfl ?_
      refine to_iconst (q := 38) ic_0 dX11_flutters_37 rfl ?_
      refine to_istore_n (q := 39) [(3, .int (0 : Int32)), (2, .int (0 : Int32)), (0, .ref 138), (1, .int x1)] rfl (by decide) dX11_flutters_38 rfl ?_
      exact to_ext [(0, .ref 138), (1, .int x1), (2, .int (0 : Int32)), (3, .int (0 : Int32))] (ext_cons rfl (ext_cons rfl (ext_cons rfl (ext_cons rfl ext_nil)))) (kX11_flutters_39 hS FU hf hI)
def fX11_calmFrom_117 (rec : Int32 → Int32 → Int32 → Me → Option (Me)) (k43 : Int32 → Int32 → Int32 → Int32 → Me → Option (Me)) (x1 : Int32) (x2 : Int32) (x3 : Int32) (x4 : Int32) (m : Me) : Option (Me) := k43 x1 x2 x3 ((x4 + (1 : Int32))) m
set_option maxRecDepth 20000 in
theorem kX11_calmFrom_117 {S : Sh} (hS : ShOK S) {dd : Nat} (hdd : 1 ≤ dd) {rec : Int32 → Int32 → Int32 → Me → Option (Me)} (hrec : ∀ {x1 : Int32} {x2 : Int32} {x3 : Int32} {m : Me} {res : Me}, rec x1 x2 x3 m = some res → Inv m → Call dd mX11_calmFrom [.ref 138, .int x1, .int x2, .int x3] (S, m) none (S, res) ∧ Inv res) {res : Me} {k43 : Int32 → Int32 → Int32 → Int32 → Me → Option (Me)} (hk43 : ∀ {x1 : Int32} {x2 : Int32} {x3 : Int32} {x4 : Int32} {m : Me}, k43 x1 x2 x3 x4 m = some res → Inv m → TT InvS (Call dd) mX11_calmFrom (43, [(0, .ref 138), (1, .int x1), (2, .int x2), (3, .int x3), (4, .int x4)], [], S, m) none (S, res)) {x1 : Int32} {x2 : Int32} {x3 : Int32} {x4 : Int32} {m : Me} (hf : fX11_calmFrom_117 rec k43 x1 x2 x3 x4 m = some res) (hI : Inv m) : TT InvS (Call dd) mX11_calmFrom (117, [(0, .ref 138), (1, .int x1), (2, .int x2), (3, .int x3), (4, .int x4)], [], S, m) none (S, res) := by
  unfold fX11_calmFrom_117 at hf
  refine to_iinc (q := 120) (v := (x4 + (1 : Int32))) rfl (congrArg (fun z => x4 + z) ic_1) [(4, .int (x4 + (1 : Int32))), (0, .ref 138), (1, .int x1), (2, .int x2), (3, .int x3)] rfl (by decide) dX11_calmFrom_117 rfl ?_
  refine to_goto (q := 43) dX11_calmFrom_120 rfl ?_
  exact to_ext [(0, .ref 138), (1, .int x1), (2, .int x2), (3, .int x3), (4, .int (x4 + (1 : Int32)))] (ext_cons rfl (ext_cons rfl (ext_cons rfl (ext_cons rfl (ext_cons rfl ext_nil))))) (hk43 hf hI)
def fX11_calmFrom_113 (rec : Int32 → Int32 → Int32 → Me → Option (Me)) (k43 : Int32 → Int32 → Int32 → Int32 → Me → Option (Me)) (x1 : Int32) (x2 : Int32) (x3 : Int32) (x4 : Int32) (t0 : Int32) (t1 : Int32) (t2 : Int32) (t3 : Int32) (m : Me) : Option (Me) := cl1 (rec t3 t2 (t1 + t0) m) fun m18 => fX11_calmFrom_117 rec k43 x1 x2 x3 x4 m18
set_option maxRecDepth 20000 in
theorem kX11_calmFrom_113 {S : Sh} (hS : ShOK S) {dd : Nat} (hdd : 1 ≤ dd) {rec : Int32 → Int32 → Int32 → Me → Option (Me)} (hrec : ∀ {x1 : Int32} {x2 : Int32} {x3 : Int32} {m : Me} {res : Me}, rec x1 x2 x3 m = some res → Inv m → Call dd mX11_calmFrom [.ref 138, .int x1, .int x2, .int x3] (S, m) none (S, res) ∧ Inv res) {res : Me} {k43 : Int32 → Int32 → Int32 → Int32 → Me → Option (Me)} (hk43 : ∀ {x1 : Int32} {x2 : Int32} {x3 : Int32} {x4 : Int32} {m : Me}, k43 x1 x2 x3 x4 m = some res → Inv m → TT InvS (Call dd) mX11_calmFrom (43, [(0, .ref 138), (1, .int x1), (2, .int x2), (3, .int x3), (4, .int x4)], [], S, m) none (S, res)) {x1 : Int32} {x2 : Int32} {x3 : Int32} {x4 : Int32} {t0 : Int32} {t1 : Int32} {t2 : Int32} {t3 : Int32} {m : Me} (hf : fX11_calmFrom_113 rec k43 x1 x2 x3 x4 t0 t1 t2 t3 m = some res) (hI : Inv m) : TT InvS (Call dd) mX11_calmFrom (113, [(0, .ref 138), (1, .int x1), (2, .int x2), (3, .int x3), (4, .int x4)], [.int t0, .int t1, .int t2, .int t3, .ref 138], S, m) none (S, res) := by
  unfold fX11_calmFrom_113 at hf
  refine to_iadd (q := 114) dX11_calmFrom_113 rfl ?_
  obtain ⟨m18, hc16, hf⟩ := cl1_some hf
  have qc17 := hrec hc16 hI
  refine to_virtV (q := 117) mX11_calmFrom [.int t3, .int t2, .int (t1 + t0)] dX11_calmFrom_114 rfl rfl (Nat.le_of_ble_eq_true rfl) mo_X11_calmFrom mv_X11_374 (Or.inl ⟨_, _, _, h_138 hS, rfl, rfl⟩) qc17.1 ?_
  have hI := qc17.2
  exact to_ext [(0, .ref 138), (1, .int x1), (2, .int x2), (3, .int x3), (4, .int x4)] (ext_cons rfl (ext_cons rfl (ext_cons rfl (ext_cons rfl (ext_cons rfl ext_nil))))) (kX11_calmFrom_117 hS hdd hrec hk43 hf hI)
def fX11_calmFrom_43 (rec : Int32 → Int32 → Int32 → Me → Option (Me)) (n : Nat) (x1 : Int32) (x2 : Int32) (x3 : Int32) (x4 : Int32) (m : Me) : Option (Me) := match n with
  | 0 => none
  | n + 1 => if (m.1 141 8) ≤ x4 then some m else cl2 (fX11_has x2 x4 m) fun r9 m10 => if r9 = (0 : Int32) then ck (inb x1 6) (if x1 = (0 : Int32) then fX11_calmFrom_113 rec (fX11_calmFrom_43 rec n) x1 x2 x3 x4 ((0 : Int32)) x3 ((x2 ||| ((1 : Int32) <<< (x4 &&& 31)))) ((x1 + (1 : Int32))) (setI m10 155 x1.toNatClampNeg x4) else ck (inb (x1 - (1 : Int32)) 6) (ck (inb (((6 : Int32) * ((setI m10 155 x1.toNatClampNeg x4).1 155 (x1 - (1 : Int32)).toNatClampNeg)) + x4) 36) (fX11_calmFrom_113 rec (fX11_calmFrom_43 rec n) x1 x2 x3 x4 (((setI m10 155 x1.toNatClampNeg x4).1 157 (((6 : Int32) * ((setI m10 155 x1.toNatClampNeg x4).1 155 (x1 - (1 : Int32)).toNatClampNeg)) + x4).toNatClampNeg)) x3 ((x2 ||| ((1 : Int32) <<< (x4 &&& 31)))) ((x1 + (1 : Int32))) (setI m10 155 x1.toNatClampNeg x4)))) else fX11_calmFrom_117 rec (fX11_calmFrom_43 rec n) x1 x2 x3 x4 m10
set_option maxRecDepth 20000 in
theorem kX11_calmFrom_43 {S : Sh} (hS : ShOK S) {dd : Nat} (hdd : 1 ≤ dd) {rec : Int32 → Int32 → Int32 → Me → Option (Me)} (hrec : ∀ {x1 : Int32} {x2 : Int32} {x3 : Int32} {m : Me} {res : Me}, rec x1 x2 x3 m = some res → Inv m → Call dd mX11_calmFrom [.ref 138, .int x1, .int x2, .int x3] (S, m) none (S, res) ∧ Inv res) {res : Me} (n : Nat) : ∀ {x1 : Int32} {x2 : Int32} {x3 : Int32} {x4 : Int32} {m : Me}, fX11_calmFrom_43 rec n x1 x2 x3 x4 m = some res → Inv m → TT InvS (Call dd) mX11_calmFrom (43, [(0, .ref 138), (1, .int x1), (2, .int x2), (3, .int x3), (4, .int x4)], [], S, m) none (S, res) := by
  induction n with
  | zero => intro x1 x2 x3 x4 m hf; cases hf
  | succ n ih =>
    intro x1 x2 x3 x4 m hf  hI
    unfold fX11_calmFrom_43 at hf
    refine to_iload (q := 45) rfl dX11_calmFrom_43 rfl ?_
    refine to_aload_n (q := 46) rfl (by decide) dX11_calmFrom_45 rfl ?_
    refine to_getR (q := 49) (b := 141) (k0 := 11) (C := RX11) (T := TX11) (N := 37) (j := 15) rfl fx_X11_20 (h_138 hS) rfl (iv_138_15 hI) dX11_calmFrom_46 rfl ?_
    refine to_bipush (q := 51) bp_8 dX11_calmFrom_49 rfl ?_
    refine to_iaj (q := 52) (h_141 hS) (by decide) (tn_8) dX11_calmFrom_51 rfl ?_
    by_cases h6 : (m.1 141 8) ≤ x4
    · have hf := ite_pos h6 hf
      refine to_icT (q := 123) (op := .ge) h6 dX11_calmFrom_52 rfl ?_
      cases hf
      exact to_vret dX11_calmFrom_123 rfl rfl rfl hI
    · have hf := ite_neg h6 hf
      refine to_icF (q := 55) (op := .ge) 123 h6 dX11_calmFrom_52 rfl rfl ?_
      refine to_iload_n (q := 56) rfl dX11_calmFrom_55 rfl ?_
      refine to_iload (q := 58) rfl dX11_calmFrom_56 rfl ?_
      obtain ⟨r9, m10, hc7, hf⟩ := cl2_some hf
      have qc8 := kX11_has hS hc7 hI
      refine to_statI (q := 61) mX11_has [.int x2, .int x4] dX11_calmFrom_58 rfl rfl (Nat.le_of_ble_eq_true rfl) mo_X11_has (Or.inl ml_X11_259) sa_X11_has (Call_mono (Nat.le_trans (by decide : 1 ≤ 1) hdd) qc8.1) ?_
      have hI := qc8.2
      by_cases h11 : r9 = (0 : Int32)
      · have hf := ite_pos h11 hf
        refine to_ifT (q := 67) (op := .eq) h11 dX11_calmFrom_61 rfl ?_
        refine to_aload_n (q := 68) rfl (by decide) dX11_calmFrom_67 rfl ?_
        refine to_getR (q := 71) (b := 155) (k0 := 11) (C := RX11) (T := TX11) (N := 37) (j := 34) rfl fx_X11_62 (h_138 hS) rfl (iv_138_34 hI) dX11_calmFrom_68 rfl ?_
        refine to_iload_n (q := 72) rfl dX11_calmFrom_71 rfl ?_
        refine to_iload (q := 74) rfl dX11_calmFrom_72 rfl ?_
        obtain ⟨hb12, hf⟩ := ck_some hf
        refine to_iasj (q := 75) (h_155 hS) hb12 (rfl) dX11_calmFrom_74 rfl ?_
        refine to_aload_n (q := 76) rfl (by decide) dX11_calmFrom_75 rfl ?_
        refine to_iload_n (q := 77) rfl dX11_calmFrom_76 rfl ?_
        refine to_iconst (q := 78) ic_1 dX11_calmFrom_77 rfl ?_
        refine to_iadd (q := 79) dX11_calmFrom_78 rfl ?_
        refine to_iload_n (q := 80) rfl dX11_calmFrom_79 rfl ?_
        refine to_iconst (q := 81) ic_1 dX11_calmFrom_80 rfl ?_
        refine to_iload (q := 83) rfl dX11_calmFrom_81 rfl ?_
        refine to_ishl (q := 84) dX11_calmFrom_83 rfl ?_
        refine to_ior (q := 85) dX11_calmFrom_84 rfl ?_
        refine to_iload_n (q := 86) rfl dX11_calmFrom_85 rfl ?_
        refine to_iload_n (q := 87) rfl dX11_calmFrom_86 rfl ?_
        by_cases h13 : x1 = (0 : Int32)
        · have hf := ite_pos h13 hf
          refine to_ifF (q := 90) (op := .ne) 94 (fun z => z h13) dX11_calmFrom_87 rfl rfl ?_
          refine to_iconst (q := 91) ic_0 dX11_calmFrom_90 rfl ?_
          refine to_goto (q := 113) dX11_calmFrom_91 rfl ?_
          exact to_ext [(0, .ref 138), (1, .int x1), (2, .int x2), (3, .int x3), (4, .int x4)] (ext_cons rfl (ext_cons rfl (ext_cons rfl (ext_cons rfl (ext_cons rfl ext_nil))))) (kX11_calmFrom_113 hS hdd hrec ih hf hI)
        · have hf := ite_neg h13 hf
          refine to_ifT (q := 94) (op := .ne) h13 dX11_calmFrom_87 rfl ?_
          refine to_aload_n (q := 95) rfl (by decide) dX11_calmFrom_94 rfl ?_
          refine to_getR (q := 98) (b := 157) (k0 := 11) (C := RX11) (T := TX11) (N := 37) (j := 36) rfl fx_X11_68 (h_138 hS) rfl (iv_138_36 hI) dX11_calmFrom_95 rfl ?_
          refine to_bipush (q := 100) bp_6 dX11_calmFrom_98 rfl ?_
          refine to_aload_n (q := 101) rfl (by decide) dX11_calmFrom_100 rfl ?_
          refine to_getR (q := 104) (b := 155) (k0 := 11) (C := RX11) (T := TX11) (N := 37) (j := 34) rfl fx_X11_62 (h_138 hS) rfl (iv_138_34 hI) dX11_calmFrom_101 rfl ?_
          refine to_iload_n (q := 105) rfl dX11_calmFrom_104 rfl ?_
          refine to_iconst (q := 106) ic_1 dX11_calmFrom_105 rfl ?_
          refine to_isub (q := 107) dX11_calmFrom_106 rfl ?_
          obtain ⟨hb14, hf⟩ := ck_some hf
          refine to_iaj (q := 108) (h_155 hS) hb14 (rfl) dX11_calmFrom_107 rfl ?_
          refine to_imul (q := 109) dX11_calmFrom_108 rfl ?_
          refine to_iload (q := 111) rfl dX11_calmFrom_109 rfl ?_
          refine to_iadd (q := 112) dX11_calmFrom_111 rfl ?_
          obtain ⟨hb15, hf⟩ := ck_some hf
          refine to_iaj (q := 113) (h_157 hS) hb15 (rfl) dX11_calmFrom_112 rfl ?_
          exact to_ext [(0, .ref 138), (1, .int x1), (2, .int x2), (3, .int x3), (4, .int x4)] (ext_cons rfl (ext_cons rfl (ext_cons rfl (ext_cons rfl (ext_cons rfl ext_nil))))) (kX11_calmFrom_113 hS hdd hrec ih hf hI)
      · have hf := ite_neg h11 hf
        refine to_ifF (q := 64) (op := .eq) 67 h11 dX11_calmFrom_61 rfl rfl ?_
        refine to_goto (q := 117) dX11_calmFrom_64 rfl ?_
        exact to_ext [(0, .ref 138), (1, .int x1), (2, .int x2), (3, .int x3), (4, .int x4)] (ext_cons rfl (ext_cons rfl (ext_cons rfl (ext_cons rfl (ext_cons rfl ext_nil))))) (kX11_calmFrom_117 hS hdd hrec ih hf hI)
def fX11_calmFrom (n : Nat) (x1 : Int32) (x2 : Int32) (x3 : Int32) (m : Me) : Option (Me) := match n with
  | 0 => none
  | n + 1 => if x3 < (m.1 138 31) then if x1 = (m.1 141 8) then cl1 (fX11_copy 155 (0 : Int32) 156 (0 : Int32) x1 (setI m 138 31 x3)) fun m5 => some m5 else fX11_calmFrom_43 (fX11_calmFrom n) FU x1 x2 x3 ((0 : Int32)) m else some m
set_option maxRecDepth 20000 in
theorem kX11_calmFrom {S : Sh} (hS : ShOK S) (n : Nat) : ∀ {x1 : Int32} {x2 : Int32} {x3 : Int32} {m : Me} {res : Me}, fX11_calmFrom n x1 x2 x3 m = some res → Inv m → Call (1 + n) mX11_calmFrom [.ref 138, .int x1, .int x2, .int x3] (S, m) none (S, res) ∧ Inv res := by
  induction n with
  | zero => intro x1 x2 x3 m res hf; cases hf
  | succ n ih =>
    intro x1 x2 x3 m res hf  hI
    unfold fX11_calmFrom at hf
    refine call_of (P := InvS) (d := 1 + n) (Nat.le_of_ble_eq_true rfl) (by simp [Value.category]) ?_
    have hrec := @ih
    have hdd : 1 ≤ 1 + n := Nat.le_add_right _ _
    show TT InvS (Call (1 + n)) mX11_calmFrom (0, [(0, .ref 138), (1, .int x1), (2, .int x2), (3, .int x3)], [], S, m) _ _
    refine to_iload_n (q := 1) rfl dX11_calmFrom_0 rfl ?_
    refine to_aload_n (q := 2) rfl (by decide) dX11_calmFrom_1 rfl ?_
    refine to_getI (q := 5) (k0 := 11) (C := RX11) (T := TX11) (N := 37) (j := 31) rfl fx_X11_341 (h_138 hS) rfl dX11_calmFrom_2 rfl ?_
    by_cases h1 : x3 < (m.1 138 31)
    · have hf := ite_pos h1 hf
      refine to_icT (q := 9) (op := .lt) h1 dX11_calmFrom_5 rfl ?_
      refine to_iload_n (q := 10) rfl dX11_calmFrom_9 rfl ?_
      refine to_aload_n (q := 11) rfl (by decide) dX11_calmFrom_10 rfl ?_
      refine to_getR (q := 14) (b := 141) (k0 := 11) (C := RX11) (T := TX11) (N := 37) (j := 15) rfl fx_X11_20 (h_138 hS) rfl (iv_138_15 hI) dX11_calmFrom_11 rfl ?_
      refine to_bipush (q := 16) bp_8 dX11_calmFrom_14 rfl ?_
      refine to_iaj (q := 17) (h_141 hS) (by decide) (tn_8) dX11_calmFrom_16 rfl ?_
      by_cases h2 : x1 = (m.1 141 8)
      · have hf := ite_pos h2 hf
        refine to_icF (q := 20) (op := .ne) 40 (fun z => z h2) dX11_calmFrom_17 rfl rfl ?_
        refine to_aload_n (q := 21) rfl (by decide) dX11_calmFrom_20 rfl ?_
        refine to_iload_n (q := 22) rfl dX11_calmFrom_21 rfl ?_
        refine to_putI (q := 25) (ty := .int) (k0 := 11) (C := RX11) (T := TX11) (N := 37) (j := 31) rfl fx_X11_341 (h_138 hS) rfl pD_I (Or.inl rfl) (nf_I _) dX11_calmFrom_22 rfl ?_
        refine to_aload_n (q := 26) rfl (by decide) dX11_calmFrom_25 rfl ?_
        refine to_getR (q := 29) (b := 155) (k0 := 11) (C := RX11) (T := TX11) (N := 37) (j := 34) rfl fx_X11_62 (h_138 hS) rfl (iv_138_34 hI) dX11_calmFrom_26 rfl ?_
        refine to_iconst (q := 30) ic_0 dX11_calmFrom_29 rfl ?_
        refine to_aload_n (q := 31) rfl (by decide) dX11_calmFrom_30 rfl ?_
        refine to_getR (q := 34) (b := 156) (k0 := 11) (C := RX11) (T := TX11) (N := 37) (j := 35) rfl fx_X11_65 (h_138 hS) rfl (iv_138_35 hI) dX11_calmFrom_31 rfl ?_
        refine to_iconst (q := 35) ic_0 dX11_calmFrom_34 rfl ?_
        refine to_iload_n (q := 36) rfl dX11_calmFrom_35 rfl ?_
        obtain ⟨m5, hc3, hf⟩ := cl1_some hf
        have qc4 := kX11_copy hS hc3 rfl rfl hI
        refine to_statV (q := 39) mX11_copy [.ref 155, .int (0 : Int32), .ref 156, .int (0 : Int32), .int x1] dX11_calmFrom_36 rfl rfl (Nat.le_of_ble_eq_true rfl) mo_X11_copy (Or.inl ml_X11_165) sa_X11_copy (Call_mono (Nat.le_trans (by decide : 1 ≤ 1) hdd) qc4.1) ?_
        have hI := qc4.2
        cases hf
        exact to_vret dX11_calmFrom_39 rfl rfl rfl hI
      · have hf := ite_neg h2 hf
        refine to_icT (q := 40) (op := .ne) h2 dX11_calmFrom_17 rfl ?_
        refine to_iconst (q := 41) ic_0 dX11_calmFrom_40 rfl ?_
        refine to_istore (q := 43) [(4, .int (0 : Int32)), (0, .ref 138), (1, .int x1), (2, .int x2), (3, .int x3)] rfl (by decide) dX11_calmFrom_41 rfl ?_
        exact to_ext [(0, .ref 138), (1, .int x1), (2, .int x2), (3, .int x3), (4, .int (0 : Int32))] (ext_cons rfl (ext_cons rfl (ext_cons rfl (ext_cons rfl (ext_cons rfl ext_nil))))) (kX11_calmFrom_43 hS hdd hrec FU hf hI)
    · have hf := ite_neg h1 hf
      refine to_icF (q := 8) (op := .lt) 9 h1 dX11_calmFrom_5 rfl rfl ?_
      cases hf
      exact to_vret dX11_calmFrom_8 rfl rfl rfl hI
def fX11_calmOf_15 (n : Nat) (k2 : Int32 → Me → Option (Int32 × Me)) (x1 : Int32) (x2 : Int32) (m : Me) : Option (Int32 × Me) := match n with
  | 0 => none
  | n + 1 => if (m.1 141 8) ≤ x2 then k2 ((x1 + (1 : Int32))) m else ck (inb ((180 : Int32) + x1) 186) (ck (inb ((180 : Int32) + x2) 186) (cl2 (fX11_smearOf (0 : Int32) ((m.1 141 ((180 : Int32) + x1).toNatClampNeg)) ((m.1 141 ((180 : Int32) + x2).toNatClampNeg)) m) fun r10 m11 => ck (inb (((6 : Int32) * x1) + x2) 36) (fX11_calmOf_15 n k2 x1 ((x2 + (1 : Int32))) (setI m11 157 (((6 : Int32) * x1) + x2).toNatClampNeg r10))))
set_option maxRecDepth 20000 in
theorem kX11_calmOf_15 {S : Sh} (hS : ShOK S) {res : Int32 × Me} {k2 : Int32 → Me → Option (Int32 × Me)} (hk2 : ∀ {x1 : Int32} {m : Me}, k2 x1 m = some res → Inv m → TT InvS (Call 10) mX11_calmOf (2, [(0, .ref 138), (1, .int x1)], [], S, m) (some (.int res.1)) (S, res.2)) (n : Nat) : ∀ {x1 : Int32} {x2 : Int32} {m : Me}, fX11_calmOf_15 n k2 x1 x2 m = some res → Inv m → TT InvS (Call 10) mX11_calmOf (15, [(0, .ref 138), (1, .int x1), (2, .int x2)], [], S, m) (some (.int res.1)) (S, res.2) := by
  induction n with
  | zero => intro x1 x2 m hf; cases hf
  | succ n ih =>
    intro x1 x2 m hf  hI
    unfold fX11_calmOf_15 at hf
    refine to_iload_n (q := 16) rfl dX11_calmOf_15 rfl ?_
    refine to_aload_n (q := 17) rfl (by decide) dX11_calmOf_16 rfl ?_
    refine to_getR (q := 20) (b := 141) (k0 := 11) (C := RX11) (T := TX11) (N := 37) (j := 15) rfl fx_X11_20 (h_138 hS) rfl (iv_138_15 hI) dX11_calmOf_17 rfl ?_
    refine to_bipush (q := 22) bp_8 dX11_calmOf_20 rfl ?_
    refine to_iaj (q := 23) (h_141 hS) (by decide) (tn_8) dX11_calmOf_22 rfl ?_
    by_cases h5 : (m.1 141 8) ≤ x2
    · have hf := ite_pos h5 hf
      refine to_icT (q := 68) (op := .ge) h5 dX11_calmOf_23 rfl ?_
      refine to_iinc (q := 71) (v := (x1 + (1 : Int32))) rfl (congrArg (fun z => x1 + z) ic_1) [(1, .int (x1 + (1 : Int32))), (0, .ref 138), (2, .int x2)] rfl (by decide) dX11_calmOf_68 rfl ?_
      refine to_goto (q := 2) dX11_calmOf_71 rfl ?_
      exact to_ext [(0, .ref 138), (1, .int (x1 + (1 : Int32)))] (ext_cons rfl (ext_cons rfl ext_nil)) (hk2 hf hI)
    · have hf := ite_neg h5 hf
      refine to_icF (q := 26) (op := .ge) 68 h5 dX11_calmOf_23 rfl rfl ?_
      refine to_aload_n (q := 27) rfl (by decide) dX11_calmOf_26 rfl ?_
      refine to_getR (q := 30) (b := 157) (k0 := 11) (C := RX11) (T := TX11) (N := 37) (j := 36) rfl fx_X11_68 (h_138 hS) rfl (iv_138_36 hI) dX11_calmOf_27 rfl ?_
      refine to_bipush (q := 32) bp_6 dX11_calmOf_30 rfl ?_
      refine to_iload_n (q := 33) rfl dX11_calmOf_32 rfl ?_
      refine to_imul (q := 34) dX11_calmOf_33 rfl ?_
      refine to_iload_n (q := 35) rfl dX11_calmOf_34 rfl ?_
      refine to_iadd (q := 36) dX11_calmOf_35 rfl ?_
      refine to_aload_n (q := 37) rfl (by decide) dX11_calmOf_36 rfl ?_
      refine to_iconst (q := 38) ic_0 dX11_calmOf_37 rfl ?_
      refine to_aload_n (q := 39) rfl (by decide) dX11_calmOf_38 rfl ?_
      refine to_getR (q := 42) (b := 141) (k0 := 11) (C := RX11) (T := TX11) (N := 37) (j := 15) rfl fx_X11_20 (h_138 hS) rfl (iv_138_15 hI) dX11_calmOf_39 rfl ?_
      refine to_sipush (q := 45) sp_180 dX11_calmOf_42 rfl ?_
      refine to_iload_n (q := 46) rfl dX11_calmOf_45 rfl ?_
      refine to_iadd (q := 47) dX11_calmOf_46 rfl ?_
      obtain ⟨hb6, hf⟩ := ck_some hf
      refine to_iaj (q := 48) (h_141 hS) hb6 (rfl) dX11_calmOf_47 rfl ?_
      refine to_aload_n (q := 49) rfl (by decide) dX11_calmOf_48 rfl ?_
      refine to_getR (q := 52) (b := 141) (k0 := 11) (C := RX11) (T := TX11) (N := 37) (j := 15) rfl fx_X11_20 (h_138 hS) rfl (iv_138_15 hI) dX11_calmOf_49 rfl ?_
      refine to_sipush (q := 55) sp_180 dX11_calmOf_52 rfl ?_
      refine to_iload_n (q := 56) rfl dX11_calmOf_55 rfl ?_
      refine to_iadd (q := 57) dX11_calmOf_56 rfl ?_
      obtain ⟨hb7, hf⟩ := ck_some hf
      refine to_iaj (q := 58) (h_141 hS) hb7 (rfl) dX11_calmOf_57 rfl ?_
      obtain ⟨r10, m11, hc8, hf⟩ := cl2_some hf
      have qc9 := kX11_smearOf hS hc8 hI
      refine to_virtI (q := 61) mX11_smearOf [.int (0 : Int32), .int (m.1 141 ((180 : Int32) + x1).toNatClampNeg), .int (m.1 141 ((180 : Int32) + x2).toNatClampNeg)] dX11_calmOf_58 rfl rfl (Nat.le_of_ble_eq_true rfl) mo_X11_smearOf mv_X11_365 (Or.inl ⟨_, _, _, h_138 hS, rfl, rfl⟩) (Call_mono (by decide) qc9.1) ?_
      have hI := qc9.2
      obtain ⟨hb12, hf⟩ := ck_some hf
      refine to_iasj (q := 62) (h_157 hS) hb12 (rfl) dX11_calmOf_61 rfl ?_
      refine to_iinc (q := 65) (v := (x2 + (1 : Int32))) rfl (congrArg (fun z => x2 + z) ic_1) [(2, .int (x2 + (1 : Int32))), (0, .ref 138), (1, .int x1)] rfl (by decide) dX11_calmOf_62 rfl ?_
      refine to_goto (q := 15) dX11_calmOf_65 rfl ?_
      exact to_ext [(0, .ref 138), (1, .int x1), (2, .int (x2 + (1 : Int32)))] (ext_cons rfl (ext_cons rfl (ext_cons rfl ext_nil))) (ih hf hI)
def fX11_calmOf_2 (n : Nat) (x1 : Int32) (m : Me) : Option (Int32 × Me) := match n with
  | 0 => none
  | n + 1 => if (m.1 141 8) ≤ x1 then cl1 (fX11_calmFrom 8 (0 : Int32) (0 : Int32) (0 : Int32) (setI m 138 31 (1000000 : Int32))) fun m4 => some ((m4.1 138 31), m4) else fX11_calmOf_15 FU (fX11_calmOf_2 n) x1 ((0 : Int32)) m
set_option maxRecDepth 20000 in
theorem kX11_calmOf_2 {S : Sh} (hS : ShOK S) {res : Int32 × Me} (n : Nat) : ∀ {x1 : Int32} {m : Me}, fX11_calmOf_2 n x1 m = some res → Inv m → TT InvS (Call 10) mX11_calmOf (2, [(0, .ref 138), (1, .int x1)], [], S, m) (some (.int res.1)) (S, res.2) := by
  induction n with
  | zero => intro x1 m hf; cases hf
  | succ n ih =>
    intro x1 m hf  hI
    unfold fX11_calmOf_2 at hf
    refine to_iload_n (q := 3) rfl dX11_calmOf_2 rfl ?_
    refine to_aload_n (q := 4) rfl (by decide) dX11_calmOf_3 rfl ?_
    refine to_getR (q := 7) (b := 141) (k0 := 11) (C := RX11) (T := TX11) (N := 37) (j := 15) rfl fx_X11_20 (h_138 hS) rfl (iv_138_15 hI) dX11_calmOf_4 rfl ?_
    refine to_bipush (q := 9) bp_8 dX11_calmOf_7 rfl ?_
    refine to_iaj (q := 10) (h_141 hS) (by decide) (tn_8) dX11_calmOf_9 rfl ?_
    by_cases h1 : (m.1 141 8) ≤ x1
    · have hf := ite_pos h1 hf
      refine to_icT (q := 74) (op := .ge) h1 dX11_calmOf_10 rfl ?_
      refine to_aload_n (q := 75) rfl (by decide) dX11_calmOf_74 rfl ?_
      refine to_ldcw (q := 78) con_X11_328 dX11_calmOf_75 rfl ?_
      refine to_putI (q := 81) (ty := .int) (k0 := 11) (C := RX11) (T := TX11) (N := 37) (j := 31) rfl fx_X11_341 (h_138 hS) rfl pD_I (Or.inl rfl) (nf_I _) dX11_calmOf_78 rfl ?_
      refine to_aload_n (q := 82) rfl (by decide) dX11_calmOf_81 rfl ?_
      refine to_iconst (q := 83) ic_0 dX11_calmOf_82 rfl ?_
      refine to_iconst (q := 84) ic_0 dX11_calmOf_83 rfl ?_
      refine to_iconst (q := 85) ic_0 dX11_calmOf_84 rfl ?_
      obtain ⟨m4, hc2, hf⟩ := cl1_some hf
      have qc3 := kX11_calmFrom hS 8 hc2 hI
      refine to_virtV (q := 88) mX11_calmFrom [.int (0 : Int32), .int (0 : Int32), .int (0 : Int32)] dX11_calmOf_85 rfl rfl (Nat.le_of_ble_eq_true rfl) mo_X11_calmFrom mv_X11_374 (Or.inl ⟨_, _, _, h_138 hS, rfl, rfl⟩) (Call_mono (by decide) qc3.1) ?_
      have hI := qc3.2
      refine to_aload_n (q := 89) rfl (by decide) dX11_calmOf_88 rfl ?_
      refine to_getI (q := 92) (k0 := 11) (C := RX11) (T := TX11) (N := 37) (j := 31) rfl fx_X11_341 (h_138 hS) rfl dX11_calmOf_89 rfl ?_
      cases hf
      exact to_iret dX11_calmOf_92 rfl rfl rfl rfl hI
    · have hf := ite_neg h1 hf
      refine to_icF (q := 13) (op := .ge) 74 h1 dX11_calmOf_10 rfl rfl ?_
      refine to_iconst (q := 14) ic_0 dX11_calmOf_13 rfl ?_
      refine to_istore_n (q := 15) [(2, .int (0 : Int32)), (0, .ref 138), (1, .int x1)] rfl (by decide) dX11_calmOf_14 rfl ?_
      exact to_ext [(0, .ref 138), (1, .int x1), (2, .int (0 : Int32))] (ext_cons rfl (ext_cons rfl (ext_cons rfl ext_nil))) (kX11_calmOf_15 hS ih FU hf hI)
def fX11_calmOf (m : Me) : Option (Int32 × Me) := fX11_calmOf_2 FU ((0 : Int32)) m
set_option maxRecDepth 20000 in
theorem kX11_calmOf {S : Sh} (hS : ShOK S) {res : Int32 × Me} {m : Me} (hf : fX11_calmOf m = some res) (hI : Inv m) : Call 11 mX11_calmOf [.ref 138] (S, m) (some (.int res.1)) (S, res.2) ∧ Inv res.2 := by
  refine call_of (P := InvS) (Nat.le_of_ble_eq_true rfl) (by simp [Value.category]) ?_
  show TT InvS (Call 10) mX11_calmOf (0, [(0, .ref 138)], [], S, m) _ _
  unfold fX11_calmOf at hf
  refine to_iconst (q := 1) ic_0 dX11_calmOf_0 rfl ?_
  refine to_istore_n (q := 2) [(1, .int (0 : Int32)), (0, .ref 138)] rfl (by decide) dX11_calmOf_1 rfl ?_
  exact to_ext [(0, .ref 138), (1, .int (0 : Int32))] (ext_cons rfl (ext_cons rfl ext_nil)) (kX11_calmOf_2 hS FU hf hI)
def fX11_calm_25 (t0 : Int32) (m : Me) : Option (Int32 × Me) := some (t0, m)
set_option maxRecDepth 20000 in
theorem kX11_calm_25 {S : Sh} (hS : ShOK S) {res : Int32 × Me} {t0 : Int32} {m : Me} (hf : fX11_calm_25 t0 m = some res) (hI : Inv m) : TT InvS (Call 11) mX11_calm (25, [], [.int t0], S, m) (some (.int res.1)) (S, res.2) := by
  unfold fX11_calm_25 at hf
  cases hf
  exact to_iret dX11_calm_25 rfl rfl rfl rfl hI
def fX11_calm (m : Me) : Option (Int32 × Me) := cl1 (fX11_good m) fun m3 => cl2 (fX11_beatWhy m3) fun r6 m7 => if r6 = (0 : Int32) then cl2 (fX11_calmOf m7) fun r11 m12 => fX11_calm_25 r11 m12 else cl2 (fX11_no r6 m7) fun r15 m16 => fX11_calm_25 r15 m16
set_option maxRecDepth 20000 in
theorem kX11_calm {S : Sh} (hS : ShOK S) {res : Int32 × Me} {m : Me} (hf : fX11_calm m = some res) (hI : Inv m) : Call 12 mX11_calm [.ref 138] (S, m) (some (.int res.1)) (S, res.2) ∧ Inv res.2 := by
  refine call_of (P := InvS) (Nat.le_of_ble_eq_true rfl) (by simp [Value.category]) ?_
  show TT InvS (Call 11) mX11_calm (0, [(0, .ref 138)], [], S, m) _ _
  unfold fX11_calm at hf
  refine to_aload_n (q := 1) rfl (by decide) dX11_calm_0 rfl ?_
  obtain ⟨m3, hc1, hf⟩ := cl1_some hf
  have qc2 := kX11_good hS hc1 hI
  refine to_virtV (q := 4) mX11_good [] dX11_calm_1 rfl rfl (Nat.le_of_ble_eq_true rfl) mo_X11_good mv_X11_156 (Or.inl ⟨_, _, _, h_138 hS, rfl, rfl⟩) (Call_mono (by decide) qc2.1) ?_
  have hI := qc2.2
  refine to_aload_n (q := 5) rfl (by decide) dX11_calm_4 rfl ?_
  obtain ⟨r6, m7, hc4, hf⟩ := cl2_some hf
  have qc5 := kX11_beatWhy hS hc4 hI
  refine to_virtI (q := 8) mX11_beatWhy [] dX11_calm_5 rfl rfl (Nat.le_of_ble_eq_true rfl) mo_X11_beatWhy mv_X11_368 (Or.inl ⟨_, _, _, h_138 hS, rfl, rfl⟩) (Call_mono (by decide) qc5.1) ?_
  have hI := qc5.2
  refine to_istore_n (q := 9) [(1, .int r6), (0, .ref 138)] rfl (by decide) dX11_calm_8 rfl ?_
  refine to_iload_n (q := 10) rfl dX11_calm_9 rfl ?_
  by_cases h8 : r6 = (0 : Int32)
  · have hf := ite_pos h8 hf
    refine to_ifT (q := 21) (op := .eq) h8 dX11_calm_10 rfl ?_
    refine to_aload_n (q := 22) rfl (by decide) dX11_calm_21 rfl ?_
    obtain ⟨r11, m12, hc9, hf⟩ := cl2_some hf
    have qc10 := kX11_calmOf hS hc9 hI
    refine to_virtI (q := 25) mX11_calmOf [] dX11_calm_22 rfl rfl (Nat.le_of_ble_eq_true rfl) mo_X11_calmOf mv_X11_378 (Or.inl ⟨_, _, _, h_138 hS, rfl, rfl⟩) (Call_mono (by decide) qc10.1) ?_
    have hI := qc10.2
    exact to_ext [] ext_nil (kX11_calm_25 hS hf hI)
  · have hf := ite_neg h8 hf
    refine to_ifF (q := 13) (op := .eq) 21 h8 dX11_calm_10 rfl rfl ?_
    refine to_aload_n (q := 14) rfl (by decide) dX11_calm_13 rfl ?_
    refine to_iload_n (q := 15) rfl dX11_calm_14 rfl ?_
    obtain ⟨r15, m16, hc13, hf⟩ := cl2_some hf
    have qc14 := kX11_no hS hc13 hI
    refine to_virtI (q := 18) mX11_no [.int r6] dX11_calm_15 rfl rfl (Nat.le_of_ble_eq_true rfl) mo_X11_no mv_X11_159 (Or.inl ⟨_, _, _, h_138 hS, rfl, rfl⟩) (Call_mono (by decide) qc14.1) ?_
    have hI := qc14.2
    refine to_goto (q := 25) dX11_calm_18 rfl ?_
    exact to_ext [] ext_nil (kX11_calm_25 hS hf hI)
def fX11_calmAt (x1 : Int32) (m : Me) : Option (Int32 × Me) := cl1 (fX11_good m) fun m3 => if (m3.1 138 14) = (0 : Int32) then cl2 (fX11_no (1 : Int32) m3) fun r26 m27 => some (r26, m27) else if (m3.1 141 8) = (0 : Int32) then cl2 (fX11_no (6 : Int32) m3) fun r22 m23 => some (r22, m23) else cl2 (fX11_within x1 (0 : Int32) (((m3.1 141 8) - (1 : Int32))) m3) fun r8 m9 => if r8 = (0 : Int32) then cl2 (fX11_no (1 : Int32) m9) fun r18 m19 => some (r18, m19) else cl2 (fX11_calmOf m9) fun r13 m14 => ck (inb x1 6) (some ((m14.1 156 x1.toNatClampNeg), m14))
set_option maxRecDepth 20000 in
theorem kX11_calmAt {S : Sh} (hS : ShOK S) {res : Int32 × Me} {x1 : Int32} {m : Me} (hf : fX11_calmAt x1 m = some res) (hI : Inv m) : Call 12 mX11_calmAt [.ref 138, .int x1] (S, m) (some (.int res.1)) (S, res.2) ∧ Inv res.2 := by
  refine call_of (P := InvS) (Nat.le_of_ble_eq_true rfl) (by simp [Value.category]) ?_
  show TT InvS (Call 11) mX11_calmAt (0, [(0, .ref 138), (1, .int x1)], [], S, m) _ _
  unfold fX11_calmAt at hf
  refine to_aload_n (q := 1) rfl (by decide) dX11_calmAt_0 rfl ?_
  obtain ⟨m3, hc1, hf⟩ := cl1_some hf
  have qc2 := kX11_good hS hc1 hI
  refine to_virtV (q := 4) mX11_good [] dX11_calmAt_1 rfl rfl (Nat.le_of_ble_eq_true rfl) mo_X11_good mv_X11_156 (Or.inl ⟨_, _, _, h_138 hS, rfl, rfl⟩) (Call_mono (by decide) qc2.1) ?_
  have hI := qc2.2
  refine to_aload_n (q := 5) rfl (by decide) dX11_calmAt_4 rfl ?_
  refine to_getI (q := 8) (k0 := 11) (C := RX11) (T := TX11) (N := 37) (j := 14) rfl fx_X11_169 (h_138 hS) rfl dX11_calmAt_5 rfl ?_
  by_cases h4 : (m3.1 138 14) = (0 : Int32)
  · have hf := ite_pos h4 hf
    refine to_ifF (q := 11) (op := .ne) 17 (fun z => z h4) dX11_calmAt_8 rfl rfl ?_
    refine to_aload_n (q := 12) rfl (by decide) dX11_calmAt_11 rfl ?_
    refine to_iconst (q := 13) ic_1 dX11_calmAt_12 rfl ?_
    obtain ⟨r26, m27, hc24, hf⟩ := cl2_some hf
    have qc25 := kX11_no hS hc24 hI
    refine to_virtI (q := 16) mX11_no [.int (1 : Int32)] dX11_calmAt_13 rfl rfl (Nat.le_of_ble_eq_true rfl) mo_X11_no mv_X11_159 (Or.inl ⟨_, _, _, h_138 hS, rfl, rfl⟩) (Call_mono (by decide) qc25.1) ?_
    have hI := qc25.2
    cases hf
    exact to_iret dX11_calmAt_16 rfl rfl rfl rfl hI
  · have hf := ite_neg h4 hf
    refine to_ifT (q := 17) (op := .ne) h4 dX11_calmAt_8 rfl ?_
    refine to_aload_n (q := 18) rfl (by decide) dX11_calmAt_17 rfl ?_
    refine to_getR (q := 21) (b := 141) (k0 := 11) (C := RX11) (T := TX11) (N := 37) (j := 15) rfl fx_X11_20 (h_138 hS) rfl (iv_138_15 hI) dX11_calmAt_18 rfl ?_
    refine to_bipush (q := 23) bp_8 dX11_calmAt_21 rfl ?_
    refine to_iaj (q := 24) (h_141 hS) (by decide) (tn_8) dX11_calmAt_23 rfl ?_
    by_cases h5 : (m3.1 141 8) = (0 : Int32)
    · have hf := ite_pos h5 hf
      refine to_ifF (q := 27) (op := .ne) 34 (fun z => z h5) dX11_calmAt_24 rfl rfl ?_
      refine to_aload_n (q := 28) rfl (by decide) dX11_calmAt_27 rfl ?_
      refine to_bipush (q := 30) bp_6 dX11_calmAt_28 rfl ?_
      obtain ⟨r22, m23, hc20, hf⟩ := cl2_some hf
      have qc21 := kX11_no hS hc20 hI
      refine to_virtI (q := 33) mX11_no [.int (6 : Int32)] dX11_calmAt_30 rfl rfl (Nat.le_of_ble_eq_true rfl) mo_X11_no mv_X11_159 (Or.inl ⟨_, _, _, h_138 hS, rfl, rfl⟩) (Call_mono (by decide) qc21.1) ?_
      have hI := qc21.2
      cases hf
      exact to_iret dX11_calmAt_33 rfl rfl rfl rfl hI
    · have hf := ite_neg h5 hf
      refine to_ifT (q := 34) (op := .ne) h5 dX11_calmAt_24 rfl ?_
      refine to_iload_n (q := 35) rfl dX11_calmAt_34 rfl ?_
      refine to_iconst (q := 36) ic_0 dX11_calmAt_35 rfl ?_
      refine to_aload_n (q := 37) rfl (by decide) dX11_calmAt_36 rfl ?_
      refine to_getR (q := 40) (b := 141) (k0 := 11) (C := RX11) (T := TX11) (N := 37) (j := 15) rfl fx_X11_20 (h_138 hS) rfl (iv_138_15 hI) dX11_calmAt_37 rfl ?_
      refine to_bipush (q := 42) bp_8 dX11_calmAt_40 rfl ?_
      refine to_iaj (q := 43) (h_141 hS) (by decide) (tn_8) dX11_calmAt_42 rfl ?_
      refine to_iconst (q := 44) ic_1 dX11_calmAt_43 rfl ?_
      refine to_isub (q := 45) dX11_calmAt_44 rfl ?_
      obtain ⟨r8, m9, hc6, hf⟩ := cl2_some hf
      have qc7 := kX11_within hS hc6 hI
      refine to_statI (q := 48) mX11_within [.int x1, .int (0 : Int32), .int ((m3.1 141 8) - (1 : Int32))] dX11_calmAt_45 rfl rfl (Nat.le_of_ble_eq_true rfl) mo_X11_within (Or.inl ml_X11_140) sa_X11_within (Call_mono (by decide) qc7.1) ?_
      have hI := qc7.2
      by_cases h10 : r8 = (0 : Int32)
      · have hf := ite_pos h10 hf
        refine to_ifF (q := 51) (op := .ne) 57 (fun z => z h10) dX11_calmAt_48 rfl rfl ?_
        refine to_aload_n (q := 52) rfl (by decide) dX11_calmAt_51 rfl ?_
        refine to_iconst (q := 53) ic_1 dX11_calmAt_52 rfl ?_
        obtain ⟨r18, m19, hc16, hf⟩ := cl2_some hf
        have qc17 := kX11_no hS hc16 hI
        refine to_virtI (q := 56) mX11_no [.int (1 : Int32)] dX11_calmAt_53 rfl rfl (Nat.le_of_ble_eq_true rfl) mo_X11_no mv_X11_159 (Or.inl ⟨_, _, _, h_138 hS, rfl, rfl⟩) (Call_mono (by decide) qc17.1) ?_
        have hI := qc17.2
        cases hf
        exact to_iret dX11_calmAt_56 rfl rfl rfl rfl hI
      · have hf := ite_neg h10 hf
        refine to_ifT (q := 57) (op := .ne) h10 dX11_calmAt_48 rfl ?_
        refine to_aload_n (q := 58) rfl (by decide) dX11_calmAt_57 rfl ?_
        obtain ⟨r13, m14, hc11, hf⟩ := cl2_some hf
        have qc12 := kX11_calmOf hS hc11 hI
        refine to_virtI (q := 61) mX11_calmOf [] dX11_calmAt_58 rfl rfl (Nat.le_of_ble_eq_true rfl) mo_X11_calmOf mv_X11_378 (Or.inl ⟨_, _, _, h_138 hS, rfl, rfl⟩) (Call_mono (by decide) qc12.1) ?_
        have hI := qc12.2
        refine to_pop (q := 62) rfl dX11_calmAt_61 rfl ?_
        refine to_aload_n (q := 63) rfl (by decide) dX11_calmAt_62 rfl ?_
        refine to_getR (q := 66) (b := 156) (k0 := 11) (C := RX11) (T := TX11) (N := 37) (j := 35) rfl fx_X11_65 (h_138 hS) rfl (iv_138_35 hI) dX11_calmAt_63 rfl ?_
        refine to_iload_n (q := 67) rfl dX11_calmAt_66 rfl ?_
        obtain ⟨hb15, hf⟩ := ck_some hf
        refine to_iaj (q := 68) (h_156 hS) hb15 (rfl) dX11_calmAt_67 rfl ?_
        cases hf
        exact to_iret dX11_calmAt_68 rfl rfl rfl rfl hI
def fX11_note_49 (m : Me) : Option (Me) := cl1 (fX11_copy 143 (0 : Int32) 145 (((62 : Int32) * (m.1 138 21))) (62 : Int32) m) fun m4 => some (setI m4 138 21 ((m4.1 138 21) + (1 : Int32)))
set_option maxRecDepth 20000 in
theorem kX11_note_49 {S : Sh} (hS : ShOK S) {res : Me} {m : Me} (hf : fX11_note_49 m = some res) (hI : Inv m) : TT InvS (Call 1) mX11_note (49, [(0, .ref 138)], [], S, m) none (S, res) := by
  unfold fX11_note_49 at hf
  refine to_aload_n (q := 50) rfl (by decide) dX11_note_49 rfl ?_
  refine to_getR (q := 53) (b := 143) (k0 := 11) (C := RX11) (T := TX11) (N := 37) (j := 17) rfl fx_X11_26 (h_138 hS) rfl (iv_138_17 hI) dX11_note_50 rfl ?_
  refine to_iconst (q := 54) ic_0 dX11_note_53 rfl ?_
  refine to_aload_n (q := 55) rfl (by decide) dX11_note_54 rfl ?_
  refine to_getR (q := 58) (b := 145) (k0 := 11) (C := RX11) (T := TX11) (N := 37) (j := 19) rfl fx_X11_32 (h_138 hS) rfl (iv_138_19 hI) dX11_note_55 rfl ?_
  refine to_bipush (q := 60) bp_62 dX11_note_58 rfl ?_
  refine to_aload_n (q := 61) rfl (by decide) dX11_note_60 rfl ?_
  refine to_getI (q := 64) (k0 := 11) (C := RX11) (T := TX11) (N := 37) (j := 21) rfl fx_X11_172 (h_138 hS) rfl dX11_note_61 rfl ?_
  refine to_imul (q := 65) dX11_note_64 rfl ?_
  refine to_bipush (q := 67) bp_62 dX11_note_65 rfl ?_
  obtain ⟨m4, hc2, hf⟩ := cl1_some hf
  have qc3 := kX11_copy hS hc2 rfl rfl hI
  refine to_statV (q := 70) mX11_copy [.ref 143, .int (0 : Int32), .ref 145, .int ((62 : Int32) * (m.1 138 21)), .int (62 : Int32)] dX11_note_67 rfl rfl (Nat.le_of_ble_eq_true rfl) mo_X11_copy (Or.inl ml_X11_165) sa_X11_copy (Call_mono (by decide) qc3.1) ?_
  have hI := qc3.2
  refine to_aload_n (q := 71) rfl (by decide) dX11_note_70 rfl ?_
  refine to_dup (q := 72) rfl dX11_note_71 rfl ?_
  refine to_getI (q := 75) (k0 := 11) (C := RX11) (T := TX11) (N := 37) (j := 21) rfl fx_X11_172 (h_138 hS) rfl dX11_note_72 rfl ?_
  refine to_iconst (q := 76) ic_1 dX11_note_75 rfl ?_
  refine to_iadd (q := 77) dX11_note_76 rfl ?_
  refine to_putI (q := 80) (ty := .int) (k0 := 11) (C := RX11) (T := TX11) (N := 37) (j := 21) rfl fx_X11_172 (h_138 hS) rfl pD_I (Or.inl rfl) (nf_I _) dX11_note_77 rfl ?_
  cases hf
  exact to_vret dX11_note_80 rfl rfl rfl hI
def fX11_note_11 (n : Nat) (x1 : Int32) (m : Me) : Option (Me) := match n with
  | 0 => none
  | n + 1 => if (930 : Int32) ≤ x1 then fX11_note_49 (setI m 138 21 ((m.1 138 21) - (1 : Int32))) else ck (inb (x1 + (62 : Int32)) 992) (ck (inb x1 992) (fX11_note_11 n ((x1 + (1 : Int32))) (setI m 145 x1.toNatClampNeg (m.1 145 (x1 + (62 : Int32)).toNatClampNeg))))
set_option maxRecDepth 20000 in
theorem kX11_note_11 {S : Sh} (hS : ShOK S) {res : Me} (n : Nat) : ∀ {x1 : Int32} {m : Me}, fX11_note_11 n x1 m = some res → Inv m → TT InvS (Call 1) mX11_note (11, [(0, .ref 138), (1, .int x1)], [], S, m) none (S, res) := by
  induction n with
  | zero => intro x1 m hf; cases hf
  | succ n ih =>
    intro x1 m hf  hI
    unfold fX11_note_11 at hf
    refine to_iload_n (q := 12) rfl dX11_note_11 rfl ?_
    refine to_sipush (q := 15) sp_930 dX11_note_12 rfl ?_
    by_cases h5 : (930 : Int32) ≤ x1
    · have hf := ite_pos h5 hf
      refine to_icT (q := 39) (op := .ge) h5 dX11_note_15 rfl ?_
      refine to_aload_n (q := 40) rfl (by decide) dX11_note_39 rfl ?_
      refine to_dup (q := 41) rfl dX11_note_40 rfl ?_
      refine to_getI (q := 44) (k0 := 11) (C := RX11) (T := TX11) (N := 37) (j := 21) rfl fx_X11_172 (h_138 hS) rfl dX11_note_41 rfl ?_
      refine to_iconst (q := 45) ic_1 dX11_note_44 rfl ?_
      refine to_isub (q := 46) dX11_note_45 rfl ?_
      refine to_putI (q := 49) (ty := .int) (k0 := 11) (C := RX11) (T := TX11) (N := 37) (j := 21) rfl fx_X11_172 (h_138 hS) rfl pD_I (Or.inl rfl) (nf_I _) dX11_note_46 rfl ?_
      exact to_ext [(0, .ref 138)] (ext_cons rfl ext_nil) (kX11_note_49 hS hf hI)
    · have hf := ite_neg h5 hf
      refine to_icF (q := 18) (op := .ge) 39 h5 dX11_note_15 rfl rfl ?_
      refine to_aload_n (q := 19) rfl (by decide) dX11_note_18 rfl ?_
      refine to_getR (q := 22) (b := 145) (k0 := 11) (C := RX11) (T := TX11) (N := 37) (j := 19) rfl fx_X11_32 (h_138 hS) rfl (iv_138_19 hI) dX11_note_19 rfl ?_
      refine to_iload_n (q := 23) rfl dX11_note_22 rfl ?_
      refine to_aload_n (q := 24) rfl (by decide) dX11_note_23 rfl ?_
      refine to_getR (q := 27) (b := 145) (k0 := 11) (C := RX11) (T := TX11) (N := 37) (j := 19) rfl fx_X11_32 (h_138 hS) rfl (iv_138_19 hI) dX11_note_24 rfl ?_
      refine to_iload_n (q := 28) rfl dX11_note_27 rfl ?_
      refine to_bipush (q := 30) bp_62 dX11_note_28 rfl ?_
      refine to_iadd (q := 31) dX11_note_30 rfl ?_
      obtain ⟨hb6, hf⟩ := ck_some hf
      refine to_iaj (q := 32) (h_145 hS) hb6 (rfl) dX11_note_31 rfl ?_
      obtain ⟨hb7, hf⟩ := ck_some hf
      refine to_iasj (q := 33) (h_145 hS) hb7 (rfl) dX11_note_32 rfl ?_
      refine to_iinc (q := 36) (v := (x1 + (1 : Int32))) rfl (congrArg (fun z => x1 + z) ic_1) [(1, .int (x1 + (1 : Int32))), (0, .ref 138)] rfl (by decide) dX11_note_33 rfl ?_
      refine to_goto (q := 11) dX11_note_36 rfl ?_
      exact to_ext [(0, .ref 138), (1, .int (x1 + (1 : Int32)))] (ext_cons rfl (ext_cons rfl ext_nil)) (ih hf hI)
def fX11_note (m : Me) : Option (Me) := if (m.1 138 21) = (16 : Int32) then fX11_note_11 FU ((0 : Int32)) m else fX11_note_49 m
set_option maxRecDepth 20000 in
theorem kX11_note {S : Sh} (hS : ShOK S) {res : Me} {m : Me} (hf : fX11_note m = some res) (hI : Inv m) : Call 2 mX11_note [.ref 138] (S, m) none (S, res) ∧ Inv res := by
  refine call_of (P := InvS) (Nat.le_of_ble_eq_true rfl) (by simp [Value.category]) ?_
  show TT InvS (Call 1) mX11_note (0, [(0, .ref 138)], [], S, m) _ _
  unfold fX11_note at hf
  refine to_aload_n (q := 1) rfl (by decide) dX11_note_0 rfl ?_
  refine to_getI (q := 4) (k0 := 11) (C := RX11) (T := TX11) (N := 37) (j := 21) rfl fx_X11_172 (h_138 hS) rfl dX11_note_1 rfl ?_
  refine to_bipush (q := 6) bp_16 dX11_note_4 rfl ?_
  by_cases h1 : (m.1 138 21) = (16 : Int32)
  · have hf := ite_pos h1 hf
    refine to_icF (q := 9) (op := .ne) 49 (fun z => z h1) dX11_note_6 rfl rfl ?_
    refine to_iconst (q := 10) ic_0 dX11_note_9 rfl ?_
    refine to_istore_n (q := 11) [(1, .int (0 : Int32)), (0, .ref 138)] rfl (by decide) dX11_note_10 rfl ?_
    exact to_ext [(0, .ref 138), (1, .int (0 : Int32))] (ext_cons rfl (ext_cons rfl ext_nil)) (kX11_note_11 hS FU hf hI)
  · have hf := ite_neg h1 hf
    refine to_icT (q := 49) (op := .ne) h1 dX11_note_6 rfl ?_
    exact to_ext [(0, .ref 138)] (ext_cons rfl ext_nil) (kX11_note_49 hS hf hI)
def fX11_paint (x1 : Int32) (x2 : Int32) (x3 : Int32) (x4 : Int32) (m : Me) : Option (Int32 × Me) := cl1 (fX11_good m) fun m3 => cl2 (fX11_isCell x1 x2 x3 m3) fun r6 m7 => if r6 = (0 : Int32) then cl2 (fX11_isNot (1 : Int32) m7) fun r32 m33 => ck (r32 = 0 ∨ r32 = 1) (some (r32, m33)) else cl2 (fX11_within x4 (0 : Int32) (25 : Int32) m7) fun r11 m12 => if r11 = (0 : Int32) then cl2 (fX11_isNot (2 : Int32) m12) fun r27 m28 => ck (r27 = 0 ∨ r27 = 1) (some (r27, m28)) else ck (inb ((((30 : Int32) * x1) + ((3 : Int32) * x2)) + x3) 62) (if (m12.1 143 ((((30 : Int32) * x1) + ((3 : Int32) * x2)) + x3).toNatClampNeg) = x4 then cl2 (fX11_isNot (5 : Int32) m12) fun r22 m23 => ck (r22 = 0 ∨ r22 = 1) (some (r22, m23)) else cl1 (fX11_note m12) fun m18 => ck (inb ((((30 : Int32) * x1) + ((3 : Int32) * x2)) + x3) 62) (some ((1 : Int32), (setI m18 143 ((((30 : Int32) * x1) + ((3 : Int32) * x2)) + x3).toNatClampNeg x4))))
set_option maxRecDepth 20000 in
theorem kX11_paint {S : Sh} (hS : ShOK S) {res : Int32 × Me} {x1 : Int32} {x2 : Int32} {x3 : Int32} {x4 : Int32} {m : Me} (hf : fX11_paint x1 x2 x3 x4 m = some res) (hI : Inv m) : Call 4 mX11_paint [.ref 138, .int x1, .int x2, .int x3, .int x4] (S, m) (some (.int res.1)) (S, res.2) ∧ Inv res.2 := by
  refine call_of (P := InvS) (Nat.le_of_ble_eq_true rfl) (by simp [Value.category]) ?_
  show TT InvS (Call 3) mX11_paint (0, [(0, .ref 138), (1, .int x1), (2, .int x2), (3, .int x3), (4, .int x4)], [], S, m) _ _
  unfold fX11_paint at hf
  refine to_aload_n (q := 1) rfl (by decide) dX11_paint_0 rfl ?_
  obtain ⟨m3, hc1, hf⟩ := cl1_some hf
  have qc2 := kX11_good hS hc1 hI
  refine to_virtV (q := 4) mX11_good [] dX11_paint_1 rfl rfl (Nat.le_of_ble_eq_true rfl) mo_X11_good mv_X11_156 (Or.inl ⟨_, _, _, h_138 hS, rfl, rfl⟩) (Call_mono (by decide) qc2.1) ?_
  have hI := qc2.2
  refine to_aload_n (q := 5) rfl (by decide) dX11_paint_4 rfl ?_
  refine to_iload_n (q := 6) rfl dX11_paint_5 rfl ?_
  refine to_iload_n (q := 7) rfl dX11_paint_6 rfl ?_
  refine to_iload_n (q := 8) rfl dX11_paint_7 rfl ?_
  obtain ⟨r6, m7, hc4, hf⟩ := cl2_some hf
  have qc5 := kX11_isCell hS hc4 hI
  refine to_virtI (q := 11) mX11_isCell [.int x1, .int x2, .int x3] dX11_paint_8 rfl rfl (Nat.le_of_ble_eq_true rfl) mo_X11_isCell mv_X11_267 (Or.inl ⟨_, _, _, h_138 hS, rfl, rfl⟩) (Call_mono (by decide) qc5.1) ?_
  have hI := qc5.2
  by_cases h8 : r6 = (0 : Int32)
  · have hf := ite_pos h8 hf
    refine to_ifF (q := 14) (op := .ne) 20 (fun z => z h8) dX11_paint_11 rfl rfl ?_
    refine to_aload_n (q := 15) rfl (by decide) dX11_paint_14 rfl ?_
    refine to_iconst (q := 16) ic_1 dX11_paint_15 rfl ?_
    obtain ⟨r32, m33, hc30, hf⟩ := cl2_some hf
    have qc31 := kX11_isNot hS hc30 hI
    refine to_virtI (q := 19) mX11_isNot [.int (1 : Int32)] dX11_paint_16 rfl rfl (Nat.le_of_ble_eq_true rfl) mo_X11_isNot mv_X11_381 (Or.inl ⟨_, _, _, h_138 hS, rfl, rfl⟩) (Call_mono (by decide) qc31.1) ?_
    have hI := qc31.2
    obtain ⟨hz34, hf⟩ := ck_some hf
    cases hf
    exact to_iret dX11_paint_19 rfl (nf_Z hz34).1 rfl rfl hI
  · have hf := ite_neg h8 hf
    refine to_ifT (q := 20) (op := .ne) h8 dX11_paint_11 rfl ?_
    refine to_iload (q := 22) rfl dX11_paint_20 rfl ?_
    refine to_iconst (q := 23) ic_0 dX11_paint_22 rfl ?_
    refine to_bipush (q := 25) bp_25 dX11_paint_23 rfl ?_
    obtain ⟨r11, m12, hc9, hf⟩ := cl2_some hf
    have qc10 := kX11_within hS hc9 hI
    refine to_statI (q := 28) mX11_within [.int x4, .int (0 : Int32), .int (25 : Int32)] dX11_paint_25 rfl rfl (Nat.le_of_ble_eq_true rfl) mo_X11_within (Or.inl ml_X11_140) sa_X11_within (Call_mono (by decide) qc10.1) ?_
    have hI := qc10.2
    by_cases h13 : r11 = (0 : Int32)
    · have hf := ite_pos h13 hf
      refine to_ifF (q := 31) (op := .ne) 37 (fun z => z h13) dX11_paint_28 rfl rfl ?_
      refine to_aload_n (q := 32) rfl (by decide) dX11_paint_31 rfl ?_
      refine to_iconst (q := 33) ic_2 dX11_paint_32 rfl ?_
      obtain ⟨r27, m28, hc25, hf⟩ := cl2_some hf
      have qc26 := kX11_isNot hS hc25 hI
      refine to_virtI (q := 36) mX11_isNot [.int (2 : Int32)] dX11_paint_33 rfl rfl (Nat.le_of_ble_eq_true rfl) mo_X11_isNot mv_X11_381 (Or.inl ⟨_, _, _, h_138 hS, rfl, rfl⟩) (Call_mono (by decide) qc26.1) ?_
      have hI := qc26.2
      obtain ⟨hz29, hf⟩ := ck_some hf
      cases hf
      exact to_iret dX11_paint_36 rfl (nf_Z hz29).1 rfl rfl hI
    · have hf := ite_neg h13 hf
      refine to_ifT (q := 37) (op := .ne) h13 dX11_paint_28 rfl ?_
      refine to_aload_n (q := 38) rfl (by decide) dX11_paint_37 rfl ?_
      refine to_getR (q := 41) (b := 143) (k0 := 11) (C := RX11) (T := TX11) (N := 37) (j := 17) rfl fx_X11_26 (h_138 hS) rfl (iv_138_17 hI) dX11_paint_38 rfl ?_
      refine to_bipush (q := 43) bp_30 dX11_paint_41 rfl ?_
      refine to_iload_n (q := 44) rfl dX11_paint_43 rfl ?_
      refine to_imul (q := 45) dX11_paint_44 rfl ?_
      refine to_iconst (q := 46) ic_3 dX11_paint_45 rfl ?_
      refine to_iload_n (q := 47) rfl dX11_paint_46 rfl ?_
      refine to_imul (q := 48) dX11_paint_47 rfl ?_
      refine to_iadd (q := 49) dX11_paint_48 rfl ?_
      refine to_iload_n (q := 50) rfl dX11_paint_49 rfl ?_
      refine to_iadd (q := 51) dX11_paint_50 rfl ?_
      obtain ⟨hb14, hf⟩ := ck_some hf
      refine to_iaj (q := 52) (h_143 hS) hb14 (rfl) dX11_paint_51 rfl ?_
      refine to_iload (q := 54) rfl dX11_paint_52 rfl ?_
      by_cases h15 : (m12.1 143 ((((30 : Int32) * x1) + ((3 : Int32) * x2)) + x3).toNatClampNeg) = x4
      · have hf := ite_pos h15 hf
        refine to_icF (q := 57) (op := .ne) 63 (fun z => z h15) dX11_paint_54 rfl rfl ?_
        refine to_aload_n (q := 58) rfl (by decide) dX11_paint_57 rfl ?_
        refine to_iconst (q := 59) ic_5 dX11_paint_58 rfl ?_
        obtain ⟨r22, m23, hc20, hf⟩ := cl2_some hf
        have qc21 := kX11_isNot hS hc20 hI
        refine to_virtI (q := 62) mX11_isNot [.int (5 : Int32)] dX11_paint_59 rfl rfl (Nat.le_of_ble_eq_true rfl) mo_X11_isNot mv_X11_381 (Or.inl ⟨_, _, _, h_138 hS, rfl, rfl⟩) (Call_mono (by decide) qc21.1) ?_
        have hI := qc21.2
        obtain ⟨hz24, hf⟩ := ck_some hf
        cases hf
        exact to_iret dX11_paint_62 rfl (nf_Z hz24).1 rfl rfl hI
      · have hf := ite_neg h15 hf
        refine to_icT (q := 63) (op := .ne) h15 dX11_paint_54 rfl ?_
        refine to_aload_n (q := 64) rfl (by decide) dX11_paint_63 rfl ?_
        obtain ⟨m18, hc16, hf⟩ := cl1_some hf
        have qc17 := kX11_note hS hc16 hI
        refine to_virtV (q := 67) mX11_note [] dX11_paint_64 rfl rfl (Nat.le_of_ble_eq_true rfl) mo_X11_note mv_X11_384 (Or.inl ⟨_, _, _, h_138 hS, rfl, rfl⟩) (Call_mono (by decide) qc17.1) ?_
        have hI := qc17.2
        refine to_aload_n (q := 68) rfl (by decide) dX11_paint_67 rfl ?_
        refine to_getR (q := 71) (b := 143) (k0 := 11) (C := RX11) (T := TX11) (N := 37) (j := 17) rfl fx_X11_26 (h_138 hS) rfl (iv_138_17 hI) dX11_paint_68 rfl ?_
        refine to_bipush (q := 73) bp_30 dX11_paint_71 rfl ?_
        refine to_iload_n (q := 74) rfl dX11_paint_73 rfl ?_
        refine to_imul (q := 75) dX11_paint_74 rfl ?_
        refine to_iconst (q := 76) ic_3 dX11_paint_75 rfl ?_
        refine to_iload_n (q := 77) rfl dX11_paint_76 rfl ?_
        refine to_imul (q := 78) dX11_paint_77 rfl ?_
        refine to_iadd (q := 79) dX11_paint_78 rfl ?_
        refine to_iload_n (q := 80) rfl dX11_paint_79 rfl ?_
        refine to_iadd (q := 81) dX11_paint_80 rfl ?_
        refine to_iload (q := 83) rfl dX11_paint_81 rfl ?_
        obtain ⟨hb19, hf⟩ := ck_some hf
        refine to_iasj (q := 84) (h_143 hS) hb19 (rfl) dX11_paint_83 rfl ?_
        refine to_iconst (q := 85) ic_1 dX11_paint_84 rfl ?_
        cases hf
        exact to_iret dX11_paint_85 rfl (by decide) rfl rfl hI
def fX11_breaks (x1 : Int32) (x2 : Int32) (m : Me) : Option (Int32 × Me) := cl1 (fX11_good m) fun m3 => cl2 (fX11_isRib x1 m3) fun r6 m7 => if r6 = (0 : Int32) then cl2 (fX11_isNot (1 : Int32) m7) fun r24 m25 => ck (r24 = 0 ∨ r24 = 1) (some (r24, m25)) else cl2 (fX11_has (m7.1 143 60) x1 m7) fun r11 m12 => if r11 = x2 then cl2 (fX11_isNot (5 : Int32) m12) fun r19 m20 => ck (r19 = 0 ∨ r19 = 1) (some (r19, m20)) else cl1 (fX11_note m12) fun m16 => some ((1 : Int32), (setI m16 143 60 ((m16.1 143 60) ^^^ ((1 : Int32) <<< (x1 &&& 31)))))
set_option maxRecDepth 20000 in
theorem kX11_breaks {S : Sh} (hS : ShOK S) {res : Int32 × Me} {x1 : Int32} {x2 : Int32} {m : Me} (hf : fX11_breaks x1 x2 m = some res) (hI : Inv m) : Call 3 mX11_breaks [.ref 138, .int x1, .int x2] (S, m) (some (.int res.1)) (S, res.2) ∧ Inv res.2 := by
  refine call_of (P := InvS) (Nat.le_of_ble_eq_true rfl) (by simp [Value.category]) ?_
  show TT InvS (Call 2) mX11_breaks (0, [(0, .ref 138), (1, .int x1), (2, .int x2)], [], S, m) _ _
  unfold fX11_breaks at hf
  refine to_aload_n (q := 1) rfl (by decide) dX11_breaks_0 rfl ?_
  obtain ⟨m3, hc1, hf⟩ := cl1_some hf
  have qc2 := kX11_good hS hc1 hI
  refine to_virtV (q := 4) mX11_good [] dX11_breaks_1 rfl rfl (Nat.le_of_ble_eq_true rfl) mo_X11_good mv_X11_156 (Or.inl ⟨_, _, _, h_138 hS, rfl, rfl⟩) (Call_mono (by decide) qc2.1) ?_
  have hI := qc2.2
  refine to_aload_n (q := 5) rfl (by decide) dX11_breaks_4 rfl ?_
  refine to_iload_n (q := 6) rfl dX11_breaks_5 rfl ?_
  obtain ⟨r6, m7, hc4, hf⟩ := cl2_some hf
  have qc5 := kX11_isRib hS hc4 hI
  refine to_virtI (q := 9) mX11_isRib [.int x1] dX11_breaks_6 rfl rfl (Nat.le_of_ble_eq_true rfl) mo_X11_isRib mv_X11_256 (Or.inl ⟨_, _, _, h_138 hS, rfl, rfl⟩) (Call_mono (by decide) qc5.1) ?_
  have hI := qc5.2
  by_cases h8 : r6 = (0 : Int32)
  · have hf := ite_pos h8 hf
    refine to_ifF (q := 12) (op := .ne) 18 (fun z => z h8) dX11_breaks_9 rfl rfl ?_
    refine to_aload_n (q := 13) rfl (by decide) dX11_breaks_12 rfl ?_
    refine to_iconst (q := 14) ic_1 dX11_breaks_13 rfl ?_
    obtain ⟨r24, m25, hc22, hf⟩ := cl2_some hf
    have qc23 := kX11_isNot hS hc22 hI
    refine to_virtI (q := 17) mX11_isNot [.int (1 : Int32)] dX11_breaks_14 rfl rfl (Nat.le_of_ble_eq_true rfl) mo_X11_isNot mv_X11_381 (Or.inl ⟨_, _, _, h_138 hS, rfl, rfl⟩) (Call_mono (by decide) qc23.1) ?_
    have hI := qc23.2
    obtain ⟨hz26, hf⟩ := ck_some hf
    cases hf
    exact to_iret dX11_breaks_17 rfl (nf_Z hz26).1 rfl rfl hI
  · have hf := ite_neg h8 hf
    refine to_ifT (q := 18) (op := .ne) h8 dX11_breaks_9 rfl ?_
    refine to_aload_n (q := 19) rfl (by decide) dX11_breaks_18 rfl ?_
    refine to_getR (q := 22) (b := 143) (k0 := 11) (C := RX11) (T := TX11) (N := 37) (j := 17) rfl fx_X11_26 (h_138 hS) rfl (iv_138_17 hI) dX11_breaks_19 rfl ?_
    refine to_bipush (q := 24) bp_60 dX11_breaks_22 rfl ?_
    refine to_iaj (q := 25) (h_143 hS) (by decide) (tn_60) dX11_breaks_24 rfl ?_
    refine to_iload_n (q := 26) rfl dX11_breaks_25 rfl ?_
    obtain ⟨r11, m12, hc9, hf⟩ := cl2_some hf
    have qc10 := kX11_has hS hc9 hI
    refine to_statI (q := 29) mX11_has [.int (m7.1 143 60), .int x1] dX11_breaks_26 rfl rfl (Nat.le_of_ble_eq_true rfl) mo_X11_has (Or.inl ml_X11_259) sa_X11_has (Call_mono (by decide) qc10.1) ?_
    have hI := qc10.2
    refine to_iload_n (q := 30) rfl dX11_breaks_29 rfl ?_
    by_cases h13 : r11 = x2
    · have hf := ite_pos h13 hf
      refine to_icF (q := 33) (op := .ne) 39 (fun z => z h13) dX11_breaks_30 rfl rfl ?_
      refine to_aload_n (q := 34) rfl (by decide) dX11_breaks_33 rfl ?_
      refine to_iconst (q := 35) ic_5 dX11_breaks_34 rfl ?_
      obtain ⟨r19, m20, hc17, hf⟩ := cl2_some hf
      have qc18 := kX11_isNot hS hc17 hI
      refine to_virtI (q := 38) mX11_isNot [.int (5 : Int32)] dX11_breaks_35 rfl rfl (Nat.le_of_ble_eq_true rfl) mo_X11_isNot mv_X11_381 (Or.inl ⟨_, _, _, h_138 hS, rfl, rfl⟩) (Call_mono (by decide) qc18.1) ?_
      have hI := qc18.2
      obtain ⟨hz21, hf⟩ := ck_some hf
      cases hf
      exact to_iret dX11_breaks_38 rfl (nf_Z hz21).1 rfl rfl hI
    · have hf := ite_neg h13 hf
      refine to_icT (q := 39) (op := .ne) h13 dX11_breaks_30 rfl ?_
      refine to_aload_n (q := 40) rfl (by decide) dX11_breaks_39 rfl ?_
      obtain ⟨m16, hc14, hf⟩ := cl1_some hf
      have qc15 := kX11_note hS hc14 hI
      refine to_virtV (q := 43) mX11_note [] dX11_breaks_40 rfl rfl (Nat.le_of_ble_eq_true rfl) mo_X11_note mv_X11_384 (Or.inl ⟨_, _, _, h_138 hS, rfl, rfl⟩) (Call_mono (by decide) qc15.1) ?_
      have hI := qc15.2
      refine to_aload_n (q := 44) rfl (by decide) dX11_breaks_43 rfl ?_
      refine to_getR (q := 47) (b := 143) (k0 := 11) (C := RX11) (T := TX11) (N := 37) (j := 17) rfl fx_X11_26 (h_138 hS) rfl (iv_138_17 hI) dX11_breaks_44 rfl ?_
      refine to_bipush (q := 49) bp_60 dX11_breaks_47 rfl ?_
      refine to_dup2 (q := 50) rfl rfl dX11_breaks_49 rfl ?_
      refine to_iaj (q := 51) (h_143 hS) (by decide) (tn_60) dX11_breaks_50 rfl ?_
      refine to_iconst (q := 52) ic_1 dX11_breaks_51 rfl ?_
      refine to_iload_n (q := 53) rfl dX11_breaks_52 rfl ?_
      refine to_ishl (q := 54) dX11_breaks_53 rfl ?_
      refine to_ixor (q := 55) dX11_breaks_54 rfl ?_
      refine to_iasj (q := 56) (h_143 hS) (by decide) (tn_60) dX11_breaks_55 rfl ?_
      refine to_iconst (q := 57) ic_1 dX11_breaks_56 rfl ?_
      cases hf
      exact to_iret dX11_breaks_57 rfl (by decide) rfl rfl hI
def fX11_open (x1 : Int32) (m : Me) : Option (Int32 × Me) := cl1 (fX11_good m) fun m3 => if (m3.1 138 14) = (0 : Int32) then cl2 (fX11_no (1 : Int32) m3) fun r28 m29 => some (r28, m29) else cl2 (fX11_isOpening x1 m3) fun r7 m8 => if r7 = (0 : Int32) then cl2 (fX11_no (2 : Int32) m8) fun r24 m25 => some (r24, m25) else if (m8.1 143 61) = x1 then cl2 (fX11_no (5 : Int32) m8) fun r20 m21 => some (r20, m21) else cl1 (fX11_note m8) fun m13 => cl2 (fX11_layNow (0 : Int32) x1 (setI m13 143 61 x1)) fun r16 m17 => some (r16, m17)
set_option maxRecDepth 20000 in
theorem kX11_open {S : Sh} (hS : ShOK S) {res : Int32 × Me} {x1 : Int32} {m : Me} (hf : fX11_open x1 m = some res) (hI : Inv m) : Call 4 mX11_open [.ref 138, .int x1] (S, m) (some (.int res.1)) (S, res.2) ∧ Inv res.2 := by
  refine call_of (P := InvS) (Nat.le_of_ble_eq_true rfl) (by simp [Value.category]) ?_
  show TT InvS (Call 3) mX11_open (0, [(0, .ref 138), (1, .int x1)], [], S, m) _ _
  unfold fX11_open at hf
  refine to_aload_n (q := 1) rfl (by decide) dX11_open_0 rfl ?_
  obtain ⟨m3, hc1, hf⟩ := cl1_some hf
  have qc2 := kX11_good hS hc1 hI
  refine to_virtV (q := 4) mX11_good [] dX11_open_1 rfl rfl (Nat.le_of_ble_eq_true rfl) mo_X11_good mv_X11_156 (Or.inl ⟨_, _, _, h_138 hS, rfl, rfl⟩) (Call_mono (by decide) qc2.1) ?_
  have hI := qc2.2
  refine to_aload_n (q := 5) rfl (by decide) dX11_open_4 rfl ?_
  refine to_getI (q := 8) (k0 := 11) (C := RX11) (T := TX11) (N := 37) (j := 14) rfl fx_X11_169 (h_138 hS) rfl dX11_open_5 rfl ?_
  by_cases h4 : (m3.1 138 14) = (0 : Int32)
  · have hf := ite_pos h4 hf
    refine to_ifF (q := 11) (op := .ne) 17 (fun z => z h4) dX11_open_8 rfl rfl ?_
    refine to_aload_n (q := 12) rfl (by decide) dX11_open_11 rfl ?_
    refine to_iconst (q := 13) ic_1 dX11_open_12 rfl ?_
    obtain ⟨r28, m29, hc26, hf⟩ := cl2_some hf
    have qc27 := kX11_no hS hc26 hI
    refine to_virtI (q := 16) mX11_no [.int (1 : Int32)] dX11_open_13 rfl rfl (Nat.le_of_ble_eq_true rfl) mo_X11_no mv_X11_159 (Or.inl ⟨_, _, _, h_138 hS, rfl, rfl⟩) (Call_mono (by decide) qc27.1) ?_
    have hI := qc27.2
    cases hf
    exact to_iret dX11_open_16 rfl rfl rfl rfl hI
  · have hf := ite_neg h4 hf
    refine to_ifT (q := 17) (op := .ne) h4 dX11_open_8 rfl ?_
    refine to_aload_n (q := 18) rfl (by decide) dX11_open_17 rfl ?_
    refine to_iload_n (q := 19) rfl dX11_open_18 rfl ?_
    obtain ⟨r7, m8, hc5, hf⟩ := cl2_some hf
    have qc6 := kX11_isOpening hS hc5 hI
    refine to_virtI (q := 22) mX11_isOpening [.int x1] dX11_open_19 rfl rfl (Nat.le_of_ble_eq_true rfl) mo_X11_isOpening mv_X11_273 (Or.inl ⟨_, _, _, h_138 hS, rfl, rfl⟩) (Call_mono (by decide) qc6.1) ?_
    have hI := qc6.2
    by_cases h9 : r7 = (0 : Int32)
    · have hf := ite_pos h9 hf
      refine to_ifF (q := 25) (op := .ne) 31 (fun z => z h9) dX11_open_22 rfl rfl ?_
      refine to_aload_n (q := 26) rfl (by decide) dX11_open_25 rfl ?_
      refine to_iconst (q := 27) ic_2 dX11_open_26 rfl ?_
      obtain ⟨r24, m25, hc22, hf⟩ := cl2_some hf
      have qc23 := kX11_no hS hc22 hI
      refine to_virtI (q := 30) mX11_no [.int (2 : Int32)] dX11_open_27 rfl rfl (Nat.le_of_ble_eq_true rfl) mo_X11_no mv_X11_159 (Or.inl ⟨_, _, _, h_138 hS, rfl, rfl⟩) (Call_mono (by decide) qc23.1) ?_
      have hI := qc23.2
      cases hf
      exact to_iret dX11_open_30 rfl rfl rfl rfl hI
    · have hf := ite_neg h9 hf
      refine to_ifT (q := 31) (op := .ne) h9 dX11_open_22 rfl ?_
      refine to_aload_n (q := 32) rfl (by decide) dX11_open_31 rfl ?_
      refine to_getR (q := 35) (b := 143) (k0 := 11) (C := RX11) (T := TX11) (N := 37) (j := 17) rfl fx_X11_26 (h_138 hS) rfl (iv_138_17 hI) dX11_open_32 rfl ?_
      refine to_bipush (q := 37) bp_61 dX11_open_35 rfl ?_
      refine to_iaj (q := 38) (h_143 hS) (by decide) (tn_61) dX11_open_37 rfl ?_
      refine to_iload_n (q := 39) rfl dX11_open_38 rfl ?_
      by_cases h10 : (m8.1 143 61) = x1
      · have hf := ite_pos h10 hf
        refine to_icF (q := 42) (op := .ne) 48 (fun z => z h10) dX11_open_39 rfl rfl ?_
        refine to_aload_n (q := 43) rfl (by decide) dX11_open_42 rfl ?_
        refine to_iconst (q := 44) ic_5 dX11_open_43 rfl ?_
        obtain ⟨r20, m21, hc18, hf⟩ := cl2_some hf
        have qc19 := kX11_no hS hc18 hI
        refine to_virtI (q := 47) mX11_no [.int (5 : Int32)] dX11_open_44 rfl rfl (Nat.le_of_ble_eq_true rfl) mo_X11_no mv_X11_159 (Or.inl ⟨_, _, _, h_138 hS, rfl, rfl⟩) (Call_mono (by decide) qc19.1) ?_
        have hI := qc19.2
        cases hf
        exact to_iret dX11_open_47 rfl rfl rfl rfl hI
      · have hf := ite_neg h10 hf
        refine to_icT (q := 48) (op := .ne) h10 dX11_open_39 rfl ?_
        refine to_aload_n (q := 49) rfl (by decide) dX11_open_48 rfl ?_
        obtain ⟨m13, hc11, hf⟩ := cl1_some hf
        have qc12 := kX11_note hS hc11 hI
        refine to_virtV (q := 52) mX11_note [] dX11_open_49 rfl rfl (Nat.le_of_ble_eq_true rfl) mo_X11_note mv_X11_384 (Or.inl ⟨_, _, _, h_138 hS, rfl, rfl⟩) (Call_mono (by decide) qc12.1) ?_
        have hI := qc12.2
        refine to_aload_n (q := 53) rfl (by decide) dX11_open_52 rfl ?_
        refine to_getR (q := 56) (b := 143) (k0 := 11) (C := RX11) (T := TX11) (N := 37) (j := 17) rfl fx_X11_26 (h_138 hS) rfl (iv_138_17 hI) dX11_open_53 rfl ?_
        refine to_bipush (q := 58) bp_61 dX11_open_56 rfl ?_
        refine to_iload_n (q := 59) rfl dX11_open_58 rfl ?_
        refine to_iasj (q := 60) (h_143 hS) (by decide) (tn_61) dX11_open_59 rfl ?_
        refine to_aload_n (q := 61) rfl (by decide) dX11_open_60 rfl ?_
        refine to_iconst (q := 62) ic_0 dX11_open_61 rfl ?_
        refine to_iload_n (q := 63) rfl dX11_open_62 rfl ?_
        obtain ⟨r16, m17, hc14, hf⟩ := cl2_some hf
        have qc15 := kX11_layNow hS hc14 hI
        refine to_virtI (q := 66) mX11_layNow [.int (0 : Int32), .int x1] dX11_open_63 rfl rfl (Nat.le_of_ble_eq_true rfl) mo_X11_layNow mv_X11_279 (Or.inl ⟨_, _, _, h_138 hS, rfl, rfl⟩) (Call_mono (by decide) qc15.1) ?_
        have hI := qc15.2
        cases hf
        exact to_iret dX11_open_66 rfl rfl rfl rfl hI
def fX11_flutter (m : Me) : Option (Int32 × Me) := cl1 (fX11_good m) fun m3 => cl2 (fX11_beatWhy m3) fun r6 m7 => if r6 = (0 : Int32) then cl1 (fX11_note m7) fun m11 => cl2 (fX11_smearOf (0 : Int32) (m11.1 143 61) (m11.1 141 180) m11) fun r14 m15 => cl2 (fX11_beatsOf m15) fun r18 m19 => ck (inb (((180 : Int32) + (m19.1 141 8)) - (1 : Int32)) 186) (some ((r14 + r18), (setI m19 143 61 (m19.1 141 (((180 : Int32) + (m19.1 141 8)) - (1 : Int32)).toNatClampNeg)))) else cl2 (fX11_no r6 m7) fun r23 m24 => some (r23, m24)
set_option maxRecDepth 20000 in
theorem kX11_flutter {S : Sh} (hS : ShOK S) {res : Int32 × Me} {m : Me} (hf : fX11_flutter m = some res) (hI : Inv m) : Call 6 mX11_flutter [.ref 138] (S, m) (some (.int res.1)) (S, res.2) ∧ Inv res.2 := by
  refine call_of (P := InvS) (Nat.le_of_ble_eq_true rfl) (by simp [Value.category]) ?_
  show TT InvS (Call 5) mX11_flutter (0, [(0, .ref 138)], [], S, m) _ _
  unfold fX11_flutter at hf
  refine to_aload_n (q := 1) rfl (by decide) dX11_flutter_0 rfl ?_
  obtain ⟨m3, hc1, hf⟩ := cl1_some hf
  have qc2 := kX11_good hS hc1 hI
  refine to_virtV (q := 4) mX11_good [] dX11_flutter_1 rfl rfl (Nat.le_of_ble_eq_true rfl) mo_X11_good mv_X11_156 (Or.inl ⟨_, _, _, h_138 hS, rfl, rfl⟩) (Call_mono (by decide) qc2.1) ?_
  have hI := qc2.2
  refine to_aload_n (q := 5) rfl (by decide) dX11_flutter_4 rfl ?_
  obtain ⟨r6, m7, hc4, hf⟩ := cl2_some hf
  have qc5 := kX11_beatWhy hS hc4 hI
  refine to_virtI (q := 8) mX11_beatWhy [] dX11_flutter_5 rfl rfl (Nat.le_of_ble_eq_true rfl) mo_X11_beatWhy mv_X11_368 (Or.inl ⟨_, _, _, h_138 hS, rfl, rfl⟩) (Call_mono (by decide) qc5.1) ?_
  have hI := qc5.2
  refine to_istore_n (q := 9) [(1, .int r6), (0, .ref 138)] rfl (by decide) dX11_flutter_8 rfl ?_
  refine to_iload_n (q := 10) rfl dX11_flutter_9 rfl ?_
  by_cases h8 : r6 = (0 : Int32)
  · have hf := ite_pos h8 hf
    refine to_ifT (q := 19) (op := .eq) h8 dX11_flutter_10 rfl ?_
    refine to_aload_n (q := 20) rfl (by decide) dX11_flutter_19 rfl ?_
    obtain ⟨m11, hc9, hf⟩ := cl1_some hf
    have qc10 := kX11_note hS hc9 hI
    refine to_virtV (q := 23) mX11_note [] dX11_flutter_20 rfl rfl (Nat.le_of_ble_eq_true rfl) mo_X11_note mv_X11_384 (Or.inl ⟨_, _, _, h_138 hS, rfl, rfl⟩) (Call_mono (by decide) qc10.1) ?_
    have hI := qc10.2
    refine to_aload_n (q := 24) rfl (by decide) dX11_flutter_23 rfl ?_
    refine to_iconst (q := 25) ic_0 dX11_flutter_24 rfl ?_
    refine to_aload_n (q := 26) rfl (by decide) dX11_flutter_25 rfl ?_
    refine to_getR (q := 29) (b := 143) (k0 := 11) (C := RX11) (T := TX11) (N := 37) (j := 17) rfl fx_X11_26 (h_138 hS) rfl (iv_138_17 hI) dX11_flutter_26 rfl ?_
    refine to_bipush (q := 31) bp_61 dX11_flutter_29 rfl ?_
    refine to_iaj (q := 32) (h_143 hS) (by decide) (tn_61) dX11_flutter_31 rfl ?_
    refine to_aload_n (q := 33) rfl (by decide) dX11_flutter_32 rfl ?_
    refine to_getR (q := 36) (b := 141) (k0 := 11) (C := RX11) (T := TX11) (N := 37) (j := 15) rfl fx_X11_20 (h_138 hS) rfl (iv_138_15 hI) dX11_flutter_33 rfl ?_
    refine to_sipush (q := 39) sp_180 dX11_flutter_36 rfl ?_
    refine to_iaj (q := 40) (h_141 hS) (by decide) (tn_180) dX11_flutter_39 rfl ?_
    obtain ⟨r14, m15, hc12, hf⟩ := cl2_some hf
    have qc13 := kX11_smearOf hS hc12 hI
    refine to_virtI (q := 43) mX11_smearOf [.int (0 : Int32), .int (m11.1 143 61), .int (m11.1 141 180)] dX11_flutter_40 rfl rfl (Nat.le_of_ble_eq_true rfl) mo_X11_smearOf mv_X11_365 (Or.inl ⟨_, _, _, h_138 hS, rfl, rfl⟩) (Call_mono (by decide) qc13.1) ?_
    have hI := qc13.2
    refine to_aload_n (q := 44) rfl (by decide) dX11_flutter_43 rfl ?_
    obtain ⟨r18, m19, hc16, hf⟩ := cl2_some hf
    have qc17 := kX11_beatsOf hS hc16 hI
    refine to_virtI (q := 47) mX11_beatsOf [] dX11_flutter_44 rfl rfl (Nat.le_of_ble_eq_true rfl) mo_X11_beatsOf mv_X11_371 (Or.inl ⟨_, _, _, h_138 hS, rfl, rfl⟩) (Call_mono (by decide) qc17.1) ?_
    have hI := qc17.2
    refine to_iadd (q := 48) dX11_flutter_47 rfl ?_
    refine to_istore_n (q := 49) [(2, .int (r14 + r18)), (1, .int r6), (0, .ref 138)] rfl (by decide) dX11_flutter_48 rfl ?_
    refine to_aload_n (q := 50) rfl (by decide) dX11_flutter_49 rfl ?_
    refine to_getR (q := 53) (b := 143) (k0 := 11) (C := RX11) (T := TX11) (N := 37) (j := 17) rfl fx_X11_26 (h_138 hS) rfl (iv_138_17 hI) dX11_flutter_50 rfl ?_
    refine to_bipush (q := 55) bp_61 dX11_flutter_53 rfl ?_
    refine to_aload_n (q := 56) rfl (by decide) dX11_flutter_55 rfl ?_
    refine to_getR (q := 59) (b := 141) (k0 := 11) (C := RX11) (T := TX11) (N := 37) (j := 15) rfl fx_X11_20 (h_138 hS) rfl (iv_138_15 hI) dX11_flutter_56 rfl ?_
    refine to_sipush (q := 62) sp_180 dX11_flutter_59 rfl ?_
    refine to_aload_n (q := 63) rfl (by decide) dX11_flutter_62 rfl ?_
    refine to_getR (q := 66) (b := 141) (k0 := 11) (C := RX11) (T := TX11) (N := 37) (j := 15) rfl fx_X11_20 (h_138 hS) rfl (iv_138_15 hI) dX11_flutter_63 rfl ?_
    refine to_bipush (q := 68) bp_8 dX11_flutter_66 rfl ?_
    refine to_iaj (q := 69) (h_141 hS) (by decide) (tn_8) dX11_flutter_68 rfl ?_
    refine to_iadd (q := 70) dX11_flutter_69 rfl ?_
    refine to_iconst (q := 71) ic_1 dX11_flutter_70 rfl ?_
    refine to_isub (q := 72) dX11_flutter_71 rfl ?_
    obtain ⟨hb20, hf⟩ := ck_some hf
    refine to_iaj (q := 73) (h_141 hS) hb20 (rfl) dX11_flutter_72 rfl ?_
    refine to_iasj (q := 74) (h_143 hS) (by decide) (tn_61) dX11_flutter_73 rfl ?_
    refine to_iload_n (q := 75) rfl dX11_flutter_74 rfl ?_
    cases hf
    exact to_iret dX11_flutter_75 rfl rfl rfl rfl hI
  · have hf := ite_neg h8 hf
    refine to_ifF (q := 13) (op := .eq) 19 h8 dX11_flutter_10 rfl rfl ?_
    refine to_aload_n (q := 14) rfl (by decide) dX11_flutter_13 rfl ?_
    refine to_iload_n (q := 15) rfl dX11_flutter_14 rfl ?_
    obtain ⟨r23, m24, hc21, hf⟩ := cl2_some hf
    have qc22 := kX11_no hS hc21 hI
    refine to_virtI (q := 18) mX11_no [.int r6] dX11_flutter_15 rfl rfl (Nat.le_of_ble_eq_true rfl) mo_X11_no mv_X11_159 (Or.inl ⟨_, _, _, h_138 hS, rfl, rfl⟩) (Call_mono (by decide) qc22.1) ?_
    have hI := qc22.2
    cases hf
    exact to_iret dX11_flutter_18 rfl rfl rfl rfl hI
