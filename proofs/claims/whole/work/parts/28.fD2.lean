set_option maxRecDepth 20000 in
theorem kX10_fewestToBreak_79 {S : Sh} (hS : ShOK S) {res : Int32 × Me} {k11 : Nat → Int32 → Int32 → Int32 → Int32 → Int32 → Me → Option (Int32 × Me)} (hk11 : ∀ {a1 : Nat} {x2 : Int32} {x3 : Int32} {x4 : Int32} {x5 : Int32} {x6 : Int32} {m : Me}, k11 a1 x2 x3 x4 x5 x6 m = some res → kd a1 = 8 → Inv m → TT InvS (Call 5) mX10_fewestToBreak (11, [(0, .ref 0), (1, .ref a1), (2, .int x2), (3, .int x3), (4, .int x4), (5, .int x5), (6, .int x6)], [], S, m) (some (.int res.1)) (S, res.2)) {a1 : Nat} {x2 : Int32} {x3 : Int32} {x4 : Int32} {x5 : Int32} {x6 : Int32} {m : Me} (hf : fX10_fewestToBreak_79 k11 a1 x2 x3 x4 x5 x6 m = some res) (ha1 : kd a1 = 8) (hI : Inv m) : TT InvS (Call 5) mX10_fewestToBreak (79, [(0, .ref 0), (1, .ref a1), (2, .int x2), (3, .int x3), (4, .int x4), (5, .int x5), (6, .int x6)], [], S, m) (some (.int res.1)) (S, res.2) := by
  unfold fX10_fewestToBreak_79 at hf
  refine to_iinc (q := 82) (v := (x6 + (1 : Int32))) rfl (congrArg (fun z => x6 + z) ic_1) [(6, .int (x6 + (1 : Int32))), (0, .ref 0), (1, .ref a1), (2, .int x2), (3, .int x3), (4, .int x4), (5, .int x5)] rfl (by decide) dX10_fewestToBreak_79 rfl ?_
  refine to_goto (q := 11) dX10_fewestToBreak_82 rfl ?_
  exact to_ext [(0, .ref 0), (1, .ref a1), (2, .int x2), (3, .int x3), (4, .int x4), (5, .int x5), (6, .int (x6 + (1 : Int32)))] (ext_cons rfl (ext_cons rfl (ext_cons rfl (ext_cons rfl (ext_cons rfl (ext_cons rfl (ext_cons rfl ext_nil))))))) (hk11 hf (ha1) hI)
def fX10_fewestToBreak_11 (n : Nat) (a1 : Nat) (x2 : Int32) (x3 : Int32) (x4 : Int32) (x5 : Int32) (x6 : Int32) (m : Me) : Option (Int32 × Me) := match n with
  | 0 => none
  | n + 1 => if ((1 : Int32) <<< ((m.1 (rr m 0 3) 0) &&& 31)) ≤ x6 then some (x4, m) else if (x6 &&& (m.1 81 1)) = (0 : Int32) then cl2 (fJ6_bitCount_0f7a4 x6 m) fun r6 m7 => if x5 ≤ r6 then fX10_fewestToBreak_79 (fX10_fewestToBreak_11 n) a1 x2 x3 x4 x5 x6 m7 else cl2 (fX10_isReadIf (((m7.1 81 1) ||| x6)) a1 x2 x3 m7) fun r11 m12 => if r11 = (0 : Int32) then fX10_fewestToBreak_79 (fX10_fewestToBreak_11 n) a1 x2 x3 x4 x5 x6 m12 else cl2 (fJ6_bitCount_0f7a4 x6 m12) fun r16 m17 => fX10_fewestToBreak_79 (fX10_fewestToBreak_11 n) a1 x2 x3 x6 r16 x6 m17 else fX10_fewestToBreak_79 (fX10_fewestToBreak_11 n) a1 x2 x3 x4 x5 x6 m
set_option maxRecDepth 20000 in
theorem kX10_fewestToBreak_11 {S : Sh} (hS : ShOK S) {res : Int32 × Me} (n : Nat) : ∀ {a1 : Nat} {x2 : Int32} {x3 : Int32} {x4 : Int32} {x5 : Int32} {x6 : Int32} {m : Me}, fX10_fewestToBreak_11 n a1 x2 x3 x4 x5 x6 m = some res → kd a1 = 8 → Inv m → TT InvS (Call 5) mX10_fewestToBreak (11, [(0, .ref 0), (1, .ref a1), (2, .int x2), (3, .int x3), (4, .int x4), (5, .int x5), (6, .int x6)], [], S, m) (some (.int res.1)) (S, res.2) := by
  induction n with
  | zero => intro a1 x2 x3 x4 x5 x6 m hf; cases hf
  | succ n ih =>
    intro a1 x2 x3 x4 x5 x6 m hf ha1 hI
    unfold fX10_fewestToBreak_11 at hf
    refine to_iload (q := 13) rfl dX10_fewestToBreak_11 rfl ?_
    refine to_iconst (q := 14) ic_1 dX10_fewestToBreak_13 rfl ?_
    refine to_aload_n (q := 15) rfl (by decide) dX10_fewestToBreak_14 rfl ?_
    have hk1 : kd (rr m 0 3) = 2 := (ivT hI).2
    refine to_getR (q := 18) (b := rr m 0 3) (k0 := 10) (C := RX10) (T := TX10) (N := 17) (j := 3) rfl fx_X10_26 (h_0 hS) rfl ((ivT hI).1) dX10_fewestToBreak_15 rfl ?_
    refine to_getI (q := 21) (k0 := 2) (C := RX2) (T := TX2) (N := 14) (j := 0) rfl fx_X10_190 (sh_kd hS hk1 (by decide)) rfl dX10_fewestToBreak_18 rfl ?_
    refine to_ishl (q := 22) dX10_fewestToBreak_21 rfl ?_
    by_cases h2 : ((1 : Int32) <<< ((m.1 (rr m 0 3) 0) &&& 31)) ≤ x6
    · have hf := ite_pos h2 hf
      refine to_icT (q := 85) (op := .ge) h2 dX10_fewestToBreak_22 rfl ?_
      refine to_iload (q := 87) rfl dX10_fewestToBreak_85 rfl ?_
      cases hf
      exact to_iret dX10_fewestToBreak_87 rfl rfl rfl rfl hI
    · have hf := ite_neg h2 hf
      refine to_icF (q := 25) (op := .ge) 85 h2 dX10_fewestToBreak_22 rfl rfl ?_
      refine to_iload (q := 27) rfl dX10_fewestToBreak_25 rfl ?_
      refine to_aload_n (q := 28) rfl (by decide) dX10_fewestToBreak_27 rfl ?_
      refine to_getR (q := 31) (b := 81) (k0 := 10) (C := RX10) (T := TX10) (N := 17) (j := 5) rfl fx_X10_33 (h_0 hS) rfl (iv_0_5 hI) dX10_fewestToBreak_28 rfl ?_
      refine to_getI (q := 34) (k0 := 5) (C := RX5) (T := TX5) (N := 3) (j := 1) rfl fx_X10_233 (h_81 hS) rfl dX10_fewestToBreak_31 rfl ?_
      refine to_iand (q := 35) dX10_fewestToBreak_34 rfl ?_
      by_cases h3 : (x6 &&& (m.1 81 1)) = (0 : Int32)
      · have hf := ite_pos h3 hf
        refine to_ifF (q := 38) (op := .ne) 79 (fun z => z h3) dX10_fewestToBreak_35 rfl rfl ?_
        refine to_iload (q := 40) rfl dX10_fewestToBreak_38 rfl ?_
        obtain ⟨r6, m7, hc4, hf⟩ := cl2_some hf
        have qc5 := kJ6_bitCount_0f7a4 hS hc4 hI
        refine to_statI (q := 43) mJ6_bitCount_0f7a4 [.int x6] dX10_fewestToBreak_40 rfl rfl (Nat.le_of_ble_eq_true rfl) mo_J6_bitCount_0f7a4 (Or.inl ml_X10_263) sa_J6_bitCount_0f7a4 (Call_mono (by decide) qc5.1) ?_
        have hI := qc5.2
        refine to_iload (q := 45) rfl dX10_fewestToBreak_43 rfl ?_
        by_cases h8 : x5 ≤ r6
        · have hf := ite_pos h8 hf
          refine to_icT (q := 79) (op := .ge) h8 dX10_fewestToBreak_45 rfl ?_
          exact to_ext [(0, .ref 0), (1, .ref a1), (2, .int x2), (3, .int x3), (4, .int x4), (5, .int x5), (6, .int x6)] (ext_cons rfl (ext_cons rfl (ext_cons rfl (ext_cons rfl (ext_cons rfl (ext_cons rfl (ext_cons rfl ext_nil))))))) (kX10_fewestToBreak_79 hS ih hf (ha1) hI)
        · have hf := ite_neg h8 hf
          refine to_icF (q := 48) (op := .ge) 79 h8 dX10_fewestToBreak_45 rfl rfl ?_
          refine to_aload_n (q := 49) rfl (by decide) dX10_fewestToBreak_48 rfl ?_
          refine to_aload_n (q := 50) rfl (by decide) dX10_fewestToBreak_49 rfl ?_
          refine to_getR (q := 53) (b := 81) (k0 := 10) (C := RX10) (T := TX10) (N := 17) (j := 5) rfl fx_X10_33 (h_0 hS) rfl (iv_0_5 hI) dX10_fewestToBreak_50 rfl ?_
          refine to_getI (q := 56) (k0 := 5) (C := RX5) (T := TX5) (N := 3) (j := 1) rfl fx_X10_233 (h_81 hS) rfl dX10_fewestToBreak_53 rfl ?_
          refine to_iload (q := 58) rfl dX10_fewestToBreak_56 rfl ?_
          refine to_ior (q := 59) dX10_fewestToBreak_58 rfl ?_
          refine to_aload_n (q := 60) rfl (kd_4 (ha1) (by decide)) dX10_fewestToBreak_59 rfl ?_
          refine to_iload_n (q := 61) rfl dX10_fewestToBreak_60 rfl ?_
          refine to_iload_n (q := 62) rfl dX10_fewestToBreak_61 rfl ?_
          obtain ⟨r11, m12, hc9, hf⟩ := cl2_some hf
          have qc10 := kX10_isReadIf hS hc9 (ha1) hI
          refine to_virtI (q := 65) mX10_isReadIf [.int ((m7.1 81 1) ||| x6), .ref a1, .int x2, .int x3] dX10_fewestToBreak_62 rfl rfl (Nat.le_of_ble_eq_true rfl) mo_X10_isReadIf mv_X10_377 (Or.inl ⟨_, _, _, h_0 hS, rfl, rfl⟩) (Call_mono (by decide) qc10.1) ?_
          have hI := qc10.2
          by_cases h13 : r11 = (0 : Int32)
          · have hf := ite_pos h13 hf
            refine to_ifT (q := 79) (op := .eq) h13 dX10_fewestToBreak_65 rfl ?_
            exact to_ext [(0, .ref 0), (1, .ref a1), (2, .int x2), (3, .int x3), (4, .int x4), (5, .int x5), (6, .int x6)] (ext_cons rfl (ext_cons rfl (ext_cons rfl (ext_cons rfl (ext_cons rfl (ext_cons rfl (ext_cons rfl ext_nil))))))) (kX10_fewestToBreak_79 hS ih hf (ha1) hI)
          · have hf := ite_neg h13 hf
            refine to_ifF (q := 68) (op := .eq) 79 h13 dX10_fewestToBreak_65 rfl rfl ?_
            refine to_iload (q := 70) rfl dX10_fewestToBreak_68 rfl ?_
            refine to_istore (q := 72) [(4, .int x6), (0, .ref 0), (1, .ref a1), (2, .int x2), (3, .int x3), (5, .int x5), (6, .int x6)] rfl (by decide) dX10_fewestToBreak_70 rfl ?_
            refine to_iload (q := 74) rfl dX10_fewestToBreak_72 rfl ?_
            obtain ⟨r16, m17, hc14, hf⟩ := cl2_some hf
            have qc15 := kJ6_bitCount_0f7a4 hS hc14 hI
            refine to_statI (q := 77) mJ6_bitCount_0f7a4 [.int x6] dX10_fewestToBreak_74 rfl rfl (Nat.le_of_ble_eq_true rfl) mo_J6_bitCount_0f7a4 (Or.inl ml_X10_263) sa_J6_bitCount_0f7a4 (Call_mono (by decide) qc15.1) ?_
            have hI := qc15.2
            refine to_istore (q := 79) [(5, .int r16), (4, .int x6), (0, .ref 0), (1, .ref a1), (2, .int x2), (3, .int x3), (6, .int x6)] rfl (by decide) dX10_fewestToBreak_77 rfl ?_
            exact to_ext [(0, .ref 0), (1, .ref a1), (2, .int x2), (3, .int x3), (4, .int x6), (5, .int r16), (6, .int x6)] (ext_cons rfl (ext_cons rfl (ext_cons rfl (ext_cons rfl (ext_cons rfl (ext_cons rfl (ext_cons rfl ext_nil))))))) (kX10_fewestToBreak_79 hS ih hf (ha1) hI)
      · have hf := ite_neg h3 hf
        refine to_ifT (q := 79) (op := .ne) h3 dX10_fewestToBreak_35 rfl ?_
        exact to_ext [(0, .ref 0), (1, .ref a1), (2, .int x2), (3, .int x3), (4, .int x4), (5, .int x5), (6, .int x6)] (ext_cons rfl (ext_cons rfl (ext_cons rfl (ext_cons rfl (ext_cons rfl (ext_cons rfl (ext_cons rfl ext_nil))))))) (kX10_fewestToBreak_79 hS ih hf (ha1) hI)
def fX10_fewestToBreak (a1 : Nat) (x2 : Int32) (x3 : Int32) (m : Me) : Option (Int32 × Me) := fX10_fewestToBreak_11 FU a1 x2 x3 ((-2 : Int32)) ((11 : Int32)) ((0 : Int32)) m
set_option maxRecDepth 20000 in
theorem kX10_fewestToBreak {S : Sh} (hS : ShOK S) {res : Int32 × Me} {a1 : Nat} {x2 : Int32} {x3 : Int32} {m : Me} (hf : fX10_fewestToBreak a1 x2 x3 m = some res) (ha1 : kd a1 = 8) (hI : Inv m) : Call 6 mX10_fewestToBreak [.ref 0, .ref a1, .int x2, .int x3] (S, m) (some (.int res.1)) (S, res.2) ∧ Inv res.2 := by
  refine call_of (P := InvS) (Nat.le_of_ble_eq_true rfl) (by simp [Value.category]) ?_
  show TT InvS (Call 5) mX10_fewestToBreak (0, [(0, .ref 0), (1, .ref a1), (2, .int x2), (3, .int x3)], [], S, m) _ _
  unfold fX10_fewestToBreak at hf
  refine to_bipush (q := 2) bp_m2 dX10_fewestToBreak_0 rfl ?_
  refine to_istore (q := 4) [(4, .int (-2 : Int32)), (0, .ref 0), (1, .ref a1), (2, .int x2), (3, .int x3)] rfl (by decide) dX10_fewestToBreak_2 rfl ?_
  refine to_bipush (q := 6) bp_11 dX10_fewestToBreak_4 rfl ?_
  refine to_istore (q := 8) [(5, .int (11 : Int32)), (4, .int (-2 : Int32)), (0, .ref 0), (1, .ref a1), (2, .int x2), (3, .int x3)] rfl (by decide) dX10_fewestToBreak_6 rfl ?_
  refine to_iconst (q := 9) ic_0 dX10_fewestToBreak_8 rfl ?_
  refine to_istore (q := 11) [(6, .int (0 : Int32)), (5, .int (11 : Int32)), (4, .int (-2 : Int32)), (0, .ref 0), (1, .ref a1), (2, .int x2), (3, .int x3)] rfl (by decide) dX10_fewestToBreak_9 rfl ?_
  exact to_ext [(0, .ref 0), (1, .ref a1), (2, .int x2), (3, .int x3), (4, .int (-2 : Int32)), (5, .int (11 : Int32)), (6, .int (0 : Int32))] (ext_cons rfl (ext_cons rfl (ext_cons rfl (ext_cons rfl (ext_cons rfl (ext_cons rfl (ext_cons rfl ext_nil))))))) (kX10_fewestToBreak_11 hS FU hf (ha1) hI)
def fX10_sever_61 (t0 : Int32) (m : Me) : Option (Int32 × Me) := cl2 (fX10_answer t0 m) fun r24 m25 => some (r24, m25)
set_option maxRecDepth 20000 in
theorem kX10_sever_61 {S : Sh} (hS : ShOK S) {res : Int32 × Me} {t0 : Int32} {m : Me} (hf : fX10_sever_61 t0 m = some res) (hI : Inv m) : TT InvS (Call 6) mX10_sever (61, [], [.int t0, .ref 0], S, m) (some (.int res.1)) (S, res.2) := by
  unfold fX10_sever_61 at hf
  obtain ⟨r24, m25, hc22, hf⟩ := cl2_some hf
  have qc23 := kX10_answer hS hc22 hI
  refine to_virtI (q := 64) mX10_answer [.int t0] dX10_sever_61 rfl rfl (Nat.le_of_ble_eq_true rfl) mo_X10_answer mv_X10_135 (Or.inl ⟨_, _, _, h_0 hS, rfl, rfl⟩) (Call_mono (by decide) qc23.1) ?_
  have hI := qc23.2
  cases hf
  exact to_iret dX10_sever_64 rfl rfl rfl rfl hI
def fX10_sever_51 (x6 : Int32) (m : Me) : Option (Int32 × Me) := fX10_sever_61 x6 m
set_option maxRecDepth 20000 in
theorem kX10_sever_51 {S : Sh} (hS : ShOK S) {res : Int32 × Me} {x6 : Int32} {m : Me} (hf : fX10_sever_51 x6 m = some res) (hI : Inv m) : TT InvS (Call 6) mX10_sever (51, [(6, .int x6)], [.ref 0], S, m) (some (.int res.1)) (S, res.2) := by
  unfold fX10_sever_51 at hf
  refine to_iload (q := 53) rfl dX10_sever_51 rfl ?_
  refine to_goto (q := 61) dX10_sever_53 rfl ?_
  exact to_ext [] ext_nil (kX10_sever_61 hS hf hI)
def fX10_sever (x1 : Int32) (x2 : Int32) (x3 : Int32) (x4 : Int32) (m : Me) : Option (Int32 × Me) := cl2 (fX10_wrongReading x1 x2 x3 m) fun r3 m4 => if r3 = (0 : Int32) then ck (inb x1 6) (cl2 (fX10_fewestToBreak (rr m4 0 3 + 7 + 2 * x1.toNatClampNeg) x2 x3 m4) fun r10 m11 => if x4 = (0 : Int32) then if r10 = (-2 : Int32) then fX10_sever_51 r10 m11 else cl2 (fJ6_bitCount_0f7a4 r10 m11) fun r16 m17 => fX10_sever_61 r16 m17 else fX10_sever_51 r10 m11) else cl2 (fX10_refuse r3 m4) fun r20 m21 => some (r20, m21)
set_option maxRecDepth 20000 in
theorem kX10_sever {S : Sh} (hS : ShOK S) {res : Int32 × Me} {x1 : Int32} {x2 : Int32} {x3 : Int32} {x4 : Int32} {m : Me} (hf : fX10_sever x1 x2 x3 x4 m = some res) (hI : Inv m) : Call 7 mX10_sever [.ref 0, .int x1, .int x2, .int x3, .int x4] (S, m) (some (.int res.1)) (S, res.2) ∧ Inv res.2 := by
  refine call_of (P := InvS) (Nat.le_of_ble_eq_true rfl) (by simp [Value.category]) ?_
  show TT InvS (Call 6) mX10_sever (0, [(0, .ref 0), (1, .int x1), (2, .int x2), (3, .int x3), (4, .int x4)], [], S, m) _ _
  unfold fX10_sever at hf
  refine to_aload_n (q := 1) rfl (by decide) dX10_sever_0 rfl ?_
  refine to_iload_n (q := 2) rfl dX10_sever_1 rfl ?_
  refine to_iload_n (q := 3) rfl dX10_sever_2 rfl ?_
  refine to_iload_n (q := 4) rfl dX10_sever_3 rfl ?_
  obtain ⟨r3, m4, hc1, hf⟩ := cl2_some hf
  have qc2 := kX10_wrongReading hS hc1 hI
  refine to_virtI (q := 7) mX10_wrongReading [.int x1, .int x2, .int x3] dX10_sever_4 rfl rfl (Nat.le_of_ble_eq_true rfl) mo_X10_wrongReading mv_X10_199 (Or.inl ⟨_, _, _, h_0 hS, rfl, rfl⟩) (Call_mono (by decide) qc2.1) ?_
  have hI := qc2.2
  refine to_istore (q := 9) [(5, .int r3), (0, .ref 0), (1, .int x1), (2, .int x2), (3, .int x3), (4, .int x4)] rfl (by decide) dX10_sever_7 rfl ?_
  refine to_iload (q := 11) rfl dX10_sever_9 rfl ?_
  by_cases h5 : r3 = (0 : Int32)
  · have hf := ite_pos h5 hf
    refine to_ifT (q := 21) (op := .eq) h5 dX10_sever_11 rfl ?_
    refine to_aload_n (q := 22) rfl (by decide) dX10_sever_21 rfl ?_
    refine to_aload_n (q := 23) rfl (by decide) dX10_sever_22 rfl ?_
    have hk6 : kd (rr m4 0 3) = 2 := (ivT hI).2
    refine to_getR (q := 26) (b := rr m4 0 3) (k0 := 10) (C := RX10) (T := TX10) (N := 17) (j := 3) rfl fx_X10_26 (h_0 hS) rfl ((ivT hI).1) dX10_sever_23 rfl ?_
    refine to_getR (q := 29) (b := (rr m4 0 3) + 3) (k0 := 2) (C := RX2) (T := TX2) (N := 14) (j := 6) rfl fx_X10_202 (sh_kd hS hk6 (by decide)) rfl (iv2w hI (hk6)) dX10_sever_26 rfl ?_
    refine to_iload_n (q := 30) rfl dX10_sever_29 rfl ?_
    obtain ⟨hb7, hf⟩ := ck_some hf
    refine to_aald (q := 31) (b := rr m4 0 3 + 7 + 2 * x1.toNatClampNeg) (sh_ln hS (kd2w (hk6)) (by decide)) (by decide) hb7 (ivW hI (hk6) hb7) dX10_sever_30 rfl ?_
    refine to_iload_n (q := 32) rfl dX10_sever_31 rfl ?_
    refine to_iload_n (q := 33) rfl dX10_sever_32 rfl ?_
    obtain ⟨r10, m11, hc8, hf⟩ := cl2_some hf
    have qc9 := kX10_fewestToBreak hS hc8 (kdW (hk6) hb7) hI
    refine to_virtI (q := 36) mX10_fewestToBreak [.ref (rr m4 0 3 + 7 + 2 * x1.toNatClampNeg), .int x2, .int x3] dX10_sever_33 rfl rfl (Nat.le_of_ble_eq_true rfl) mo_X10_fewestToBreak mv_X10_259 (Or.inl ⟨_, _, _, h_0 hS, rfl, rfl⟩) (Call_mono (by decide) qc9.1) ?_
    have hI := qc9.2
    refine to_istore (q := 38) [(6, .int r10), (5, .int r3), (0, .ref 0), (1, .int x1), (2, .int x2), (3, .int x3), (4, .int x4)] rfl (by decide) dX10_sever_36 rfl ?_
    refine to_aload_n (q := 39) rfl (by decide) dX10_sever_38 rfl ?_
    refine to_iload (q := 41) rfl dX10_sever_39 rfl ?_
    by_cases h12 : x4 = (0 : Int32)
    · have hf := ite_pos h12 hf
      refine to_ifF (q := 44) (op := .ne) 51 (fun z => z h12) dX10_sever_41 rfl rfl ?_
      refine to_iload (q := 46) rfl dX10_sever_44 rfl ?_
      refine to_bipush (q := 48) bp_m2 dX10_sever_46 rfl ?_
      by_cases h13 : r10 = (-2 : Int32)
      · have hf := ite_pos h13 hf
        refine to_icF (q := 51) (op := .ne) 56 (fun z => z h13) dX10_sever_48 rfl rfl ?_
        exact to_ext [(6, .int r10)] (ext_cons rfl ext_nil) (kX10_sever_51 hS hf hI)
      · have hf := ite_neg h13 hf
        refine to_icT (q := 56) (op := .ne) h13 dX10_sever_48 rfl ?_
        refine to_iload (q := 58) rfl dX10_sever_56 rfl ?_
        obtain ⟨r16, m17, hc14, hf⟩ := cl2_some hf
        have qc15 := kJ6_bitCount_0f7a4 hS hc14 hI
        refine to_statI (q := 61) mJ6_bitCount_0f7a4 [.int r10] dX10_sever_58 rfl rfl (Nat.le_of_ble_eq_true rfl) mo_J6_bitCount_0f7a4 (Or.inl ml_X10_263) sa_J6_bitCount_0f7a4 (Call_mono (by decide) qc15.1) ?_
        have hI := qc15.2
        exact to_ext [] ext_nil (kX10_sever_61 hS hf hI)
    · have hf := ite_neg h12 hf
      refine to_ifT (q := 51) (op := .ne) h12 dX10_sever_41 rfl ?_
      exact to_ext [(6, .int r10)] (ext_cons rfl ext_nil) (kX10_sever_51 hS hf hI)
  · have hf := ite_neg h5 hf
    refine to_ifF (q := 14) (op := .eq) 21 h5 dX10_sever_11 rfl rfl ?_
    refine to_aload_n (q := 15) rfl (by decide) dX10_sever_14 rfl ?_
    refine to_iload (q := 17) rfl dX10_sever_15 rfl ?_
    obtain ⟨r20, m21, hc18, hf⟩ := cl2_some hf
    have qc19 := kX10_refuse hS hc18 hI
    refine to_virtI (q := 20) mX10_refuse [.int r3] dX10_sever_17 rfl rfl (Nat.le_of_ble_eq_true rfl) mo_X10_refuse mv_X10_98 (Or.inl ⟨_, _, _, h_0 hS, rfl, rfl⟩) (Call_mono (by decide) qc19.1) ?_
    have hI := qc19.2
    cases hf
    exact to_iret dX10_sever_20 rfl rfl rfl rfl hI
def fX10_pack_75 (t0 : Int32) (m : Me) : Option (Int32 × Me) := cl2 (fX10_answer t0 m) fun r24 m25 => some (r24, m25)
set_option maxRecDepth 20000 in
theorem kX10_pack_75 {S : Sh} (hS : ShOK S) {res : Int32 × Me} {t0 : Int32} {m : Me} (hf : fX10_pack_75 t0 m = some res) (hI : Inv m) : TT InvS (Call 4) mX10_pack (75, [], [.int t0, .ref 0], S, m) (some (.int res.1)) (S, res.2) := by
  unfold fX10_pack_75 at hf
  obtain ⟨r24, m25, hc22, hf⟩ := cl2_some hf
  have qc23 := kX10_answer hS hc22 hI
  refine to_virtI (q := 78) mX10_answer [.int t0] dX10_pack_75 rfl rfl (Nat.le_of_ble_eq_true rfl) mo_X10_answer mv_X10_135 (Or.inl ⟨_, _, _, h_0 hS, rfl, rfl⟩) (Call_mono (by decide) qc23.1) ?_
  have hI := qc23.2
  cases hf
  exact to_iret dX10_pack_78 rfl rfl rfl rfl hI
def fX10_pack_16 (m : Me) : Option (Int32 × Me) := cl2 (fX10_refuse (1 : Int32) m) fun r20 m21 => some (r20, m21)
set_option maxRecDepth 20000 in
theorem kX10_pack_16 {S : Sh} (hS : ShOK S) {res : Int32 × Me} {m : Me} (hf : fX10_pack_16 m = some res) (hI : Inv m) : TT InvS (Call 4) mX10_pack (16, [(0, .ref 0)], [], S, m) (some (.int res.1)) (S, res.2) := by
  unfold fX10_pack_16 at hf
  refine to_aload_n (q := 17) rfl (by decide) dX10_pack_16 rfl ?_
  refine to_iconst (q := 18) ic_1 dX10_pack_17 rfl ?_
  obtain ⟨r20, m21, hc18, hf⟩ := cl2_some hf
  have qc19 := kX10_refuse hS hc18 hI
  refine to_virtI (q := 21) mX10_refuse [.int (1 : Int32)] dX10_pack_18 rfl rfl (Nat.le_of_ble_eq_true rfl) mo_X10_refuse mv_X10_98 (Or.inl ⟨_, _, _, h_0 hS, rfl, rfl⟩) (Call_mono (by decide) qc19.1) ?_
  have hI := qc19.2
  cases hf
  exact to_iret dX10_pack_21 rfl rfl rfl rfl hI
def fX10_pack (x1 : Int32) (m : Me) : Option (Int32 × Me) := if (m.1 0 4) = (0 : Int32) then fX10_pack_16 m else if x1 < (0 : Int32) then fX10_pack_16 m else if x1 ≤ (2 : Int32) then cl1 (fX4_packWords (rr m 0 3) m) fun m7 => if x1 = (0 : Int32) then cl2 (fJ6_bitCount_0f7a4 (m7.1 123 3) m7) fun r12 m13 => cl2 (fX10_answer r12 m13) fun r16 m17 => some (r16, m17) else if x1 = (1 : Int32) then fX10_pack_75 ((m7.1 123 3)) m7 else fX10_pack_75 ((m7.1 123 4)) m7 else fX10_pack_16 m
set_option maxRecDepth 20000 in
theorem kX10_pack {S : Sh} (hS : ShOK S) {res : Int32 × Me} {x1 : Int32} {m : Me} (hf : fX10_pack x1 m = some res) (hI : Inv m) : Call 5 mX10_pack [.ref 0, .int x1] (S, m) (some (.int res.1)) (S, res.2) ∧ Inv res.2 := by
  refine call_of (P := InvS) (Nat.le_of_ble_eq_true rfl) (by simp [Value.category]) ?_
  show TT InvS (Call 4) mX10_pack (0, [(0, .ref 0), (1, .int x1)], [], S, m) _ _
  unfold fX10_pack at hf
  refine to_aload_n (q := 1) rfl (by decide) dX10_pack_0 rfl ?_
  refine to_getI (q := 4) (k0 := 10) (C := RX10) (T := TX10) (N := 17) (j := 4) rfl fx_X10_110 (h_0 hS) rfl dX10_pack_1 rfl ?_
  by_cases h1 : (m.1 0 4) = (0 : Int32)
  · have hf := ite_pos h1 hf
    refine to_ifT (q := 16) (op := .eq) h1 dX10_pack_4 rfl ?_
    exact to_ext [(0, .ref 0)] (ext_cons rfl ext_nil) (kX10_pack_16 hS hf hI)
  · have hf := ite_neg h1 hf
    refine to_ifF (q := 7) (op := .eq) 16 h1 dX10_pack_4 rfl rfl ?_
    refine to_iload_n (q := 8) rfl dX10_pack_7 rfl ?_
    by_cases h2 : x1 < (0 : Int32)
    · have hf := ite_pos h2 hf
      refine to_ifT (q := 16) (op := .lt) h2 dX10_pack_8 rfl ?_
      exact to_ext [(0, .ref 0)] (ext_cons rfl ext_nil) (kX10_pack_16 hS hf hI)
    · have hf := ite_neg h2 hf
      refine to_ifF (q := 11) (op := .lt) 16 h2 dX10_pack_8 rfl rfl ?_
      refine to_iload_n (q := 12) rfl dX10_pack_11 rfl ?_
      refine to_iconst (q := 13) ic_2 dX10_pack_12 rfl ?_
      by_cases h3 : x1 ≤ (2 : Int32)
      · have hf := ite_pos h3 hf
        refine to_icT (q := 22) (op := .le) h3 dX10_pack_13 rfl ?_
        refine to_aload_n (q := 23) rfl (by decide) dX10_pack_22 rfl ?_
        refine to_getR (q := 26) (b := 123) (k0 := 10) (C := RX10) (T := TX10) (N := 17) (j := 13) rfl fx_X10_75 (h_0 hS) rfl (iv_0_13 hI) dX10_pack_23 rfl ?_
        refine to_aload_n (q := 27) rfl (by decide) dX10_pack_26 rfl ?_
        have hk4 : kd (rr m 0 3) = 2 := (ivT hI).2
        refine to_getR (q := 30) (b := rr m 0 3) (k0 := 10) (C := RX10) (T := TX10) (N := 17) (j := 3) rfl fx_X10_26 (h_0 hS) rfl ((ivT hI).1) dX10_pack_27 rfl ?_
        obtain ⟨m7, hc5, hf⟩ := cl1_some hf
        have qc6 := kX4_packWords hS hc5 (hk4) hI
        refine to_virtV (q := 33) mX4_packWords [.ref (rr m 0 3)] dX10_pack_30 rfl rfl (Nat.le_of_ble_eq_true rfl) mo_X4_packWords mv_X10_268 (Or.inl ⟨_, _, _, h_123 hS, rfl, rfl⟩) (Call_mono (by decide) qc6.1) ?_
        have hI := qc6.2
        refine to_iload_n (q := 34) rfl dX10_pack_33 rfl ?_
        by_cases h8 : x1 = (0 : Int32)
        · have hf := ite_pos h8 hf
          refine to_ifF (q := 37) (op := .ne) 52 (fun z => z h8) dX10_pack_34 rfl rfl ?_
          refine to_aload_n (q := 38) rfl (by decide) dX10_pack_37 rfl ?_
          refine to_aload_n (q := 39) rfl (by decide) dX10_pack_38 rfl ?_
          refine to_getR (q := 42) (b := 123) (k0 := 10) (C := RX10) (T := TX10) (N := 17) (j := 13) rfl fx_X10_75 (h_0 hS) rfl (iv_0_13 hI) dX10_pack_39 rfl ?_
          refine to_getI (q := 45) (k0 := 4) (C := RX4) (T := TX4) (N := 5) (j := 3) rfl fx_X10_272 (h_123 hS) rfl dX10_pack_42 rfl ?_
          obtain ⟨r12, m13, hc10, hf⟩ := cl2_some hf
          have qc11 := kJ6_bitCount_0f7a4 hS hc10 hI
          refine to_statI (q := 48) mJ6_bitCount_0f7a4 [.int (m7.1 123 3)] dX10_pack_45 rfl rfl (Nat.le_of_ble_eq_true rfl) mo_J6_bitCount_0f7a4 (Or.inl ml_X10_263) sa_J6_bitCount_0f7a4 (Call_mono (by decide) qc11.1) ?_
          have hI := qc11.2
          obtain ⟨r16, m17, hc14, hf⟩ := cl2_some hf
          have qc15 := kX10_answer hS hc14 hI
          refine to_virtI (q := 51) mX10_answer [.int r12] dX10_pack_48 rfl rfl (Nat.le_of_ble_eq_true rfl) mo_X10_answer mv_X10_135 (Or.inl ⟨_, _, _, h_0 hS, rfl, rfl⟩) (Call_mono (by decide) qc15.1) ?_
          have hI := qc15.2
          cases hf
          exact to_iret dX10_pack_51 rfl rfl rfl rfl hI
        · have hf := ite_neg h8 hf
          refine to_ifT (q := 52) (op := .ne) h8 dX10_pack_34 rfl ?_
          refine to_aload_n (q := 53) rfl (by decide) dX10_pack_52 rfl ?_
          refine to_iload_n (q := 54) rfl dX10_pack_53 rfl ?_
          refine to_iconst (q := 55) ic_1 dX10_pack_54 rfl ?_
          by_cases h9 : x1 = (1 : Int32)
          · have hf := ite_pos h9 hf
            refine to_icF (q := 58) (op := .ne) 68 (fun z => z h9) dX10_pack_55 rfl rfl ?_
            refine to_aload_n (q := 59) rfl (by decide) dX10_pack_58 rfl ?_
            refine to_getR (q := 62) (b := 123) (k0 := 10) (C := RX10) (T := TX10) (N := 17) (j := 13) rfl fx_X10_75 (h_0 hS) rfl (iv_0_13 hI) dX10_pack_59 rfl ?_
            refine to_getI (q := 65) (k0 := 4) (C := RX4) (T := TX4) (N := 5) (j := 3) rfl fx_X10_272 (h_123 hS) rfl dX10_pack_62 rfl ?_
            refine to_goto (q := 75) dX10_pack_65 rfl ?_
            exact to_ext [] ext_nil (kX10_pack_75 hS hf hI)
          · have hf := ite_neg h9 hf
            refine to_icT (q := 68) (op := .ne) h9 dX10_pack_55 rfl ?_
            refine to_aload_n (q := 69) rfl (by decide) dX10_pack_68 rfl ?_
            refine to_getR (q := 72) (b := 123) (k0 := 10) (C := RX10) (T := TX10) (N := 17) (j := 13) rfl fx_X10_75 (h_0 hS) rfl (iv_0_13 hI) dX10_pack_69 rfl ?_
            refine to_getI (q := 75) (k0 := 4) (C := RX4) (T := TX4) (N := 5) (j := 4) rfl fx_X10_275 (h_123 hS) rfl dX10_pack_72 rfl ?_
            exact to_ext [] ext_nil (kX10_pack_75 hS hf hI)
      · have hf := ite_neg h3 hf
        refine to_icF (q := 16) (op := .le) 22 h3 dX10_pack_13 rfl rfl ?_
        exact to_ext [(0, .ref 0)] (ext_cons rfl ext_nil) (kX10_pack_16 hS hf hI)
def fX10_clash_26 (t0 : Int32) (m : Me) : Option (Int32 × Me) := some (t0, m)
set_option maxRecDepth 20000 in
theorem kX10_clash_26 {S : Sh} (hS : ShOK S) {res : Int32 × Me} {t0 : Int32} {m : Me} (hf : fX10_clash_26 t0 m = some res) (hI : Inv m) : TT InvS (Call 1) mX10_clash (26, [], [.int t0], S, m) (some (.int res.1)) (S, res.2) := by
  unfold fX10_clash_26 at hf
  cases hf
  exact to_iret dX10_clash_26 rfl rfl rfl rfl hI
def fX10_clash (m : Me) : Option (Int32 × Me) := if (m.1 0 4) = (0 : Int32) then cl2 (fX10_refuse (1 : Int32) m) fun r4 m5 => fX10_clash_26 r4 m5 else cl2 (fX10_answer (m.1 94 1) m) fun r8 m9 => fX10_clash_26 r8 m9
set_option maxRecDepth 20000 in
theorem kX10_clash {S : Sh} (hS : ShOK S) {res : Int32 × Me} {m : Me} (hf : fX10_clash m = some res) (hI : Inv m) : Call 2 mX10_clash [.ref 0] (S, m) (some (.int res.1)) (S, res.2) ∧ Inv res.2 := by
  refine call_of (P := InvS) (Nat.le_of_ble_eq_true rfl) (by simp [Value.category]) ?_
  show TT InvS (Call 1) mX10_clash (0, [(0, .ref 0)], [], S, m) _ _
  unfold fX10_clash at hf
  refine to_aload_n (q := 1) rfl (by decide) dX10_clash_0 rfl ?_
  refine to_getI (q := 4) (k0 := 10) (C := RX10) (T := TX10) (N := 17) (j := 4) rfl fx_X10_110 (h_0 hS) rfl dX10_clash_1 rfl ?_
  by_cases h1 : (m.1 0 4) = (0 : Int32)
  · have hf := ite_pos h1 hf
    refine to_ifT (q := 21) (op := .eq) h1 dX10_clash_4 rfl ?_
    refine to_aload_n (q := 22) rfl (by decide) dX10_clash_21 rfl ?_
    refine to_iconst (q := 23) ic_1 dX10_clash_22 rfl ?_
    obtain ⟨r4, m5, hc2, hf⟩ := cl2_some hf
    have qc3 := kX10_refuse hS hc2 hI
    refine to_virtI (q := 26) mX10_refuse [.int (1 : Int32)] dX10_clash_23 rfl rfl (Nat.le_of_ble_eq_true rfl) mo_X10_refuse mv_X10_98 (Or.inl ⟨_, _, _, h_0 hS, rfl, rfl⟩) (Call_mono (by decide) qc3.1) ?_
    have hI := qc3.2
    exact to_ext [] ext_nil (kX10_clash_26 hS hf hI)
  · have hf := ite_neg h1 hf
    refine to_ifF (q := 7) (op := .eq) 21 h1 dX10_clash_4 rfl rfl ?_
    refine to_aload_n (q := 8) rfl (by decide) dX10_clash_7 rfl ?_
    refine to_aload_n (q := 9) rfl (by decide) dX10_clash_8 rfl ?_
    refine to_getR (q := 12) (b := 94) (k0 := 10) (C := RX10) (T := TX10) (N := 17) (j := 11) rfl fx_X10_61 (h_0 hS) rfl (iv_0_11 hI) dX10_clash_9 rfl ?_
    refine to_getI (q := 15) (k0 := 9) (C := RX9) (T := TX9) (N := 2) (j := 1) rfl fx_X10_278 (h_94 hS) rfl dX10_clash_12 rfl ?_
    obtain ⟨r8, m9, hc6, hf⟩ := cl2_some hf
    have qc7 := kX10_answer hS hc6 hI
    refine to_virtI (q := 18) mX10_answer [.int (m.1 94 1)] dX10_clash_15 rfl rfl (Nat.le_of_ble_eq_true rfl) mo_X10_answer mv_X10_135 (Or.inl ⟨_, _, _, h_0 hS, rfl, rfl⟩) (Call_mono (by decide) qc7.1) ?_
    have hI := qc7.2
    refine to_goto (q := 26) dX10_clash_18 rfl ?_
    exact to_ext [] ext_nil (kX10_clash_26 hS hf hI)
def fX10_sure_55 (t0 : Int32) (m : Me) : Option (Int32 × Me) := cl2 (fX10_answer t0 m) fun r22 m23 => some (r22, m23)
set_option maxRecDepth 20000 in
theorem kX10_sure_55 {S : Sh} (hS : ShOK S) {res : Int32 × Me} {t0 : Int32} {m : Me} (hf : fX10_sure_55 t0 m = some res) (hI : Inv m) : TT InvS (Call 2) mX10_sure (55, [], [.int t0, .ref 0], S, m) (some (.int res.1)) (S, res.2) := by
  unfold fX10_sure_55 at hf
  obtain ⟨r22, m23, hc20, hf⟩ := cl2_some hf
  have qc21 := kX10_answer hS hc20 hI
  refine to_virtI (q := 58) mX10_answer [.int t0] dX10_sure_55 rfl rfl (Nat.le_of_ble_eq_true rfl) mo_X10_answer mv_X10_135 (Or.inl ⟨_, _, _, h_0 hS, rfl, rfl⟩) (Call_mono (by decide) qc21.1) ?_
  have hI := qc21.2
  cases hf
  exact to_iret dX10_sure_58 rfl rfl rfl rfl hI
def fX10_sure (x1 : Int32) (x2 : Int32) (x3 : Int32) (m : Me) : Option (Int32 × Me) := cl2 (fX10_noCell x1 x2 x3 m) fun r3 m4 => if r3 = (0 : Int32) then cl2 (fX9_sureLetter x1 ((((m4.1 (rr m4 0 3) 1) * x2) + x3)) m4) fun r9 m10 => if r9 = (-3 : Int32) then fX10_sure_55 ((-3 : Int32)) m10 else cl2 (fX10_letterOrBare r9 m10) fun r14 m15 => fX10_sure_55 r14 m15 else cl2 (fX10_refuse (1 : Int32) m4) fun r18 m19 => some (r18, m19)
set_option maxRecDepth 20000 in
theorem kX10_sure {S : Sh} (hS : ShOK S) {res : Int32 × Me} {x1 : Int32} {x2 : Int32} {x3 : Int32} {m : Me} (hf : fX10_sure x1 x2 x3 m = some res) (hI : Inv m) : Call 3 mX10_sure [.ref 0, .int x1, .int x2, .int x3] (S, m) (some (.int res.1)) (S, res.2) ∧ Inv res.2 := by
  refine call_of (P := InvS) (Nat.le_of_ble_eq_true rfl) (by simp [Value.category]) ?_
  show TT InvS (Call 2) mX10_sure (0, [(0, .ref 0), (1, .int x1), (2, .int x2), (3, .int x3)], [], S, m) _ _
  unfold fX10_sure at hf
  refine to_aload_n (q := 1) rfl (by decide) dX10_sure_0 rfl ?_
  refine to_iload_n (q := 2) rfl dX10_sure_1 rfl ?_
  refine to_iload_n (q := 3) rfl dX10_sure_2 rfl ?_
  refine to_iload_n (q := 4) rfl dX10_sure_3 rfl ?_
  obtain ⟨r3, m4, hc1, hf⟩ := cl2_some hf
  have qc2 := kX10_noCell hS hc1 hI
  refine to_virtI (q := 7) mX10_noCell [.int x1, .int x2, .int x3] dX10_sure_4 rfl rfl (Nat.le_of_ble_eq_true rfl) mo_X10_noCell mv_X10_147 (Or.inl ⟨_, _, _, h_0 hS, rfl, rfl⟩) (Call_mono (by decide) qc2.1) ?_
  have hI := qc2.2
  by_cases h5 : r3 = (0 : Int32)
  · have hf := ite_pos h5 hf
    refine to_ifT (q := 16) (op := .eq) h5 dX10_sure_7 rfl ?_
    refine to_aload_n (q := 17) rfl (by decide) dX10_sure_16 rfl ?_
    refine to_getR (q := 20) (b := 94) (k0 := 10) (C := RX10) (T := TX10) (N := 17) (j := 11) rfl fx_X10_61 (h_0 hS) rfl (iv_0_11 hI) dX10_sure_17 rfl ?_
    refine to_iload_n (q := 21) rfl dX10_sure_20 rfl ?_
    refine to_aload_n (q := 22) rfl (by decide) dX10_sure_21 rfl ?_
    have hk6 : kd (rr m4 0 3) = 2 := (ivT hI).2
    refine to_getR (q := 25) (b := rr m4 0 3) (k0 := 10) (C := RX10) (T := TX10) (N := 17) (j := 3) rfl fx_X10_26 (h_0 hS) rfl ((ivT hI).1) dX10_sure_22 rfl ?_
    refine to_getI (q := 28) (k0 := 2) (C := RX2) (T := TX2) (N := 14) (j := 1) rfl fx_X10_151 (sh_kd hS hk6 (by decide)) rfl dX10_sure_25 rfl ?_
    refine to_iload_n (q := 29) rfl dX10_sure_28 rfl ?_
    refine to_imul (q := 30) dX10_sure_29 rfl ?_
    refine to_iload_n (q := 31) rfl dX10_sure_30 rfl ?_
    refine to_iadd (q := 32) dX10_sure_31 rfl ?_
    obtain ⟨r9, m10, hc7, hf⟩ := cl2_some hf
    have qc8 := kX9_sureLetter hS hc7 hI
    refine to_virtI (q := 35) mX9_sureLetter [.int x1, .int (((m4.1 (rr m4 0 3) 1) * x2) + x3)] dX10_sure_32 rfl rfl (Nat.le_of_ble_eq_true rfl) mo_X9_sureLetter mv_X10_281 (Or.inl ⟨_, _, _, h_94 hS, rfl, rfl⟩) (Call_mono (by decide) qc8.1) ?_
    have hI := qc8.2
    refine to_istore (q := 37) [(4, .int r9), (0, .ref 0), (1, .int x1), (2, .int x2), (3, .int x3)] rfl (by decide) dX10_sure_35 rfl ?_
    refine to_aload_n (q := 38) rfl (by decide) dX10_sure_37 rfl ?_
    refine to_iload (q := 40) rfl dX10_sure_38 rfl ?_
    refine to_bipush (q := 42) bp_m3 dX10_sure_40 rfl ?_
    by_cases h11 : r9 = (-3 : Int32)
    · have hf := ite_pos h11 hf
      refine to_icF (q := 45) (op := .ne) 50 (fun z => z h11) dX10_sure_42 rfl rfl ?_
      refine to_bipush (q := 47) bp_m3 dX10_sure_45 rfl ?_
      refine to_goto (q := 55) dX10_sure_47 rfl ?_
      exact to_ext [] ext_nil (kX10_sure_55 hS hf hI)
    · have hf := ite_neg h11 hf
      refine to_icT (q := 50) (op := .ne) h11 dX10_sure_42 rfl ?_
      refine to_iload (q := 52) rfl dX10_sure_50 rfl ?_
      obtain ⟨r14, m15, hc12, hf⟩ := cl2_some hf
      have qc13 := kX10_letterOrBare hS hc12 hI
      refine to_statI (q := 55) mX10_letterOrBare [.int r9] dX10_sure_52 rfl rfl (Nat.le_of_ble_eq_true rfl) mo_X10_letterOrBare (Or.inl ml_X10_158) sa_X10_letterOrBare (Call_mono (by decide) qc13.1) ?_
      have hI := qc13.2
      exact to_ext [] ext_nil (kX10_sure_55 hS hf hI)
  · have hf := ite_neg h5 hf
    refine to_ifF (q := 10) (op := .eq) 16 h5 dX10_sure_7 rfl rfl ?_
    refine to_aload_n (q := 11) rfl (by decide) dX10_sure_10 rfl ?_
    refine to_iconst (q := 12) ic_1 dX10_sure_11 rfl ?_
    obtain ⟨r18, m19, hc16, hf⟩ := cl2_some hf
    have qc17 := kX10_refuse hS hc16 hI
    refine to_virtI (q := 15) mX10_refuse [.int (1 : Int32)] dX10_sure_12 rfl rfl (Nat.le_of_ble_eq_true rfl) mo_X10_refuse mv_X10_98 (Or.inl ⟨_, _, _, h_0 hS, rfl, rfl⟩) (Call_mono (by decide) qc17.1) ?_
    have hI := qc17.2
    cases hf
    exact to_iret dX10_sure_15 rfl rfl rfl rfl hI
def fX10_sureCells_26 (t0 : Int32) (m : Me) : Option (Int32 × Me) := some (t0, m)
set_option maxRecDepth 20000 in
theorem kX10_sureCells_26 {S : Sh} (hS : ShOK S) {res : Int32 × Me} {t0 : Int32} {m : Me} (hf : fX10_sureCells_26 t0 m = some res) (hI : Inv m) : TT InvS (Call 1) mX10_sureCells (26, [], [.int t0], S, m) (some (.int res.1)) (S, res.2) := by
  unfold fX10_sureCells_26 at hf
  cases hf
  exact to_iret dX10_sureCells_26 rfl rfl rfl rfl hI
def fX10_sureCells (m : Me) : Option (Int32 × Me) := if (m.1 0 4) = (0 : Int32) then cl2 (fX10_refuse (1 : Int32) m) fun r4 m5 => fX10_sureCells_26 r4 m5 else cl2 (fX9_countSure m) fun r8 m9 => cl2 (fX10_answer r8 m9) fun r12 m13 => fX10_sureCells_26 r12 m13
set_option maxRecDepth 20000 in
theorem kX10_sureCells {S : Sh} (hS : ShOK S) {res : Int32 × Me} {m : Me} (hf : fX10_sureCells m = some res) (hI : Inv m) : Call 2 mX10_sureCells [.ref 0] (S, m) (some (.int res.1)) (S, res.2) ∧ Inv res.2 := by
  refine call_of (P := InvS) (Nat.le_of_ble_eq_true rfl) (by simp [Value.category]) ?_
  show TT InvS (Call 1) mX10_sureCells (0, [(0, .ref 0)], [], S, m) _ _
  unfold fX10_sureCells at hf
  refine to_aload_n (q := 1) rfl (by decide) dX10_sureCells_0 rfl ?_
  refine to_getI (q := 4) (k0 := 10) (C := RX10) (T := TX10) (N := 17) (j := 4) rfl fx_X10_110 (h_0 hS) rfl dX10_sureCells_1 rfl ?_
  by_cases h1 : (m.1 0 4) = (0 : Int32)
  · have hf := ite_pos h1 hf
    refine to_ifT (q := 21) (op := .eq) h1 dX10_sureCells_4 rfl ?_
    refine to_aload_n (q := 22) rfl (by decide) dX10_sureCells_21 rfl ?_
    refine to_iconst (q := 23) ic_1 dX10_sureCells_22 rfl ?_
    obtain ⟨r4, m5, hc2, hf⟩ := cl2_some hf
    have qc3 := kX10_refuse hS hc2 hI
    refine to_virtI (q := 26) mX10_refuse [.int (1 : Int32)] dX10_sureCells_23 rfl rfl (Nat.le_of_ble_eq_true rfl) mo_X10_refuse mv_X10_98 (Or.inl ⟨_, _, _, h_0 hS, rfl, rfl⟩) (Call_mono (by decide) qc3.1) ?_
    have hI := qc3.2
    exact to_ext [] ext_nil (kX10_sureCells_26 hS hf hI)
  · have hf := ite_neg h1 hf
    refine to_ifF (q := 7) (op := .eq) 21 h1 dX10_sureCells_4 rfl rfl ?_
    refine to_aload_n (q := 8) rfl (by decide) dX10_sureCells_7 rfl ?_
    refine to_aload_n (q := 9) rfl (by decide) dX10_sureCells_8 rfl ?_
    refine to_getR (q := 12) (b := 94) (k0 := 10) (C := RX10) (T := TX10) (N := 17) (j := 11) rfl fx_X10_61 (h_0 hS) rfl (iv_0_11 hI) dX10_sureCells_9 rfl ?_
    obtain ⟨r8, m9, hc6, hf⟩ := cl2_some hf
    have qc7 := kX9_countSure hS hc6 hI
    refine to_virtI (q := 15) mX9_countSure [] dX10_sureCells_12 rfl rfl (Nat.le_of_ble_eq_true rfl) mo_X9_countSure mv_X10_284 (Or.inl ⟨_, _, _, h_94 hS, rfl, rfl⟩) (Call_mono (by decide) qc7.1) ?_
    have hI := qc7.2
    obtain ⟨r12, m13, hc10, hf⟩ := cl2_some hf
    have qc11 := kX10_answer hS hc10 hI
    refine to_virtI (q := 18) mX10_answer [.int r8] dX10_sureCells_15 rfl rfl (Nat.le_of_ble_eq_true rfl) mo_X10_answer mv_X10_135 (Or.inl ⟨_, _, _, h_0 hS, rfl, rfl⟩) (Call_mono (by decide) qc11.1) ?_
    have hI := qc11.2
    refine to_goto (q := 26) dX10_sureCells_18 rfl ?_
    exact to_ext [] ext_nil (kX10_sureCells_26 hS hf hI)
def fX10_fits_15 (n : Nat) (x1 : Int32) (m : Me) : Option (Int32 × Me) := match n with
  | 0 => none
  | n + 1 => if (m.1 (rr m 0 3) 11) ≤ x1 then cl2 (fX10_answer (1 : Int32) m) fun r10 m11 => some (r10, m11) else ck (inb x1 6) (cl1 (fX7_look 88 (rr m 0 3) 81 (0 : Int32) ((m.1 (rr m 0 3 + 27 + 2 * x1.toNatClampNeg) 2)) ((m.1 (rr m 0 3 + 27 + 2 * x1.toNatClampNeg) 3)) m) fun m17 => cl2 (fX7_strangeAt 88 (rr m 0 3 + 27 + 2 * x1.toNatClampNeg) ((m17.1 (rr m 0 3 + 27 + 2 * x1.toNatClampNeg) 4)) m17) fun r20 m21 => if r20 = (0 : Int32) then fX10_fits_15 n ((x1 + (1 : Int32))) m21 else cl2 (fX10_answer (0 : Int32) m21) fun r25 m26 => some (r25, m26))
set_option maxRecDepth 20000 in
theorem kX10_fits_15 {S : Sh} (hS : ShOK S) {res : Int32 × Me} (n : Nat) : ∀ {x1 : Int32} {m : Me}, fX10_fits_15 n x1 m = some res → Inv m → TT InvS (Call 4) mX10_fits (15, [(0, .ref 0), (1, .int x1)], [], S, m) (some (.int res.1)) (S, res.2) := by
  induction n with
  | zero => intro x1 m hf; cases hf
  | succ n ih =>
    intro x1 m hf  hI
    unfold fX10_fits_15 at hf
    refine to_iload_n (q := 16) rfl dX10_fits_15 rfl ?_
    refine to_aload_n (q := 17) rfl (by decide) dX10_fits_16 rfl ?_
    have hk6 : kd (rr m 0 3) = 2 := (ivT hI).2
    refine to_getR (q := 20) (b := rr m 0 3) (k0 := 10) (C := RX10) (T := TX10) (N := 17) (j := 3) rfl fx_X10_26 (h_0 hS) rfl ((ivT hI).1) dX10_fits_17 rfl ?_
    refine to_getI (q := 23) (k0 := 2) (C := RX2) (T := TX2) (N := 14) (j := 11) rfl fx_X10_287 (sh_kd hS hk6 (by decide)) rfl dX10_fits_20 rfl ?_
    by_cases h7 : (m.1 (rr m 0 3) 11) ≤ x1
    · have hf := ite_pos h7 hf
      refine to_icT (q := 87) (op := .ge) h7 dX10_fits_23 rfl ?_
      refine to_aload_n (q := 88) rfl (by decide) dX10_fits_87 rfl ?_
      refine to_iconst (q := 89) ic_1 dX10_fits_88 rfl ?_
      obtain ⟨r10, m11, hc8, hf⟩ := cl2_some hf
      have qc9 := kX10_answer hS hc8 hI
      refine to_virtI (q := 92) mX10_answer [.int (1 : Int32)] dX10_fits_89 rfl rfl (Nat.le_of_ble_eq_true rfl) mo_X10_answer mv_X10_135 (Or.inl ⟨_, _, _, h_0 hS, rfl, rfl⟩) (Call_mono (by decide) qc9.1) ?_
      have hI := qc9.2
      cases hf
      exact to_iret dX10_fits_92 rfl rfl rfl rfl hI
    · have hf := ite_neg h7 hf
      refine to_icF (q := 26) (op := .ge) 87 h7 dX10_fits_23 rfl rfl ?_
      refine to_aload_n (q := 27) rfl (by decide) dX10_fits_26 rfl ?_
      have hk12 : kd (rr m 0 3) = 2 := (ivT hI).2
      refine to_getR (q := 30) (b := rr m 0 3) (k0 := 10) (C := RX10) (T := TX10) (N := 17) (j := 3) rfl fx_X10_26 (h_0 hS) rfl ((ivT hI).1) dX10_fits_27 rfl ?_
      refine to_getR (q := 33) (b := (rr m 0 3) + 5) (k0 := 2) (C := RX2) (T := TX2) (N := 14) (j := 10) rfl fx_X10_290 (sh_kd hS hk12 (by decide)) rfl (iv2n hI (hk12)) dX10_fits_30 rfl ?_
      refine to_iload_n (q := 34) rfl dX10_fits_33 rfl ?_
      obtain ⟨hb13, hf⟩ := ck_some hf
      refine to_aald (q := 35) (b := rr m 0 3 + 27 + 2 * x1.toNatClampNeg) (sh_ln hS (kd2n (hk12)) (by decide)) (by decide) hb13 (ivN hI (hk12) hb13) dX10_fits_34 rfl ?_
      refine to_astore_n (q := 36) [(2, .ref (rr m 0 3 + 27 + 2 * x1.toNatClampNeg)), (0, .ref 0), (1, .int x1)] rfl (kd_4 (kdN (hk12) hb13) (by decide)) (by decide) dX10_fits_35 rfl ?_
      refine to_aload_n (q := 37) rfl (by decide) dX10_fits_36 rfl ?_
      refine to_getR (q := 40) (b := 88) (k0 := 10) (C := RX10) (T := TX10) (N := 17) (j := 9) rfl fx_X10_51 (h_0 hS) rfl (iv_0_9 hI) dX10_fits_37 rfl ?_
      refine to_aload_n (q := 41) rfl (by decide) dX10_fits_40 rfl ?_
      have hk14 : kd (rr m 0 3) = 2 := (ivT hI).2
      refine to_getR (q := 44) (b := rr m 0 3) (k0 := 10) (C := RX10) (T := TX10) (N := 17) (j := 3) rfl fx_X10_26 (h_0 hS) rfl ((ivT hI).1) dX10_fits_41 rfl ?_
      refine to_aload_n (q := 45) rfl (by decide) dX10_fits_44 rfl ?_
      refine to_getR (q := 48) (b := 81) (k0 := 10) (C := RX10) (T := TX10) (N := 17) (j := 5) rfl fx_X10_33 (h_0 hS) rfl (iv_0_5 hI) dX10_fits_45 rfl ?_
      refine to_iconst (q := 49) ic_0 dX10_fits_48 rfl ?_
      refine to_aload_n (q := 50) rfl (kd_4 (kdN (hk12) hb13) (by decide)) dX10_fits_49 rfl ?_
      refine to_getI (q := 53) (k0 := 8) (C := RX8) (T := TX8) (N := 5) (j := 2) rfl fx_X10_293 (sh_kd hS (kdN (hk12) hb13) (by decide)) rfl dX10_fits_50 rfl ?_
      refine to_aload_n (q := 54) rfl (kd_4 (kdN (hk12) hb13) (by decide)) dX10_fits_53 rfl ?_
      refine to_getI (q := 57) (k0 := 8) (C := RX8) (T := TX8) (N := 5) (j := 3) rfl fx_X10_298 (sh_kd hS (kdN (hk12) hb13) (by decide)) rfl dX10_fits_54 rfl ?_
      obtain ⟨m17, hc15, hf⟩ := cl1_some hf
      have qc16 := kX7_look hS hc15 rfl (hk14) rfl hI
      refine to_virtV (q := 60) mX7_look [.ref (rr m 0 3), .ref 81, .int (0 : Int32), .int (m.1 (rr m 0 3 + 27 + 2 * x1.toNatClampNeg) 2), .int (m.1 (rr m 0 3 + 27 + 2 * x1.toNatClampNeg) 3)] dX10_fits_57 rfl rfl (Nat.le_of_ble_eq_true rfl) mo_X7_look mv_X10_301 (Or.inl ⟨_, _, _, h_88 hS, rfl, rfl⟩) (Call_mono (by decide) qc16.1) ?_
      have hI := qc16.2
      refine to_aload_n (q := 61) rfl (by decide) dX10_fits_60 rfl ?_
      refine to_getR (q := 64) (b := 88) (k0 := 10) (C := RX10) (T := TX10) (N := 17) (j := 9) rfl fx_X10_51 (h_0 hS) rfl (iv_0_9 hI) dX10_fits_61 rfl ?_
      refine to_aload_n (q := 65) rfl (kd_4 (kdN (hk12) hb13) (by decide)) dX10_fits_64 rfl ?_
      refine to_aload_n (q := 66) rfl (kd_4 (kdN (hk12) hb13) (by decide)) dX10_fits_65 rfl ?_
      refine to_getI (q := 69) (k0 := 8) (C := RX8) (T := TX8) (N := 5) (j := 4) rfl fx_X10_305 (sh_kd hS (kdN (hk12) hb13) (by decide)) rfl dX10_fits_66 rfl ?_
      obtain ⟨r20, m21, hc18, hf⟩ := cl2_some hf
      have qc19 := kX7_strangeAt hS hc18 rfl (kdN (hk12) hb13) hI
      refine to_virtI (q := 72) mX7_strangeAt [.ref (rr m 0 3 + 27 + 2 * x1.toNatClampNeg), .int (m17.1 (rr m 0 3 + 27 + 2 * x1.toNatClampNeg) 4)] dX10_fits_69 rfl rfl (Nat.le_of_ble_eq_true rfl) mo_X7_strangeAt mv_X10_248 (Or.inl ⟨_, _, _, h_88 hS, rfl, rfl⟩) (Call_mono (by decide) qc19.1) ?_
      have hI := qc19.2
      by_cases h22 : r20 = (0 : Int32)
      · have hf := ite_pos h22 hf
        refine to_ifT (q := 81) (op := .eq) h22 dX10_fits_72 rfl ?_
        refine to_iinc (q := 84) (v := (x1 + (1 : Int32))) rfl (congrArg (fun z => x1 + z) ic_1) [(1, .int (x1 + (1 : Int32))), (2, .ref (rr m 0 3 + 27 + 2 * x1.toNatClampNeg)), (0, .ref 0)] rfl (by decide) dX10_fits_81 rfl ?_
        refine to_goto (q := 15) dX10_fits_84 rfl ?_
        exact to_ext [(0, .ref 0), (1, .int (x1 + (1 : Int32)))] (ext_cons rfl (ext_cons rfl ext_nil)) (ih hf hI)
      · have hf := ite_neg h22 hf
        refine to_ifF (q := 75) (op := .eq) 81 h22 dX10_fits_72 rfl rfl ?_
        refine to_aload_n (q := 76) rfl (by decide) dX10_fits_75 rfl ?_
        refine to_iconst (q := 77) ic_0 dX10_fits_76 rfl ?_
        obtain ⟨r25, m26, hc23, hf⟩ := cl2_some hf
        have qc24 := kX10_answer hS hc23 hI
        refine to_virtI (q := 80) mX10_answer [.int (0 : Int32)] dX10_fits_77 rfl rfl (Nat.le_of_ble_eq_true rfl) mo_X10_answer mv_X10_135 (Or.inl ⟨_, _, _, h_0 hS, rfl, rfl⟩) (Call_mono (by decide) qc24.1) ?_
        have hI := qc24.2
        cases hf
        exact to_iret dX10_fits_80 rfl rfl rfl rfl hI
def fX10_fits (m : Me) : Option (Int32 × Me) := if (m.1 0 4) = (0 : Int32) then cl2 (fX10_refuse (1 : Int32) m) fun r4 m5 => some (r4, m5) else fX10_fits_15 FU ((0 : Int32)) m
set_option maxRecDepth 20000 in
theorem kX10_fits {S : Sh} (hS : ShOK S) {res : Int32 × Me} {m : Me} (hf : fX10_fits m = some res) (hI : Inv m) : Call 5 mX10_fits [.ref 0] (S, m) (some (.int res.1)) (S, res.2) ∧ Inv res.2 := by
  refine call_of (P := InvS) (Nat.le_of_ble_eq_true rfl) (by simp [Value.category]) ?_
  show TT InvS (Call 4) mX10_fits (0, [(0, .ref 0)], [], S, m) _ _
  unfold fX10_fits at hf
  refine to_aload_n (q := 1) rfl (by decide) dX10_fits_0 rfl ?_
  refine to_getI (q := 4) (k0 := 10) (C := RX10) (T := TX10) (N := 17) (j := 4) rfl fx_X10_110 (h_0 hS) rfl dX10_fits_1 rfl ?_
  by_cases h1 : (m.1 0 4) = (0 : Int32)
  · have hf := ite_pos h1 hf
    refine to_ifF (q := 7) (op := .ne) 13 (fun z => z h1) dX10_fits_4 rfl rfl ?_
    refine to_aload_n (q := 8) rfl (by decide) dX10_fits_7 rfl ?_
    refine to_iconst (q := 9) ic_1 dX10_fits_8 rfl ?_
    obtain ⟨r4, m5, hc2, hf⟩ := cl2_some hf
    have qc3 := kX10_refuse hS hc2 hI
    refine to_virtI (q := 12) mX10_refuse [.int (1 : Int32)] dX10_fits_9 rfl rfl (Nat.le_of_ble_eq_true rfl) mo_X10_refuse mv_X10_98 (Or.inl ⟨_, _, _, h_0 hS, rfl, rfl⟩) (Call_mono (by decide) qc3.1) ?_
    have hI := qc3.2
    cases hf
    exact to_iret dX10_fits_12 rfl rfl rfl rfl hI
  · have hf := ite_neg h1 hf
    refine to_ifT (q := 13) (op := .ne) h1 dX10_fits_4 rfl ?_
    refine to_iconst (q := 14) ic_0 dX10_fits_13 rfl ?_
    refine to_istore_n (q := 15) [(1, .int (0 : Int32)), (0, .ref 0)] rfl (by decide) dX10_fits_14 rfl ?_
    exact to_ext [(0, .ref 0), (1, .int (0 : Int32))] (ext_cons rfl (ext_cons rfl ext_nil)) (kX10_fits_15 hS FU hf hI)
def fX10_ask_90 (k20 : Int32 → Int32 → Int32 → Me → Option (Int32 × Me)) (k28 : Int32 → Int32 → Int32 → Int32 → Me → Option (Int32 × Me)) (x1 : Int32) (x2 : Int32) (x3 : Int32) (x4 : Int32) (m : Me) : Option (Int32 × Me) := k28 x1 x2 x3 ((x4 + (1 : Int32))) m
set_option maxRecDepth 20000 in
theorem kX10_ask_90 {S : Sh} (hS : ShOK S) {res : Int32 × Me} {k20 : Int32 → Int32 → Int32 → Me → Option (Int32 × Me)} (hk20 : ∀ {x1 : Int32} {x2 : Int32} {x3 : Int32} {m : Me}, k20 x1 x2 x3 m = some res → Inv m → TT InvS (Call 4) mX10_ask (20, [(0, .ref 0), (1, .int x1), (2, .int x2), (3, .int x3)], [], S, m) (some (.int res.1)) (S, res.2)) {k28 : Int32 → Int32 → Int32 → Int32 → Me → Option (Int32 × Me)} (hk28 : ∀ {x1 : Int32} {x2 : Int32} {x3 : Int32} {x4 : Int32} {m : Me}, k28 x1 x2 x3 x4 m = some res → Inv m → TT InvS (Call 4) mX10_ask (28, [(0, .ref 0), (1, .int x1), (2, .int x2), (3, .int x3), (4, .int x4)], [], S, m) (some (.int res.1)) (S, res.2)) {x1 : Int32} {x2 : Int32} {x3 : Int32} {x4 : Int32} {m : Me} (hf : fX10_ask_90 k20 k28 x1 x2 x3 x4 m = some res) (hI : Inv m) : TT InvS (Call 4) mX10_ask (90, [(0, .ref 0), (1, .int x1), (2, .int x2), (3, .int x3), (4, .int x4)], [], S, m) (some (.int res.1)) (S, res.2) := by
  unfold fX10_ask_90 at hf
  refine to_iinc (q := 93) (v := (x4 + (1 : Int32))) rfl (congrArg (fun z => x4 + z) ic_1) [(4, .int (x4 + (1 : Int32))), (0, .ref 0), (1, .int x1), (2, .int x2), (3, .int x3)] rfl (by decide) dX10_ask_90 rfl ?_
  refine to_goto (q := 28) dX10_ask_93 rfl ?_
  exact to_ext [(0, .ref 0), (1, .int x1), (2, .int x2), (3, .int x3), (4, .int (x4 + (1 : Int32)))] (ext_cons rfl (ext_cons rfl (ext_cons rfl (ext_cons rfl (ext_cons rfl ext_nil))))) (hk28 hf hI)
def fX10_ask_28 (n : Nat) (k20 : Int32 → Int32 → Int32 → Me → Option (Int32 × Me)) (x1 : Int32) (x2 : Int32) (x3 : Int32) (x4 : Int32) (m : Me) : Option (Int32 × Me) := match n with
  | 0 => none
  | n + 1 => cl2 (fX2_openings (rr m 0 3) m) fun r14 m15 => if r14 ≤ x4 then k20 x1 x2 ((x3 + (1 : Int32))) m15 else cl1 (fX7_look 88 (rr m15 0 3) 81 (0 : Int32) x3 x4 m15) fun m20 => cl2 (fX9_countUnsure 88 x3 m20) fun r23 m24 => if r23 ≤ x2 then fX10_ask_90 k20 (fX10_ask_28 n k20) x1 x2 x3 x4 m24 else fX10_ask_90 k20 (fX10_ask_28 n k20) ((((50 : Int32) * x3) + x4)) r23 x3 x4 m24
set_option maxRecDepth 20000 in
theorem kX10_ask_28 {S : Sh} (hS : ShOK S) {res : Int32 × Me} {k20 : Int32 → Int32 → Int32 → Me → Option (Int32 × Me)} (hk20 : ∀ {x1 : Int32} {x2 : Int32} {x3 : Int32} {m : Me}, k20 x1 x2 x3 m = some res → Inv m → TT InvS (Call 4) mX10_ask (20, [(0, .ref 0), (1, .int x1), (2, .int x2), (3, .int x3)], [], S, m) (some (.int res.1)) (S, res.2)) (n : Nat) : ∀ {x1 : Int32} {x2 : Int32} {x3 : Int32} {x4 : Int32} {m : Me}, fX10_ask_28 n k20 x1 x2 x3 x4 m = some res → Inv m → TT InvS (Call 4) mX10_ask (28, [(0, .ref 0), (1, .int x1), (2, .int x2), (3, .int x3), (4, .int x4)], [], S, m) (some (.int res.1)) (S, res.2) := by
  induction n with
  | zero => intro x1 x2 x3 x4 m hf; cases hf
  | succ n ih =>
    intro x1 x2 x3 x4 m hf  hI
    unfold fX10_ask_28 at hf
    refine to_iload (q := 30) rfl dX10_ask_28 rfl ?_
    refine to_aload_n (q := 31) rfl (by decide) dX10_ask_30 rfl ?_
    have hk11 : kd (rr m 0 3) = 2 := (ivT hI).2
    refine to_getR (q := 34) (b := rr m 0 3) (k0 := 10) (C := RX10) (T := TX10) (N := 17) (j := 3) rfl fx_X10_26 (h_0 hS) rfl ((ivT hI).1) dX10_ask_31 rfl ?_
    obtain ⟨r14, m15, hc12, hf⟩ := cl2_some hf
    have qc13 := kX2_openings hS hc12 (hk11) hI
    refine to_virtI (q := 37) mX2_openings [] dX10_ask_34 rfl rfl (Nat.le_of_ble_eq_true rfl) mo_X2_openings mv_X10_131 (Or.inl ⟨_, _, _, sh_kd hS hk11 (by decide), rfl, rfl⟩) (Call_mono (by decide) qc13.1) ?_
    have hI := qc13.2
    by_cases h16 : r14 ≤ x4
    · have hf := ite_pos h16 hf
      refine to_icT (q := 96) (op := .ge) h16 dX10_ask_37 rfl ?_
      refine to_iinc (q := 99) (v := (x3 + (1 : Int32))) rfl (congrArg (fun z => x3 + z) ic_1) [(3, .int (x3 + (1 : Int32))), (0, .ref 0), (1, .int x1), (2, .int x2), (4, .int x4)] rfl (by decide) dX10_ask_96 rfl ?_
      refine to_goto (q := 20) dX10_ask_99 rfl ?_
      exact to_ext [(0, .ref 0), (1, .int x1), (2, .int x2), (3, .int (x3 + (1 : Int32)))] (ext_cons rfl (ext_cons rfl (ext_cons rfl (ext_cons rfl ext_nil)))) (hk20 hf hI)
    · have hf := ite_neg h16 hf
      refine to_icF (q := 40) (op := .ge) 96 h16 dX10_ask_37 rfl rfl ?_
      refine to_aload_n (q := 41) rfl (by decide) dX10_ask_40 rfl ?_
      refine to_getR (q := 44) (b := 88) (k0 := 10) (C := RX10) (T := TX10) (N := 17) (j := 9) rfl fx_X10_51 (h_0 hS) rfl (iv_0_9 hI) dX10_ask_41 rfl ?_
      refine to_aload_n (q := 45) rfl (by decide) dX10_ask_44 rfl ?_
      have hk17 : kd (rr m15 0 3) = 2 := (ivT hI).2
      refine to_getR (q := 48) (b := rr m15 0 3) (k0 := 10) (C := RX10) (T := TX10) (N := 17) (j := 3) rfl fx_X10_26 (h_0 hS) rfl ((ivT hI).1) dX10_ask_45 rfl ?_
      refine to_aload_n (q := 49) rfl (by decide) dX10_ask_48 rfl ?_
      refine to_getR (q := 52) (b := 81) (k0 := 10) (C := RX10) (T := TX10) (N := 17) (j := 5) rfl fx_X10_33 (h_0 hS) rfl (iv_0_5 hI) dX10_ask_49 rfl ?_
      refine to_iconst (q := 53) ic_0 dX10_ask_52 rfl ?_
      refine to_iload_n (q := 54) rfl dX10_ask_53 rfl ?_
      refine to_iload (q := 56) rfl dX10_ask_54 rfl ?_
      obtain ⟨m20, hc18, hf⟩ := cl1_some hf
      have qc19 := kX7_look hS hc18 rfl (hk17) rfl hI
      refine to_virtV (q := 59) mX7_look [.ref (rr m15 0 3), .ref 81, .int (0 : Int32), .int x3, .int x4] dX10_ask_56 rfl rfl (Nat.le_of_ble_eq_true rfl) mo_X7_look mv_X10_301 (Or.inl ⟨_, _, _, h_88 hS, rfl, rfl⟩) (Call_mono (by decide) qc19.1) ?_
      have hI := qc19.2
      refine to_aload_n (q := 60) rfl (by decide) dX10_ask_59 rfl ?_
      refine to_getR (q := 63) (b := 94) (k0 := 10) (C := RX10) (T := TX10) (N := 17) (j := 11) rfl fx_X10_61 (h_0 hS) rfl (iv_0_11 hI) dX10_ask_60 rfl ?_
      refine to_aload_n (q := 64) rfl (by decide) dX10_ask_63 rfl ?_
      refine to_getR (q := 67) (b := 88) (k0 := 10) (C := RX10) (T := TX10) (N := 17) (j := 9) rfl fx_X10_51 (h_0 hS) rfl (iv_0_9 hI) dX10_ask_64 rfl ?_
      refine to_iload_n (q := 68) rfl dX10_ask_67 rfl ?_
      obtain ⟨r23, m24, hc21, hf⟩ := cl2_some hf
      have qc22 := kX9_countUnsure hS hc21 rfl hI
      refine to_virtI (q := 71) mX9_countUnsure [.ref 88, .int x3] dX10_ask_68 rfl rfl (Nat.le_of_ble_eq_true rfl) mo_X9_countUnsure mv_X10_308 (Or.inl ⟨_, _, _, h_94 hS, rfl, rfl⟩) (Call_mono (by decide) qc22.1) ?_
      have hI := qc22.2
      refine to_istore (q := 73) [(5, .int r23), (0, .ref 0), (1, .int x1), (2, .int x2), (3, .int x3), (4, .int x4)] rfl (by decide) dX10_ask_71 rfl ?_
      refine to_iload (q := 75) rfl dX10_ask_73 rfl ?_
      refine to_iload_n (q := 76) rfl dX10_ask_75 rfl ?_
      by_cases h25 : r23 ≤ x2
      · have hf := ite_pos h25 hf
        refine to_icT (q := 90) (op := .le) h25 dX10_ask_76 rfl ?_
        exact to_ext [(0, .ref 0), (1, .int x1), (2, .int x2), (3, .int x3), (4, .int x4)] (ext_cons rfl (ext_cons rfl (ext_cons rfl (ext_cons rfl (ext_cons rfl ext_nil))))) (kX10_ask_90 hS hk20 ih hf hI)
      · have hf := ite_neg h25 hf
        refine to_icF (q := 79) (op := .le) 90 h25 dX10_ask_76 rfl rfl ?_
        refine to_iload (q := 81) rfl dX10_ask_79 rfl ?_
        refine to_istore_n (q := 82) [(2, .int r23), (5, .int r23), (0, .ref 0), (1, .int x1), (3, .int x3), (4, .int x4)] rfl (by decide) dX10_ask_81 rfl ?_
        refine to_bipush (q := 84) bp_50 dX10_ask_82 rfl ?_
        refine to_iload_n (q := 85) rfl dX10_ask_84 rfl ?_
        refine to_imul (q := 86) dX10_ask_85 rfl ?_
        refine to_iload (q := 88) rfl dX10_ask_86 rfl ?_
        refine to_iadd (q := 89) dX10_ask_88 rfl ?_
        refine to_istore_n (q := 90) [(1, .int (((50 : Int32) * x3) + x4)), (2, .int r23), (5, .int r23), (0, .ref 0), (3, .int x3), (4, .int x4)] rfl (by decide) dX10_ask_89 rfl ?_
        exact to_ext [(0, .ref 0), (1, .int (((50 : Int32) * x3) + x4)), (2, .int r23), (3, .int x3), (4, .int x4)] (ext_cons rfl (ext_cons rfl (ext_cons rfl (ext_cons rfl (ext_cons rfl ext_nil))))) (kX10_ask_90 hS hk20 ih hf hI)
def fX10_ask_20 (n : Nat) (x1 : Int32) (x2 : Int32) (x3 : Int32) (m : Me) : Option (Int32 × Me) := match n with
  | 0 => none
  | n + 1 => if (1 : Int32) < x3 then cl2 (fX10_answer x1 m) fun r9 m10 => some (r9, m10) else fX10_ask_28 FU (fX10_ask_20 n) x1 x2 x3 ((0 : Int32)) m
set_option maxRecDepth 20000 in
theorem kX10_ask_20 {S : Sh} (hS : ShOK S) {res : Int32 × Me} (n : Nat) : ∀ {x1 : Int32} {x2 : Int32} {x3 : Int32} {m : Me}, fX10_ask_20 n x1 x2 x3 m = some res → Inv m → TT InvS (Call 4) mX10_ask (20, [(0, .ref 0), (1, .int x1), (2, .int x2), (3, .int x3)], [], S, m) (some (.int res.1)) (S, res.2) := by
  induction n with
  | zero => intro x1 x2 x3 m hf; cases hf
  | succ n ih =>
    intro x1 x2 x3 m hf  hI
    unfold fX10_ask_20 at hf
    refine to_iload_n (q := 21) rfl dX10_ask_20 rfl ?_
    refine to_iconst (q := 22) ic_1 dX10_ask_21 rfl ?_
    by_cases h6 : (1 : Int32) < x3
    · have hf := ite_pos h6 hf
      refine to_icT (q := 102) (op := .gt) h6 dX10_ask_22 rfl ?_
      refine to_aload_n (q := 103) rfl (by decide) dX10_ask_102 rfl ?_
      refine to_iload_n (q := 104) rfl dX10_ask_103 rfl ?_
      obtain ⟨r9, m10, hc7, hf⟩ := cl2_some hf
      have qc8 := kX10_answer hS hc7 hI
      refine to_virtI (q := 107) mX10_answer [.int x1] dX10_ask_104 rfl rfl (Nat.le_of_ble_eq_true rfl) mo_X10_answer mv_X10_135 (Or.inl ⟨_, _, _, h_0 hS, rfl, rfl⟩) (Call_mono (by decide) qc8.1) ?_
      have hI := qc8.2
      cases hf
      exact to_iret dX10_ask_107 rfl rfl rfl rfl hI
    · have hf := ite_neg h6 hf
      refine to_icF (q := 25) (op := .gt) 102 h6 dX10_ask_22 rfl rfl ?_
      refine to_iconst (q := 26) ic_0 dX10_ask_25 rfl ?_
      refine to_istore (q := 28) [(4, .int (0 : Int32)), (0, .ref 0), (1, .int x1), (2, .int x2), (3, .int x3)] rfl (by decide) dX10_ask_26 rfl ?_
      exact to_ext [(0, .ref 0), (1, .int x1), (2, .int x2), (3, .int x3), (4, .int (0 : Int32))] (ext_cons rfl (ext_cons rfl (ext_cons rfl (ext_cons rfl (ext_cons rfl ext_nil))))) (kX10_ask_28 hS ih FU hf hI)
def fX10_ask (m : Me) : Option (Int32 × Me) := if (m.1 0 4) = (0 : Int32) then cl2 (fX10_refuse (1 : Int32) m) fun r4 m5 => some (r4, m5) else fX10_ask_20 FU ((-2 : Int32)) ((0 : Int32)) ((0 : Int32)) m
set_option maxRecDepth 20000 in
theorem kX10_ask {S : Sh} (hS : ShOK S) {res : Int32 × Me} {m : Me} (hf : fX10_ask m = some res) (hI : Inv m) : Call 5 mX10_ask [.ref 0] (S, m) (some (.int res.1)) (S, res.2) ∧ Inv res.2 := by
  refine call_of (P := InvS) (Nat.le_of_ble_eq_true rfl) (by simp [Value.category]) ?_
  show TT InvS (Call 4) mX10_ask (0, [(0, .ref 0)], [], S, m) _ _
  unfold fX10_ask at hf
  refine to_aload_n (q := 1) rfl (by decide) dX10_ask_0 rfl ?_
  refine to_getI (q := 4) (k0 := 10) (C := RX10) (T := TX10) (N := 17) (j := 4) rfl fx_X10_110 (h_0 hS) rfl dX10_ask_1 rfl ?_
  by_cases h1 : (m.1 0 4) = (0 : Int32)
  · have hf := ite_pos h1 hf
    refine to_ifF (q := 7) (op := .ne) 13 (fun z => z h1) dX10_ask_4 rfl rfl ?_
    refine to_aload_n (q := 8) rfl (by decide) dX10_ask_7 rfl ?_
    refine to_iconst (q := 9) ic_1 dX10_ask_8 rfl ?_
    obtain ⟨r4, m5, hc2, hf⟩ := cl2_some hf
    have qc3 := kX10_refuse hS hc2 hI
    refine to_virtI (q := 12) mX10_refuse [.int (1 : Int32)] dX10_ask_9 rfl rfl (Nat.le_of_ble_eq_true rfl) mo_X10_refuse mv_X10_98 (Or.inl ⟨_, _, _, h_0 hS, rfl, rfl⟩) (Call_mono (by decide) qc3.1) ?_
    have hI := qc3.2
    cases hf
    exact to_iret dX10_ask_12 rfl rfl rfl rfl hI
  · have hf := ite_neg h1 hf
    refine to_ifT (q := 13) (op := .ne) h1 dX10_ask_4 rfl ?_
    refine to_bipush (q := 15) bp_m2 dX10_ask_13 rfl ?_
    refine to_istore_n (q := 16) [(1, .int (-2 : Int32)), (0, .ref 0)] rfl (by decide) dX10_ask_15 rfl ?_
    refine to_iconst (q := 17) ic_0 dX10_ask_16 rfl ?_
    refine to_istore_n (q := 18) [(2, .int (0 : Int32)), (1, .int (-2 : Int32)), (0, .ref 0)] rfl (by decide) dX10_ask_17 rfl ?_
    refine to_iconst (q := 19) ic_0 dX10_ask_18 rfl ?_
    refine to_istore_n (q := 20) [(3, .int (0 : Int32)), (2, .int (0 : Int32)), (1, .int (-2 : Int32)), (0, .ref 0)] rfl (by decide) dX10_ask_19 rfl ?_
    exact to_ext [(0, .ref 0), (1, .int (-2 : Int32)), (2, .int (0 : Int32)), (3, .int (0 : Int32))] (ext_cons rfl (ext_cons rfl (ext_cons rfl (ext_cons rfl ext_nil)))) (kX10_ask_20 hS FU hf hI)
def fX10_smearBetween (x1 : Int32) (x2 : Int32) (x3 : Int32) (m : Me) : Option (Int32 × Me) := cl1 (fX7_look 88 (rr m 0 3) 81 (m.1 81 1) x1 x2 m) fun m4 => cl1 (fX7_look 91 (rr m4 0 3) 81 (m4.1 81 1) x1 x3 m4) fun m8 => cl2 (fX7_countUnlike 88 91 m8) fun r11 m12 => some (r11, m12)
set_option maxRecDepth 20000 in
theorem kX10_smearBetween {S : Sh} (hS : ShOK S) {res : Int32 × Me} {x1 : Int32} {x2 : Int32} {x3 : Int32} {m : Me} (hf : fX10_smearBetween x1 x2 x3 m = some res) (hI : Inv m) : Call 5 mX10_smearBetween [.ref 0, .int x1, .int x2, .int x3] (S, m) (some (.int res.1)) (S, res.2) ∧ Inv res.2 := by
  refine call_of (P := InvS) (Nat.le_of_ble_eq_true rfl) (by simp [Value.category]) ?_
  show TT InvS (Call 4) mX10_smearBetween (0, [(0, .ref 0), (1, .int x1), (2, .int x2), (3, .int x3)], [], S, m) _ _
  unfold fX10_smearBetween at hf
  refine to_aload_n (q := 1) rfl (by decide) dX10_smearBetween_0 rfl ?_
  refine to_getR (q := 4) (b := 88) (k0 := 10) (C := RX10) (T := TX10) (N := 17) (j := 9) rfl fx_X10_51 (h_0 hS) rfl (iv_0_9 hI) dX10_smearBetween_1 rfl ?_
  refine to_aload_n (q := 5) rfl (by decide) dX10_smearBetween_4 rfl ?_
  have hk1 : kd (rr m 0 3) = 2 := (ivT hI).2
  refine to_getR (q := 8) (b := rr m 0 3) (k0 := 10) (C := RX10) (T := TX10) (N := 17) (j := 3) rfl fx_X10_26 (h_0 hS) rfl ((ivT hI).1) dX10_smearBetween_5 rfl ?_
  refine to_aload_n (q := 9) rfl (by decide) dX10_smearBetween_8 rfl ?_
  refine to_getR (q := 12) (b := 81) (k0 := 10) (C := RX10) (T := TX10) (N := 17) (j := 5) rfl fx_X10_33 (h_0 hS) rfl (iv_0_5 hI) dX10_smearBetween_9 rfl ?_
  refine to_aload_n (q := 13) rfl (by decide) dX10_smearBetween_12 rfl ?_
  refine to_getR (q := 16) (b := 81) (k0 := 10) (C := RX10) (T := TX10) (N := 17) (j := 5) rfl fx_X10_33 (h_0 hS) rfl (iv_0_5 hI) dX10_smearBetween_13 rfl ?_
  refine to_getI (q := 19) (k0 := 5) (C := RX5) (T := TX5) (N := 3) (j := 1) rfl fx_X10_233 (h_81 hS) rfl dX10_smearBetween_16 rfl ?_
  refine to_iload_n (q := 20) rfl dX10_smearBetween_19 rfl ?_
  refine to_iload_n (q := 21) rfl dX10_smearBetween_20 rfl ?_
  obtain ⟨m4, hc2, hf⟩ := cl1_some hf
  have qc3 := kX7_look hS hc2 rfl (hk1) rfl hI
  refine to_virtV (q := 24) mX7_look [.ref (rr m 0 3), .ref 81, .int (m.1 81 1), .int x1, .int x2] dX10_smearBetween_21 rfl rfl (Nat.le_of_ble_eq_true rfl) mo_X7_look mv_X10_301 (Or.inl ⟨_, _, _, h_88 hS, rfl, rfl⟩) (Call_mono (by decide) qc3.1) ?_
  have hI := qc3.2
  refine to_aload_n (q := 25) rfl (by decide) dX10_smearBetween_24 rfl ?_
  refine to_getR (q := 28) (b := 91) (k0 := 10) (C := RX10) (T := TX10) (N := 17) (j := 10) rfl fx_X10_55 (h_0 hS) rfl (iv_0_10 hI) dX10_smearBetween_25 rfl ?_
  refine to_aload_n (q := 29) rfl (by decide) dX10_smearBetween_28 rfl ?_
  have hk5 : kd (rr m4 0 3) = 2 := (ivT hI).2
  refine to_getR (q := 32) (b := rr m4 0 3) (k0 := 10) (C := RX10) (T := TX10) (N := 17) (j := 3) rfl fx_X10_26 (h_0 hS) rfl ((ivT hI).1) dX10_smearBetween_29 rfl ?_
  refine to_aload_n (q := 33) rfl (by decide) dX10_smearBetween_32 rfl ?_
  refine to_getR (q := 36) (b := 81) (k0 := 10) (C := RX10) (T := TX10) (N := 17) (j := 5) rfl fx_X10_33 (h_0 hS) rfl (iv_0_5 hI) dX10_smearBetween_33 rfl ?_
  refine to_aload_n (q := 37) rfl (by decide) dX10_smearBetween_36 rfl ?_
  refine to_getR (q := 40) (b := 81) (k0 := 10) (C := RX10) (T := TX10) (N := 17) (j := 5) rfl fx_X10_33 (h_0 hS) rfl (iv_0_5 hI) dX10_smearBetween_37 rfl ?_
  refine to_getI (q := 43) (k0 := 5) (C := RX5) (T := TX5) (N := 3) (j := 1) rfl fx_X10_233 (h_81 hS) rfl dX10_smearBetween_40 rfl ?_
  refine to_iload_n (q := 44) rfl dX10_smearBetween_43 rfl ?_
  refine to_iload_n (q := 45) rfl dX10_smearBetween_44 rfl ?_
  obtain ⟨m8, hc6, hf⟩ := cl1_some hf
  have qc7 := kX7_look hS hc6 rfl (hk5) rfl hI
  refine to_virtV (q := 48) mX7_look [.ref (rr m4 0 3), .ref 81, .int (m4.1 81 1), .int x1, .int x3] dX10_smearBetween_45 rfl rfl (Nat.le_of_ble_eq_true rfl) mo_X7_look mv_X10_301 (Or.inl ⟨_, _, _, h_91 hS, rfl, rfl⟩) (Call_mono (by decide) qc7.1) ?_
  have hI := qc7.2
  refine to_aload_n (q := 49) rfl (by decide) dX10_smearBetween_48 rfl ?_
  refine to_getR (q := 52) (b := 88) (k0 := 10) (C := RX10) (T := TX10) (N := 17) (j := 9) rfl fx_X10_51 (h_0 hS) rfl (iv_0_9 hI) dX10_smearBetween_49 rfl ?_
  refine to_aload_n (q := 53) rfl (by decide) dX10_smearBetween_52 rfl ?_
  refine to_getR (q := 56) (b := 91) (k0 := 10) (C := RX10) (T := TX10) (N := 17) (j := 10) rfl fx_X10_55 (h_0 hS) rfl (iv_0_10 hI) dX10_smearBetween_53 rfl ?_
  obtain ⟨r11, m12, hc9, hf⟩ := cl2_some hf
  have qc10 := kX7_countUnlike hS hc9 rfl rfl hI
  refine to_virtI (q := 59) mX7_countUnlike [.ref 91] dX10_smearBetween_56 rfl rfl (Nat.le_of_ble_eq_true rfl) mo_X7_countUnlike mv_X10_388 (Or.inl ⟨_, _, _, h_88 hS, rfl, rfl⟩) (Call_mono (by decide) qc10.1) ?_
  have hI := qc10.2
  cases hf
  exact to_iret dX10_smearBetween_59 rfl rfl rfl rfl hI
def fX10_smear_46 (t0 : Int32) (m : Me) : Option (Int32 × Me) := some (t0, m)
set_option maxRecDepth 20000 in
theorem kX10_smear_46 {S : Sh} (hS : ShOK S) {res : Int32 × Me} {t0 : Int32} {m : Me} (hf : fX10_smear_46 t0 m = some res) (hI : Inv m) : TT InvS (Call 5) mX10_smear (46, [], [.int t0], S, m) (some (.int res.1)) (S, res.2) := by
  unfold fX10_smear_46 at hf
  cases hf
  exact to_iret dX10_smear_46 rfl rfl rfl rfl hI
def fX10_smear_21 (x1 : Int32) (x2 : Int32) (x3 : Int32) (x4 : Int32) (m : Me) : Option (Int32 × Me) := if x4 = (0 : Int32) then cl2 (fX10_smearBetween x1 x2 x3 m) fun r17 m18 => cl2 (fX10_answer r17 m18) fun r21 m22 => fX10_smear_46 r21 m22 else cl2 (fX10_refuse x4 m) fun r13 m14 => fX10_smear_46 r13 m14
set_option maxRecDepth 20000 in
theorem kX10_smear_21 {S : Sh} (hS : ShOK S) {res : Int32 × Me} {x1 : Int32} {x2 : Int32} {x3 : Int32} {x4 : Int32} {m : Me} (hf : fX10_smear_21 x1 x2 x3 x4 m = some res) (hI : Inv m) : TT InvS (Call 5) mX10_smear (21, [(0, .ref 0), (1, .int x1), (2, .int x2), (3, .int x3), (4, .int x4)], [], S, m) (some (.int res.1)) (S, res.2) := by
  unfold fX10_smear_21 at hf
  refine to_iload (q := 23) rfl dX10_smear_21 rfl ?_
  by_cases h10 : x4 = (0 : Int32)
  · have hf := ite_pos h10 hf
    refine to_ifF (q := 26) (op := .ne) 40 (fun z => z h10) dX10_smear_23 rfl rfl ?_
    refine to_aload_n (q := 27) rfl (by decide) dX10_smear_26 rfl ?_
    refine to_aload_n (q := 28) rfl (by decide) dX10_smear_27 rfl ?_
    refine to_iload_n (q := 29) rfl dX10_smear_28 rfl ?_
    refine to_iload_n (q := 30) rfl dX10_smear_29 rfl ?_
    refine to_iload_n (q := 31) rfl dX10_smear_30 rfl ?_
    obtain ⟨r17, m18, hc15, hf⟩ := cl2_some hf
    have qc16 := kX10_smearBetween hS hc15 hI
    refine to_virtI (q := 34) mX10_smearBetween [.int x1, .int x2, .int x3] dX10_smear_31 rfl rfl (Nat.le_of_ble_eq_true rfl) mo_X10_smearBetween mv_X10_312 (Or.inl ⟨_, _, _, h_0 hS, rfl, rfl⟩) (Call_mono (by decide) qc16.1) ?_
    have hI := qc16.2
    obtain ⟨r21, m22, hc19, hf⟩ := cl2_some hf
    have qc20 := kX10_answer hS hc19 hI
    refine to_virtI (q := 37) mX10_answer [.int r17] dX10_smear_34 rfl rfl (Nat.le_of_ble_eq_true rfl) mo_X10_answer mv_X10_135 (Or.inl ⟨_, _, _, h_0 hS, rfl, rfl⟩) (Call_mono (by decide) qc20.1) ?_
    have hI := qc20.2
    refine to_goto (q := 46) dX10_smear_37 rfl ?_
    exact to_ext [] ext_nil (kX10_smear_46 hS hf hI)
  · have hf := ite_neg h10 hf
    refine to_ifT (q := 40) (op := .ne) h10 dX10_smear_23 rfl ?_
    refine to_aload_n (q := 41) rfl (by decide) dX10_smear_40 rfl ?_
    refine to_iload (q := 43) rfl dX10_smear_41 rfl ?_
    obtain ⟨r13, m14, hc11, hf⟩ := cl2_some hf
    have qc12 := kX10_refuse hS hc11 hI
    refine to_virtI (q := 46) mX10_refuse [.int x4] dX10_smear_43 rfl rfl (Nat.le_of_ble_eq_true rfl) mo_X10_refuse mv_X10_98 (Or.inl ⟨_, _, _, h_0 hS, rfl, rfl⟩) (Call_mono (by decide) qc12.1) ?_
    have hI := qc12.2
    exact to_ext [] ext_nil (kX10_smear_46 hS hf hI)
def fX10_smear (x1 : Int32) (x2 : Int32) (x3 : Int32) (m : Me) : Option (Int32 × Me) := cl2 (fX10_wrongView x1 x2 m) fun r3 m4 => if r3 = (0 : Int32) then cl2 (fX10_wrongView x1 x3 m4) fun r8 m9 => fX10_smear_21 x1 x2 x3 r8 m9 else fX10_smear_21 x1 x2 x3 r3 m4
set_option maxRecDepth 20000 in
theorem kX10_smear {S : Sh} (hS : ShOK S) {res : Int32 × Me} {x1 : Int32} {x2 : Int32} {x3 : Int32} {m : Me} (hf : fX10_smear x1 x2 x3 m = some res) (hI : Inv m) : Call 6 mX10_smear [.ref 0, .int x1, .int x2, .int x3] (S, m) (some (.int res.1)) (S, res.2) ∧ Inv res.2 := by
  refine call_of (P := InvS) (Nat.le_of_ble_eq_true rfl) (by simp [Value.category]) ?_
  show TT InvS (Call 5) mX10_smear (0, [(0, .ref 0), (1, .int x1), (2, .int x2), (3, .int x3)], [], S, m) _ _
  unfold fX10_smear at hf
  refine to_aload_n (q := 1) rfl (by decide) dX10_smear_0 rfl ?_
  refine to_iload_n (q := 2) rfl dX10_smear_1 rfl ?_
  refine to_iload_n (q := 3) rfl dX10_smear_2 rfl ?_
  obtain ⟨r3, m4, hc1, hf⟩ := cl2_some hf
  have qc2 := kX10_wrongView hS hc1 hI
  refine to_virtI (q := 6) mX10_wrongView [.int x1, .int x2] dX10_smear_3 rfl rfl (Nat.le_of_ble_eq_true rfl) mo_X10_wrongView mv_X10_167 (Or.inl ⟨_, _, _, h_0 hS, rfl, rfl⟩) (Call_mono (by decide) qc2.1) ?_
  have hI := qc2.2
  refine to_istore (q := 8) [(4, .int r3), (0, .ref 0), (1, .int x1), (2, .int x2), (3, .int x3)] rfl (by decide) dX10_smear_6 rfl ?_
  refine to_iload (q := 10) rfl dX10_smear_8 rfl ?_
  by_cases h5 : r3 = (0 : Int32)
  · have hf := ite_pos h5 hf
    refine to_ifF (q := 13) (op := .ne) 21 (fun z => z h5) dX10_smear_10 rfl rfl ?_
    refine to_aload_n (q := 14) rfl (by decide) dX10_smear_13 rfl ?_
    refine to_iload_n (q := 15) rfl dX10_smear_14 rfl ?_
    refine to_iload_n (q := 16) rfl dX10_smear_15 rfl ?_
    obtain ⟨r8, m9, hc6, hf⟩ := cl2_some hf
    have qc7 := kX10_wrongView hS hc6 hI
    refine to_virtI (q := 19) mX10_wrongView [.int x1, .int x3] dX10_smear_16 rfl rfl (Nat.le_of_ble_eq_true rfl) mo_X10_wrongView mv_X10_167 (Or.inl ⟨_, _, _, h_0 hS, rfl, rfl⟩) (Call_mono (by decide) qc7.1) ?_
    have hI := qc7.2
    refine to_istore (q := 21) [(4, .int r8), (0, .ref 0), (1, .int x1), (2, .int x2), (3, .int x3)] rfl (by decide) dX10_smear_19 rfl ?_
    exact to_ext [(0, .ref 0), (1, .int x1), (2, .int x2), (3, .int x3), (4, .int r8)] (ext_cons rfl (ext_cons rfl (ext_cons rfl (ext_cons rfl (ext_cons rfl ext_nil))))) (kX10_smear_21 hS hf hI)
  · have hf := ite_neg h5 hf
    refine to_ifT (q := 21) (op := .ne) h5 dX10_smear_10 rfl ?_
    exact to_ext [(0, .ref 0), (1, .int x1), (2, .int x2), (3, .int x3), (4, .int r3)] (ext_cons rfl (ext_cons rfl (ext_cons rfl (ext_cons rfl (ext_cons rfl ext_nil))))) (kX10_smear_21 hS hf hI)
def fX10_wrongBeats_25 (t0 : Int32) (m : Me) : Option (Int32 × Me) := some (t0, m)
set_option maxRecDepth 20000 in
theorem kX10_wrongBeats_25 {S : Sh} (hS : ShOK S) {res : Int32 × Me} {t0 : Int32} {m : Me} (hf : fX10_wrongBeats_25 t0 m = some res) (hI : Inv m) : TT InvS (Call 0) mX10_wrongBeats (25, [], [.int t0], S, m) (some (.int res.1)) (S, res.2) := by
  unfold fX10_wrongBeats_25 at hf
  cases hf
  exact to_iret dX10_wrongBeats_25 rfl rfl rfl rfl hI
def fX10_wrongBeats (m : Me) : Option (Int32 × Me) := if (m.1 0 4) = (0 : Int32) then some ((1 : Int32), m) else if (m.1 (rr m 0 3) 13) = (0 : Int32) then fX10_wrongBeats_25 ((6 : Int32)) m else fX10_wrongBeats_25 ((0 : Int32)) m
set_option maxRecDepth 20000 in
theorem kX10_wrongBeats {S : Sh} (hS : ShOK S) {res : Int32 × Me} {m : Me} (hf : fX10_wrongBeats m = some res) (hI : Inv m) : Call 1 mX10_wrongBeats [.ref 0] (S, m) (some (.int res.1)) (S, res.2) ∧ Inv res.2 := by
  refine call_of (P := InvS) (Nat.le_of_ble_eq_true rfl) (by simp [Value.category]) ?_
  show TT InvS (Call 0) mX10_wrongBeats (0, [(0, .ref 0)], [], S, m) _ _
  unfold fX10_wrongBeats at hf
  refine to_aload_n (q := 1) rfl (by decide) dX10_wrongBeats_0 rfl ?_
  refine to_getI (q := 4) (k0 := 10) (C := RX10) (T := TX10) (N := 17) (j := 4) rfl fx_X10_110 (h_0 hS) rfl dX10_wrongBeats_1 rfl ?_
  by_cases h1 : (m.1 0 4) = (0 : Int32)
  · have hf := ite_pos h1 hf
    refine to_ifF (q := 7) (op := .ne) 9 (fun z => z h1) dX10_wrongBeats_4 rfl rfl ?_
    refine to_iconst (q := 8) ic_1 dX10_wrongBeats_7 rfl ?_
    cases hf
    exact to_iret dX10_wrongBeats_8 rfl rfl rfl rfl hI
  · have hf := ite_neg h1 hf
    refine to_ifT (q := 9) (op := .ne) h1 dX10_wrongBeats_4 rfl ?_
    refine to_aload_n (q := 10) rfl (by decide) dX10_wrongBeats_9 rfl ?_
    have hk2 : kd (rr m 0 3) = 2 := (ivT hI).2
    refine to_getR (q := 13) (b := rr m 0 3) (k0 := 10) (C := RX10) (T := TX10) (N := 17) (j := 3) rfl fx_X10_26 (h_0 hS) rfl ((ivT hI).1) dX10_wrongBeats_10 rfl ?_
    refine to_getI (q := 16) (k0 := 2) (C := RX2) (T := TX2) (N := 14) (j := 13) rfl fx_X10_327 (sh_kd hS hk2 (by decide)) rfl dX10_wrongBeats_13 rfl ?_
    by_cases h3 : (m.1 (rr m 0 3) 13) = (0 : Int32)
    · have hf := ite_pos h3 hf
      refine to_ifF (q := 19) (op := .ne) 24 (fun z => z h3) dX10_wrongBeats_16 rfl rfl ?_
      refine to_bipush (q := 21) bp_6 dX10_wrongBeats_19 rfl ?_
      refine to_goto (q := 25) dX10_wrongBeats_21 rfl ?_
      exact to_ext [] ext_nil (kX10_wrongBeats_25 hS hf hI)
    · have hf := ite_neg h3 hf
      refine to_ifT (q := 24) (op := .ne) h3 dX10_wrongBeats_16 rfl ?_
      refine to_iconst (q := 25) ic_0 dX10_wrongBeats_24 rfl ?_
      exact to_ext [] ext_nil (kX10_wrongBeats_25 hS hf hI)
def fX10_smearOfBeats_4 (n : Nat) (x1 : Int32) (x2 : Int32) (m : Me) : Option (Int32 × Me) := match n with
  | 0 => none
  | n + 1 => if (m.1 (rr m 0 3) 13) ≤ x2 then some (x1, m) else ck (inb (x2 - (1 : Int32)) 6) (ck (inb x2 6) (cl2 (fX10_smearBetween (0 : Int32) ((m.1 ((rr m 0 3) + 6) (x2 - (1 : Int32)).toNatClampNeg)) ((m.1 ((rr m 0 3) + 6) x2.toNatClampNeg)) m) fun r9 m10 => fX10_smearOfBeats_4 n ((x1 + r9)) ((x2 + (1 : Int32))) m10))
set_option maxRecDepth 20000 in
theorem kX10_smearOfBeats_4 {S : Sh} (hS : ShOK S) {res : Int32 × Me} (n : Nat) : ∀ {x1 : Int32} {x2 : Int32} {m : Me}, fX10_smearOfBeats_4 n x1 x2 m = some res → Inv m → TT InvS (Call 5) mX10_smearOfBeats (4, [(0, .ref 0), (1, .int x1), (2, .int x2)], [], S, m) (some (.int res.1)) (S, res.2) := by
  induction n with
  | zero => intro x1 x2 m hf; cases hf
  | succ n ih =>
    intro x1 x2 m hf  hI
    unfold fX10_smearOfBeats_4 at hf
    refine to_iload_n (q := 5) rfl dX10_smearOfBeats_4 rfl ?_
    refine to_aload_n (q := 6) rfl (by decide) dX10_smearOfBeats_5 rfl ?_
    have hk1 : kd (rr m 0 3) = 2 := (ivT hI).2
    refine to_getR (q := 9) (b := rr m 0 3) (k0 := 10) (C := RX10) (T := TX10) (N := 17) (j := 3) rfl fx_X10_26 (h_0 hS) rfl ((ivT hI).1) dX10_smearOfBeats_6 rfl ?_
    refine to_getI (q := 12) (k0 := 2) (C := RX2) (T := TX2) (N := 14) (j := 13) rfl fx_X10_327 (sh_kd hS hk1 (by decide)) rfl dX10_smearOfBeats_9 rfl ?_
    by_cases h2 : (m.1 (rr m 0 3) 13) ≤ x2
    · have hf := ite_pos h2 hf
      refine to_icT (q := 49) (op := .ge) h2 dX10_smearOfBeats_12 rfl ?_
      refine to_iload_n (q := 50) rfl dX10_smearOfBeats_49 rfl ?_
      cases hf
      exact to_iret dX10_smearOfBeats_50 rfl rfl rfl rfl hI
    · have hf := ite_neg h2 hf
      refine to_icF (q := 15) (op := .ge) 49 h2 dX10_smearOfBeats_12 rfl rfl ?_
      refine to_iload_n (q := 16) rfl dX10_smearOfBeats_15 rfl ?_
      refine to_aload_n (q := 17) rfl (by decide) dX10_smearOfBeats_16 rfl ?_
      refine to_iconst (q := 18) ic_0 dX10_smearOfBeats_17 rfl ?_
      refine to_aload_n (q := 19) rfl (by decide) dX10_smearOfBeats_18 rfl ?_
      have hk3 : kd (rr m 0 3) = 2 := (ivT hI).2
      refine to_getR (q := 22) (b := rr m 0 3) (k0 := 10) (C := RX10) (T := TX10) (N := 17) (j := 3) rfl fx_X10_26 (h_0 hS) rfl ((ivT hI).1) dX10_smearOfBeats_19 rfl ?_
      refine to_getR (q := 25) (b := (rr m 0 3) + 6) (k0 := 2) (C := RX2) (T := TX2) (N := 14) (j := 12) rfl fx_X10_333 (sh_kd hS hk3 (by decide)) rfl (iv2b hI (hk3)) dX10_smearOfBeats_22 rfl ?_
      refine to_iload_n (q := 26) rfl dX10_smearOfBeats_25 rfl ?_
      refine to_iconst (q := 27) ic_1 dX10_smearOfBeats_26 rfl ?_
      refine to_isub (q := 28) dX10_smearOfBeats_27 rfl ?_
      obtain ⟨hb4, hf⟩ := ck_some hf
      refine to_iaj (q := 29) (sh_ln hS (kd2b (hk3)) (by decide)) hb4 (rfl) dX10_smearOfBeats_28 rfl ?_
      refine to_aload_n (q := 30) rfl (by decide) dX10_smearOfBeats_29 rfl ?_
      have hk5 : kd (rr m 0 3) = 2 := (ivT hI).2
      refine to_getR (q := 33) (b := rr m 0 3) (k0 := 10) (C := RX10) (T := TX10) (N := 17) (j := 3) rfl fx_X10_26 (h_0 hS) rfl ((ivT hI).1) dX10_smearOfBeats_30 rfl ?_
      refine to_getR (q := 36) (b := (rr m 0 3) + 6) (k0 := 2) (C := RX2) (T := TX2) (N := 14) (j := 12) rfl fx_X10_333 (sh_kd hS hk5 (by decide)) rfl (iv2b hI (hk5)) dX10_smearOfBeats_33 rfl ?_
      refine to_iload_n (q := 37) rfl dX10_smearOfBeats_36 rfl ?_
      obtain ⟨hb6, hf⟩ := ck_some hf
      refine to_iaj (q := 38) (sh_ln hS (kd2b (hk5)) (by decide)) hb6 (rfl) dX10_smearOfBeats_37 rfl ?_
      obtain ⟨r9, m10, hc7, hf⟩ := cl2_some hf
      have qc8 := kX10_smearBetween hS hc7 hI
      refine to_virtI (q := 41) mX10_smearBetween [.int (0 : Int32), .int (m.1 ((rr m 0 3) + 6) (x2 - (1 : Int32)).toNatClampNeg), .int (m.1 ((rr m 0 3) + 6) x2.toNatClampNeg)] dX10_smearOfBeats_38 rfl rfl (Nat.le_of_ble_eq_true rfl) mo_X10_smearBetween mv_X10_312 (Or.inl ⟨_, _, _, h_0 hS, rfl, rfl⟩) (Call_mono (by decide) qc8.1) ?_
      have hI := qc8.2
      refine to_iadd (q := 42) dX10_smearOfBeats_41 rfl ?_
      refine to_istore_n (q := 43) [(1, .int (x1 + r9)), (0, .ref 0), (2, .int x2)] rfl (by decide) dX10_smearOfBeats_42 rfl ?_
      refine to_iinc (q := 46) (v := (x2 + (1 : Int32))) rfl (congrArg (fun z => x2 + z) ic_1) [(2, .int (x2 + (1 : Int32))), (1, .int (x1 + r9)), (0, .ref 0)] rfl (by decide) dX10_smearOfBeats_43 rfl ?_
      refine to_goto (q := 4) dX10_smearOfBeats_46 rfl ?_
      exact to_ext [(0, .ref 0), (1, .int (x1 + r9)), (2, .int (x2 + (1 : Int32)))] (ext_cons rfl (ext_cons rfl (ext_cons rfl ext_nil))) (ih hf hI)
def fX10_smearOfBeats (m : Me) : Option (Int32 × Me) := fX10_smearOfBeats_4 FU ((0 : Int32)) ((1 : Int32)) m
set_option maxRecDepth 20000 in
theorem kX10_smearOfBeats {S : Sh} (hS : ShOK S) {res : Int32 × Me} {m : Me} (hf : fX10_smearOfBeats m = some res) (hI : Inv m) : Call 6 mX10_smearOfBeats [.ref 0] (S, m) (some (.int res.1)) (S, res.2) ∧ Inv res.2 := by
  refine call_of (P := InvS) (Nat.le_of_ble_eq_true rfl) (by simp [Value.category]) ?_
  show TT InvS (Call 5) mX10_smearOfBeats (0, [(0, .ref 0)], [], S, m) _ _
  unfold fX10_smearOfBeats at hf
  refine to_iconst (q := 1) ic_0 dX10_smearOfBeats_0 rfl ?_
  refine to_istore_n (q := 2) [(1, .int (0 : Int32)), (0, .ref 0)] rfl (by decide) dX10_smearOfBeats_1 rfl ?_
  refine to_iconst (q := 3) ic_1 dX10_smearOfBeats_2 rfl ?_
  refine to_istore_n (q := 4) [(2, .int (1 : Int32)), (1, .int (0 : Int32)), (0, .ref 0)] rfl (by decide) dX10_smearOfBeats_3 rfl ?_
  exact to_ext [(0, .ref 0), (1, .int (0 : Int32)), (2, .int (1 : Int32))] (ext_cons rfl (ext_cons rfl (ext_cons rfl ext_nil))) (kX10_smearOfBeats_4 hS FU hf hI)
def fX10_beats_25 (t0 : Int32) (m : Me) : Option (Int32 × Me) := some (t0, m)
set_option maxRecDepth 20000 in
theorem kX10_beats_25 {S : Sh} (hS : ShOK S) {res : Int32 × Me} {t0 : Int32} {m : Me} (hf : fX10_beats_25 t0 m = some res) (hI : Inv m) : TT InvS (Call 6) mX10_beats (25, [], [.int t0], S, m) (some (.int res.1)) (S, res.2) := by
  unfold fX10_beats_25 at hf
  cases hf
  exact to_iret dX10_beats_25 rfl rfl rfl rfl hI
def fX10_beats (m : Me) : Option (Int32 × Me) := cl2 (fX10_wrongBeats m) fun r3 m4 => if r3 = (0 : Int32) then cl2 (fX10_smearOfBeats m4) fun r12 m13 => cl2 (fX10_answer r12 m13) fun r16 m17 => fX10_beats_25 r16 m17 else cl2 (fX10_refuse r3 m4) fun r8 m9 => fX10_beats_25 r8 m9
set_option maxRecDepth 20000 in
theorem kX10_beats {S : Sh} (hS : ShOK S) {res : Int32 × Me} {m : Me} (hf : fX10_beats m = some res) (hI : Inv m) : Call 7 mX10_beats [.ref 0] (S, m) (some (.int res.1)) (S, res.2) ∧ Inv res.2 := by
  refine call_of (P := InvS) (Nat.le_of_ble_eq_true rfl) (by simp [Value.category]) ?_
  show TT InvS (Call 6) mX10_beats (0, [(0, .ref 0)], [], S, m) _ _
  unfold fX10_beats at hf
  refine to_aload_n (q := 1) rfl (by decide) dX10_beats_0 rfl ?_
  obtain ⟨r3, m4, hc1, hf⟩ := cl2_some hf
  have qc2 := kX10_wrongBeats hS hc1 hI
  refine to_virtI (q := 4) mX10_wrongBeats [] dX10_beats_1 rfl rfl (Nat.le_of_ble_eq_true rfl) mo_X10_wrongBeats mv_X10_315 (Or.inl ⟨_, _, _, h_0 hS, rfl, rfl⟩) (Call_mono (by decide) qc2.1) ?_
  have hI := qc2.2
  refine to_istore_n (q := 5) [(1, .int r3), (0, .ref 0)] rfl (by decide) dX10_beats_4 rfl ?_
  refine to_iload_n (q := 6) rfl dX10_beats_5 rfl ?_
  by_cases h5 : r3 = (0 : Int32)
  · have hf := ite_pos h5 hf
    refine to_ifF (q := 9) (op := .ne) 20 (fun z => z h5) dX10_beats_6 rfl rfl ?_
    refine to_aload_n (q := 10) rfl (by decide) dX10_beats_9 rfl ?_
    refine to_aload_n (q := 11) rfl (by decide) dX10_beats_10 rfl ?_
    obtain ⟨r12, m13, hc10, hf⟩ := cl2_some hf
    have qc11 := kX10_smearOfBeats hS hc10 hI
    refine to_virtI (q := 14) mX10_smearOfBeats [] dX10_beats_11 rfl rfl (Nat.le_of_ble_eq_true rfl) mo_X10_smearOfBeats mv_X10_318 (Or.inl ⟨_, _, _, h_0 hS, rfl, rfl⟩) (Call_mono (by decide) qc11.1) ?_
    have hI := qc11.2
    obtain ⟨r16, m17, hc14, hf⟩ := cl2_some hf
    have qc15 := kX10_answer hS hc14 hI
    refine to_virtI (q := 17) mX10_answer [.int r12] dX10_beats_14 rfl rfl (Nat.le_of_ble_eq_true rfl) mo_X10_answer mv_X10_135 (Or.inl ⟨_, _, _, h_0 hS, rfl, rfl⟩) (Call_mono (by decide) qc15.1) ?_
    have hI := qc15.2
    refine to_goto (q := 25) dX10_beats_17 rfl ?_
    exact to_ext [] ext_nil (kX10_beats_25 hS hf hI)
  · have hf := ite_neg h5 hf
    refine to_ifT (q := 20) (op := .ne) h5 dX10_beats_6 rfl ?_
    refine to_aload_n (q := 21) rfl (by decide) dX10_beats_20 rfl ?_
    refine to_iload_n (q := 22) rfl dX10_beats_21 rfl ?_
    obtain ⟨r8, m9, hc6, hf⟩ := cl2_some hf
    have qc7 := kX10_refuse hS hc6 hI
    refine to_virtI (q := 25) mX10_refuse [.int r3] dX10_beats_22 rfl rfl (Nat.le_of_ble_eq_true rfl) mo_X10_refuse mv_X10_98 (Or.inl ⟨_, _, _, h_0 hS, rfl, rfl⟩) (Call_mono (by decide) qc7.1) ?_
    have hI := qc7.2
    exact to_ext [] ext_nil (kX10_beats_25 hS hf hI)
def fX10_findCalm_15 (n : Nat) (k2 : Int32 → Me → Option (Me)) (x1 : Int32) (x2 : Int32) (m : Me) : Option (Me) := match n with
  | 0 => none
  | n + 1 => if (m.1 (rr m 0 3) 13) ≤ x2 then k2 ((x1 + (1 : Int32))) m else ck (inb x1 6) (ck (inb x2 6) (cl2 (fX10_smearBetween (0 : Int32) ((m.1 ((rr m 0 3) + 6) x1.toNatClampNeg)) ((m.1 ((rr m 0 3) + 6) x2.toNatClampNeg)) m) fun r15 m16 => ck (inb ((x1 * (6 : Int32)) + x2) 36) (fX10_findCalm_15 n k2 x1 ((x2 + (1 : Int32))) (setI m16 128 ((x1 * (6 : Int32)) + x2).toNatClampNeg r15))))
set_option maxRecDepth 20000 in
theorem kX10_findCalm_15 {S : Sh} (hS : ShOK S) {res : Me} {k2 : Int32 → Me → Option (Me)} (hk2 : ∀ {x1 : Int32} {m : Me}, k2 x1 m = some res → Inv m → TT InvS (Call 10) mX10_findCalm (2, [(0, .ref 0), (1, .int x1)], [], S, m) none (S, res)) (n : Nat) : ∀ {x1 : Int32} {x2 : Int32} {m : Me}, fX10_findCalm_15 n k2 x1 x2 m = some res → Inv m → TT InvS (Call 10) mX10_findCalm (15, [(0, .ref 0), (1, .int x1), (2, .int x2)], [], S, m) none (S, res) := by
  induction n with
  | zero => intro x1 x2 m hf; cases hf
  | succ n ih =>
    intro x1 x2 m hf  hI
    unfold fX10_findCalm_15 at hf
    refine to_iload_n (q := 16) rfl dX10_findCalm_15 rfl ?_
    refine to_aload_n (q := 17) rfl (by decide) dX10_findCalm_16 rfl ?_
    have hk7 : kd (rr m 0 3) = 2 := (ivT hI).2
    refine to_getR (q := 20) (b := rr m 0 3) (k0 := 10) (C := RX10) (T := TX10) (N := 17) (j := 3) rfl fx_X10_26 (h_0 hS) rfl ((ivT hI).1) dX10_findCalm_17 rfl ?_
    refine to_getI (q := 23) (k0 := 2) (C := RX2) (T := TX2) (N := 14) (j := 13) rfl fx_X10_327 (sh_kd hS hk7 (by decide)) rfl dX10_findCalm_20 rfl ?_
    by_cases h8 : (m.1 (rr m 0 3) 13) ≤ x2
    · have hf := ite_pos h8 hf
      refine to_icT (q := 69) (op := .ge) h8 dX10_findCalm_23 rfl ?_
      refine to_iinc (q := 72) (v := (x1 + (1 : Int32))) rfl (congrArg (fun z => x1 + z) ic_1) [(1, .int (x1 + (1 : Int32))), (0, .ref 0), (2, .int x2)] rfl (by decide) dX10_findCalm_69 rfl ?_
      refine to_goto (q := 2) dX10_findCalm_72 rfl ?_
      exact to_ext [(0, .ref 0), (1, .int (x1 + (1 : Int32)))] (ext_cons rfl (ext_cons rfl ext_nil)) (hk2 hf hI)
    · have hf := ite_neg h8 hf
      refine to_icF (q := 26) (op := .ge) 69 h8 dX10_findCalm_23 rfl rfl ?_
      refine to_aload_n (q := 27) rfl (by decide) dX10_findCalm_26 rfl ?_
      refine to_getR (q := 30) (b := 127) (k0 := 10) (C := RX10) (T := TX10) (N := 17) (j := 14) rfl fx_X10_82 (h_0 hS) rfl (iv_0_14 hI) dX10_findCalm_27 rfl ?_
      refine to_getR (q := 33) (b := 128) (k0 := 1) (C := RX1) (T := TX1) (N := 5) (j := 0) rfl fx_X10_392 (h_127 hS) rfl (iv_127_0 hI) dX10_findCalm_30 rfl ?_
      refine to_iload_n (q := 34) rfl dX10_findCalm_33 rfl ?_
      refine to_bipush (q := 36) bp_6 dX10_findCalm_34 rfl ?_
      refine to_imul (q := 37) dX10_findCalm_36 rfl ?_
      refine to_iload_n (q := 38) rfl dX10_findCalm_37 rfl ?_
      refine to_iadd (q := 39) dX10_findCalm_38 rfl ?_
      refine to_aload_n (q := 40) rfl (by decide) dX10_findCalm_39 rfl ?_
      refine to_iconst (q := 41) ic_0 dX10_findCalm_40 rfl ?_
      refine to_aload_n (q := 42) rfl (by decide) dX10_findCalm_41 rfl ?_
      have hk9 : kd (rr m 0 3) = 2 := (ivT hI).2
      refine to_getR (q := 45) (b := rr m 0 3) (k0 := 10) (C := RX10) (T := TX10) (N := 17) (j := 3) rfl fx_X10_26 (h_0 hS) rfl ((ivT hI).1) dX10_findCalm_42 rfl ?_
      refine to_getR (q := 48) (b := (rr m 0 3) + 6) (k0 := 2) (C := RX2) (T := TX2) (N := 14) (j := 12) rfl fx_X10_333 (sh_kd hS hk9 (by decide)) rfl (iv2b hI (hk9)) dX10_findCalm_45 rfl ?_
      refine to_iload_n (q := 49) rfl dX10_findCalm_48 rfl ?_
      obtain ⟨hb10, hf⟩ := ck_some hf
      refine to_iaj (q := 50) (sh_ln hS (kd2b (hk9)) (by decide)) hb10 (rfl) dX10_findCalm_49 rfl ?_
      refine to_aload_n (q := 51) rfl (by decide) dX10_findCalm_50 rfl ?_
      have hk11 : kd (rr m 0 3) = 2 := (ivT hI).2
      refine to_getR (q := 54) (b := rr m 0 3) (k0 := 10) (C := RX10) (T := TX10) (N := 17) (j := 3) rfl fx_X10_26 (h_0 hS) rfl ((ivT hI).1) dX10_findCalm_51 rfl ?_
      refine to_getR (q := 57) (b := (rr m 0 3) + 6) (k0 := 2) (C := RX2) (T := TX2) (N := 14) (j := 12) rfl fx_X10_333 (sh_kd hS hk11 (by decide)) rfl (iv2b hI (hk11)) dX10_findCalm_54 rfl ?_
      refine to_iload_n (q := 58) rfl dX10_findCalm_57 rfl ?_
      obtain ⟨hb12, hf⟩ := ck_some hf
      refine to_iaj (q := 59) (sh_ln hS (kd2b (hk11)) (by decide)) hb12 (rfl) dX10_findCalm_58 rfl ?_
      obtain ⟨r15, m16, hc13, hf⟩ := cl2_some hf
      have qc14 := kX10_smearBetween hS hc13 hI
      refine to_virtI (q := 62) mX10_smearBetween [.int (0 : Int32), .int (m.1 ((rr m 0 3) + 6) x1.toNatClampNeg), .int (m.1 ((rr m 0 3) + 6) x2.toNatClampNeg)] dX10_findCalm_59 rfl rfl (Nat.le_of_ble_eq_true rfl) mo_X10_smearBetween mv_X10_312 (Or.inl ⟨_, _, _, h_0 hS, rfl, rfl⟩) (Call_mono (by decide) qc14.1) ?_
      have hI := qc14.2
      obtain ⟨hb17, hf⟩ := ck_some hf
      refine to_iasj (q := 63) (h_128 hS) hb17 (rfl) dX10_findCalm_62 rfl ?_
      refine to_iinc (q := 66) (v := (x2 + (1 : Int32))) rfl (congrArg (fun z => x2 + z) ic_1) [(2, .int (x2 + (1 : Int32))), (0, .ref 0), (1, .int x1)] rfl (by decide) dX10_findCalm_63 rfl ?_
      refine to_goto (q := 15) dX10_findCalm_66 rfl ?_
      exact to_ext [(0, .ref 0), (1, .int x1), (2, .int (x2 + (1 : Int32)))] (ext_cons rfl (ext_cons rfl (ext_cons rfl ext_nil))) (ih hf hI)
def fX10_findCalm_2 (n : Nat) (x1 : Int32) (m : Me) : Option (Me) := match n with
  | 0 => none
  | n + 1 => if (m.1 (rr m 0 3) 13) ≤ x1 then cl1 (fX1_settle ((m.1 (rr m 0 3) 13)) m) fun m6 => some m6 else fX10_findCalm_15 FU (fX10_findCalm_2 n) x1 ((0 : Int32)) m
set_option maxRecDepth 20000 in
theorem kX10_findCalm_2 {S : Sh} (hS : ShOK S) {res : Me} (n : Nat) : ∀ {x1 : Int32} {m : Me}, fX10_findCalm_2 n x1 m = some res → Inv m → TT InvS (Call 10) mX10_findCalm (2, [(0, .ref 0), (1, .int x1)], [], S, m) none (S, res) := by
  induction n with
  | zero => intro x1 m hf; cases hf
  | succ n ih =>
    intro x1 m hf  hI
    unfold fX10_findCalm_2 at hf
    refine to_iload_n (q := 3) rfl dX10_findCalm_2 rfl ?_
    refine to_aload_n (q := 4) rfl (by decide) dX10_findCalm_3 rfl ?_
    have hk1 : kd (rr m 0 3) = 2 := (ivT hI).2
    refine to_getR (q := 7) (b := rr m 0 3) (k0 := 10) (C := RX10) (T := TX10) (N := 17) (j := 3) rfl fx_X10_26 (h_0 hS) rfl ((ivT hI).1) dX10_findCalm_4 rfl ?_
    refine to_getI (q := 10) (k0 := 2) (C := RX2) (T := TX2) (N := 14) (j := 13) rfl fx_X10_327 (sh_kd hS hk1 (by decide)) rfl dX10_findCalm_7 rfl ?_
    by_cases h2 : (m.1 (rr m 0 3) 13) ≤ x1
    · have hf := ite_pos h2 hf
      refine to_icT (q := 75) (op := .ge) h2 dX10_findCalm_10 rfl ?_
      refine to_aload_n (q := 76) rfl (by decide) dX10_findCalm_75 rfl ?_
      refine to_getR (q := 79) (b := 127) (k0 := 10) (C := RX10) (T := TX10) (N := 17) (j := 14) rfl fx_X10_82 (h_0 hS) rfl (iv_0_14 hI) dX10_findCalm_76 rfl ?_
      refine to_aload_n (q := 80) rfl (by decide) dX10_findCalm_79 rfl ?_
      have hk3 : kd (rr m 0 3) = 2 := (ivT hI).2
      refine to_getR (q := 83) (b := rr m 0 3) (k0 := 10) (C := RX10) (T := TX10) (N := 17) (j := 3) rfl fx_X10_26 (h_0 hS) rfl ((ivT hI).1) dX10_findCalm_80 rfl ?_
      refine to_getI (q := 86) (k0 := 2) (C := RX2) (T := TX2) (N := 14) (j := 13) rfl fx_X10_327 (sh_kd hS hk3 (by decide)) rfl dX10_findCalm_83 rfl ?_
      obtain ⟨m6, hc4, hf⟩ := cl1_some hf
      have qc5 := kX1_settle hS hc4 hI
      refine to_virtV (q := 89) mX1_settle [.int (m.1 (rr m 0 3) 13)] dX10_findCalm_86 rfl rfl (Nat.le_of_ble_eq_true rfl) mo_X1_settle mv_X10_395 (Or.inl ⟨_, _, _, h_127 hS, rfl, rfl⟩) (Call_mono (by decide) qc5.1) ?_
      have hI := qc5.2
      cases hf
      exact to_vret dX10_findCalm_89 rfl rfl rfl hI
    · have hf := ite_neg h2 hf
      refine to_icF (q := 13) (op := .ge) 75 h2 dX10_findCalm_10 rfl rfl ?_
      refine to_iconst (q := 14) ic_0 dX10_findCalm_13 rfl ?_
      refine to_istore_n (q := 15) [(2, .int (0 : Int32)), (0, .ref 0), (1, .int x1)] rfl (by decide) dX10_findCalm_14 rfl ?_
      exact to_ext [(0, .ref 0), (1, .int x1), (2, .int (0 : Int32))] (ext_cons rfl (ext_cons rfl (ext_cons rfl ext_nil))) (kX10_findCalm_15 hS ih FU hf hI)
def fX10_findCalm (m : Me) : Option (Me) := fX10_findCalm_2 FU ((0 : Int32)) m
set_option maxRecDepth 20000 in
theorem kX10_findCalm {S : Sh} (hS : ShOK S) {res : Me} {m : Me} (hf : fX10_findCalm m = some res) (hI : Inv m) : Call 11 mX10_findCalm [.ref 0] (S, m) none (S, res) ∧ Inv res := by
  refine call_of (P := InvS) (Nat.le_of_ble_eq_true rfl) (by simp [Value.category]) ?_
  show TT InvS (Call 10) mX10_findCalm (0, [(0, .ref 0)], [], S, m) _ _
  unfold fX10_findCalm at hf
  refine to_iconst (q := 1) ic_0 dX10_findCalm_0 rfl ?_
  refine to_istore_n (q := 2) [(1, .int (0 : Int32)), (0, .ref 0)] rfl (by decide) dX10_findCalm_1 rfl ?_
  exact to_ext [(0, .ref 0), (1, .int (0 : Int32))] (ext_cons rfl (ext_cons rfl ext_nil)) (kX10_findCalm_2 hS FU hf hI)
def fX10_calm (m : Me) : Option (Int32 × Me) := cl2 (fX10_wrongBeats m) fun r3 m4 => if r3 = (0 : Int32) then cl1 (fX10_findCalm m4) fun m8 => cl2 (fX10_answer (m8.1 127 4) m8) fun r11 m12 => some (r11, m12) else cl2 (fX10_refuse r3 m4) fun r15 m16 => some (r15, m16)
set_option maxRecDepth 20000 in
theorem kX10_calm {S : Sh} (hS : ShOK S) {res : Int32 × Me} {m : Me} (hf : fX10_calm m = some res) (hI : Inv m) : Call 12 mX10_calm [.ref 0] (S, m) (some (.int res.1)) (S, res.2) ∧ Inv res.2 := by
  refine call_of (P := InvS) (Nat.le_of_ble_eq_true rfl) (by simp [Value.category]) ?_
  show TT InvS (Call 11) mX10_calm (0, [(0, .ref 0)], [], S, m) _ _
  unfold fX10_calm at hf
  refine to_aload_n (q := 1) rfl (by decide) dX10_calm_0 rfl ?_
  obtain ⟨r3, m4, hc1, hf⟩ := cl2_some hf
  have qc2 := kX10_wrongBeats hS hc1 hI
  refine to_virtI (q := 4) mX10_wrongBeats [] dX10_calm_1 rfl rfl (Nat.le_of_ble_eq_true rfl) mo_X10_wrongBeats mv_X10_315 (Or.inl ⟨_, _, _, h_0 hS, rfl, rfl⟩) (Call_mono (by decide) qc2.1) ?_
  have hI := qc2.2
  refine to_istore_n (q := 5) [(1, .int r3), (0, .ref 0)] rfl (by decide) dX10_calm_4 rfl ?_
  refine to_iload_n (q := 6) rfl dX10_calm_5 rfl ?_
  by_cases h5 : r3 = (0 : Int32)
  · have hf := ite_pos h5 hf
    refine to_ifT (q := 15) (op := .eq) h5 dX10_calm_6 rfl ?_
    refine to_aload_n (q := 16) rfl (by decide) dX10_calm_15 rfl ?_
    obtain ⟨m8, hc6, hf⟩ := cl1_some hf
    have qc7 := kX10_findCalm hS hc6 hI
    refine to_virtV (q := 19) mX10_findCalm [] dX10_calm_16 rfl rfl (Nat.le_of_ble_eq_true rfl) mo_X10_findCalm mv_X10_321 (Or.inl ⟨_, _, _, h_0 hS, rfl, rfl⟩) (Call_mono (by decide) qc7.1) ?_
    have hI := qc7.2
    refine to_aload_n (q := 20) rfl (by decide) dX10_calm_19 rfl ?_
    refine to_aload_n (q := 21) rfl (by decide) dX10_calm_20 rfl ?_
    refine to_getR (q := 24) (b := 127) (k0 := 10) (C := RX10) (T := TX10) (N := 17) (j := 14) rfl fx_X10_82 (h_0 hS) rfl (iv_0_14 hI) dX10_calm_21 rfl ?_
    refine to_getI (q := 27) (k0 := 1) (C := RX1) (T := TX1) (N := 5) (j := 4) rfl fx_X10_324 (h_127 hS) rfl dX10_calm_24 rfl ?_
    obtain ⟨r11, m12, hc9, hf⟩ := cl2_some hf
    have qc10 := kX10_answer hS hc9 hI
    refine to_virtI (q := 30) mX10_answer [.int (m8.1 127 4)] dX10_calm_27 rfl rfl (Nat.le_of_ble_eq_true rfl) mo_X10_answer mv_X10_135 (Or.inl ⟨_, _, _, h_0 hS, rfl, rfl⟩) (Call_mono (by decide) qc10.1) ?_
    have hI := qc10.2
    cases hf
    exact to_iret dX10_calm_30 rfl rfl rfl rfl hI
  · have hf := ite_neg h5 hf
    refine to_ifF (q := 9) (op := .eq) 15 h5 dX10_calm_6 rfl rfl ?_
    refine to_aload_n (q := 10) rfl (by decide) dX10_calm_9 rfl ?_
    refine to_iload_n (q := 11) rfl dX10_calm_10 rfl ?_
    obtain ⟨r15, m16, hc13, hf⟩ := cl2_some hf
    have qc14 := kX10_refuse hS hc13 hI
    refine to_virtI (q := 14) mX10_refuse [.int r3] dX10_calm_11 rfl rfl (Nat.le_of_ble_eq_true rfl) mo_X10_refuse mv_X10_98 (Or.inl ⟨_, _, _, h_0 hS, rfl, rfl⟩) (Call_mono (by decide) qc14.1) ?_
    have hI := qc14.2
    cases hf
    exact to_iret dX10_calm_14 rfl rfl rfl rfl hI
def fX10_calmAt_30 (m : Me) : Option (Int32 × Me) := cl2 (fX10_refuse (1 : Int32) m) fun r23 m24 => some (r23, m24)
set_option maxRecDepth 20000 in
theorem kX10_calmAt_30 {S : Sh} (hS : ShOK S) {res : Int32 × Me} {m : Me} (hf : fX10_calmAt_30 m = some res) (hI : Inv m) : TT InvS (Call 11) mX10_calmAt (30, [(0, .ref 0)], [], S, m) (some (.int res.1)) (S, res.2) := by
  unfold fX10_calmAt_30 at hf
  refine to_aload_n (q := 31) rfl (by decide) dX10_calmAt_30 rfl ?_
  refine to_iconst (q := 32) ic_1 dX10_calmAt_31 rfl ?_
  obtain ⟨r23, m24, hc21, hf⟩ := cl2_some hf
  have qc22 := kX10_refuse hS hc21 hI
  refine to_virtI (q := 35) mX10_refuse [.int (1 : Int32)] dX10_calmAt_32 rfl rfl (Nat.le_of_ble_eq_true rfl) mo_X10_refuse mv_X10_98 (Or.inl ⟨_, _, _, h_0 hS, rfl, rfl⟩) (Call_mono (by decide) qc22.1) ?_
  have hI := qc22.2
  cases hf
  exact to_iret dX10_calmAt_35 rfl rfl rfl rfl hI
def fX10_calmAt (x1 : Int32) (m : Me) : Option (Int32 × Me) := cl2 (fX10_wrongBeats m) fun r3 m4 => if r3 = (0 : Int32) then if x1 < (0 : Int32) then fX10_calmAt_30 m4 else if x1 < (m4.1 (rr m4 0 3) 13) then cl1 (fX10_findCalm m4) fun m11 => ck (inb x1 6) (cl2 (fX10_answer (m11.1 129 x1.toNatClampNeg) m11) fun r15 m16 => some (r15, m16)) else fX10_calmAt_30 m4 else cl2 (fX10_refuse r3 m4) fun r19 m20 => some (r19, m20)
set_option maxRecDepth 20000 in
theorem kX10_calmAt {S : Sh} (hS : ShOK S) {res : Int32 × Me} {x1 : Int32} {m : Me} (hf : fX10_calmAt x1 m = some res) (hI : Inv m) : Call 12 mX10_calmAt [.ref 0, .int x1] (S, m) (some (.int res.1)) (S, res.2) ∧ Inv res.2 := by
  refine call_of (P := InvS) (Nat.le_of_ble_eq_true rfl) (by simp [Value.category]) ?_
  show TT InvS (Call 11) mX10_calmAt (0, [(0, .ref 0), (1, .int x1)], [], S, m) _ _
  unfold fX10_calmAt at hf
  refine to_aload_n (q := 1) rfl (by decide) dX10_calmAt_0 rfl ?_
  obtain ⟨r3, m4, hc1, hf⟩ := cl2_some hf
  have qc2 := kX10_wrongBeats hS hc1 hI
  refine to_virtI (q := 4) mX10_wrongBeats [] dX10_calmAt_1 rfl rfl (Nat.le_of_ble_eq_true rfl) mo_X10_wrongBeats mv_X10_315 (Or.inl ⟨_, _, _, h_0 hS, rfl, rfl⟩) (Call_mono (by decide) qc2.1) ?_
  have hI := qc2.2
  refine to_istore_n (q := 5) [(2, .int r3), (0, .ref 0), (1, .int x1)] rfl (by decide) dX10_calmAt_4 rfl ?_
  refine to_iload_n (q := 6) rfl dX10_calmAt_5 rfl ?_
  by_cases h5 : r3 = (0 : Int32)
  · have hf := ite_pos h5 hf
    refine to_ifT (q := 15) (op := .eq) h5 dX10_calmAt_6 rfl ?_
    refine to_iload_n (q := 16) rfl dX10_calmAt_15 rfl ?_
    by_cases h6 : x1 < (0 : Int32)
    · have hf := ite_pos h6 hf
      refine to_ifT (q := 30) (op := .lt) h6 dX10_calmAt_16 rfl ?_
      exact to_ext [(0, .ref 0)] (ext_cons rfl ext_nil) (kX10_calmAt_30 hS hf hI)
    · have hf := ite_neg h6 hf
      refine to_ifF (q := 19) (op := .lt) 30 h6 dX10_calmAt_16 rfl rfl ?_
      refine to_iload_n (q := 20) rfl dX10_calmAt_19 rfl ?_
      refine to_aload_n (q := 21) rfl (by decide) dX10_calmAt_20 rfl ?_
      have hk7 : kd (rr m4 0 3) = 2 := (ivT hI).2
      refine to_getR (q := 24) (b := rr m4 0 3) (k0 := 10) (C := RX10) (T := TX10) (N := 17) (j := 3) rfl fx_X10_26 (h_0 hS) rfl ((ivT hI).1) dX10_calmAt_21 rfl ?_
      refine to_getI (q := 27) (k0 := 2) (C := RX2) (T := TX2) (N := 14) (j := 13) rfl fx_X10_327 (sh_kd hS hk7 (by decide)) rfl dX10_calmAt_24 rfl ?_
      by_cases h8 : x1 < (m4.1 (rr m4 0 3) 13)
      · have hf := ite_pos h8 hf
        refine to_icT (q := 36) (op := .lt) h8 dX10_calmAt_27 rfl ?_
        refine to_aload_n (q := 37) rfl (by decide) dX10_calmAt_36 rfl ?_
        obtain ⟨m11, hc9, hf⟩ := cl1_some hf
        have qc10 := kX10_findCalm hS hc9 hI
        refine to_virtV (q := 40) mX10_findCalm [] dX10_calmAt_37 rfl rfl (Nat.le_of_ble_eq_true rfl) mo_X10_findCalm mv_X10_321 (Or.inl ⟨_, _, _, h_0 hS, rfl, rfl⟩) (Call_mono (by decide) qc10.1) ?_
        have hI := qc10.2
        refine to_aload_n (q := 41) rfl (by decide) dX10_calmAt_40 rfl ?_
        refine to_aload_n (q := 42) rfl (by decide) dX10_calmAt_41 rfl ?_
        refine to_getR (q := 45) (b := 127) (k0 := 10) (C := RX10) (T := TX10) (N := 17) (j := 14) rfl fx_X10_82 (h_0 hS) rfl (iv_0_14 hI) dX10_calmAt_42 rfl ?_
        refine to_getR (q := 48) (b := 129) (k0 := 1) (C := RX1) (T := TX1) (N := 5) (j := 1) rfl fx_X10_330 (h_127 hS) rfl (iv_127_1 hI) dX10_calmAt_45 rfl ?_
        refine to_iload_n (q := 49) rfl dX10_calmAt_48 rfl ?_
        obtain ⟨hb12, hf⟩ := ck_some hf
        refine to_iaj (q := 50) (h_129 hS) hb12 (rfl) dX10_calmAt_49 rfl ?_
        obtain ⟨r15, m16, hc13, hf⟩ := cl2_some hf
        have qc14 := kX10_answer hS hc13 hI
        refine to_virtI (q := 53) mX10_answer [.int (m11.1 129 x1.toNatClampNeg)] dX10_calmAt_50 rfl rfl (Nat.le_of_ble_eq_true rfl) mo_X10_answer mv_X10_135 (Or.inl ⟨_, _, _, h_0 hS, rfl, rfl⟩) (Call_mono (by decide) qc14.1) ?_
        have hI := qc14.2
        cases hf
        exact to_iret dX10_calmAt_53 rfl rfl rfl rfl hI
      · have hf := ite_neg h8 hf
        refine to_icF (q := 30) (op := .lt) 36 h8 dX10_calmAt_27 rfl rfl ?_
        exact to_ext [(0, .ref 0)] (ext_cons rfl ext_nil) (kX10_calmAt_30 hS hf hI)
  · have hf := ite_neg h5 hf
    refine to_ifF (q := 9) (op := .eq) 15 h5 dX10_calmAt_6 rfl rfl ?_
    refine to_aload_n (q := 10) rfl (by decide) dX10_calmAt_9 rfl ?_
    refine to_iload_n (q := 11) rfl dX10_calmAt_10 rfl ?_
    obtain ⟨r19, m20, hc17, hf⟩ := cl2_some hf
    have qc18 := kX10_refuse hS hc17 hI
    refine to_virtI (q := 14) mX10_refuse [.int r3] dX10_calmAt_11 rfl rfl (Nat.le_of_ble_eq_true rfl) mo_X10_refuse mv_X10_98 (Or.inl ⟨_, _, _, h_0 hS, rfl, rfl⟩) (Call_mono (by decide) qc18.1) ?_
    have hI := qc18.2
    cases hf
    exact to_iret dX10_calmAt_14 rfl rfl rfl rfl hI
def fX10_flutters_85 (k35 : Int32 → Int32 → Int32 → Me → Option (Int32 × Me)) (x1 : Int32) (x2 : Int32) (x3 : Int32) (m : Me) : Option (Int32 × Me) := k35 x1 x2 ((x3 + (1 : Int32))) m
set_option maxRecDepth 20000 in
theorem kX10_flutters_85 {S : Sh} (hS : ShOK S) {res : Int32 × Me} {k35 : Int32 → Int32 → Int32 → Me → Option (Int32 × Me)} (hk35 : ∀ {x1 : Int32} {x2 : Int32} {x3 : Int32} {m : Me}, k35 x1 x2 x3 m = some res → Inv m → TT InvS (Call 5) mX10_flutters (35, [(0, .ref 0), (1, .int x1), (2, .int x2), (3, .int x3)], [], S, m) (some (.int res.1)) (S, res.2)) {x1 : Int32} {x2 : Int32} {x3 : Int32} {m : Me} (hf : fX10_flutters_85 k35 x1 x2 x3 m = some res) (hI : Inv m) : TT InvS (Call 5) mX10_flutters (85, [(0, .ref 0), (1, .int x1), (2, .int x2), (3, .int x3)], [], S, m) (some (.int res.1)) (S, res.2) := by
  unfold fX10_flutters_85 at hf
  refine to_iinc (q := 88) (v := (x3 + (1 : Int32))) rfl (congrArg (fun z => x3 + z) ic_1) [(3, .int (x3 + (1 : Int32))), (0, .ref 0), (1, .int x1), (2, .int x2)] rfl (by decide) dX10_flutters_85 rfl ?_
  refine to_goto (q := 35) dX10_flutters_88 rfl ?_
  exact to_ext [(0, .ref 0), (1, .int x1), (2, .int x2), (3, .int (x3 + (1 : Int32)))] (ext_cons rfl (ext_cons rfl (ext_cons rfl (ext_cons rfl ext_nil)))) (hk35 hf hI)
def fX10_flutters_35 (n : Nat) (x1 : Int32) (x2 : Int32) (x3 : Int32) (m : Me) : Option (Int32 × Me) := match n with
  | 0 => none
  | n + 1 => if (m.1 (rr m 0 3) 13) ≤ x3 then cl2 (fX10_answer x2 m) fun r20 m21 => some (r20, m21) else ck (inb x3 6) (cl1 (fX10_lookAt (0 : Int32) ((m.1 ((rr m 0 3) + 6) x3.toNatClampNeg)) m) fun m26 => ck (inb x1 6) (cl2 (fX7_isRead 88 (rr m26 0 3 + 7 + 2 * x1.toNatClampNeg) m26) fun r31 m32 => if r31 = (0 : Int32) then fX10_flutters_85 (fX10_flutters_35 n) x1 x2 x3 m32 else fX10_flutters_85 (fX10_flutters_35 n) x1 ((x2 ||| ((1 : Int32) <<< (x3 &&& 31)))) x3 m32))
set_option maxRecDepth 20000 in
theorem kX10_flutters_35 {S : Sh} (hS : ShOK S) {res : Int32 × Me} (n : Nat) : ∀ {x1 : Int32} {x2 : Int32} {x3 : Int32} {m : Me}, fX10_flutters_35 n x1 x2 x3 m = some res → Inv m → TT InvS (Call 5) mX10_flutters (35, [(0, .ref 0), (1, .int x1), (2, .int x2), (3, .int x3)], [], S, m) (some (.int res.1)) (S, res.2) := by
  induction n with
  | zero => intro x1 x2 x3 m hf; cases hf
  | succ n ih =>
    intro x1 x2 x3 m hf  hI
    unfold fX10_flutters_35 at hf
    refine to_iload_n (q := 36) rfl dX10_flutters_35 rfl ?_
    refine to_aload_n (q := 37) rfl (by decide) dX10_flutters_36 rfl ?_
    have hk16 : kd (rr m 0 3) = 2 := (ivT hI).2
    refine to_getR (q := 40) (b := rr m 0 3) (k0 := 10) (C := RX10) (T := TX10) (N := 17) (j := 3) rfl fx_X10_26 (h_0 hS) rfl ((ivT hI).1) dX10_flutters_37 rfl ?_
    refine to_getI (q := 43) (k0 := 2) (C := RX2) (T := TX2) (N := 14) (j := 13) rfl fx_X10_327 (sh_kd hS hk16 (by decide)) rfl dX10_flutters_40 rfl ?_
    by_cases h17 : (m.1 (rr m 0 3) 13) ≤ x3
    · have hf := ite_pos h17 hf
      refine to_icT (q := 91) (op := .ge) h17 dX10_flutters_43 rfl ?_
      refine to_aload_n (q := 92) rfl (by decide) dX10_flutters_91 rfl ?_
      refine to_iload_n (q := 93) rfl dX10_flutters_92 rfl ?_
      obtain ⟨r20, m21, hc18, hf⟩ := cl2_some hf
      have qc19 := kX10_answer hS hc18 hI
      refine to_virtI (q := 96) mX10_answer [.int x2] dX10_flutters_93 rfl rfl (Nat.le_of_ble_eq_true rfl) mo_X10_answer mv_X10_135 (Or.inl ⟨_, _, _, h_0 hS, rfl, rfl⟩) (Call_mono (by decide) qc19.1) ?_
      have hI := qc19.2
      cases hf
      exact to_iret dX10_flutters_96 rfl rfl rfl rfl hI
    · have hf := ite_neg h17 hf
      refine to_icF (q := 46) (op := .ge) 91 h17 dX10_flutters_43 rfl rfl ?_
      refine to_aload_n (q := 47) rfl (by decide) dX10_flutters_46 rfl ?_
      refine to_iconst (q := 48) ic_0 dX10_flutters_47 rfl ?_
      refine to_aload_n (q := 49) rfl (by decide) dX10_flutters_48 rfl ?_
      have hk22 : kd (rr m 0 3) = 2 := (ivT hI).2
      refine to_getR (q := 52) (b := rr m 0 3) (k0 := 10) (C := RX10) (T := TX10) (N := 17) (j := 3) rfl fx_X10_26 (h_0 hS) rfl ((ivT hI).1) dX10_flutters_49 rfl ?_
      refine to_getR (q := 55) (b := (rr m 0 3) + 6) (k0 := 2) (C := RX2) (T := TX2) (N := 14) (j := 12) rfl fx_X10_333 (sh_kd hS hk22 (by decide)) rfl (iv2b hI (hk22)) dX10_flutters_52 rfl ?_
      refine to_iload_n (q := 56) rfl dX10_flutters_55 rfl ?_
      obtain ⟨hb23, hf⟩ := ck_some hf
      refine to_iaj (q := 57) (sh_ln hS (kd2b (hk22)) (by decide)) hb23 (rfl) dX10_flutters_56 rfl ?_
      obtain ⟨m26, hc24, hf⟩ := cl1_some hf
      have qc25 := kX10_lookAt hS hc24 hI
      refine to_virtV (q := 60) mX10_lookAt [.int (0 : Int32), .int (m.1 ((rr m 0 3) + 6) x3.toNatClampNeg)] dX10_flutters_57 rfl rfl (Nat.le_of_ble_eq_true rfl) mo_X10_lookAt mv_X10_170 (Or.inl ⟨_, _, _, h_0 hS, rfl, rfl⟩) (Call_mono (by decide) qc25.1) ?_
      have hI := qc25.2
      refine to_aload_n (q := 61) rfl (by decide) dX10_flutters_60 rfl ?_
      refine to_getR (q := 64) (b := 88) (k0 := 10) (C := RX10) (T := TX10) (N := 17) (j := 9) rfl fx_X10_51 (h_0 hS) rfl (iv_0_9 hI) dX10_flutters_61 rfl ?_
      refine to_aload_n (q := 65) rfl (by decide) dX10_flutters_64 rfl ?_
      have hk27 : kd (rr m26 0 3) = 2 := (ivT hI).2
      refine to_getR (q := 68) (b := rr m26 0 3) (k0 := 10) (C := RX10) (T := TX10) (N := 17) (j := 3) rfl fx_X10_26 (h_0 hS) rfl ((ivT hI).1) dX10_flutters_65 rfl ?_
      refine to_getR (q := 71) (b := (rr m26 0 3) + 3) (k0 := 2) (C := RX2) (T := TX2) (N := 14) (j := 6) rfl fx_X10_202 (sh_kd hS hk27 (by decide)) rfl (iv2w hI (hk27)) dX10_flutters_68 rfl ?_
      refine to_iload_n (q := 72) rfl dX10_flutters_71 rfl ?_
      obtain ⟨hb28, hf⟩ := ck_some hf
      refine to_aald (q := 73) (b := rr m26 0 3 + 7 + 2 * x1.toNatClampNeg) (sh_ln hS (kd2w (hk27)) (by decide)) (by decide) hb28 (ivW hI (hk27) hb28) dX10_flutters_72 rfl ?_
      obtain ⟨r31, m32, hc29, hf⟩ := cl2_some hf
      have qc30 := kX7_isRead hS hc29 rfl (kdW (hk27) hb28) hI
      refine to_virtI (q := 76) mX7_isRead [.ref (rr m26 0 3 + 7 + 2 * x1.toNatClampNeg)] dX10_flutters_73 rfl rfl (Nat.le_of_ble_eq_true rfl) mo_X7_isRead mv_X10_226 (Or.inl ⟨_, _, _, h_88 hS, rfl, rfl⟩) (Call_mono (by decide) qc30.1) ?_
      have hI := qc30.2
      by_cases h33 : r31 = (0 : Int32)
      · have hf := ite_pos h33 hf
        refine to_ifT (q := 85) (op := .eq) h33 dX10_flutters_76 rfl ?_
        exact to_ext [(0, .ref 0), (1, .int x1), (2, .int x2), (3, .int x3)] (ext_cons rfl (ext_cons rfl (ext_cons rfl (ext_cons rfl ext_nil)))) (kX10_flutters_85 hS ih hf hI)
      · have hf := ite_neg h33 hf
        refine to_ifF (q := 79) (op := .eq) 85 h33 dX10_flutters_76 rfl rfl ?_
        refine to_iload_n (q := 80) rfl dX10_flutters_79 rfl ?_
        refine to_iconst (q := 81) ic_1 dX10_flutters_80 rfl ?_
        refine to_iload_n (q := 82) rfl dX10_flutters_81 rfl ?_
        refine to_ishl (q := 83) dX10_flutters_82 rfl ?_
        refine to_ior (q := 84) dX10_flutters_83 rfl ?_
        refine to_istore_n (q := 85) [(2, .int (x2 ||| ((1 : Int32) <<< (x3 &&& 31)))), (0, .ref 0), (1, .int x1), (3, .int x3)] rfl (by decide) dX10_flutters_84 rfl ?_
        exact to_ext [(0, .ref 0), (1, .int x1), (2, .int (x2 ||| ((1 : Int32) <<< (x3 &&& 31)))), (3, .int x3)] (ext_cons rfl (ext_cons rfl (ext_cons rfl (ext_cons rfl ext_nil)))) (kX10_flutters_85 hS ih hf hI)
def fX10_flutters (x1 : Int32) (m : Me) : Option (Int32 × Me) := cl2 (fX10_noWord x1 m) fun r3 m4 => if r3 = (0 : Int32) then if (m4.1 (rr m4 0 3) 13) = (0 : Int32) then cl2 (fX10_refuse (6 : Int32) m4) fun r10 m11 => some (r10, m11) else fX10_flutters_35 FU x1 ((0 : Int32)) ((0 : Int32)) m4 else cl2 (fX10_refuse (1 : Int32) m4) fun r14 m15 => some (r14, m15)
set_option maxRecDepth 20000 in
theorem kX10_flutters {S : Sh} (hS : ShOK S) {res : Int32 × Me} {x1 : Int32} {m : Me} (hf : fX10_flutters x1 m = some res) (hI : Inv m) : Call 6 mX10_flutters [.ref 0, .int x1] (S, m) (some (.int res.1)) (S, res.2) ∧ Inv res.2 := by
  refine call_of (P := InvS) (Nat.le_of_ble_eq_true rfl) (by simp [Value.category]) ?_
  show TT InvS (Call 5) mX10_flutters (0, [(0, .ref 0), (1, .int x1)], [], S, m) _ _
  unfold fX10_flutters at hf
  refine to_aload_n (q := 1) rfl (by decide) dX10_flutters_0 rfl ?_
  refine to_iload_n (q := 2) rfl dX10_flutters_1 rfl ?_
  obtain ⟨r3, m4, hc1, hf⟩ := cl2_some hf
  have qc2 := kX10_noWord hS hc1 hI
  refine to_virtI (q := 5) mX10_noWord [.int x1] dX10_flutters_2 rfl rfl (Nat.le_of_ble_eq_true rfl) mo_X10_noWord mv_X10_213 (Or.inl ⟨_, _, _, h_0 hS, rfl, rfl⟩) (Call_mono (by decide) qc2.1) ?_
  have hI := qc2.2
  by_cases h5 : r3 = (0 : Int32)
  · have hf := ite_pos h5 hf
    refine to_ifT (q := 14) (op := .eq) h5 dX10_flutters_5 rfl ?_
    refine to_aload_n (q := 15) rfl (by decide) dX10_flutters_14 rfl ?_
    have hk6 : kd (rr m4 0 3) = 2 := (ivT hI).2
    refine to_getR (q := 18) (b := rr m4 0 3) (k0 := 10) (C := RX10) (T := TX10) (N := 17) (j := 3) rfl fx_X10_26 (h_0 hS) rfl ((ivT hI).1) dX10_flutters_15 rfl ?_
    refine to_getI (q := 21) (k0 := 2) (C := RX2) (T := TX2) (N := 14) (j := 13) rfl fx_X10_327 (sh_kd hS hk6 (by decide)) rfl dX10_flutters_18 rfl ?_
    by_cases h7 : (m4.1 (rr m4 0 3) 13) = (0 : Int32)
    · have hf := ite_pos h7 hf
      refine to_ifF (q := 24) (op := .ne) 31 (fun z => z h7) dX10_flutters_21 rfl rfl ?_
      refine to_aload_n (q := 25) rfl (by decide) dX10_flutters_24 rfl ?_
      refine to_bipush (q := 27) bp_6 dX10_flutters_25 rfl ?_
      obtain ⟨r10, m11, hc8, hf⟩ := cl2_some hf
      have qc9 := kX10_refuse hS hc8 hI
      refine to_virtI (q := 30) mX10_refuse [.int (6 : Int32)] dX10_flutters_27 rfl rfl (Nat.le_of_ble_eq_true rfl) mo_X10_refuse mv_X10_98 (Or.inl ⟨_, _, _, h_0 hS, rfl, rfl⟩) (Call_mono (by decide) qc9.1) ?_
      have hI := qc9.2
      cases hf
      exact to_iret dX10_flutters_30 rfl rfl rfl rfl hI
    · have hf := ite_neg h7 hf
      refine to_ifT (q := 31) (op := .ne) h7 dX10_flutters_21 rfl ?_
      refine to_iconst (q := 32) ic_0 dX10_flutters_31 rfl ?_
      refine to_istore_n (q := 33) [(2, .int (0 : Int32)), (0, .ref 0), (1, .int x1)] rfl (by decide) dX10_flutters_32 rfl ?_
      refine to_iconst (q := 34) ic_0 dX10_flutters_33 rfl ?_
      refine to_istore_n (q := 35) [(3, .int (0 : Int32)), (2, .int (0 : Int32)), (0, .ref 0), (1, .int x1)] rfl (by decide) dX10_flutters_34 rfl ?_
      exact to_ext [(0, .ref 0), (1, .int x1), (2, .int (0 : Int32)), (3, .int (0 : Int32))] (ext_cons rfl (ext_cons rfl (ext_cons rfl (ext_cons rfl ext_nil)))) (kX10_flutters_35 hS FU hf hI)
  · have hf := ite_neg h5 hf
    refine to_ifF (q := 8) (op := .eq) 14 h5 dX10_flutters_5 rfl rfl ?_
    refine to_aload_n (q := 9) rfl (by decide) dX10_flutters_8 rfl ?_
    refine to_iconst (q := 10) ic_1 dX10_flutters_9 rfl ?_
    obtain ⟨r14, m15, hc12, hf⟩ := cl2_some hf
    have qc13 := kX10_refuse hS hc12 hI
    refine to_virtI (q := 13) mX10_refuse [.int (1 : Int32)] dX10_flutters_10 rfl rfl (Nat.le_of_ble_eq_true rfl) mo_X10_refuse mv_X10_98 (Or.inl ⟨_, _, _, h_0 hS, rfl, rfl⟩) (Call_mono (by decide) qc13.1) ?_
    have hI := qc13.2
    cases hf
    exact to_iret dX10_flutters_13 rfl rfl rfl rfl hI
def fX10_deny (x1 : Int32) (m : Me) : Option (Int32 × Me) := some ((0 : Int32), (setI m 0 16 x1))
set_option maxRecDepth 20000 in
theorem kX10_deny {S : Sh} (hS : ShOK S) {res : Int32 × Me} {x1 : Int32} {m : Me} (hf : fX10_deny x1 m = some res) (hI : Inv m) : Call 1 mX10_deny [.ref 0, .int x1] (S, m) (some (.int res.1)) (S, res.2) ∧ Inv res.2 := by
  refine call_of (P := InvS) (Nat.le_of_ble_eq_true rfl) (by simp [Value.category]) ?_
  show TT InvS (Call 0) mX10_deny (0, [(0, .ref 0), (1, .int x1)], [], S, m) _ _
  unfold fX10_deny at hf
  refine to_aload_n (q := 1) rfl (by decide) dX10_deny_0 rfl ?_
  refine to_iload_n (q := 2) rfl dX10_deny_1 rfl ?_
  refine to_putI (q := 5) (ty := .int) (k0 := 10) (C := RX10) (T := TX10) (N := 17) (j := 16) rfl fx_X10_141 (h_0 hS) rfl pD_I (Or.inl rfl) (nf_I _) dX10_deny_2 rfl ?_
  refine to_iconst (q := 6) ic_0 dX10_deny_5 rfl ?_
  cases hf
  exact to_iret dX10_deny_6 rfl (by decide) rfl rfl hI
def fX10_allow (m : Me) : Option (Int32 × Me) := some ((1 : Int32), (setI m 0 16 (0 : Int32)))
set_option maxRecDepth 20000 in
theorem kX10_allow {S : Sh} (hS : ShOK S) {res : Int32 × Me} {m : Me} (hf : fX10_allow m = some res) (hI : Inv m) : Call 1 mX10_allow [.ref 0] (S, m) (some (.int res.1)) (S, res.2) ∧ Inv res.2 := by
  refine call_of (P := InvS) (Nat.le_of_ble_eq_true rfl) (by simp [Value.category]) ?_
  show TT InvS (Call 0) mX10_allow (0, [(0, .ref 0)], [], S, m) _ _
  unfold fX10_allow at hf
  refine to_aload_n (q := 1) rfl (by decide) dX10_allow_0 rfl ?_
  refine to_iconst (q := 2) ic_0 dX10_allow_1 rfl ?_
  refine to_putI (q := 5) (ty := .int) (k0 := 10) (C := RX10) (T := TX10) (N := 17) (j := 16) rfl fx_X10_141 (h_0 hS) rfl pD_I (Or.inl rfl) (nf_I _) dX10_allow_2 rfl ?_
  refine to_iconst (q := 6) ic_1 dX10_allow_5 rfl ?_
  cases hf
  exact to_iret dX10_allow_6 rfl (by decide) rfl rfl hI
def fX10_paint_28 (m : Me) : Option (Int32 × Me) := cl2 (fX10_deny (2 : Int32) m) fun r37 m38 => ck (r37 = 0 ∨ r37 = 1) (some (r37, m38))
set_option maxRecDepth 20000 in
theorem kX10_paint_28 {S : Sh} (hS : ShOK S) {res : Int32 × Me} {m : Me} (hf : fX10_paint_28 m = some res) (hI : Inv m) : TT InvS (Call 2) mX10_paint (28, [(0, .ref 0)], [], S, m) (some (.int res.1)) (S, res.2) := by
  unfold fX10_paint_28 at hf
  refine to_aload_n (q := 29) rfl (by decide) dX10_paint_28 rfl ?_
  refine to_iconst (q := 30) ic_2 dX10_paint_29 rfl ?_
  obtain ⟨r37, m38, hc35, hf⟩ := cl2_some hf
  have qc36 := kX10_deny hS hc35 hI
  refine to_virtI (q := 33) mX10_deny [.int (2 : Int32)] dX10_paint_30 rfl rfl (Nat.le_of_ble_eq_true rfl) mo_X10_deny mv_X10_336 (Or.inl ⟨_, _, _, h_0 hS, rfl, rfl⟩) (Call_mono (by decide) qc36.1) ?_
  have hI := qc36.2
  obtain ⟨hz39, hf⟩ := ck_some hf
  cases hf
  exact to_iret dX10_paint_33 rfl (nf_Z hz39).1 rfl rfl hI
def fX10_paint (x1 : Int32) (x2 : Int32) (x3 : Int32) (x4 : Int32) (m : Me) : Option (Int32 × Me) := cl2 (fX10_noCell x1 x2 x3 m) fun r3 m4 => if r3 = (0 : Int32) then if x4 < (0 : Int32) then fX10_paint_28 m4 else if x4 ≤ (25 : Int32) then cl2 (fX10_cellIndex x1 ((((m4.1 (rr m4 0 3) 1) * x2) + x3)) m4) fun r11 m12 => ck (inb r11 60) (if (m12.1 (81 + 1) r11.toNatClampNeg) = x4 then cl2 (fX10_deny (5 : Int32) m12) fun r27 m28 => ck (r27 = 0 ∨ r27 = 1) (some (r27, m28)) else ck (inb r11 60) (cl1 (fX0_keep (0 : Int32) r11 ((m12.1 (81 + 1) r11.toNatClampNeg)) m12) fun m18 => ck (inb r11 60) (cl2 (fX10_allow (setI m18 (81 + 1) r11.toNatClampNeg x4)) fun r22 m23 => ck (r22 = 0 ∨ r22 = 1) (some (r22, m23))))) else fX10_paint_28 m4 else cl2 (fX10_deny (1 : Int32) m4) fun r32 m33 => ck (r32 = 0 ∨ r32 = 1) (some (r32, m33))
set_option maxRecDepth 20000 in
theorem kX10_paint {S : Sh} (hS : ShOK S) {res : Int32 × Me} {x1 : Int32} {x2 : Int32} {x3 : Int32} {x4 : Int32} {m : Me} (hf : fX10_paint x1 x2 x3 x4 m = some res) (hI : Inv m) : Call 3 mX10_paint [.ref 0, .int x1, .int x2, .int x3, .int x4] (S, m) (some (.int res.1)) (S, res.2) ∧ Inv res.2 := by
  refine call_of (P := InvS) (Nat.le_of_ble_eq_true rfl) (by simp [Value.category]) ?_
  show TT InvS (Call 2) mX10_paint (0, [(0, .ref 0), (1, .int x1), (2, .int x2), (3, .int x3), (4, .int x4)], [], S, m) _ _
  unfold fX10_paint at hf
  refine to_aload_n (q := 1) rfl (by decide) dX10_paint_0 rfl ?_
  refine to_iload_n (q := 2) rfl dX10_paint_1 rfl ?_
  refine to_iload_n (q := 3) rfl dX10_paint_2 rfl ?_
  refine to_iload_n (q := 4) rfl dX10_paint_3 rfl ?_
  obtain ⟨r3, m4, hc1, hf⟩ := cl2_some hf
  have qc2 := kX10_noCell hS hc1 hI
  refine to_virtI (q := 7) mX10_noCell [.int x1, .int x2, .int x3] dX10_paint_4 rfl rfl (Nat.le_of_ble_eq_true rfl) mo_X10_noCell mv_X10_147 (Or.inl ⟨_, _, _, h_0 hS, rfl, rfl⟩) (Call_mono (by decide) qc2.1) ?_
  have hI := qc2.2
  by_cases h5 : r3 = (0 : Int32)
  · have hf := ite_pos h5 hf
    refine to_ifT (q := 16) (op := .eq) h5 dX10_paint_7 rfl ?_
    refine to_iload (q := 18) rfl dX10_paint_16 rfl ?_
    by_cases h6 : x4 < (0 : Int32)
    · have hf := ite_pos h6 hf
      refine to_ifT (q := 28) (op := .lt) h6 dX10_paint_18 rfl ?_
      exact to_ext [(0, .ref 0)] (ext_cons rfl ext_nil) (kX10_paint_28 hS hf hI)
    · have hf := ite_neg h6 hf
      refine to_ifF (q := 21) (op := .lt) 28 h6 dX10_paint_18 rfl rfl ?_
      refine to_iload (q := 23) rfl dX10_paint_21 rfl ?_
      refine to_bipush (q := 25) bp_25 dX10_paint_23 rfl ?_
      by_cases h7 : x4 ≤ (25 : Int32)
      · have hf := ite_pos h7 hf
        refine to_icT (q := 34) (op := .le) h7 dX10_paint_25 rfl ?_
        refine to_iload_n (q := 35) rfl dX10_paint_34 rfl ?_
        refine to_aload_n (q := 36) rfl (by decide) dX10_paint_35 rfl ?_
        have hk8 : kd (rr m4 0 3) = 2 := (ivT hI).2
        refine to_getR (q := 39) (b := rr m4 0 3) (k0 := 10) (C := RX10) (T := TX10) (N := 17) (j := 3) rfl fx_X10_26 (h_0 hS) rfl ((ivT hI).1) dX10_paint_36 rfl ?_
        refine to_getI (q := 42) (k0 := 2) (C := RX2) (T := TX2) (N := 14) (j := 1) rfl fx_X10_151 (sh_kd hS hk8 (by decide)) rfl dX10_paint_39 rfl ?_
        refine to_iload_n (q := 43) rfl dX10_paint_42 rfl ?_
        refine to_imul (q := 44) dX10_paint_43 rfl ?_
        refine to_iload_n (q := 45) rfl dX10_paint_44 rfl ?_
        refine to_iadd (q := 46) dX10_paint_45 rfl ?_
        obtain ⟨r11, m12, hc9, hf⟩ := cl2_some hf
        have qc10 := kX10_cellIndex hS hc9 hI
        refine to_statI (q := 49) mX10_cellIndex [.int x1, .int (((m4.1 (rr m4 0 3) 1) * x2) + x3)] dX10_paint_46 rfl rfl (Nat.le_of_ble_eq_true rfl) mo_X10_cellIndex (Or.inl ml_X10_339) sa_X10_cellIndex (Call_mono (by decide) qc10.1) ?_
        have hI := qc10.2
        refine to_istore (q := 51) [(5, .int r11), (0, .ref 0), (1, .int x1), (2, .int x2), (3, .int x3), (4, .int x4)] rfl (by decide) dX10_paint_49 rfl ?_
        refine to_aload_n (q := 52) rfl (by decide) dX10_paint_51 rfl ?_
        refine to_getR (q := 55) (b := 81) (k0 := 10) (C := RX10) (T := TX10) (N := 17) (j := 5) rfl fx_X10_33 (h_0 hS) rfl (iv_0_5 hI) dX10_paint_52 rfl ?_
        refine to_getR (q := 58) (b := 81 + 1) (k0 := 5) (C := RX5) (T := TX5) (N := 3) (j := 0) rfl fx_X10_342 (h_81 hS) rfl (iv5 hI (a := 81) rfl) dX10_paint_55 rfl ?_
        refine to_iload (q := 60) rfl dX10_paint_58 rfl ?_
        obtain ⟨hb13, hf⟩ := ck_some hf
        refine to_iaj (q := 61) (sh_ln hS (kd5 (a := 81) rfl) (by decide)) hb13 (rfl) dX10_paint_60 rfl ?_
        refine to_iload (q := 63) rfl dX10_paint_61 rfl ?_
        by_cases h14 : (m12.1 (81 + 1) r11.toNatClampNeg) = x4
        · have hf := ite_pos h14 hf
          refine to_icF (q := 66) (op := .ne) 72 (fun z => z h14) dX10_paint_63 rfl rfl ?_
          refine to_aload_n (q := 67) rfl (by decide) dX10_paint_66 rfl ?_
          refine to_iconst (q := 68) ic_5 dX10_paint_67 rfl ?_
          obtain ⟨r27, m28, hc25, hf⟩ := cl2_some hf
          have qc26 := kX10_deny hS hc25 hI
          refine to_virtI (q := 71) mX10_deny [.int (5 : Int32)] dX10_paint_68 rfl rfl (Nat.le_of_ble_eq_true rfl) mo_X10_deny mv_X10_336 (Or.inl ⟨_, _, _, h_0 hS, rfl, rfl⟩) (Call_mono (by decide) qc26.1) ?_
          have hI := qc26.2
          obtain ⟨hz29, hf⟩ := ck_some hf
          cases hf
          exact to_iret dX10_paint_71 rfl (nf_Z hz29).1 rfl rfl hI
        · have hf := ite_neg h14 hf
          refine to_icT (q := 72) (op := .ne) h14 dX10_paint_63 rfl ?_
          refine to_aload_n (q := 73) rfl (by decide) dX10_paint_72 rfl ?_
          refine to_getR (q := 76) (b := 84) (k0 := 10) (C := RX10) (T := TX10) (N := 17) (j := 8) rfl fx_X10_44 (h_0 hS) rfl (iv_0_8 hI) dX10_paint_73 rfl ?_
          refine to_iconst (q := 77) ic_0 dX10_paint_76 rfl ?_
          refine to_iload (q := 79) rfl dX10_paint_77 rfl ?_
          refine to_aload_n (q := 80) rfl (by decide) dX10_paint_79 rfl ?_
          refine to_getR (q := 83) (b := 81) (k0 := 10) (C := RX10) (T := TX10) (N := 17) (j := 5) rfl fx_X10_33 (h_0 hS) rfl (iv_0_5 hI) dX10_paint_80 rfl ?_
          refine to_getR (q := 86) (b := 81 + 1) (k0 := 5) (C := RX5) (T := TX5) (N := 3) (j := 0) rfl fx_X10_342 (h_81 hS) rfl (iv5 hI (a := 81) rfl) dX10_paint_83 rfl ?_
          refine to_iload (q := 88) rfl dX10_paint_86 rfl ?_
          obtain ⟨hb15, hf⟩ := ck_some hf
          refine to_iaj (q := 89) (sh_ln hS (kd5 (a := 81) rfl) (by decide)) hb15 (rfl) dX10_paint_88 rfl ?_
          obtain ⟨m18, hc16, hf⟩ := cl1_some hf
          have qc17 := kX0_keep hS hc16 hI
          refine to_virtV (q := 92) mX0_keep [.int (0 : Int32), .int r11, .int (m12.1 (81 + 1) r11.toNatClampNeg)] dX10_paint_89 rfl rfl (Nat.le_of_ble_eq_true rfl) mo_X0_keep mv_X10_343 (Or.inl ⟨_, _, _, h_84 hS, rfl, rfl⟩) (Call_mono (by decide) qc17.1) ?_
          have hI := qc17.2
          refine to_aload_n (q := 93) rfl (by decide) dX10_paint_92 rfl ?_
          refine to_getR (q := 96) (b := 81) (k0 := 10) (C := RX10) (T := TX10) (N := 17) (j := 5) rfl fx_X10_33 (h_0 hS) rfl (iv_0_5 hI) dX10_paint_93 rfl ?_
          refine to_getR (q := 99) (b := 81 + 1) (k0 := 5) (C := RX5) (T := TX5) (N := 3) (j := 0) rfl fx_X10_342 (h_81 hS) rfl (iv5 hI (a := 81) rfl) dX10_paint_96 rfl ?_
          refine to_iload (q := 101) rfl dX10_paint_99 rfl ?_
          refine to_iload (q := 103) rfl dX10_paint_101 rfl ?_
          obtain ⟨hb19, hf⟩ := ck_some hf
          refine to_iasj (q := 104) (sh_ln hS (kd5 (a := 81) rfl) (by decide)) hb19 (rfl) dX10_paint_103 rfl ?_
          refine to_aload_n (q := 105) rfl (by decide) dX10_paint_104 rfl ?_
          obtain ⟨r22, m23, hc20, hf⟩ := cl2_some hf
          have qc21 := kX10_allow hS hc20 hI
          refine to_virtI (q := 108) mX10_allow [] dX10_paint_105 rfl rfl (Nat.le_of_ble_eq_true rfl) mo_X10_allow mv_X10_347 (Or.inl ⟨_, _, _, h_0 hS, rfl, rfl⟩) (Call_mono (by decide) qc21.1) ?_
          have hI := qc21.2
          obtain ⟨hz24, hf⟩ := ck_some hf
          cases hf
          exact to_iret dX10_paint_108 rfl (nf_Z hz24).1 rfl rfl hI
      · have hf := ite_neg h7 hf
        refine to_icF (q := 28) (op := .le) 34 h7 dX10_paint_25 rfl rfl ?_
        exact to_ext [(0, .ref 0)] (ext_cons rfl ext_nil) (kX10_paint_28 hS hf hI)
  · have hf := ite_neg h5 hf
    refine to_ifF (q := 10) (op := .eq) 16 h5 dX10_paint_7 rfl rfl ?_
    refine to_aload_n (q := 11) rfl (by decide) dX10_paint_10 rfl ?_
    refine to_iconst (q := 12) ic_1 dX10_paint_11 rfl ?_
    obtain ⟨r32, m33, hc30, hf⟩ := cl2_some hf
    have qc31 := kX10_deny hS hc30 hI
    refine to_virtI (q := 15) mX10_deny [.int (1 : Int32)] dX10_paint_12 rfl rfl (Nat.le_of_ble_eq_true rfl) mo_X10_deny mv_X10_336 (Or.inl ⟨_, _, _, h_0 hS, rfl, rfl⟩) (Call_mono (by decide) qc31.1) ?_
    have hI := qc31.2
    obtain ⟨hz34, hf⟩ := ck_some hf
    cases hf
    exact to_iret dX10_paint_15 rfl (nf_Z hz34).1 rfl rfl hI
def fX10_breaks (x1 : Int32) (x2 : Int32) (m : Me) : Option (Int32 × Me) := cl2 (fX10_noRib x1 m) fun r3 m4 => if r3 = (0 : Int32) then cl2 (fX5_lacksRib 81 x1 m4) fun r8 m9 => if r8 = x2 then cl2 (fX10_deny (5 : Int32) m9) fun r21 m22 => ck (r21 = 0 ∨ r21 = 1) (some (r21, m22)) else cl1 (fX0_keep (1 : Int32) (0 : Int32) (m9.1 81 1) m9) fun m13 => cl2 (fX10_allow (setI m13 81 1 ((m13.1 81 1) ^^^ ((1 : Int32) <<< (x1 &&& 31))))) fun r16 m17 => ck (r16 = 0 ∨ r16 = 1) (some (r16, m17)) else cl2 (fX10_deny (1 : Int32) m4) fun r26 m27 => ck (r26 = 0 ∨ r26 = 1) (some (r26, m27))
set_option maxRecDepth 20000 in
theorem kX10_breaks {S : Sh} (hS : ShOK S) {res : Int32 × Me} {x1 : Int32} {x2 : Int32} {m : Me} (hf : fX10_breaks x1 x2 m = some res) (hI : Inv m) : Call 3 mX10_breaks [.ref 0, .int x1, .int x2] (S, m) (some (.int res.1)) (S, res.2) ∧ Inv res.2 := by
  refine call_of (P := InvS) (Nat.le_of_ble_eq_true rfl) (by simp [Value.category]) ?_
  show TT InvS (Call 2) mX10_breaks (0, [(0, .ref 0), (1, .int x1), (2, .int x2)], [], S, m) _ _
  unfold fX10_breaks at hf
  refine to_aload_n (q := 1) rfl (by decide) dX10_breaks_0 rfl ?_
  refine to_iload_n (q := 2) rfl dX10_breaks_1 rfl ?_
  obtain ⟨r3, m4, hc1, hf⟩ := cl2_some hf
  have qc2 := kX10_noRib hS hc1 hI
  refine to_virtI (q := 5) mX10_noRib [.int x1] dX10_breaks_2 rfl rfl (Nat.le_of_ble_eq_true rfl) mo_X10_noRib mv_X10_161 (Or.inl ⟨_, _, _, h_0 hS, rfl, rfl⟩) (Call_mono (by decide) qc2.1) ?_
  have hI := qc2.2
  by_cases h5 : r3 = (0 : Int32)
  · have hf := ite_pos h5 hf
    refine to_ifT (q := 14) (op := .eq) h5 dX10_breaks_5 rfl ?_
    refine to_aload_n (q := 15) rfl (by decide) dX10_breaks_14 rfl ?_
    refine to_getR (q := 18) (b := 81) (k0 := 10) (C := RX10) (T := TX10) (N := 17) (j := 5) rfl fx_X10_33 (h_0 hS) rfl (iv_0_5 hI) dX10_breaks_15 rfl ?_
    refine to_iload_n (q := 19) rfl dX10_breaks_18 rfl ?_
    obtain ⟨r8, m9, hc6, hf⟩ := cl2_some hf
    have qc7 := kX5_lacksRib hS hc6 rfl hI
    refine to_virtI (q := 22) mX5_lacksRib [.int x1] dX10_breaks_19 rfl rfl (Nat.le_of_ble_eq_true rfl) mo_X5_lacksRib mv_X10_164 (Or.inl ⟨_, _, _, h_81 hS, rfl, rfl⟩) (Call_mono (by decide) qc7.1) ?_
    have hI := qc7.2
    refine to_iload_n (q := 23) rfl dX10_breaks_22 rfl ?_
    by_cases h10 : r8 = x2
    · have hf := ite_pos h10 hf
      refine to_icF (q := 26) (op := .ne) 32 (fun z => z h10) dX10_breaks_23 rfl rfl ?_
      refine to_aload_n (q := 27) rfl (by decide) dX10_breaks_26 rfl ?_
      refine to_iconst (q := 28) ic_5 dX10_breaks_27 rfl ?_
      obtain ⟨r21, m22, hc19, hf⟩ := cl2_some hf
      have qc20 := kX10_deny hS hc19 hI
      refine to_virtI (q := 31) mX10_deny [.int (5 : Int32)] dX10_breaks_28 rfl rfl (Nat.le_of_ble_eq_true rfl) mo_X10_deny mv_X10_336 (Or.inl ⟨_, _, _, h_0 hS, rfl, rfl⟩) (Call_mono (by decide) qc20.1) ?_
      have hI := qc20.2
      obtain ⟨hz23, hf⟩ := ck_some hf
      cases hf
      exact to_iret dX10_breaks_31 rfl (nf_Z hz23).1 rfl rfl hI
    · have hf := ite_neg h10 hf
      refine to_icT (q := 32) (op := .ne) h10 dX10_breaks_23 rfl ?_
      refine to_aload_n (q := 33) rfl (by decide) dX10_breaks_32 rfl ?_
      refine to_getR (q := 36) (b := 84) (k0 := 10) (C := RX10) (T := TX10) (N := 17) (j := 8) rfl fx_X10_44 (h_0 hS) rfl (iv_0_8 hI) dX10_breaks_33 rfl ?_
      refine to_iconst (q := 37) ic_1 dX10_breaks_36 rfl ?_
      refine to_iconst (q := 38) ic_0 dX10_breaks_37 rfl ?_
      refine to_aload_n (q := 39) rfl (by decide) dX10_breaks_38 rfl ?_
      refine to_getR (q := 42) (b := 81) (k0 := 10) (C := RX10) (T := TX10) (N := 17) (j := 5) rfl fx_X10_33 (h_0 hS) rfl (iv_0_5 hI) dX10_breaks_39 rfl ?_
      refine to_getI (q := 45) (k0 := 5) (C := RX5) (T := TX5) (N := 3) (j := 1) rfl fx_X10_233 (h_81 hS) rfl dX10_breaks_42 rfl ?_
      obtain ⟨m13, hc11, hf⟩ := cl1_some hf
      have qc12 := kX0_keep hS hc11 hI
      refine to_virtV (q := 48) mX0_keep [.int (1 : Int32), .int (0 : Int32), .int (m9.1 81 1)] dX10_breaks_45 rfl rfl (Nat.le_of_ble_eq_true rfl) mo_X0_keep mv_X10_343 (Or.inl ⟨_, _, _, h_84 hS, rfl, rfl⟩) (Call_mono (by decide) qc12.1) ?_
      have hI := qc12.2
      refine to_aload_n (q := 49) rfl (by decide) dX10_breaks_48 rfl ?_
      refine to_getR (q := 52) (b := 81) (k0 := 10) (C := RX10) (T := TX10) (N := 17) (j := 5) rfl fx_X10_33 (h_0 hS) rfl (iv_0_5 hI) dX10_breaks_49 rfl ?_
      refine to_dup (q := 53) rfl dX10_breaks_52 rfl ?_
      refine to_getI (q := 56) (k0 := 5) (C := RX5) (T := TX5) (N := 3) (j := 1) rfl fx_X10_233 (h_81 hS) rfl dX10_breaks_53 rfl ?_
      refine to_iconst (q := 57) ic_1 dX10_breaks_56 rfl ?_
      refine to_iload_n (q := 58) rfl dX10_breaks_57 rfl ?_
      refine to_ishl (q := 59) dX10_breaks_58 rfl ?_
      refine to_ixor (q := 60) dX10_breaks_59 rfl ?_
      refine to_putI (q := 63) (ty := .int) (k0 := 5) (C := RX5) (T := TX5) (N := 3) (j := 1) rfl fx_X10_233 (h_81 hS) rfl pD_I (Or.inl rfl) (nf_I _) dX10_breaks_60 rfl ?_
      refine to_aload_n (q := 64) rfl (by decide) dX10_breaks_63 rfl ?_
      obtain ⟨r16, m17, hc14, hf⟩ := cl2_some hf
      have qc15 := kX10_allow hS hc14 hI
      refine to_virtI (q := 67) mX10_allow [] dX10_breaks_64 rfl rfl (Nat.le_of_ble_eq_true rfl) mo_X10_allow mv_X10_347 (Or.inl ⟨_, _, _, h_0 hS, rfl, rfl⟩) (Call_mono (by decide) qc15.1) ?_
      have hI := qc15.2
      obtain ⟨hz18, hf⟩ := ck_some hf
      cases hf
      exact to_iret dX10_breaks_67 rfl (nf_Z hz18).1 rfl rfl hI
  · have hf := ite_neg h5 hf
    refine to_ifF (q := 8) (op := .eq) 14 h5 dX10_breaks_5 rfl rfl ?_
    refine to_aload_n (q := 9) rfl (by decide) dX10_breaks_8 rfl ?_
    refine to_iconst (q := 10) ic_1 dX10_breaks_9 rfl ?_
    obtain ⟨r26, m27, hc24, hf⟩ := cl2_some hf
    have qc25 := kX10_deny hS hc24 hI
    refine to_virtI (q := 13) mX10_deny [.int (1 : Int32)] dX10_breaks_10 rfl rfl (Nat.le_of_ble_eq_true rfl) mo_X10_deny mv_X10_336 (Or.inl ⟨_, _, _, h_0 hS, rfl, rfl⟩) (Call_mono (by decide) qc25.1) ?_
    have hI := qc25.2
    obtain ⟨hz28, hf⟩ := ck_some hf
    cases hf
    exact to_iret dX10_breaks_13 rfl (nf_Z hz28).1 rfl rfl hI
def fX10_moveTo (x1 : Int32) (m : Me) : Option (Me) := cl1 (fX0_keep (2 : Int32) (0 : Int32) (m.1 81 2) m) fun m3 => some (setI m3 81 2 x1)
set_option maxRecDepth 20000 in
theorem kX10_moveTo {S : Sh} (hS : ShOK S) {res : Me} {x1 : Int32} {m : Me} (hf : fX10_moveTo x1 m = some res) (hI : Inv m) : Call 3 mX10_moveTo [.ref 0, .int x1] (S, m) none (S, res) ∧ Inv res := by
  refine call_of (P := InvS) (Nat.le_of_ble_eq_true rfl) (by simp [Value.category]) ?_
  show TT InvS (Call 2) mX10_moveTo (0, [(0, .ref 0), (1, .int x1)], [], S, m) _ _
  unfold fX10_moveTo at hf
  refine to_aload_n (q := 1) rfl (by decide) dX10_moveTo_0 rfl ?_
  refine to_getR (q := 4) (b := 84) (k0 := 10) (C := RX10) (T := TX10) (N := 17) (j := 8) rfl fx_X10_44 (h_0 hS) rfl (iv_0_8 hI) dX10_moveTo_1 rfl ?_
  refine to_iconst (q := 5) ic_2 dX10_moveTo_4 rfl ?_
  refine to_iconst (q := 6) ic_0 dX10_moveTo_5 rfl ?_
  refine to_aload_n (q := 7) rfl (by decide) dX10_moveTo_6 rfl ?_
  refine to_getR (q := 10) (b := 81) (k0 := 10) (C := RX10) (T := TX10) (N := 17) (j := 5) rfl fx_X10_33 (h_0 hS) rfl (iv_0_5 hI) dX10_moveTo_7 rfl ?_
  refine to_getI (q := 13) (k0 := 5) (C := RX5) (T := TX5) (N := 3) (j := 2) rfl fx_X10_351 (h_81 hS) rfl dX10_moveTo_10 rfl ?_
  obtain ⟨m3, hc1, hf⟩ := cl1_some hf
  have qc2 := kX0_keep hS hc1 hI
  refine to_virtV (q := 16) mX0_keep [.int (2 : Int32), .int (0 : Int32), .int (m.1 81 2)] dX10_moveTo_13 rfl rfl (Nat.le_of_ble_eq_true rfl) mo_X0_keep mv_X10_343 (Or.inl ⟨_, _, _, h_84 hS, rfl, rfl⟩) (Call_mono (by decide) qc2.1) ?_
  have hI := qc2.2
  refine to_aload_n (q := 17) rfl (by decide) dX10_moveTo_16 rfl ?_
  refine to_getR (q := 20) (b := 81) (k0 := 10) (C := RX10) (T := TX10) (N := 17) (j := 5) rfl fx_X10_33 (h_0 hS) rfl (iv_0_5 hI) dX10_moveTo_17 rfl ?_
  refine to_iload_n (q := 21) rfl dX10_moveTo_20 rfl ?_
  refine to_putI (q := 24) (ty := .int) (k0 := 5) (C := RX5) (T := TX5) (N := 3) (j := 2) rfl fx_X10_351 (h_81 hS) rfl pD_I (Or.inl rfl) (nf_I _) dX10_moveTo_21 rfl ?_
  cases hf
  exact to_vret dX10_moveTo_24 rfl rfl rfl hI
def fX10_open (x1 : Int32) (m : Me) : Option (Int32 × Me) := cl2 (fX10_wrongView (0 : Int32) x1 m) fun r3 m4 => if r3 = (0 : Int32) then if (m4.1 81 2) = x1 then cl2 (fX10_refuse (5 : Int32) m4) fun r19 m20 => some (r19, m20) else cl1 (fX10_moveTo x1 m4) fun m9 => cl1 (fX10_lookAt (0 : Int32) x1 m9) fun m12 => cl2 (fX10_answer (m12.1 88 2) m12) fun r15 m16 => some (r15, m16) else cl2 (fX10_refuse r3 m4) fun r23 m24 => some (r23, m24)
set_option maxRecDepth 20000 in
theorem kX10_open {S : Sh} (hS : ShOK S) {res : Int32 × Me} {x1 : Int32} {m : Me} (hf : fX10_open x1 m = some res) (hI : Inv m) : Call 6 mX10_open [.ref 0, .int x1] (S, m) (some (.int res.1)) (S, res.2) ∧ Inv res.2 := by
  refine call_of (P := InvS) (Nat.le_of_ble_eq_true rfl) (by simp [Value.category]) ?_
  show TT InvS (Call 5) mX10_open (0, [(0, .ref 0), (1, .int x1)], [], S, m) _ _
  unfold fX10_open at hf
  refine to_aload_n (q := 1) rfl (by decide) dX10_open_0 rfl ?_
  refine to_iconst (q := 2) ic_0 dX10_open_1 rfl ?_
  refine to_iload_n (q := 3) rfl dX10_open_2 rfl ?_
  obtain ⟨r3, m4, hc1, hf⟩ := cl2_some hf
  have qc2 := kX10_wrongView hS hc1 hI
  refine to_virtI (q := 6) mX10_wrongView [.int (0 : Int32), .int x1] dX10_open_3 rfl rfl (Nat.le_of_ble_eq_true rfl) mo_X10_wrongView mv_X10_167 (Or.inl ⟨_, _, _, h_0 hS, rfl, rfl⟩) (Call_mono (by decide) qc2.1) ?_
  have hI := qc2.2
  refine to_istore_n (q := 7) [(2, .int r3), (0, .ref 0), (1, .int x1)] rfl (by decide) dX10_open_6 rfl ?_
  refine to_iload_n (q := 8) rfl dX10_open_7 rfl ?_
  by_cases h5 : r3 = (0 : Int32)
  · have hf := ite_pos h5 hf
    refine to_ifT (q := 17) (op := .eq) h5 dX10_open_8 rfl ?_
    refine to_aload_n (q := 18) rfl (by decide) dX10_open_17 rfl ?_
    refine to_getR (q := 21) (b := 81) (k0 := 10) (C := RX10) (T := TX10) (N := 17) (j := 5) rfl fx_X10_33 (h_0 hS) rfl (iv_0_5 hI) dX10_open_18 rfl ?_
    refine to_getI (q := 24) (k0 := 5) (C := RX5) (T := TX5) (N := 3) (j := 2) rfl fx_X10_351 (h_81 hS) rfl dX10_open_21 rfl ?_
    refine to_iload_n (q := 25) rfl dX10_open_24 rfl ?_
    by_cases h6 : (m4.1 81 2) = x1
    · have hf := ite_pos h6 hf
      refine to_icF (q := 28) (op := .ne) 34 (fun z => z h6) dX10_open_25 rfl rfl ?_
      refine to_aload_n (q := 29) rfl (by decide) dX10_open_28 rfl ?_
      refine to_iconst (q := 30) ic_5 dX10_open_29 rfl ?_
      obtain ⟨r19, m20, hc17, hf⟩ := cl2_some hf
      have qc18 := kX10_refuse hS hc17 hI
      refine to_virtI (q := 33) mX10_refuse [.int (5 : Int32)] dX10_open_30 rfl rfl (Nat.le_of_ble_eq_true rfl) mo_X10_refuse mv_X10_98 (Or.inl ⟨_, _, _, h_0 hS, rfl, rfl⟩) (Call_mono (by decide) qc18.1) ?_
      have hI := qc18.2
      cases hf
      exact to_iret dX10_open_33 rfl rfl rfl rfl hI
    · have hf := ite_neg h6 hf
      refine to_icT (q := 34) (op := .ne) h6 dX10_open_25 rfl ?_
      refine to_aload_n (q := 35) rfl (by decide) dX10_open_34 rfl ?_
      refine to_iload_n (q := 36) rfl dX10_open_35 rfl ?_
      obtain ⟨m9, hc7, hf⟩ := cl1_some hf
      have qc8 := kX10_moveTo hS hc7 hI
      refine to_virtV (q := 39) mX10_moveTo [.int x1] dX10_open_36 rfl rfl (Nat.le_of_ble_eq_true rfl) mo_X10_moveTo mv_X10_354 (Or.inl ⟨_, _, _, h_0 hS, rfl, rfl⟩) (Call_mono (by decide) qc8.1) ?_
      have hI := qc8.2
      refine to_aload_n (q := 40) rfl (by decide) dX10_open_39 rfl ?_
      refine to_iconst (q := 41) ic_0 dX10_open_40 rfl ?_
      refine to_iload_n (q := 42) rfl dX10_open_41 rfl ?_
      obtain ⟨m12, hc10, hf⟩ := cl1_some hf
      have qc11 := kX10_lookAt hS hc10 hI
      refine to_virtV (q := 45) mX10_lookAt [.int (0 : Int32), .int x1] dX10_open_42 rfl rfl (Nat.le_of_ble_eq_true rfl) mo_X10_lookAt mv_X10_170 (Or.inl ⟨_, _, _, h_0 hS, rfl, rfl⟩) (Call_mono (by decide) qc11.1) ?_
      have hI := qc11.2
      refine to_aload_n (q := 46) rfl (by decide) dX10_open_45 rfl ?_
      refine to_aload_n (q := 47) rfl (by decide) dX10_open_46 rfl ?_
      refine to_getR (q := 50) (b := 88) (k0 := 10) (C := RX10) (T := TX10) (N := 17) (j := 9) rfl fx_X10_51 (h_0 hS) rfl (iv_0_9 hI) dX10_open_47 rfl ?_
      refine to_getI (q := 53) (k0 := 7) (C := RX7) (T := TX7) (N := 3) (j := 2) rfl fx_X10_174 (h_88 hS) rfl dX10_open_50 rfl ?_
      obtain ⟨r15, m16, hc13, hf⟩ := cl2_some hf
      have qc14 := kX10_answer hS hc13 hI
      refine to_virtI (q := 56) mX10_answer [.int (m12.1 88 2)] dX10_open_53 rfl rfl (Nat.le_of_ble_eq_true rfl) mo_X10_answer mv_X10_135 (Or.inl ⟨_, _, _, h_0 hS, rfl, rfl⟩) (Call_mono (by decide) qc14.1) ?_
      have hI := qc14.2
      cases hf
      exact to_iret dX10_open_56 rfl rfl rfl rfl hI
  · have hf := ite_neg h5 hf
    refine to_ifF (q := 11) (op := .eq) 17 h5 dX10_open_8 rfl rfl ?_
    refine to_aload_n (q := 12) rfl (by decide) dX10_open_11 rfl ?_
    refine to_iload_n (q := 13) rfl dX10_open_12 rfl ?_
    obtain ⟨r23, m24, hc21, hf⟩ := cl2_some hf
    have qc22 := kX10_refuse hS hc21 hI
    refine to_virtI (q := 16) mX10_refuse [.int r3] dX10_open_13 rfl rfl (Nat.le_of_ble_eq_true rfl) mo_X10_refuse mv_X10_98 (Or.inl ⟨_, _, _, h_0 hS, rfl, rfl⟩) (Call_mono (by decide) qc22.1) ?_
    have hI := qc22.2
    cases hf
    exact to_iret dX10_open_16 rfl rfl rfl rfl hI
def fX10_flutter (m : Me) : Option (Int32 × Me) := cl2 (fX10_wrongBeats m) fun r3 m4 => if r3 = (0 : Int32) then cl2 (fX10_smearBetween (0 : Int32) (m4.1 81 2) ((m4.1 ((rr m4 0 3) + 6) 0)) m4) fun r9 m10 => cl2 (fX10_smearOfBeats m10) fun r13 m14 => ck (inb ((m14.1 (rr m14 0 3) 13) - (1 : Int32)) 6) (cl1 (fX10_moveTo ((m14.1 ((rr m14 0 3) + 6) ((m14.1 (rr m14 0 3) 13) - (1 : Int32)).toNatClampNeg)) m14) fun m20 => cl2 (fX10_answer (r9 + r13) m20) fun r23 m24 => some (r23, m24)) else cl2 (fX10_refuse r3 m4) fun r27 m28 => some (r27, m28)
set_option maxRecDepth 20000 in
theorem kX10_flutter {S : Sh} (hS : ShOK S) {res : Int32 × Me} {m : Me} (hf : fX10_flutter m = some res) (hI : Inv m) : Call 7 mX10_flutter [.ref 0] (S, m) (some (.int res.1)) (S, res.2) ∧ Inv res.2 := by
  refine call_of (P := InvS) (Nat.le_of_ble_eq_true rfl) (by simp [Value.category]) ?_
  show TT InvS (Call 6) mX10_flutter (0, [(0, .ref 0)], [], S, m) _ _
  unfold fX10_flutter at hf
  refine to_aload_n (q := 1) rfl (by decide) dX10_flutter_0 rfl ?_
  obtain ⟨r3, m4, hc1, hf⟩ := cl2_some hf
  have qc2 := kX10_wrongBeats hS hc1 hI
  refine to_virtI (q := 4) mX10_wrongBeats [] dX10_flutter_1 rfl rfl (Nat.le_of_ble_eq_true rfl) mo_X10_wrongBeats mv_X10_315 (Or.inl ⟨_, _, _, h_0 hS, rfl, rfl⟩) (Call_mono (by decide) qc2.1) ?_
  have hI := qc2.2
  refine to_istore_n (q := 5) [(1, .int r3), (0, .ref 0)] rfl (by decide) dX10_flutter_4 rfl ?_
  refine to_iload_n (q := 6) rfl dX10_flutter_5 rfl ?_
  by_cases h5 : r3 = (0 : Int32)
  · have hf := ite_pos h5 hf
    refine to_ifT (q := 15) (op := .eq) h5 dX10_flutter_6 rfl ?_
    refine to_aload_n (q := 16) rfl (by decide) dX10_flutter_15 rfl ?_
    refine to_iconst (q := 17) ic_0 dX10_flutter_16 rfl ?_
    refine to_aload_n (q := 18) rfl (by decide) dX10_flutter_17 rfl ?_
    refine to_getR (q := 21) (b := 81) (k0 := 10) (C := RX10) (T := TX10) (N := 17) (j := 5) rfl fx_X10_33 (h_0 hS) rfl (iv_0_5 hI) dX10_flutter_18 rfl ?_
    refine to_getI (q := 24) (k0 := 5) (C := RX5) (T := TX5) (N := 3) (j := 2) rfl fx_X10_351 (h_81 hS) rfl dX10_flutter_21 rfl ?_
    refine to_aload_n (q := 25) rfl (by decide) dX10_flutter_24 rfl ?_
    have hk6 : kd (rr m4 0 3) = 2 := (ivT hI).2
    refine to_getR (q := 28) (b := rr m4 0 3) (k0 := 10) (C := RX10) (T := TX10) (N := 17) (j := 3) rfl fx_X10_26 (h_0 hS) rfl ((ivT hI).1) dX10_flutter_25 rfl ?_
    refine to_getR (q := 31) (b := (rr m4 0 3) + 6) (k0 := 2) (C := RX2) (T := TX2) (N := 14) (j := 12) rfl fx_X10_333 (sh_kd hS hk6 (by decide)) rfl (iv2b hI (hk6)) dX10_flutter_28 rfl ?_
    refine to_iconst (q := 32) ic_0 dX10_flutter_31 rfl ?_
    refine to_iaj (q := 33) (sh_ln hS (kd2b (hk6)) (by decide)) (by decide) (tn_0) dX10_flutter_32 rfl ?_
    obtain ⟨r9, m10, hc7, hf⟩ := cl2_some hf
    have qc8 := kX10_smearBetween hS hc7 hI
    refine to_virtI (q := 36) mX10_smearBetween [.int (0 : Int32), .int (m4.1 81 2), .int (m4.1 ((rr m4 0 3) + 6) 0)] dX10_flutter_33 rfl rfl (Nat.le_of_ble_eq_true rfl) mo_X10_smearBetween mv_X10_312 (Or.inl ⟨_, _, _, h_0 hS, rfl, rfl⟩) (Call_mono (by decide) qc8.1) ?_
    have hI := qc8.2
    refine to_aload_n (q := 37) rfl (by decide) dX10_flutter_36 rfl ?_
    obtain ⟨r13, m14, hc11, hf⟩ := cl2_some hf
    have qc12 := kX10_smearOfBeats hS hc11 hI
    refine to_virtI (q := 40) mX10_smearOfBeats [] dX10_flutter_37 rfl rfl (Nat.le_of_ble_eq_true rfl) mo_X10_smearOfBeats mv_X10_318 (Or.inl ⟨_, _, _, h_0 hS, rfl, rfl⟩) (Call_mono (by decide) qc12.1) ?_
    have hI := qc12.2
    refine to_iadd (q := 41) dX10_flutter_40 rfl ?_
    refine to_istore_n (q := 42) [(2, .int (r9 + r13)), (1, .int r3), (0, .ref 0)] rfl (by decide) dX10_flutter_41 rfl ?_
    refine to_aload_n (q := 43) rfl (by decide) dX10_flutter_42 rfl ?_
    refine to_aload_n (q := 44) rfl (by decide) dX10_flutter_43 rfl ?_
    have hk15 : kd (rr m14 0 3) = 2 := (ivT hI).2
    refine to_getR (q := 47) (b := rr m14 0 3) (k0 := 10) (C := RX10) (T := TX10) (N := 17) (j := 3) rfl fx_X10_26 (h_0 hS) rfl ((ivT hI).1) dX10_flutter_44 rfl ?_
    refine to_getR (q := 50) (b := (rr m14 0 3) + 6) (k0 := 2) (C := RX2) (T := TX2) (N := 14) (j := 12) rfl fx_X10_333 (sh_kd hS hk15 (by decide)) rfl (iv2b hI (hk15)) dX10_flutter_47 rfl ?_
    refine to_aload_n (q := 51) rfl (by decide) dX10_flutter_50 rfl ?_
    have hk16 : kd (rr m14 0 3) = 2 := (ivT hI).2
    refine to_getR (q := 54) (b := rr m14 0 3) (k0 := 10) (C := RX10) (T := TX10) (N := 17) (j := 3) rfl fx_X10_26 (h_0 hS) rfl ((ivT hI).1) dX10_flutter_51 rfl ?_
    refine to_getI (q := 57) (k0 := 2) (C := RX2) (T := TX2) (N := 14) (j := 13) rfl fx_X10_327 (sh_kd hS hk16 (by decide)) rfl dX10_flutter_54 rfl ?_
    refine to_iconst (q := 58) ic_1 dX10_flutter_57 rfl ?_
    refine to_isub (q := 59) dX10_flutter_58 rfl ?_
    obtain ⟨hb17, hf⟩ := ck_some hf
    refine to_iaj (q := 60) (sh_ln hS (kd2b (hk15)) (by decide)) hb17 (rfl) dX10_flutter_59 rfl ?_
    obtain ⟨m20, hc18, hf⟩ := cl1_some hf
    have qc19 := kX10_moveTo hS hc18 hI
    refine to_virtV (q := 63) mX10_moveTo [.int (m14.1 ((rr m14 0 3) + 6) ((m14.1 (rr m14 0 3) 13) - (1 : Int32)).toNatClampNeg)] dX10_flutter_60 rfl rfl (Nat.le_of_ble_eq_true rfl) mo_X10_moveTo mv_X10_354 (Or.inl ⟨_, _, _, h_0 hS, rfl, rfl⟩) (Call_mono (by decide) qc19.1) ?_
    have hI := qc19.2
    refine to_aload_n (q := 64) rfl (by decide) dX10_flutter_63 rfl ?_
    refine to_iload_n (q := 65) rfl dX10_flutter_64 rfl ?_
    obtain ⟨r23, m24, hc21, hf⟩ := cl2_some hf
    have qc22 := kX10_answer hS hc21 hI
    refine to_virtI (q := 68) mX10_answer [.int (r9 + r13)] dX10_flutter_65 rfl rfl (Nat.le_of_ble_eq_true rfl) mo_X10_answer mv_X10_135 (Or.inl ⟨_, _, _, h_0 hS, rfl, rfl⟩) (Call_mono (by decide) qc22.1) ?_
    have hI := qc22.2
    cases hf
    exact to_iret dX10_flutter_68 rfl rfl rfl rfl hI
  · have hf := ite_neg h5 hf
    refine to_ifF (q := 9) (op := .eq) 15 h5 dX10_flutter_6 rfl rfl ?_
    refine to_aload_n (q := 10) rfl (by decide) dX10_flutter_9 rfl ?_
    refine to_iload_n (q := 11) rfl dX10_flutter_10 rfl ?_
    obtain ⟨r27, m28, hc25, hf⟩ := cl2_some hf
    have qc26 := kX10_refuse hS hc25 hI
    refine to_virtI (q := 14) mX10_refuse [.int r3] dX10_flutter_11 rfl rfl (Nat.le_of_ble_eq_true rfl) mo_X10_refuse mv_X10_98 (Or.inl ⟨_, _, _, h_0 hS, rfl, rfl⟩) (Call_mono (by decide) qc26.1) ?_
    have hI := qc26.2
    cases hf
    exact to_iret dX10_flutter_14 rfl rfl rfl rfl hI
def fX10_undo_27 (t0 : Int32) (m : Me) : Option (Int32 × Me) := ck (t0 = 0 ∨ t0 = 1) (some (t0, m))
set_option maxRecDepth 20000 in
theorem kX10_undo_27 {S : Sh} (hS : ShOK S) {res : Int32 × Me} {t0 : Int32} {m : Me} (hf : fX10_undo_27 t0 m = some res) (hI : Inv m) : TT InvS (Call 1) mX10_undo (27, [], [.int t0], S, m) (some (.int res.1)) (S, res.2) := by
  unfold fX10_undo_27 at hf
  obtain ⟨hz14, hf⟩ := ck_some hf
  cases hf
  exact to_iret dX10_undo_27 rfl (nf_Z hz14).1 rfl rfl hI
def fX10_undo (m : Me) : Option (Int32 × Me) := cl2 (fX0_takeBack 81 m) fun r3 m4 => if r3 = (0 : Int32) then cl2 (fX10_deny (6 : Int32) m4) fun r8 m9 => fX10_undo_27 r8 m9 else cl2 (fX10_allow m4) fun r12 m13 => fX10_undo_27 r12 m13
set_option maxRecDepth 20000 in
theorem kX10_undo {S : Sh} (hS : ShOK S) {res : Int32 × Me} {m : Me} (hf : fX10_undo m = some res) (hI : Inv m) : Call 2 mX10_undo [.ref 0] (S, m) (some (.int res.1)) (S, res.2) ∧ Inv res.2 := by
  refine call_of (P := InvS) (Nat.le_of_ble_eq_true rfl) (by simp [Value.category]) ?_
  show TT InvS (Call 1) mX10_undo (0, [(0, .ref 0)], [], S, m) _ _
  unfold fX10_undo at hf
  refine to_aload_n (q := 1) rfl (by decide) dX10_undo_0 rfl ?_
  refine to_getR (q := 4) (b := 84) (k0 := 10) (C := RX10) (T := TX10) (N := 17) (j := 8) rfl fx_X10_44 (h_0 hS) rfl (iv_0_8 hI) dX10_undo_1 rfl ?_
  refine to_aload_n (q := 5) rfl (by decide) dX10_undo_4 rfl ?_
  refine to_getR (q := 8) (b := 81) (k0 := 10) (C := RX10) (T := TX10) (N := 17) (j := 5) rfl fx_X10_33 (h_0 hS) rfl (iv_0_5 hI) dX10_undo_5 rfl ?_
  obtain ⟨r3, m4, hc1, hf⟩ := cl2_some hf
  have qc2 := kX0_takeBack hS hc1 rfl hI
  refine to_virtI (q := 11) mX0_takeBack [.ref 81] dX10_undo_8 rfl rfl (Nat.le_of_ble_eq_true rfl) mo_X0_takeBack mv_X10_357 (Or.inl ⟨_, _, _, h_84 hS, rfl, rfl⟩) (Call_mono (by decide) qc2.1) ?_
  have hI := qc2.2
  by_cases h5 : r3 = (0 : Int32)
  · have hf := ite_pos h5 hf
    refine to_ifT (q := 21) (op := .eq) h5 dX10_undo_11 rfl ?_
    refine to_aload_n (q := 22) rfl (by decide) dX10_undo_21 rfl ?_
    refine to_bipush (q := 24) bp_6 dX10_undo_22 rfl ?_
    obtain ⟨r8, m9, hc6, hf⟩ := cl2_some hf
    have qc7 := kX10_deny hS hc6 hI
    refine to_virtI (q := 27) mX10_deny [.int (6 : Int32)] dX10_undo_24 rfl rfl (Nat.le_of_ble_eq_true rfl) mo_X10_deny mv_X10_336 (Or.inl ⟨_, _, _, h_0 hS, rfl, rfl⟩) (Call_mono (by decide) qc7.1) ?_
    have hI := qc7.2
    exact to_ext [] ext_nil (kX10_undo_27 hS hf hI)
  · have hf := ite_neg h5 hf
    refine to_ifF (q := 14) (op := .eq) 21 h5 dX10_undo_11 rfl rfl ?_
    refine to_aload_n (q := 15) rfl (by decide) dX10_undo_14 rfl ?_
    obtain ⟨r12, m13, hc10, hf⟩ := cl2_some hf
    have qc11 := kX10_allow hS hc10 hI
    refine to_virtI (q := 18) mX10_allow [] dX10_undo_15 rfl rfl (Nat.le_of_ble_eq_true rfl) mo_X10_allow mv_X10_347 (Or.inl ⟨_, _, _, h_0 hS, rfl, rfl⟩) (Call_mono (by decide) qc11.1) ?_
    have hI := qc11.2
    refine to_goto (q := 27) dX10_undo_18 rfl ?_
    exact to_ext [] ext_nil (kX10_undo_27 hS hf hI)
def fX10_image (m : Me) : Option (Int32 × Me) := if (m.1 0 4) = (0 : Int32) then cl2 (fX10_refuse (1 : Int32) m) fun r17 m18 => some (r17, m18) else if (m.1 0 7) < (3 : Int32) then ck (inb (m.1 0 7) 3) (cl1 (fX5_copyFrom (132 + 2 * (m.1 0 7).toNatClampNeg) 81 m) fun m6 => cl2 (fX10_answer ((((setI m6 0 7 ((m6.1 0 7) + (1 : Int32))).1 0 7) - (1 : Int32))) (setI m6 0 7 ((m6.1 0 7) + (1 : Int32)))) fun r9 m10 => some (r9, m10)) else cl2 (fX10_refuse (3 : Int32) m) fun r13 m14 => some (r13, m14)
set_option maxRecDepth 20000 in
theorem kX10_image {S : Sh} (hS : ShOK S) {res : Int32 × Me} {m : Me} (hf : fX10_image m = some res) (hI : Inv m) : Call 2 mX10_image [.ref 0] (S, m) (some (.int res.1)) (S, res.2) ∧ Inv res.2 := by
  refine call_of (P := InvS) (Nat.le_of_ble_eq_true rfl) (by simp [Value.category]) ?_
  show TT InvS (Call 1) mX10_image (0, [(0, .ref 0)], [], S, m) _ _
  unfold fX10_image at hf
  refine to_aload_n (q := 1) rfl (by decide) dX10_image_0 rfl ?_
  refine to_getI (q := 4) (k0 := 10) (C := RX10) (T := TX10) (N := 17) (j := 4) rfl fx_X10_110 (h_0 hS) rfl dX10_image_1 rfl ?_
  by_cases h1 : (m.1 0 4) = (0 : Int32)
  · have hf := ite_pos h1 hf
    refine to_ifF (q := 7) (op := .ne) 13 (fun z => z h1) dX10_image_4 rfl rfl ?_
    refine to_aload_n (q := 8) rfl (by decide) dX10_image_7 rfl ?_
    refine to_iconst (q := 9) ic_1 dX10_image_8 rfl ?_
    obtain ⟨r17, m18, hc15, hf⟩ := cl2_some hf
    have qc16 := kX10_refuse hS hc15 hI
    refine to_virtI (q := 12) mX10_refuse [.int (1 : Int32)] dX10_image_9 rfl rfl (Nat.le_of_ble_eq_true rfl) mo_X10_refuse mv_X10_98 (Or.inl ⟨_, _, _, h_0 hS, rfl, rfl⟩) (Call_mono (by decide) qc16.1) ?_
    have hI := qc16.2
    cases hf
    exact to_iret dX10_image_12 rfl rfl rfl rfl hI
  · have hf := ite_neg h1 hf
    refine to_ifT (q := 13) (op := .ne) h1 dX10_image_4 rfl ?_
    refine to_aload_n (q := 14) rfl (by decide) dX10_image_13 rfl ?_
    refine to_getI (q := 17) (k0 := 10) (C := RX10) (T := TX10) (N := 17) (j := 7) rfl fx_X10_124 (h_0 hS) rfl dX10_image_14 rfl ?_
    refine to_aload_n (q := 18) rfl (by decide) dX10_image_17 rfl ?_
    refine to_getR (q := 21) (b := 83) (k0 := 10) (C := RX10) (T := TX10) (N := 17) (j := 6) rfl fx_X10_37 (h_0 hS) rfl (iv_0_6 hI) dX10_image_18 rfl ?_
    refine to_alen (q := 22) (h_83 hS) (by decide) on_3 dX10_image_21 rfl ?_
    by_cases h2 : (m.1 0 7) < (3 : Int32)
    · have hf := ite_pos h2 hf
      refine to_icT (q := 31) (op := .lt) h2 dX10_image_22 rfl ?_
      refine to_aload_n (q := 32) rfl (by decide) dX10_image_31 rfl ?_
      refine to_getR (q := 35) (b := 83) (k0 := 10) (C := RX10) (T := TX10) (N := 17) (j := 6) rfl fx_X10_37 (h_0 hS) rfl (iv_0_6 hI) dX10_image_32 rfl ?_
      refine to_aload_n (q := 36) rfl (by decide) dX10_image_35 rfl ?_
      refine to_getI (q := 39) (k0 := 10) (C := RX10) (T := TX10) (N := 17) (j := 7) rfl fx_X10_124 (h_0 hS) rfl dX10_image_36 rfl ?_
      obtain ⟨hb3, hf⟩ := ck_some hf
      refine to_aald (q := 40) (b := 132 + 2 * (m.1 0 7).toNatClampNeg) (h_83 hS) (by decide) hb3 (ivA hI hb3) dX10_image_39 rfl ?_
      refine to_aload_n (q := 41) rfl (by decide) dX10_image_40 rfl ?_
      refine to_getR (q := 44) (b := 81) (k0 := 10) (C := RX10) (T := TX10) (N := 17) (j := 5) rfl fx_X10_33 (h_0 hS) rfl (iv_0_5 hI) dX10_image_41 rfl ?_
      obtain ⟨m6, hc4, hf⟩ := cl1_some hf
      have qc5 := kX5_copyFrom hS hc4 (kdA hb3) rfl hI
      refine to_virtV (q := 47) mX5_copyFrom [.ref 81] dX10_image_44 rfl rfl (Nat.le_of_ble_eq_true rfl) mo_X5_copyFrom mv_X10_117 (Or.inl ⟨_, _, _, sh_kd hS (kdA hb3) (by decide), rfl, rfl⟩) (Call_mono (by decide) qc5.1) ?_
      have hI := qc5.2
      refine to_aload_n (q := 48) rfl (by decide) dX10_image_47 rfl ?_
      refine to_dup (q := 49) rfl dX10_image_48 rfl ?_
      refine to_getI (q := 52) (k0 := 10) (C := RX10) (T := TX10) (N := 17) (j := 7) rfl fx_X10_124 (h_0 hS) rfl dX10_image_49 rfl ?_
      refine to_iconst (q := 53) ic_1 dX10_image_52 rfl ?_
      refine to_iadd (q := 54) dX10_image_53 rfl ?_
      refine to_putI (q := 57) (ty := .int) (k0 := 10) (C := RX10) (T := TX10) (N := 17) (j := 7) rfl fx_X10_124 (h_0 hS) rfl pD_I (Or.inl rfl) (nf_I _) dX10_image_54 rfl ?_
      refine to_aload_n (q := 58) rfl (by decide) dX10_image_57 rfl ?_
      refine to_aload_n (q := 59) rfl (by decide) dX10_image_58 rfl ?_
      refine to_getI (q := 62) (k0 := 10) (C := RX10) (T := TX10) (N := 17) (j := 7) rfl fx_X10_124 (h_0 hS) rfl dX10_image_59 rfl ?_
      refine to_iconst (q := 63) ic_1 dX10_image_62 rfl ?_
      refine to_isub (q := 64) dX10_image_63 rfl ?_
      obtain ⟨r9, m10, hc7, hf⟩ := cl2_some hf
      have qc8 := kX10_answer hS hc7 hI
      refine to_virtI (q := 67) mX10_answer [.int (((setI m6 0 7 ((m6.1 0 7) + (1 : Int32))).1 0 7) - (1 : Int32))] dX10_image_64 rfl rfl (Nat.le_of_ble_eq_true rfl) mo_X10_answer mv_X10_135 (Or.inl ⟨_, _, _, h_0 hS, rfl, rfl⟩) (Call_mono (by decide) qc8.1) ?_
      have hI := qc8.2
      cases hf
      exact to_iret dX10_image_67 rfl rfl rfl rfl hI
    · have hf := ite_neg h2 hf
      refine to_icF (q := 25) (op := .lt) 31 h2 dX10_image_22 rfl rfl ?_
      refine to_aload_n (q := 26) rfl (by decide) dX10_image_25 rfl ?_
      refine to_iconst (q := 27) ic_3 dX10_image_26 rfl ?_
      obtain ⟨r13, m14, hc11, hf⟩ := cl2_some hf
      have qc12 := kX10_refuse hS hc11 hI
      refine to_virtI (q := 30) mX10_refuse [.int (3 : Int32)] dX10_image_27 rfl rfl (Nat.le_of_ble_eq_true rfl) mo_X10_refuse mv_X10_98 (Or.inl ⟨_, _, _, h_0 hS, rfl, rfl⟩) (Call_mono (by decide) qc12.1) ?_
      have hI := qc12.2
      cases hf
      exact to_iret dX10_image_30 rfl rfl rfl rfl hI
def fX10_back_12 (m : Me) : Option (Int32 × Me) := cl2 (fX10_deny (1 : Int32) m) fun r17 m18 => ck (r17 = 0 ∨ r17 = 1) (some (r17, m18))
set_option maxRecDepth 20000 in
theorem kX10_back_12 {S : Sh} (hS : ShOK S) {res : Int32 × Me} {m : Me} (hf : fX10_back_12 m = some res) (hI : Inv m) : TT InvS (Call 1) mX10_back (12, [(0, .ref 0)], [], S, m) (some (.int res.1)) (S, res.2) := by
  unfold fX10_back_12 at hf
  refine to_aload_n (q := 13) rfl (by decide) dX10_back_12 rfl ?_
  refine to_iconst (q := 14) ic_1 dX10_back_13 rfl ?_
  obtain ⟨r17, m18, hc15, hf⟩ := cl2_some hf
  have qc16 := kX10_deny hS hc15 hI
  refine to_virtI (q := 17) mX10_deny [.int (1 : Int32)] dX10_back_14 rfl rfl (Nat.le_of_ble_eq_true rfl) mo_X10_deny mv_X10_336 (Or.inl ⟨_, _, _, h_0 hS, rfl, rfl⟩) (Call_mono (by decide) qc16.1) ?_
  have hI := qc16.2
  obtain ⟨hz19, hf⟩ := ck_some hf
  cases hf
  exact to_iret dX10_back_17 rfl (nf_Z hz19).1 rfl rfl hI
def fX10_back (x1 : Int32) (m : Me) : Option (Int32 × Me) := if x1 < (0 : Int32) then fX10_back_12 m else if x1 < (m.1 0 7) then ck (inb x1 3) (cl1 (fX5_copyFrom 81 (132 + 2 * x1.toNatClampNeg) m) fun m6 => cl1 (fX0_forget m6) fun m9 => cl2 (fX10_allow m9) fun r12 m13 => ck (r12 = 0 ∨ r12 = 1) (some (r12, m13))) else fX10_back_12 m
set_option maxRecDepth 20000 in
theorem kX10_back {S : Sh} (hS : ShOK S) {res : Int32 × Me} {x1 : Int32} {m : Me} (hf : fX10_back x1 m = some res) (hI : Inv m) : Call 2 mX10_back [.ref 0, .int x1] (S, m) (some (.int res.1)) (S, res.2) ∧ Inv res.2 := by
  refine call_of (P := InvS) (Nat.le_of_ble_eq_true rfl) (by simp [Value.category]) ?_
  show TT InvS (Call 1) mX10_back (0, [(0, .ref 0), (1, .int x1)], [], S, m) _ _
  unfold fX10_back at hf
  refine to_iload_n (q := 1) rfl dX10_back_0 rfl ?_
  by_cases h1 : x1 < (0 : Int32)
  · have hf := ite_pos h1 hf
    refine to_ifT (q := 12) (op := .lt) h1 dX10_back_1 rfl ?_
    exact to_ext [(0, .ref 0)] (ext_cons rfl ext_nil) (kX10_back_12 hS hf hI)
  · have hf := ite_neg h1 hf
    refine to_ifF (q := 4) (op := .lt) 12 h1 dX10_back_1 rfl rfl ?_
    refine to_iload_n (q := 5) rfl dX10_back_4 rfl ?_
    refine to_aload_n (q := 6) rfl (by decide) dX10_back_5 rfl ?_
    refine to_getI (q := 9) (k0 := 10) (C := RX10) (T := TX10) (N := 17) (j := 7) rfl fx_X10_124 (h_0 hS) rfl dX10_back_6 rfl ?_
    by_cases h2 : x1 < (m.1 0 7)
    · have hf := ite_pos h2 hf
      refine to_icT (q := 18) (op := .lt) h2 dX10_back_9 rfl ?_
      refine to_aload_n (q := 19) rfl (by decide) dX10_back_18 rfl ?_
      refine to_getR (q := 22) (b := 81) (k0 := 10) (C := RX10) (T := TX10) (N := 17) (j := 5) rfl fx_X10_33 (h_0 hS) rfl (iv_0_5 hI) dX10_back_19 rfl ?_
      refine to_aload_n (q := 23) rfl (by decide) dX10_back_22 rfl ?_
      refine to_getR (q := 26) (b := 83) (k0 := 10) (C := RX10) (T := TX10) (N := 17) (j := 6) rfl fx_X10_37 (h_0 hS) rfl (iv_0_6 hI) dX10_back_23 rfl ?_
      refine to_iload_n (q := 27) rfl dX10_back_26 rfl ?_
      obtain ⟨hb3, hf⟩ := ck_some hf
      refine to_aald (q := 28) (b := 132 + 2 * x1.toNatClampNeg) (h_83 hS) (by decide) hb3 (ivA hI hb3) dX10_back_27 rfl ?_
      obtain ⟨m6, hc4, hf⟩ := cl1_some hf
      have qc5 := kX5_copyFrom hS hc4 rfl (kdA hb3) hI
      refine to_virtV (q := 31) mX5_copyFrom [.ref (132 + 2 * x1.toNatClampNeg)] dX10_back_28 rfl rfl (Nat.le_of_ble_eq_true rfl) mo_X5_copyFrom mv_X10_117 (Or.inl ⟨_, _, _, h_81 hS, rfl, rfl⟩) (Call_mono (by decide) qc5.1) ?_
      have hI := qc5.2
      refine to_aload_n (q := 32) rfl (by decide) dX10_back_31 rfl ?_
      refine to_getR (q := 35) (b := 84) (k0 := 10) (C := RX10) (T := TX10) (N := 17) (j := 8) rfl fx_X10_44 (h_0 hS) rfl (iv_0_8 hI) dX10_back_32 rfl ?_
      obtain ⟨m9, hc7, hf⟩ := cl1_some hf
      have qc8 := kX0_forget hS hc7 hI
      refine to_virtV (q := 38) mX0_forget [] dX10_back_35 rfl rfl (Nat.le_of_ble_eq_true rfl) mo_X0_forget mv_X10_121 (Or.inl ⟨_, _, _, h_84 hS, rfl, rfl⟩) (Call_mono (by decide) qc8.1) ?_
      have hI := qc8.2
      refine to_aload_n (q := 39) rfl (by decide) dX10_back_38 rfl ?_
      obtain ⟨r12, m13, hc10, hf⟩ := cl2_some hf
      have qc11 := kX10_allow hS hc10 hI
      refine to_virtI (q := 42) mX10_allow [] dX10_back_39 rfl rfl (Nat.le_of_ble_eq_true rfl) mo_X10_allow mv_X10_347 (Or.inl ⟨_, _, _, h_0 hS, rfl, rfl⟩) (Call_mono (by decide) qc11.1) ?_
      have hI := qc11.2
      obtain ⟨hz14, hf⟩ := ck_some hf
      cases hf
      exact to_iret dX10_back_42 rfl (nf_Z hz14).1 rfl rfl hI
    · have hf := ite_neg h2 hf
      refine to_icF (q := 12) (op := .lt) 18 h2 dX10_back_9 rfl rfl ?_
      exact to_ext [(0, .ref 0)] (ext_cons rfl ext_nil) (kX10_back_12 hS hf hI)
def fX10_wish_63 (t0 : Int32) (m : Me) : Option (Int32 × Me) := cl2 (fX10_answer t0 m) fun r22 m23 => some (r22, m23)
set_option maxRecDepth 20000 in
theorem kX10_wish_63 {S : Sh} (hS : ShOK S) {res : Int32 × Me} {t0 : Int32} {m : Me} (hf : fX10_wish_63 t0 m = some res) (hI : Inv m) : TT InvS (Call 1) mX10_wish (63, [], [.int t0, .ref 0], S, m) (some (.int res.1)) (S, res.2) := by
  unfold fX10_wish_63 at hf
  obtain ⟨r22, m23, hc20, hf⟩ := cl2_some hf
  have qc21 := kX10_answer hS hc20 hI
  refine to_virtI (q := 66) mX10_answer [.int t0] dX10_wish_63 rfl rfl (Nat.le_of_ble_eq_true rfl) mo_X10_answer mv_X10_135 (Or.inl ⟨_, _, _, h_0 hS, rfl, rfl⟩) (Call_mono (by decide) qc21.1) ?_
  have hI := qc21.2
  cases hf
  exact to_iret dX10_wish_66 rfl rfl rfl rfl hI
def fX10_wish_17 (m : Me) : Option (Int32 × Me) := cl2 (fX10_refuse (1 : Int32) m) fun r18 m19 => some (r18, m19)
set_option maxRecDepth 20000 in
theorem kX10_wish_17 {S : Sh} (hS : ShOK S) {res : Int32 × Me} {m : Me} (hf : fX10_wish_17 m = some res) (hI : Inv m) : TT InvS (Call 1) mX10_wish (17, [(0, .ref 0)], [], S, m) (some (.int res.1)) (S, res.2) := by
  unfold fX10_wish_17 at hf
  refine to_aload_n (q := 18) rfl (by decide) dX10_wish_17 rfl ?_
  refine to_iconst (q := 19) ic_1 dX10_wish_18 rfl ?_
  obtain ⟨r18, m19, hc16, hf⟩ := cl2_some hf
  have qc17 := kX10_refuse hS hc16 hI
  refine to_virtI (q := 22) mX10_refuse [.int (1 : Int32)] dX10_wish_19 rfl rfl (Nat.le_of_ble_eq_true rfl) mo_X10_refuse mv_X10_98 (Or.inl ⟨_, _, _, h_0 hS, rfl, rfl⟩) (Call_mono (by decide) qc17.1) ?_
  have hI := qc17.2
  cases hf
  exact to_iret dX10_wish_22 rfl rfl rfl rfl hI
def fX10_wish (x1 : Int32) (x2 : Int32) (m : Me) : Option (Int32 × Me) := cl2 (fX10_noWish x1 m) fun r3 m4 => if r3 = (0 : Int32) then if x2 < (0 : Int32) then fX10_wish_17 m4 else if x2 ≤ (2 : Int32) then ck (inb x1 4) (if x2 = (0 : Int32) then cl2 (fX10_answer ((m4.1 (rr m4 0 3 + 19 + 2 * x1.toNatClampNeg) 1)) m4) fun r14 m15 => some (r14, m15) else if x2 = (1 : Int32) then fX10_wish_63 ((m4.1 (rr m4 0 3 + 19 + 2 * x1.toNatClampNeg) 2)) m4 else fX10_wish_63 ((m4.1 (rr m4 0 3 + 19 + 2 * x1.toNatClampNeg) 3)) m4) else fX10_wish_17 m4 else fX10_wish_17 m4
set_option maxRecDepth 20000 in
theorem kX10_wish {S : Sh} (hS : ShOK S) {res : Int32 × Me} {x1 : Int32} {x2 : Int32} {m : Me} (hf : fX10_wish x1 x2 m = some res) (hI : Inv m) : Call 2 mX10_wish [.ref 0, .int x1, .int x2] (S, m) (some (.int res.1)) (S, res.2) ∧ Inv res.2 := by
  refine call_of (P := InvS) (Nat.le_of_ble_eq_true rfl) (by simp [Value.category]) ?_
  show TT InvS (Call 1) mX10_wish (0, [(0, .ref 0), (1, .int x1), (2, .int x2)], [], S, m) _ _
  unfold fX10_wish at hf
  refine to_aload_n (q := 1) rfl (by decide) dX10_wish_0 rfl ?_
  refine to_iload_n (q := 2) rfl dX10_wish_1 rfl ?_
  obtain ⟨r3, m4, hc1, hf⟩ := cl2_some hf
  have qc2 := kX10_noWish hS hc1 hI
  refine to_virtI (q := 5) mX10_noWish [.int x1] dX10_wish_2 rfl rfl (Nat.le_of_ble_eq_true rfl) mo_X10_noWish mv_X10_230 (Or.inl ⟨_, _, _, h_0 hS, rfl, rfl⟩) (Call_mono (by decide) qc2.1) ?_
  have hI := qc2.2
  by_cases h5 : r3 = (0 : Int32)
  · have hf := ite_pos h5 hf
    refine to_ifF (q := 8) (op := .ne) 17 (fun z => z h5) dX10_wish_5 rfl rfl ?_
    refine to_iload_n (q := 9) rfl dX10_wish_8 rfl ?_
    by_cases h6 : x2 < (0 : Int32)
    · have hf := ite_pos h6 hf
      refine to_ifT (q := 17) (op := .lt) h6 dX10_wish_9 rfl ?_
      exact to_ext [(0, .ref 0)] (ext_cons rfl ext_nil) (kX10_wish_17 hS hf hI)
    · have hf := ite_neg h6 hf
      refine to_ifF (q := 12) (op := .lt) 17 h6 dX10_wish_9 rfl rfl ?_
      refine to_iload_n (q := 13) rfl dX10_wish_12 rfl ?_
      refine to_iconst (q := 14) ic_2 dX10_wish_13 rfl ?_
      by_cases h7 : x2 ≤ (2 : Int32)
      · have hf := ite_pos h7 hf
        refine to_icT (q := 23) (op := .le) h7 dX10_wish_14 rfl ?_
        refine to_aload_n (q := 24) rfl (by decide) dX10_wish_23 rfl ?_
        have hk8 : kd (rr m4 0 3) = 2 := (ivT hI).2
        refine to_getR (q := 27) (b := rr m4 0 3) (k0 := 10) (C := RX10) (T := TX10) (N := 17) (j := 3) rfl fx_X10_26 (h_0 hS) rfl ((ivT hI).1) dX10_wish_24 rfl ?_
        refine to_getR (q := 30) (b := (rr m4 0 3) + 4) (k0 := 2) (C := RX2) (T := TX2) (N := 14) (j := 8) rfl fx_X10_242 (sh_kd hS hk8 (by decide)) rfl (iv2i hI (hk8)) dX10_wish_27 rfl ?_
        refine to_iload_n (q := 31) rfl dX10_wish_30 rfl ?_
        obtain ⟨hb9, hf⟩ := ck_some hf
        refine to_aald (q := 32) (b := rr m4 0 3 + 19 + 2 * x1.toNatClampNeg) (sh_ln hS (kd2i (hk8)) (by decide)) (by decide) hb9 (ivI hI (hk8) hb9) dX10_wish_31 rfl ?_
        refine to_astore_n (q := 33) [(3, .ref (rr m4 0 3 + 19 + 2 * x1.toNatClampNeg)), (0, .ref 0), (1, .int x1), (2, .int x2)] rfl (kd_4 (kdI (hk8) hb9) (by decide)) (by decide) dX10_wish_32 rfl ?_
        refine to_iload_n (q := 34) rfl dX10_wish_33 rfl ?_
        by_cases h10 : x2 = (0 : Int32)
        · have hf := ite_pos h10 hf
          refine to_ifF (q := 37) (op := .ne) 46 (fun z => z h10) dX10_wish_34 rfl rfl ?_
          refine to_aload_n (q := 38) rfl (by decide) dX10_wish_37 rfl ?_
          refine to_aload_n (q := 39) rfl (kd_4 (kdI (hk8) hb9) (by decide)) dX10_wish_38 rfl ?_
          refine to_getI (q := 42) (k0 := 8) (C := RX8) (T := TX8) (N := 5) (j := 1) rfl fx_X10_361 (sh_kd hS (kdI (hk8) hb9) (by decide)) rfl dX10_wish_39 rfl ?_
          obtain ⟨r14, m15, hc12, hf⟩ := cl2_some hf
          have qc13 := kX10_answer hS hc12 hI
          refine to_virtI (q := 45) mX10_answer [.int (m4.1 (rr m4 0 3 + 19 + 2 * x1.toNatClampNeg) 1)] dX10_wish_42 rfl rfl (Nat.le_of_ble_eq_true rfl) mo_X10_answer mv_X10_135 (Or.inl ⟨_, _, _, h_0 hS, rfl, rfl⟩) (Call_mono (by decide) qc13.1) ?_
          have hI := qc13.2
          cases hf
          exact to_iret dX10_wish_45 rfl rfl rfl rfl hI
        · have hf := ite_neg h10 hf
          refine to_ifT (q := 46) (op := .ne) h10 dX10_wish_34 rfl ?_
          refine to_aload_n (q := 47) rfl (by decide) dX10_wish_46 rfl ?_
          refine to_iload_n (q := 48) rfl dX10_wish_47 rfl ?_
          refine to_iconst (q := 49) ic_1 dX10_wish_48 rfl ?_
          by_cases h11 : x2 = (1 : Int32)
          · have hf := ite_pos h11 hf
            refine to_icF (q := 52) (op := .ne) 59 (fun z => z h11) dX10_wish_49 rfl rfl ?_
            refine to_aload_n (q := 53) rfl (kd_4 (kdI (hk8) hb9) (by decide)) dX10_wish_52 rfl ?_
            refine to_getI (q := 56) (k0 := 8) (C := RX8) (T := TX8) (N := 5) (j := 2) rfl fx_X10_293 (sh_kd hS (kdI (hk8) hb9) (by decide)) rfl dX10_wish_53 rfl ?_
            refine to_goto (q := 63) dX10_wish_56 rfl ?_
            exact to_ext [] ext_nil (kX10_wish_63 hS hf hI)
          · have hf := ite_neg h11 hf
            refine to_icT (q := 59) (op := .ne) h11 dX10_wish_49 rfl ?_
            refine to_aload_n (q := 60) rfl (kd_4 (kdI (hk8) hb9) (by decide)) dX10_wish_59 rfl ?_
            refine to_getI (q := 63) (k0 := 8) (C := RX8) (T := TX8) (N := 5) (j := 3) rfl fx_X10_298 (sh_kd hS (kdI (hk8) hb9) (by decide)) rfl dX10_wish_60 rfl ?_
            exact to_ext [] ext_nil (kX10_wish_63 hS hf hI)
      · have hf := ite_neg h7 hf
        refine to_icF (q := 17) (op := .le) 23 h7 dX10_wish_14 rfl rfl ?_
        exact to_ext [(0, .ref 0)] (ext_cons rfl ext_nil) (kX10_wish_17 hS hf hI)
  · have hf := ite_neg h5 hf
    refine to_ifT (q := 17) (op := .ne) h5 dX10_wish_5 rfl ?_
    exact to_ext [(0, .ref 0)] (ext_cons rfl ext_nil) (kX10_wish_17 hS hf hI)
def fX10_size_91 (t0 : Int32) (m : Me) : Option (Int32 × Me) := some (t0, m)
set_option maxRecDepth 20000 in
theorem kX10_size_91 {S : Sh} (hS : ShOK S) {res : Int32 × Me} {t0 : Int32} {m : Me} (hf : fX10_size_91 t0 m = some res) (hI : Inv m) : TT InvS (Call 0) mX10_size (91, [], [.int t0], S, m) (some (.int res.1)) (S, res.2) := by
  unfold fX10_size_91 at hf
  cases hf
  exact to_iret dX10_size_91 rfl rfl rfl rfl hI
def fX10_size (x1 : Int32) (m : Me) : Option (Int32 × Me) := if x1 = 0 then some ((m.1 (rr m 0 3) 0), m) else if x1 = 1 then some ((m.1 (rr m 0 3) 1), m) else if x1 = 2 then if (m.1 (rr m 0 3) 3) = (0 : Int32) then fX10_size_91 ((0 : Int32)) m else fX10_size_91 ((1 : Int32)) m else if x1 = 3 then some ((m.1 (rr m 0 3) 7), m) else if x1 = 4 then some ((m.1 (rr m 0 3) 9), m) else if x1 = 5 then some ((m.1 (rr m 0 3) 11), m) else if x1 = 6 then some ((m.1 (rr m 0 3) 13), m) else if x1 = 7 then some ((m.1 81 2), m) else if x1 = 8 then some ((m.1 84 3), m) else if x1 = 9 then some ((m.1 0 7), m) else if x1 = 10 then some ((m.1 0 2), m) else some ((-1 : Int32), m)
set_option maxRecDepth 20000 in
theorem kX10_size {S : Sh} (hS : ShOK S) {res : Int32 × Me} {x1 : Int32} {m : Me} (hf : fX10_size x1 m = some res) (hI : Inv m) : Call 1 mX10_size [.ref 0, .int x1] (S, m) (some (.int res.1)) (S, res.2) ∧ Inv res.2 := by
  refine call_of (P := InvS) (Nat.le_of_ble_eq_true rfl) (by simp [Value.category]) ?_
  show TT InvS (Call 0) mX10_size (0, [(0, .ref 0), (1, .int x1)], [], S, m) _ _
  unfold fX10_size at hf
  refine to_iload_n (q := 1) rfl dX10_size_0 rfl ?_
  by_cases h1 : x1 = 0
  · have hf := ite_pos h1 hf
    refine to_tsIn (q := 60) (off := 59) dX10_size_1 (by rw [h1]; decide) (by rw [h1]; decide) (by rw [h1]; rfl) rfl ?_
    refine to_aload_n (q := 61) rfl (by decide) dX10_size_60 rfl ?_
    have hk2 : kd (rr m 0 3) = 2 := (ivT hI).2
    refine to_getR (q := 64) (b := rr m 0 3) (k0 := 10) (C := RX10) (T := TX10) (N := 17) (j := 3) rfl fx_X10_26 (h_0 hS) rfl ((ivT hI).1) dX10_size_61 rfl ?_
    refine to_getI (q := 67) (k0 := 2) (C := RX2) (T := TX2) (N := 14) (j := 0) rfl fx_X10_190 (sh_kd hS hk2 (by decide)) rfl dX10_size_64 rfl ?_
    cases hf
    exact to_iret dX10_size_67 rfl rfl rfl rfl hI
  · have hf := ite_neg h1 hf
    by_cases h3 : x1 = 1
    · have hf := ite_pos h3 hf
      refine to_tsIn (q := 68) (off := 67) dX10_size_1 (by rw [h3]; decide) (by rw [h3]; decide) (by rw [h3]; rfl) rfl ?_
      refine to_aload_n (q := 69) rfl (by decide) dX10_size_68 rfl ?_
      have hk4 : kd (rr m 0 3) = 2 := (ivT hI).2
      refine to_getR (q := 72) (b := rr m 0 3) (k0 := 10) (C := RX10) (T := TX10) (N := 17) (j := 3) rfl fx_X10_26 (h_0 hS) rfl ((ivT hI).1) dX10_size_69 rfl ?_
      refine to_getI (q := 75) (k0 := 2) (C := RX2) (T := TX2) (N := 14) (j := 1) rfl fx_X10_151 (sh_kd hS hk4 (by decide)) rfl dX10_size_72 rfl ?_
      cases hf
      exact to_iret dX10_size_75 rfl rfl rfl rfl hI
    · have hf := ite_neg h3 hf
      by_cases h5 : x1 = 2
      · have hf := ite_pos h5 hf
        refine to_tsIn (q := 76) (off := 75) dX10_size_1 (by rw [h5]; decide) (by rw [h5]; decide) (by rw [h5]; rfl) rfl ?_
        refine to_aload_n (q := 77) rfl (by decide) dX10_size_76 rfl ?_
        have hk6 : kd (rr m 0 3) = 2 := (ivT hI).2
        refine to_getR (q := 80) (b := rr m 0 3) (k0 := 10) (C := RX10) (T := TX10) (N := 17) (j := 3) rfl fx_X10_26 (h_0 hS) rfl ((ivT hI).1) dX10_size_77 rfl ?_
        refine to_getI (q := 83) (k0 := 2) (C := RX2) (T := TX2) (N := 14) (j := 3) rfl fx_X10_368 (sh_kd hS hk6 (by decide)) rfl dX10_size_80 rfl ?_
        by_cases h7 : (m.1 (rr m 0 3) 3) = (0 : Int32)
        · have hf := ite_pos h7 hf
          refine to_ifT (q := 90) (op := .eq) h7 dX10_size_83 rfl ?_
          refine to_iconst (q := 91) ic_0 dX10_size_90 rfl ?_
          exact to_ext [] ext_nil (kX10_size_91 hS hf hI)
        · have hf := ite_neg h7 hf
          refine to_ifF (q := 86) (op := .eq) 90 h7 dX10_size_83 rfl rfl ?_
          refine to_iconst (q := 87) ic_1 dX10_size_86 rfl ?_
          refine to_goto (q := 91) dX10_size_87 rfl ?_
          exact to_ext [] ext_nil (kX10_size_91 hS hf hI)
      · have hf := ite_neg h5 hf
        by_cases h8 : x1 = 3
        · have hf := ite_pos h8 hf
          refine to_tsIn (q := 92) (off := 91) dX10_size_1 (by rw [h8]; decide) (by rw [h8]; decide) (by rw [h8]; rfl) rfl ?_
          refine to_aload_n (q := 93) rfl (by decide) dX10_size_92 rfl ?_
          have hk9 : kd (rr m 0 3) = 2 := (ivT hI).2
          refine to_getR (q := 96) (b := rr m 0 3) (k0 := 10) (C := RX10) (T := TX10) (N := 17) (j := 3) rfl fx_X10_26 (h_0 hS) rfl ((ivT hI).1) dX10_size_93 rfl ?_
          refine to_getI (q := 99) (k0 := 2) (C := RX2) (T := TX2) (N := 14) (j := 7) rfl fx_X10_223 (sh_kd hS hk9 (by decide)) rfl dX10_size_96 rfl ?_
          cases hf
          exact to_iret dX10_size_99 rfl rfl rfl rfl hI
        · have hf := ite_neg h8 hf
          by_cases h10 : x1 = 4
          · have hf := ite_pos h10 hf
            refine to_tsIn (q := 100) (off := 99) dX10_size_1 (by rw [h10]; decide) (by rw [h10]; decide) (by rw [h10]; rfl) rfl ?_
            refine to_aload_n (q := 101) rfl (by decide) dX10_size_100 rfl ?_
            have hk11 : kd (rr m 0 3) = 2 := (ivT hI).2
            refine to_getR (q := 104) (b := rr m 0 3) (k0 := 10) (C := RX10) (T := TX10) (N := 17) (j := 3) rfl fx_X10_26 (h_0 hS) rfl ((ivT hI).1) dX10_size_101 rfl ?_
            refine to_getI (q := 107) (k0 := 2) (C := RX2) (T := TX2) (N := 14) (j := 9) rfl fx_X10_371 (sh_kd hS hk11 (by decide)) rfl dX10_size_104 rfl ?_
            cases hf
            exact to_iret dX10_size_107 rfl rfl rfl rfl hI
          · have hf := ite_neg h10 hf
            by_cases h12 : x1 = 5
            · have hf := ite_pos h12 hf
              refine to_tsIn (q := 108) (off := 107) dX10_size_1 (by rw [h12]; decide) (by rw [h12]; decide) (by rw [h12]; rfl) rfl ?_
              refine to_aload_n (q := 109) rfl (by decide) dX10_size_108 rfl ?_
              have hk13 : kd (rr m 0 3) = 2 := (ivT hI).2
              refine to_getR (q := 112) (b := rr m 0 3) (k0 := 10) (C := RX10) (T := TX10) (N := 17) (j := 3) rfl fx_X10_26 (h_0 hS) rfl ((ivT hI).1) dX10_size_109 rfl ?_
              refine to_getI (q := 115) (k0 := 2) (C := RX2) (T := TX2) (N := 14) (j := 11) rfl fx_X10_287 (sh_kd hS hk13 (by decide)) rfl dX10_size_112 rfl ?_
              cases hf
              exact to_iret dX10_size_115 rfl rfl rfl rfl hI
            · have hf := ite_neg h12 hf
              by_cases h14 : x1 = 6
              · have hf := ite_pos h14 hf
                refine to_tsIn (q := 116) (off := 115) dX10_size_1 (by rw [h14]; decide) (by rw [h14]; decide) (by rw [h14]; rfl) rfl ?_
                refine to_aload_n (q := 117) rfl (by decide) dX10_size_116 rfl ?_
                have hk15 : kd (rr m 0 3) = 2 := (ivT hI).2
                refine to_getR (q := 120) (b := rr m 0 3) (k0 := 10) (C := RX10) (T := TX10) (N := 17) (j := 3) rfl fx_X10_26 (h_0 hS) rfl ((ivT hI).1) dX10_size_117 rfl ?_
                refine to_getI (q := 123) (k0 := 2) (C := RX2) (T := TX2) (N := 14) (j := 13) rfl fx_X10_327 (sh_kd hS hk15 (by decide)) rfl dX10_size_120 rfl ?_
                cases hf
                exact to_iret dX10_size_123 rfl rfl rfl rfl hI
              · have hf := ite_neg h14 hf
                by_cases h16 : x1 = 7
                · have hf := ite_pos h16 hf
                  refine to_tsIn (q := 124) (off := 123) dX10_size_1 (by rw [h16]; decide) (by rw [h16]; decide) (by rw [h16]; rfl) rfl ?_
                  refine to_aload_n (q := 125) rfl (by decide) dX10_size_124 rfl ?_
                  refine to_getR (q := 128) (b := 81) (k0 := 10) (C := RX10) (T := TX10) (N := 17) (j := 5) rfl fx_X10_33 (h_0 hS) rfl (iv_0_5 hI) dX10_size_125 rfl ?_
                  refine to_getI (q := 131) (k0 := 5) (C := RX5) (T := TX5) (N := 3) (j := 2) rfl fx_X10_351 (h_81 hS) rfl dX10_size_128 rfl ?_
                  cases hf
                  exact to_iret dX10_size_131 rfl rfl rfl rfl hI
                · have hf := ite_neg h16 hf
                  by_cases h17 : x1 = 8
                  · have hf := ite_pos h17 hf
                    refine to_tsIn (q := 132) (off := 131) dX10_size_1 (by rw [h17]; decide) (by rw [h17]; decide) (by rw [h17]; rfl) rfl ?_
                    refine to_aload_n (q := 133) rfl (by decide) dX10_size_132 rfl ?_
                    refine to_getR (q := 136) (b := 84) (k0 := 10) (C := RX10) (T := TX10) (N := 17) (j := 8) rfl fx_X10_44 (h_0 hS) rfl (iv_0_8 hI) dX10_size_133 rfl ?_
                    refine to_getI (q := 139) (k0 := 0) (C := RX0) (T := TX0) (N := 4) (j := 3) rfl fx_X10_374 (h_84 hS) rfl dX10_size_136 rfl ?_
                    cases hf
                    exact to_iret dX10_size_139 rfl rfl rfl rfl hI
                  · have hf := ite_neg h17 hf
                    by_cases h18 : x1 = 9
                    · have hf := ite_pos h18 hf
                      refine to_tsIn (q := 140) (off := 139) dX10_size_1 (by rw [h18]; decide) (by rw [h18]; decide) (by rw [h18]; rfl) rfl ?_
                      refine to_aload_n (q := 141) rfl (by decide) dX10_size_140 rfl ?_
                      refine to_getI (q := 144) (k0 := 10) (C := RX10) (T := TX10) (N := 17) (j := 7) rfl fx_X10_124 (h_0 hS) rfl dX10_size_141 rfl ?_
                      cases hf
                      exact to_iret dX10_size_144 rfl rfl rfl rfl hI
                    · have hf := ite_neg h18 hf
                      by_cases h19 : x1 = 10
                      · have hf := ite_pos h19 hf
                        refine to_tsIn (q := 145) (off := 144) dX10_size_1 (by rw [h19]; decide) (by rw [h19]; decide) (by rw [h19]; rfl) rfl ?_
                        refine to_aload_n (q := 146) rfl (by decide) dX10_size_145 rfl ?_
                        refine to_getI (q := 149) (k0 := 10) (C := RX10) (T := TX10) (N := 17) (j := 2) rfl fx_X10_90 (h_0 hS) rfl dX10_size_146 rfl ?_
                        cases hf
                        exact to_iret dX10_size_149 rfl rfl rfl rfl hI
                      · have hf := ite_neg h19 hf
                        refine to_tsOut (q := 150) dX10_size_1 (ts_out11 h1 h3 h5 h8 h10 h12 h14 h16 h17 h18 h19) rfl ?_
                        refine to_iconst (q := 151) ic_m1 dX10_size_150 rfl ?_
                        cases hf
                        exact to_iret dX10_size_151 rfl rfl rfl rfl hI
def fX10_trouble (m : Me) : Option (Int32 × Me) := some ((m.1 0 16), m)
set_option maxRecDepth 20000 in
theorem kX10_trouble {S : Sh} (hS : ShOK S) {res : Int32 × Me} {m : Me} (hf : fX10_trouble m = some res) (hI : Inv m) : Call 1 mX10_trouble [.ref 0] (S, m) (some (.int res.1)) (S, res.2) ∧ Inv res.2 := by
  refine call_of (P := InvS) (Nat.le_of_ble_eq_true rfl) (by simp [Value.category]) ?_
  show TT InvS (Call 0) mX10_trouble (0, [(0, .ref 0)], [], S, m) _ _
  unfold fX10_trouble at hf
  refine to_aload_n (q := 1) rfl (by decide) dX10_trouble_0 rfl ?_
  refine to_getI (q := 4) (k0 := 10) (C := RX10) (T := TX10) (N := 17) (j := 16) rfl fx_X10_141 (h_0 hS) rfl dX10_trouble_1 rfl ?_
  cases hf
  exact to_iret dX10_trouble_4 rfl rfl rfl rfl hI
def fX10_bareOfFront_47 (k4 : Int32 → Int32 → Int32 → Me → Option (Int32 × Me)) (x1 : Int32) (x2 : Int32) (x3 : Int32) (m : Me) : Option (Int32 × Me) := k4 x1 x2 ((x3 + (1 : Int32))) m
set_option maxRecDepth 20000 in
theorem kX10_bareOfFront_47 {S : Sh} (hS : ShOK S) {res : Int32 × Me} {k4 : Int32 → Int32 → Int32 → Me → Option (Int32 × Me)} (hk4 : ∀ {x1 : Int32} {x2 : Int32} {x3 : Int32} {m : Me}, k4 x1 x2 x3 m = some res → Inv m → TT InvS (Call 2) mX10_bareOfFront (4, [(0, .ref 0), (1, .int x1), (2, .int x2), (3, .int x3)], [], S, m) (some (.int res.1)) (S, res.2)) {x1 : Int32} {x2 : Int32} {x3 : Int32} {m : Me} (hf : fX10_bareOfFront_47 k4 x1 x2 x3 m = some res) (hI : Inv m) : TT InvS (Call 2) mX10_bareOfFront (47, [(0, .ref 0), (1, .int x1), (2, .int x2), (3, .int x3)], [], S, m) (some (.int res.1)) (S, res.2) := by
  unfold fX10_bareOfFront_47 at hf
  refine to_iinc (q := 50) (v := (x3 + (1 : Int32))) rfl (congrArg (fun z => x3 + z) ic_1) [(3, .int (x3 + (1 : Int32))), (0, .ref 0), (1, .int x1), (2, .int x2)] rfl (by decide) dX10_bareOfFront_47 rfl ?_
  refine to_goto (q := 4) dX10_bareOfFront_50 rfl ?_
  exact to_ext [(0, .ref 0), (1, .int x1), (2, .int x2), (3, .int (x3 + (1 : Int32)))] (ext_cons rfl (ext_cons rfl (ext_cons rfl (ext_cons rfl ext_nil)))) (hk4 hf hI)
def fX10_bareOfFront_4 (n : Nat) (x1 : Int32) (x2 : Int32) (x3 : Int32) (m : Me) : Option (Int32 × Me) := match n with
  | 0 => none
  | n + 1 => if ((m.1 (rr m 0 3) 0) * (m.1 (rr m 0 3) 1)) ≤ x3 then some ((-1 : Int32), m) else cl2 (fX5_letterOf 81 (0 : Int32) x3 m) fun r6 m7 => if r6 = (25 : Int32) then if x2 = x1 then some (x3, m7) else fX10_bareOfFront_47 (fX10_bareOfFront_4 n) x1 ((x2 + (1 : Int32))) x3 m7 else fX10_bareOfFront_47 (fX10_bareOfFront_4 n) x1 x2 x3 m7
set_option maxRecDepth 20000 in
theorem kX10_bareOfFront_4 {S : Sh} (hS : ShOK S) {res : Int32 × Me} (n : Nat) : ∀ {x1 : Int32} {x2 : Int32} {x3 : Int32} {m : Me}, fX10_bareOfFront_4 n x1 x2 x3 m = some res → Inv m → TT InvS (Call 2) mX10_bareOfFront (4, [(0, .ref 0), (1, .int x1), (2, .int x2), (3, .int x3)], [], S, m) (some (.int res.1)) (S, res.2) := by
  induction n with
  | zero => intro x1 x2 x3 m hf; cases hf
  | succ n ih =>
    intro x1 x2 x3 m hf  hI
    unfold fX10_bareOfFront_4 at hf
    refine to_iload_n (q := 5) rfl dX10_bareOfFront_4 rfl ?_
    refine to_aload_n (q := 6) rfl (by decide) dX10_bareOfFront_5 rfl ?_
    have hk1 : kd (rr m 0 3) = 2 := (ivT hI).2
    refine to_getR (q := 9) (b := rr m 0 3) (k0 := 10) (C := RX10) (T := TX10) (N := 17) (j := 3) rfl fx_X10_26 (h_0 hS) rfl ((ivT hI).1) dX10_bareOfFront_6 rfl ?_
    refine to_getI (q := 12) (k0 := 2) (C := RX2) (T := TX2) (N := 14) (j := 0) rfl fx_X10_190 (sh_kd hS hk1 (by decide)) rfl dX10_bareOfFront_9 rfl ?_
    refine to_aload_n (q := 13) rfl (by decide) dX10_bareOfFront_12 rfl ?_
    have hk2 : kd (rr m 0 3) = 2 := (ivT hI).2
    refine to_getR (q := 16) (b := rr m 0 3) (k0 := 10) (C := RX10) (T := TX10) (N := 17) (j := 3) rfl fx_X10_26 (h_0 hS) rfl ((ivT hI).1) dX10_bareOfFront_13 rfl ?_
    refine to_getI (q := 19) (k0 := 2) (C := RX2) (T := TX2) (N := 14) (j := 1) rfl fx_X10_151 (sh_kd hS hk2 (by decide)) rfl dX10_bareOfFront_16 rfl ?_
    refine to_imul (q := 20) dX10_bareOfFront_19 rfl ?_
    by_cases h3 : ((m.1 (rr m 0 3) 0) * (m.1 (rr m 0 3) 1)) ≤ x3
    · have hf := ite_pos h3 hf
      refine to_icT (q := 53) (op := .ge) h3 dX10_bareOfFront_20 rfl ?_
      refine to_iconst (q := 54) ic_m1 dX10_bareOfFront_53 rfl ?_
      cases hf
      exact to_iret dX10_bareOfFront_54 rfl rfl rfl rfl hI
    · have hf := ite_neg h3 hf
      refine to_icF (q := 23) (op := .ge) 53 h3 dX10_bareOfFront_20 rfl rfl ?_
      refine to_aload_n (q := 24) rfl (by decide) dX10_bareOfFront_23 rfl ?_
      refine to_getR (q := 27) (b := 81) (k0 := 10) (C := RX10) (T := TX10) (N := 17) (j := 5) rfl fx_X10_33 (h_0 hS) rfl (iv_0_5 hI) dX10_bareOfFront_24 rfl ?_
      refine to_iconst (q := 28) ic_0 dX10_bareOfFront_27 rfl ?_
      refine to_iload_n (q := 29) rfl dX10_bareOfFront_28 rfl ?_
      obtain ⟨r6, m7, hc4, hf⟩ := cl2_some hf
      have qc5 := kX5_letterOf hS hc4 rfl hI
      refine to_virtI (q := 32) mX5_letterOf [.int (0 : Int32), .int x3] dX10_bareOfFront_29 rfl rfl (Nat.le_of_ble_eq_true rfl) mo_X5_letterOf mv_X10_154 (Or.inl ⟨_, _, _, h_81 hS, rfl, rfl⟩) (Call_mono (by decide) qc5.1) ?_
      have hI := qc5.2
      refine to_bipush (q := 34) bp_25 dX10_bareOfFront_32 rfl ?_
      by_cases h8 : r6 = (25 : Int32)
      · have hf := ite_pos h8 hf
        refine to_icF (q := 37) (op := .ne) 47 (fun z => z h8) dX10_bareOfFront_34 rfl rfl ?_
        refine to_iload_n (q := 38) rfl dX10_bareOfFront_37 rfl ?_
        refine to_iload_n (q := 39) rfl dX10_bareOfFront_38 rfl ?_
        by_cases h9 : x2 = x1
        · have hf := ite_pos h9 hf
          refine to_icF (q := 42) (op := .ne) 44 (fun z => z h9) dX10_bareOfFront_39 rfl rfl ?_
          refine to_iload_n (q := 43) rfl dX10_bareOfFront_42 rfl ?_
          cases hf
          exact to_iret dX10_bareOfFront_43 rfl rfl rfl rfl hI
        · have hf := ite_neg h9 hf
          refine to_icT (q := 44) (op := .ne) h9 dX10_bareOfFront_39 rfl ?_
          refine to_iinc (q := 47) (v := (x2 + (1 : Int32))) rfl (congrArg (fun z => x2 + z) ic_1) [(2, .int (x2 + (1 : Int32))), (0, .ref 0), (1, .int x1), (3, .int x3)] rfl (by decide) dX10_bareOfFront_44 rfl ?_
          exact to_ext [(0, .ref 0), (1, .int x1), (2, .int (x2 + (1 : Int32))), (3, .int x3)] (ext_cons rfl (ext_cons rfl (ext_cons rfl (ext_cons rfl ext_nil)))) (kX10_bareOfFront_47 hS ih hf hI)
      · have hf := ite_neg h8 hf
        refine to_icT (q := 47) (op := .ne) h8 dX10_bareOfFront_34 rfl ?_
        exact to_ext [(0, .ref 0), (1, .int x1), (2, .int x2), (3, .int x3)] (ext_cons rfl (ext_cons rfl (ext_cons rfl (ext_cons rfl ext_nil)))) (kX10_bareOfFront_47 hS ih hf hI)
def fX10_bareOfFront (x1 : Int32) (m : Me) : Option (Int32 × Me) := fX10_bareOfFront_4 FU x1 ((0 : Int32)) ((0 : Int32)) m
set_option maxRecDepth 20000 in
theorem kX10_bareOfFront {S : Sh} (hS : ShOK S) {res : Int32 × Me} {x1 : Int32} {m : Me} (hf : fX10_bareOfFront x1 m = some res) (hI : Inv m) : Call 3 mX10_bareOfFront [.ref 0, .int x1] (S, m) (some (.int res.1)) (S, res.2) ∧ Inv res.2 := by
  refine call_of (P := InvS) (Nat.le_of_ble_eq_true rfl) (by simp [Value.category]) ?_
  show TT InvS (Call 2) mX10_bareOfFront (0, [(0, .ref 0), (1, .int x1)], [], S, m) _ _
  unfold fX10_bareOfFront at hf
  refine to_iconst (q := 1) ic_0 dX10_bareOfFront_0 rfl ?_
  refine to_istore_n (q := 2) [(2, .int (0 : Int32)), (0, .ref 0), (1, .int x1)] rfl (by decide) dX10_bareOfFront_1 rfl ?_
  refine to_iconst (q := 3) ic_0 dX10_bareOfFront_2 rfl ?_
  refine to_istore_n (q := 4) [(3, .int (0 : Int32)), (2, .int (0 : Int32)), (0, .ref 0), (1, .int x1)] rfl (by decide) dX10_bareOfFront_3 rfl ?_
  exact to_ext [(0, .ref 0), (1, .int x1), (2, .int (0 : Int32)), (3, .int (0 : Int32))] (ext_cons rfl (ext_cons rfl (ext_cons rfl (ext_cons rfl ext_nil)))) (kX10_bareOfFront_4 hS FU hf hI)
