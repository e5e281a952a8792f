def MX6_1 (m : Me) : Me := (setI (setR (MX2_3 (zer (setR (zer m 2) 1 0 (some 2)) 3)) 1 2 (some 3)) 1 9 (-1))
set_option maxRecDepth 20000 in
theorem kc_X6_1 (m : Me) : Call 3 mX6_init [.ref 1] (tk 2, m) none (tk 42, MX6_1 m) := by
  refine (call_of (P := fun _ => True) (Nat.le_of_ble_eq_true rfl) (by simp [Value.category]) ?_).1
  show TT _ (Call 2) mX6_init (0, [(0, .ref 1)], [], tk 2, m) _ _
  refine to_aload_n (q := 1) rfl (by decide) dX6_init_0 rfl ?_
  refine to_obj (q := 4) dX6_init_1 rfl (by decide) (Nat.le_of_ble_eq_true rfl) ⟨ml_X6_3, im_obj, cd_obj⟩ ?_
  refine to_aload_n (q := 5) rfl (by decide) dX6_init_4 rfl ?_
  refine to_sipush (q := 8) (v := (900 : Int32)) (by decide) dX6_init_5 rfl ?_
  refine tc_newa (q := 10) (ty := .byte) (n := 2) (n1 := 3) c_2 rfl (by decide) (by decide) (by decide) ac_byte dX6_init_8 rfl ?_
  refine to_putR (q := 13) (ty := .array .byte) (k0 := 6) (C := RX6) (T := TX6) (N := 10) (j := 0) rfl fx_X6_9 (tk_get c_1 (by decide)) (tk_len c_2 (by decide)) rfl cD_aB (Or.inr ⟨rfl, rfl⟩) (fun _ => ⟨rfl, rfl⟩) dX6_init_10 rfl ?_
  refine to_aload_n (q := 14) rfl (by decide) dX6_init_13 rfl ?_
  refine tc_new (q := 17) (n := 3) (n1 := 4) (k0 := 2) (C := RX2) (T := TX2) (N := 14) c_3 rfl rfl ⟨cl_X6_15, ins_X2, ini_X2⟩ dX6_init_14 rfl ?_
  refine to_dup (q := 18) rfl dX6_init_17 rfl ?_
  refine to_init (q := 21) (S1 := tk 42) mX2_init [] dX6_init_18 rfl rfl (by decide) (Nat.le_of_ble_eq_true rfl) mo_X2_init ⟨rfl, rfl⟩ (Or.inl ml_X6_17) im_X2_init (Call_mono (by decide) (kc_X2_3 _)) ?_
  refine to_putR (q := 24) (ty := .object "FanParts$Fan") (k0 := 6) (C := RX6) (T := TX6) (N := 10) (j := 2) rfl fx_X6_18 (tk_get c_1 (by decide)) (tk_len c_3 (by decide)) rfl cD_oX2 (Or.inl rfl) (fun _ => ⟨rfl, rfl⟩) dX6_init_21 rfl ?_
  refine to_aload_n (q := 25) rfl (by decide) dX6_init_24 rfl ?_
  refine to_iconst (q := 26) (v := (-1 : Int32)) (by decide) dX6_init_25 rfl ?_
  refine to_putI (q := 29) (ty := .int) (k0 := 6) (C := RX6) (T := TX6) (N := 10) (j := 9) rfl fx_X6_22 (tk_get c_1 (by decide)) rfl cD_I (Or.inl rfl) (nf_I _) dX6_init_26 rfl ?_
  exact to_vret dX6_init_29 rfl rfl rfl trivial
def MX3_96 (m : Me) : Me := (setR (MX8 121 (zer (setR (MX7 118 (zer (setR (MX8 116 (zer (setR (MX7 113 (zer (setR (MX8 111 (zer (setR (MX7 108 (zer (setR (MX8 106 (zer (setR (MX7 103 (zer (setR (zer (setR (zer (setR (zer (setR (zer (setR (zer (setR (zer m 97) 96 0 (some 97)) 98) 96 1 (some 98)) 99) 96 3 (some 99)) 100) 96 4 (some 100)) 101) 96 5 (some 101)) 102) 96 6 (some 102)) 103)) 97 0 (some 103)) 106)) 98 0 (some 106)) 108)) 97 1 (some 108)) 111)) 98 1 (some 111)) 113)) 97 2 (some 113)) 116)) 98 2 (some 116)) 118)) 97 3 (some 118)) 121)) 98 3 (some 121))
set_option maxRecDepth 20000 in
theorem kc_X3_96 (m : Me) : Call 2 mX3_init [.ref 96] (tk 97, m) none (tk 123, MX3_96 m) := by
  refine (call_of (P := fun _ => True) (Nat.le_of_ble_eq_true rfl) (by simp [Value.category]) ?_).1
  show TT _ (Call 1) mX3_init (0, [(0, .ref 96)], [], tk 97, m) _ _
  refine to_aload_n (q := 1) rfl (by decide) dX3_init_0 rfl ?_
  refine to_obj (q := 4) dX3_init_1 rfl (by decide) (Nat.le_of_ble_eq_true rfl) ⟨ml_X3_3, im_obj, cd_obj⟩ ?_
  refine to_aload_n (q := 5) rfl (by decide) dX3_init_4 rfl ?_
  refine to_iconst (q := 6) (v := (4 : Int32)) (by decide) dX3_init_5 rfl ?_
  refine tc_anew (q := 9) (n := 97) (n1 := 98) c_97 rfl (by decide) (by decide) (by decide) rfl cl_X3_9 dX3_init_6 rfl ?_
  refine to_putR (q := 12) (ty := .array (.object "FanParts$Row")) (k0 := 3) (C := RX3) (T := TX3) (N := 8) (j := 0) rfl fx_X3_11 (tk_get c_96 (by decide)) (tk_len c_97 (by decide)) rfl cD_aX7 (Or.inr ⟨rfl, rfl⟩) (fun _ => ⟨rfl, rfl⟩) dX3_init_9 rfl ?_
  refine to_aload_n (q := 13) rfl (by decide) dX3_init_12 rfl ?_
  refine to_iconst (q := 14) (v := (4 : Int32)) (by decide) dX3_init_13 rfl ?_
  refine tc_anew (q := 17) (n := 98) (n1 := 99) c_98 rfl (by decide) (by decide) (by decide) rfl cl_X3_17 dX3_init_14 rfl ?_
  refine to_putR (q := 20) (ty := .array (.object "FanParts$Saying")) (k0 := 3) (C := RX3) (T := TX3) (N := 8) (j := 1) rfl fx_X3_19 (tk_get c_96 (by decide)) (tk_len c_98 (by decide)) rfl cD_aX8 (Or.inr ⟨rfl, rfl⟩) (fun _ => ⟨rfl, rfl⟩) dX3_init_17 rfl ?_
  refine to_aload_n (q := 21) rfl (by decide) dX3_init_20 rfl ?_
  refine to_bipush (q := 23) (v := (30 : Int32)) (by decide) dX3_init_21 rfl ?_
  refine tc_newa (q := 25) (ty := .int) (n := 99) (n1 := 100) c_99 rfl (by decide) (by decide) (by decide) ac_int dX3_init_23 rfl ?_
  refine to_putR (q := 28) (ty := .array .int) (k0 := 3) (C := RX3) (T := TX3) (N := 8) (j := 3) rfl fx_X3_23 (tk_get c_96 (by decide)) (tk_len c_99 (by decide)) rfl cD_aI (Or.inr ⟨rfl, rfl⟩) (fun _ => ⟨rfl, rfl⟩) dX3_init_25 rfl ?_
  refine to_aload_n (q := 29) rfl (by decide) dX3_init_28 rfl ?_
  refine to_bipush (q := 31) (v := (30 : Int32)) (by decide) dX3_init_29 rfl ?_
  refine tc_newa (q := 33) (ty := .int) (n := 100) (n1 := 101) c_100 rfl (by decide) (by decide) (by decide) ac_int dX3_init_31 rfl ?_
  refine to_putR (q := 36) (ty := .array .int) (k0 := 3) (C := RX3) (T := TX3) (N := 8) (j := 4) rfl fx_X3_27 (tk_get c_96 (by decide)) (tk_len c_100 (by decide)) rfl cD_aI (Or.inr ⟨rfl, rfl⟩) (fun _ => ⟨rfl, rfl⟩) dX3_init_33 rfl ?_
  refine to_aload_n (q := 37) rfl (by decide) dX3_init_36 rfl ?_
  refine to_bipush (q := 39) (v := (120 : Int32)) (by decide) dX3_init_37 rfl ?_
  refine tc_newa (q := 41) (ty := .int) (n := 101) (n1 := 102) c_101 rfl (by decide) (by decide) (by decide) ac_int dX3_init_39 rfl ?_
  refine to_putR (q := 44) (ty := .array .int) (k0 := 3) (C := RX3) (T := TX3) (N := 8) (j := 5) rfl fx_X3_30 (tk_get c_96 (by decide)) (tk_len c_101 (by decide)) rfl cD_aI (Or.inr ⟨rfl, rfl⟩) (fun _ => ⟨rfl, rfl⟩) dX3_init_41 rfl ?_
  refine to_aload_n (q := 45) rfl (by decide) dX3_init_44 rfl ?_
  refine to_bipush (q := 47) (v := (16 : Int32)) (by decide) dX3_init_45 rfl ?_
  refine tc_newa (q := 49) (ty := .int) (n := 102) (n1 := 103) c_102 rfl (by decide) (by decide) (by decide) ac_int dX3_init_47 rfl ?_
  refine to_putR (q := 52) (ty := .array .int) (k0 := 3) (C := RX3) (T := TX3) (N := 8) (j := 6) rfl fx_X3_33 (tk_get c_96 (by decide)) (tk_len c_102 (by decide)) rfl cD_aI (Or.inr ⟨rfl, rfl⟩) (fun _ => ⟨rfl, rfl⟩) dX3_init_49 rfl ?_
  refine to_iconst (q := 53) (v := (0 : Int32)) (by decide) dX3_init_52 rfl ?_
  refine to_istore_n (q := 54) [(1, .int (0 : Int32)), (0, .ref 96)] rfl (by decide) dX3_init_53 rfl ?_
  refine to_iload_n (q := 55) rfl dX3_init_54 rfl ?_
  refine to_aload_n (q := 56) rfl (by decide) dX3_init_55 rfl ?_
  refine to_getR (q := 59) (b := 97) (k0 := 3) (C := RX3) (T := TX3) (N := 8) (j := 0) rfl fx_X3_11 (tk_get c_96 (by decide)) rfl rfl dX3_init_56 rfl ?_
  refine to_alen (q := 60) (v := (4 : Int32)) (tk_get c_97 (by decide)) (by decide) (by decide) dX3_init_59 rfl ?_
  refine to_icF (q := 63) (op := .ge) 95 (show ¬ (4 : Int32) ≤ 0 by decide) dX3_init_60 rfl rfl ?_
  refine to_aload_n (q := 64) rfl (by decide) dX3_init_63 rfl ?_
  refine to_getR (q := 67) (b := 97) (k0 := 3) (C := RX3) (T := TX3) (N := 8) (j := 0) rfl fx_X3_11 (tk_get c_96 (by decide)) rfl rfl dX3_init_64 rfl ?_
  refine to_iload_n (q := 68) rfl dX3_init_67 rfl ?_
  refine tc_new (q := 71) (n := 103) (n1 := 104) (k0 := 7) (C := RX7) (T := TX7) (N := 3) c_103 rfl rfl ⟨cl_X3_9, ins_X7, ini_X7⟩ dX3_init_68 rfl ?_
  refine to_dup (q := 72) rfl dX3_init_71 rfl ?_
  refine to_init (q := 75) (S1 := tk 106) mX7_init [] dX3_init_72 rfl rfl (by decide) (Nat.le_of_ble_eq_true rfl) mo_X7_init ⟨rfl, rfl⟩ (Or.inr (by decide)) im_X7_init (Call_mono (by decide) ((kc_X7 (a := 103) (by decide) c_103 c_104 c_105))) ?_
  refine tc_aast (q := 76) 0 (by decide) (tk_get c_97 (by decide)) (by decide) (by decide) (tk_get c_103 (by decide)) dX3_init_75 rfl ?_
  refine to_aload_n (q := 77) rfl (by decide) dX3_init_76 rfl ?_
  refine to_getR (q := 80) (b := 98) (k0 := 3) (C := RX3) (T := TX3) (N := 8) (j := 1) rfl fx_X3_19 (tk_get c_96 (by decide)) rfl rfl dX3_init_77 rfl ?_
  refine to_iload_n (q := 81) rfl dX3_init_80 rfl ?_
  refine tc_new (q := 84) (n := 106) (n1 := 107) (k0 := 8) (C := RX8) (T := TX8) (N := 5) c_106 rfl rfl ⟨cl_X3_17, ins_X8, ini_X8⟩ dX3_init_81 rfl ?_
  refine to_dup (q := 85) rfl dX3_init_84 rfl ?_
  refine to_init (q := 88) (S1 := tk 108) mX8_init [] dX3_init_85 rfl rfl (by decide) (Nat.le_of_ble_eq_true rfl) mo_X8_init ⟨rfl, rfl⟩ (Or.inr (by decide)) im_X8_init (Call_mono (by decide) ((kc_X8 (a := 106) (by decide) c_106 c_107))) ?_
  refine tc_aast (q := 89) 0 (by decide) (tk_get c_98 (by decide)) (by decide) (by decide) (tk_get c_106 (by decide)) dX3_init_88 rfl ?_
  refine to_iinc (q := 92) (v := (1 : Int32)) rfl (by decide) [(1, .int (1 : Int32)), (0, .ref 96)] rfl (by decide) dX3_init_89 rfl ?_
  refine to_goto (q := 54) dX3_init_92 rfl ?_
  refine to_iload_n (q := 55) rfl dX3_init_54 rfl ?_
  refine to_aload_n (q := 56) rfl (by decide) dX3_init_55 rfl ?_
  refine to_getR (q := 59) (b := 97) (k0 := 3) (C := RX3) (T := TX3) (N := 8) (j := 0) rfl fx_X3_11 (tk_get c_96 (by decide)) rfl rfl dX3_init_56 rfl ?_
  refine to_alen (q := 60) (v := (4 : Int32)) (tk_get c_97 (by decide)) (by decide) (by decide) dX3_init_59 rfl ?_
  refine to_icF (q := 63) (op := .ge) 95 (show ¬ (4 : Int32) ≤ 1 by decide) dX3_init_60 rfl rfl ?_
  refine to_aload_n (q := 64) rfl (by decide) dX3_init_63 rfl ?_
  refine to_getR (q := 67) (b := 97) (k0 := 3) (C := RX3) (T := TX3) (N := 8) (j := 0) rfl fx_X3_11 (tk_get c_96 (by decide)) rfl rfl dX3_init_64 rfl ?_
  refine to_iload_n (q := 68) rfl dX3_init_67 rfl ?_
  refine tc_new (q := 71) (n := 108) (n1 := 109) (k0 := 7) (C := RX7) (T := TX7) (N := 3) c_108 rfl rfl ⟨cl_X3_9, ins_X7, ini_X7⟩ dX3_init_68 rfl ?_
  refine to_dup (q := 72) rfl dX3_init_71 rfl ?_
  refine to_init (q := 75) (S1 := tk 111) mX7_init [] dX3_init_72 rfl rfl (by decide) (Nat.le_of_ble_eq_true rfl) mo_X7_init ⟨rfl, rfl⟩ (Or.inr (by decide)) im_X7_init (Call_mono (by decide) ((kc_X7 (a := 108) (by decide) c_108 c_109 c_110))) ?_
  refine tc_aast (q := 76) 1 (by decide) (tk_get c_97 (by decide)) (by decide) (by decide) (tk_get c_108 (by decide)) dX3_init_75 rfl ?_
  refine to_aload_n (q := 77) rfl (by decide) dX3_init_76 rfl ?_
  refine to_getR (q := 80) (b := 98) (k0 := 3) (C := RX3) (T := TX3) (N := 8) (j := 1) rfl fx_X3_19 (tk_get c_96 (by decide)) rfl rfl dX3_init_77 rfl ?_
  refine to_iload_n (q := 81) rfl dX3_init_80 rfl ?_
  refine tc_new (q := 84) (n := 111) (n1 := 112) (k0 := 8) (C := RX8) (T := TX8) (N := 5) c_111 rfl rfl ⟨cl_X3_17, ins_X8, ini_X8⟩ dX3_init_81 rfl ?_
  refine to_dup (q := 85) rfl dX3_init_84 rfl ?_
  refine to_init (q := 88) (S1 := tk 113) mX8_init [] dX3_init_85 rfl rfl (by decide) (Nat.le_of_ble_eq_true rfl) mo_X8_init ⟨rfl, rfl⟩ (Or.inr (by decide)) im_X8_init (Call_mono (by decide) ((kc_X8 (a := 111) (by decide) c_111 c_112))) ?_
  refine tc_aast (q := 89) 1 (by decide) (tk_get c_98 (by decide)) (by decide) (by decide) (tk_get c_111 (by decide)) dX3_init_88 rfl ?_
  refine to_iinc (q := 92) (v := (2 : Int32)) rfl (by decide) [(1, .int (2 : Int32)), (0, .ref 96)] rfl (by decide) dX3_init_89 rfl ?_
  refine to_goto (q := 54) dX3_init_92 rfl ?_
  refine to_iload_n (q := 55) rfl dX3_init_54 rfl ?_
  refine to_aload_n (q := 56) rfl (by decide) dX3_init_55 rfl ?_
  refine to_getR (q := 59) (b := 97) (k0 := 3) (C := RX3) (T := TX3) (N := 8) (j := 0) rfl fx_X3_11 (tk_get c_96 (by decide)) rfl rfl dX3_init_56 rfl ?_
  refine to_alen (q := 60) (v := (4 : Int32)) (tk_get c_97 (by decide)) (by decide) (by decide) dX3_init_59 rfl ?_
  refine to_icF (q := 63) (op := .ge) 95 (show ¬ (4 : Int32) ≤ 2 by decide) dX3_init_60 rfl rfl ?_
  refine to_aload_n (q := 64) rfl (by decide) dX3_init_63 rfl ?_
  refine to_getR (q := 67) (b := 97) (k0 := 3) (C := RX3) (T := TX3) (N := 8) (j := 0) rfl fx_X3_11 (tk_get c_96 (by decide)) rfl rfl dX3_init_64 rfl ?_
  refine to_iload_n (q := 68) rfl dX3_init_67 rfl ?_
  refine tc_new (q := 71) (n := 113) (n1 := 114) (k0 := 7) (C := RX7) (T := TX7) (N := 3) c_113 rfl rfl ⟨cl_X3_9, ins_X7, ini_X7⟩ dX3_init_68 rfl ?_
  refine to_dup (q := 72) rfl dX3_init_71 rfl ?_
  refine to_init (q := 75) (S1 := tk 116) mX7_init [] dX3_init_72 rfl rfl (by decide) (Nat.le_of_ble_eq_true rfl) mo_X7_init ⟨rfl, rfl⟩ (Or.inr (by decide)) im_X7_init (Call_mono (by decide) ((kc_X7 (a := 113) (by decide) c_113 c_114 c_115))) ?_
  refine tc_aast (q := 76) 2 (by decide) (tk_get c_97 (by decide)) (by decide) (by decide) (tk_get c_113 (by decide)) dX3_init_75 rfl ?_
  refine to_aload_n (q := 77) rfl (by decide) dX3_init_76 rfl ?_
  refine to_getR (q := 80) (b := 98) (k0 := 3) (C := RX3) (T := TX3) (N := 8) (j := 1) rfl fx_X3_19 (tk_get c_96 (by decide)) rfl rfl dX3_init_77 rfl ?_
  refine to_iload_n (q := 81) rfl dX3_init_80 rfl ?_
  refine tc_new (q := 84) (n := 116) (n1 := 117) (k0 := 8) (C := RX8) (T := TX8) (N := 5) c_116 rfl rfl ⟨cl_X3_17, ins_X8, ini_X8⟩ dX3_init_81 rfl ?_
  refine to_dup (q := 85) rfl dX3_init_84 rfl ?_
  refine to_init (q := 88) (S1 := tk 118) mX8_init [] dX3_init_85 rfl rfl (by decide) (Nat.le_of_ble_eq_true rfl) mo_X8_init ⟨rfl, rfl⟩ (Or.inr (by decide)) im_X8_init (Call_mono (by decide) ((kc_X8 (a := 116) (by decide) c_116 c_117))) ?_
  refine tc_aast (q := 89) 2 (by decide) (tk_get c_98 (by decide)) (by decide) (by decide) (tk_get c_116 (by decide)) dX3_init_88 rfl ?_
  refine to_iinc (q := 92) (v := (3 : Int32)) rfl (by decide) [(1, .int (3 : Int32)), (0, .ref 96)] rfl (by decide) dX3_init_89 rfl ?_
  refine to_goto (q := 54) dX3_init_92 rfl ?_
  refine to_iload_n (q := 55) rfl dX3_init_54 rfl ?_
  refine to_aload_n (q := 56) rfl (by decide) dX3_init_55 rfl ?_
  refine to_getR (q := 59) (b := 97) (k0 := 3) (C := RX3) (T := TX3) (N := 8) (j := 0) rfl fx_X3_11 (tk_get c_96 (by decide)) rfl rfl dX3_init_56 rfl ?_
  refine to_alen (q := 60) (v := (4 : Int32)) (tk_get c_97 (by decide)) (by decide) (by decide) dX3_init_59 rfl ?_
  refine to_icF (q := 63) (op := .ge) 95 (show ¬ (4 : Int32) ≤ 3 by decide) dX3_init_60 rfl rfl ?_
  refine to_aload_n (q := 64) rfl (by decide) dX3_init_63 rfl ?_
  refine to_getR (q := 67) (b := 97) (k0 := 3) (C := RX3) (T := TX3) (N := 8) (j := 0) rfl fx_X3_11 (tk_get c_96 (by decide)) rfl rfl dX3_init_64 rfl ?_
  refine to_iload_n (q := 68) rfl dX3_init_67 rfl ?_
  refine tc_new (q := 71) (n := 118) (n1 := 119) (k0 := 7) (C := RX7) (T := TX7) (N := 3) c_118 rfl rfl ⟨cl_X3_9, ins_X7, ini_X7⟩ dX3_init_68 rfl ?_
  refine to_dup (q := 72) rfl dX3_init_71 rfl ?_
  refine to_init (q := 75) (S1 := tk 121) mX7_init [] dX3_init_72 rfl rfl (by decide) (Nat.le_of_ble_eq_true rfl) mo_X7_init ⟨rfl, rfl⟩ (Or.inr (by decide)) im_X7_init (Call_mono (by decide) ((kc_X7 (a := 118) (by decide) c_118 c_119 c_120))) ?_
  refine tc_aast (q := 76) 3 (by decide) (tk_get c_97 (by decide)) (by decide) (by decide) (tk_get c_118 (by decide)) dX3_init_75 rfl ?_
  refine to_aload_n (q := 77) rfl (by decide) dX3_init_76 rfl ?_
  refine to_getR (q := 80) (b := 98) (k0 := 3) (C := RX3) (T := TX3) (N := 8) (j := 1) rfl fx_X3_19 (tk_get c_96 (by decide)) rfl rfl dX3_init_77 rfl ?_
  refine to_iload_n (q := 81) rfl dX3_init_80 rfl ?_
  refine tc_new (q := 84) (n := 121) (n1 := 122) (k0 := 8) (C := RX8) (T := TX8) (N := 5) c_121 rfl rfl ⟨cl_X3_17, ins_X8, ini_X8⟩ dX3_init_81 rfl ?_
  refine to_dup (q := 85) rfl dX3_init_84 rfl ?_
  refine to_init (q := 88) (S1 := tk 123) mX8_init [] dX3_init_85 rfl rfl (by decide) (Nat.le_of_ble_eq_true rfl) mo_X8_init ⟨rfl, rfl⟩ (Or.inr (by decide)) im_X8_init (Call_mono (by decide) ((kc_X8 (a := 121) (by decide) c_121 c_122))) ?_
  refine tc_aast (q := 89) 3 (by decide) (tk_get c_98 (by decide)) (by decide) (by decide) (tk_get c_121 (by decide)) dX3_init_88 rfl ?_
  refine to_iinc (q := 92) (v := (4 : Int32)) rfl (by decide) [(1, .int (4 : Int32)), (0, .ref 96)] rfl (by decide) dX3_init_89 rfl ?_
  refine to_goto (q := 54) dX3_init_92 rfl ?_
  refine to_iload_n (q := 55) rfl dX3_init_54 rfl ?_
  refine to_aload_n (q := 56) rfl (by decide) dX3_init_55 rfl ?_
  refine to_getR (q := 59) (b := 97) (k0 := 3) (C := RX3) (T := TX3) (N := 8) (j := 0) rfl fx_X3_11 (tk_get c_96 (by decide)) rfl rfl dX3_init_56 rfl ?_
  refine to_alen (q := 60) (v := (4 : Int32)) (tk_get c_97 (by decide)) (by decide) (by decide) dX3_init_59 rfl ?_
  refine to_icT (q := 95) (op := .ge) (show (4 : Int32) ≤ 4 by decide) dX3_init_60 rfl ?_
  exact to_vret dX3_init_95 rfl rfl rfl trivial
def MX10_0 (m : Me) : Me := (setR (MX5 136 (zer (setR (MX5 134 (zer (setR (MX5 132 (zer (setR (zer (setR (MX1_127 (zer (setR (MX4_123 (zer (setR (MX3_96 (zer (setR (MX9_94 (zer (setR (MX7 91 (zer (setR (MX7 88 (zer (setR (MX0_84 (zer (setR (zer (setR (MX5 81 (zer (setR (MX2_42 (zer (setR (setR (MX6_1 (zer m 1)) 0 0 (some 1)) 0 1 (some 2)) 42)) 0 3 (some 42)) 81)) 0 5 (some 81)) 83) 0 6 (some 83)) 84)) 0 8 (some 84)) 88)) 0 9 (some 88)) 91)) 0 10 (some 91)) 94)) 0 11 (some 94)) 96)) 0 12 (some 96)) 123)) 0 13 (some 123)) 127)) 0 14 (some 127)) 131) 0 15 (some 131)) 132)) 83 0 (some 132)) 134)) 83 1 (some 134)) 136)) 83 2 (some 136))
set_option maxRecDepth 20000 in
theorem kc_X10_0 (m : Me) : Call 4 mX10_init [.ref 0] (tk 1, m) none (tk 138, MX10_0 m) := by
  refine (call_of (P := fun _ => True) (Nat.le_of_ble_eq_true rfl) (by simp [Value.category]) ?_).1
  show TT _ (Call 3) mX10_init (0, [(0, .ref 0)], [], tk 1, m) _ _
  refine to_aload_n (q := 1) rfl (by decide) dX10_init_0 rfl ?_
  refine to_obj (q := 4) dX10_init_1 rfl (by decide) (Nat.le_of_ble_eq_true rfl) ⟨ml_X10_3, im_obj, cd_obj⟩ ?_
  refine to_aload_n (q := 5) rfl (by decide) dX10_init_4 rfl ?_
  refine tc_new (q := 8) (n := 1) (n1 := 2) (k0 := 6) (C := RX6) (T := TX6) (N := 10) c_1 rfl rfl ⟨cl_X10_9, ins_X6, ini_X6⟩ dX10_init_5 rfl ?_
  refine to_dup (q := 9) rfl dX10_init_8 rfl ?_
  refine to_init (q := 12) (S1 := tk 42) mX6_init [] dX10_init_9 rfl rfl (by decide) (Nat.le_of_ble_eq_true rfl) mo_X6_init ⟨rfl, rfl⟩ (Or.inr (by decide)) im_X6_init (Call_mono (by decide) (kc_X6_1 _)) ?_
  refine to_putR (q := 15) (ty := .object "FanParts$Reader") (k0 := 10) (C := RX10) (T := TX10) (N := 17) (j := 0) rfl fx_X10_12 (tk_get c_0 (by decide)) (tk_len c_1 (by decide)) rfl cD_oX6 (Or.inr ⟨rfl, rfl⟩) (fun _ => ⟨rfl, rfl⟩) dX10_init_12 rfl ?_
  refine to_aload_n (q := 16) rfl (by decide) dX10_init_15 rfl ?_
  refine to_aload_n (q := 17) rfl (by decide) dX10_init_16 rfl ?_
  refine to_getR (q := 20) (b := 1) (k0 := 10) (C := RX10) (T := TX10) (N := 17) (j := 0) rfl fx_X10_12 (tk_get c_0 (by decide)) rfl rfl dX10_init_17 rfl ?_
  refine to_getR (q := 23) (b := 2) (k0 := 6) (C := RX6) (T := TX6) (N := 10) (j := 0) rfl fx_X10_16 (tk_get c_1 (by decide)) rfl rfl dX10_init_20 rfl ?_
  refine to_putR (q := 26) (ty := .array .byte) (k0 := 10) (C := RX10) (T := TX10) (N := 17) (j := 1) rfl fx_X10_20 (tk_get c_0 (by decide)) (tk_len c_2 (by decide)) rfl cD_aB (Or.inr ⟨rfl, rfl⟩) (fun _ => ⟨rfl, rfl⟩) dX10_init_23 rfl ?_
  refine to_aload_n (q := 27) rfl (by decide) dX10_init_26 rfl ?_
  refine tc_new (q := 30) (n := 42) (n1 := 43) (k0 := 2) (C := RX2) (T := TX2) (N := 14) c_42 rfl rfl ⟨cl_X10_23, ins_X2, ini_X2⟩ dX10_init_27 rfl ?_
  refine to_dup (q := 31) rfl dX10_init_30 rfl ?_
  refine to_init (q := 34) (S1 := tk 81) mX2_init [] dX10_init_31 rfl rfl (by decide) (Nat.le_of_ble_eq_true rfl) mo_X2_init ⟨rfl, rfl⟩ (Or.inl ml_X10_25) im_X2_init (Call_mono (by decide) (kc_X2_42 _)) ?_
  refine to_putR (q := 37) (ty := .object "FanParts$Fan") (k0 := 10) (C := RX10) (T := TX10) (N := 17) (j := 3) rfl fx_X10_26 (tk_get c_0 (by decide)) (tk_len c_42 (by decide)) rfl cD_oX2 (Or.inl rfl) (fun _ => ⟨rfl, rfl⟩) dX10_init_34 rfl ?_
  refine to_aload_n (q := 38) rfl (by decide) dX10_init_37 rfl ?_
  refine tc_new (q := 41) (n := 81) (n1 := 82) (k0 := 5) (C := RX5) (T := TX5) (N := 3) c_81 rfl rfl ⟨cl_X10_30, ins_X5, ini_X5⟩ dX10_init_38 rfl ?_
  refine to_dup (q := 42) rfl dX10_init_41 rfl ?_
  refine to_init (q := 45) (S1 := tk 83) mX5_init [] dX10_init_42 rfl rfl (by decide) (Nat.le_of_ble_eq_true rfl) mo_X5_init ⟨rfl, rfl⟩ (Or.inr (by decide)) im_X5_init (Call_mono (by decide) ((kc_X5 (a := 81) (by decide) c_81 c_82))) ?_
  refine to_putR (q := 48) (ty := .object "FanParts$Painting") (k0 := 10) (C := RX10) (T := TX10) (N := 17) (j := 5) rfl fx_X10_33 (tk_get c_0 (by decide)) (tk_len c_81 (by decide)) rfl cD_oX5 (Or.inr ⟨rfl, rfl⟩) (fun _ => ⟨rfl, rfl⟩) dX10_init_45 rfl ?_
  refine to_aload_n (q := 49) rfl (by decide) dX10_init_48 rfl ?_
  refine to_iconst (q := 50) (v := (3 : Int32)) (by decide) dX10_init_49 rfl ?_
  refine tc_anew (q := 53) (n := 83) (n1 := 84) c_83 rfl (by decide) (by decide) (by decide) rfl cl_X10_30 dX10_init_50 rfl ?_
  refine to_putR (q := 56) (ty := .array (.object "FanParts$Painting")) (k0 := 10) (C := RX10) (T := TX10) (N := 17) (j := 6) rfl fx_X10_37 (tk_get c_0 (by decide)) (tk_len c_83 (by decide)) rfl cD_aX5 (Or.inr ⟨rfl, rfl⟩) (fun _ => ⟨rfl, rfl⟩) dX10_init_53 rfl ?_
  refine to_aload_n (q := 57) rfl (by decide) dX10_init_56 rfl ?_
  refine tc_new (q := 60) (n := 84) (n1 := 85) (k0 := 0) (C := RX0) (T := TX0) (N := 4) c_84 rfl rfl ⟨cl_X10_41, ins_X0, ini_X0⟩ dX10_init_57 rfl ?_
  refine to_dup (q := 61) rfl dX10_init_60 rfl ?_
  refine to_init (q := 64) (S1 := tk 88) mX0_init [] dX10_init_61 rfl rfl (by decide) (Nat.le_of_ble_eq_true rfl) mo_X0_init ⟨rfl, rfl⟩ (Or.inr (by decide)) im_X0_init (Call_mono (by decide) (kc_X0_84 _)) ?_
  refine to_putR (q := 67) (ty := .object "FanParts$Acts") (k0 := 10) (C := RX10) (T := TX10) (N := 17) (j := 8) rfl fx_X10_44 (tk_get c_0 (by decide)) (tk_len c_84 (by decide)) rfl cD_oX0 (Or.inr ⟨rfl, rfl⟩) (fun _ => ⟨rfl, rfl⟩) dX10_init_64 rfl ?_
  refine to_aload_n (q := 68) rfl (by decide) dX10_init_67 rfl ?_
  refine tc_new (q := 71) (n := 88) (n1 := 89) (k0 := 7) (C := RX7) (T := TX7) (N := 3) c_88 rfl rfl ⟨cl_X10_48, ins_X7, ini_X7⟩ dX10_init_68 rfl ?_
  refine to_dup (q := 72) rfl dX10_init_71 rfl ?_
  refine to_init (q := 75) (S1 := tk 91) mX7_init [] dX10_init_72 rfl rfl (by decide) (Nat.le_of_ble_eq_true rfl) mo_X7_init ⟨rfl, rfl⟩ (Or.inr (by decide)) im_X7_init (Call_mono (by decide) ((kc_X7 (a := 88) (by decide) c_88 c_89 c_90))) ?_
  refine to_putR (q := 78) (ty := .object "FanParts$Row") (k0 := 10) (C := RX10) (T := TX10) (N := 17) (j := 9) rfl fx_X10_51 (tk_get c_0 (by decide)) (tk_len c_88 (by decide)) rfl cD_oX7 (Or.inr ⟨rfl, rfl⟩) (fun _ => ⟨rfl, rfl⟩) dX10_init_75 rfl ?_
  refine to_aload_n (q := 79) rfl (by decide) dX10_init_78 rfl ?_
  refine tc_new (q := 82) (n := 91) (n1 := 92) (k0 := 7) (C := RX7) (T := TX7) (N := 3) c_91 rfl rfl ⟨cl_X10_48, ins_X7, ini_X7⟩ dX10_init_79 rfl ?_
  refine to_dup (q := 83) rfl dX10_init_82 rfl ?_
  refine to_init (q := 86) (S1 := tk 94) mX7_init [] dX10_init_83 rfl rfl (by decide) (Nat.le_of_ble_eq_true rfl) mo_X7_init ⟨rfl, rfl⟩ (Or.inr (by decide)) im_X7_init (Call_mono (by decide) ((kc_X7 (a := 91) (by decide) c_91 c_92 c_93))) ?_
  refine to_putR (q := 89) (ty := .object "FanParts$Row") (k0 := 10) (C := RX10) (T := TX10) (N := 17) (j := 10) rfl fx_X10_55 (tk_get c_0 (by decide)) (tk_len c_91 (by decide)) rfl cD_oX7 (Or.inr ⟨rfl, rfl⟩) (fun _ => ⟨rfl, rfl⟩) dX10_init_86 rfl ?_
  refine to_aload_n (q := 90) rfl (by decide) dX10_init_89 rfl ?_
  refine tc_new (q := 93) (n := 94) (n1 := 95) (k0 := 9) (C := RX9) (T := TX9) (N := 2) c_94 rfl rfl ⟨cl_X10_58, ins_X9, ini_X9⟩ dX10_init_90 rfl ?_
  refine to_dup (q := 94) rfl dX10_init_93 rfl ?_
  refine to_init (q := 97) (S1 := tk 96) mX9_init [] dX10_init_94 rfl rfl (by decide) (Nat.le_of_ble_eq_true rfl) mo_X9_init ⟨rfl, rfl⟩ (Or.inr (by decide)) im_X9_init (Call_mono (by decide) (kc_X9_94 _)) ?_
  refine to_putR (q := 100) (ty := .object "FanParts$Sight") (k0 := 10) (C := RX10) (T := TX10) (N := 17) (j := 11) rfl fx_X10_61 (tk_get c_0 (by decide)) (tk_len c_94 (by decide)) rfl cD_oX9 (Or.inr ⟨rfl, rfl⟩) (fun _ => ⟨rfl, rfl⟩) dX10_init_97 rfl ?_
  refine to_aload_n (q := 101) rfl (by decide) dX10_init_100 rfl ?_
  refine tc_new (q := 104) (n := 96) (n1 := 97) (k0 := 3) (C := RX3) (T := TX3) (N := 8) c_96 rfl rfl ⟨cl_X10_65, ins_X3, ini_X3⟩ dX10_init_101 rfl ?_
  refine to_dup (q := 105) rfl dX10_init_104 rfl ?_
  refine to_init (q := 108) (S1 := tk 123) mX3_init [] dX10_init_105 rfl rfl (by decide) (Nat.le_of_ble_eq_true rfl) mo_X3_init ⟨rfl, rfl⟩ (Or.inl ml_X10_67) im_X3_init (Call_mono (by decide) (kc_X3_96 _)) ?_
  refine to_putR (q := 111) (ty := .object "FanParts$Mender") (k0 := 10) (C := RX10) (T := TX10) (N := 17) (j := 12) rfl fx_X10_68 (tk_get c_0 (by decide)) (tk_len c_96 (by decide)) rfl cD_oX3 (Or.inr ⟨rfl, rfl⟩) (fun _ => ⟨rfl, rfl⟩) dX10_init_108 rfl ?_
  refine to_aload_n (q := 112) rfl (by decide) dX10_init_111 rfl ?_
  refine tc_new (q := 115) (n := 123) (n1 := 124) (k0 := 4) (C := RX4) (T := TX4) (N := 5) c_123 rfl rfl ⟨cl_X10_72, ins_X4, ini_X4⟩ dX10_init_112 rfl ?_
  refine to_dup (q := 116) rfl dX10_init_115 rfl ?_
  refine to_init (q := 119) (S1 := tk 127) mX4_init [] dX10_init_116 rfl rfl (by decide) (Nat.le_of_ble_eq_true rfl) mo_X4_init ⟨rfl, rfl⟩ (Or.inr (by decide)) im_X4_init (Call_mono (by decide) (kc_X4_123 _)) ?_
  refine to_putR (q := 122) (ty := .object "FanParts$Packer") (k0 := 10) (C := RX10) (T := TX10) (N := 17) (j := 13) rfl fx_X10_75 (tk_get c_0 (by decide)) (tk_len c_123 (by decide)) rfl cD_oX4 (Or.inr ⟨rfl, rfl⟩) (fun _ => ⟨rfl, rfl⟩) dX10_init_119 rfl ?_
  refine to_aload_n (q := 123) rfl (by decide) dX10_init_122 rfl ?_
  refine tc_new (q := 126) (n := 127) (n1 := 128) (k0 := 1) (C := RX1) (T := TX1) (N := 5) c_127 rfl rfl ⟨cl_X10_79, ins_X1, ini_X1⟩ dX10_init_123 rfl ?_
  refine to_dup (q := 127) rfl dX10_init_126 rfl ?_
  refine to_init (q := 130) (S1 := tk 131) mX1_init [] dX10_init_127 rfl rfl (by decide) (Nat.le_of_ble_eq_true rfl) mo_X1_init ⟨rfl, rfl⟩ (Or.inr (by decide)) im_X1_init (Call_mono (by decide) (kc_X1_127 _)) ?_
  refine to_putR (q := 133) (ty := .object "FanParts$Calmer") (k0 := 10) (C := RX10) (T := TX10) (N := 17) (j := 14) rfl fx_X10_82 (tk_get c_0 (by decide)) (tk_len c_127 (by decide)) rfl cD_oX1 (Or.inr ⟨rfl, rfl⟩) (fun _ => ⟨rfl, rfl⟩) dX10_init_130 rfl ?_
  refine to_aload_n (q := 134) rfl (by decide) dX10_init_133 rfl ?_
  refine to_sipush (q := 137) (v := (336 : Int32)) (by decide) dX10_init_134 rfl ?_
  refine tc_newa (q := 139) (ty := .int) (n := 131) (n1 := 132) c_131 rfl (by decide) (by decide) (by decide) ac_int dX10_init_137 rfl ?_
  refine to_putR (q := 142) (ty := .array .int) (k0 := 10) (C := RX10) (T := TX10) (N := 17) (j := 15) rfl fx_X10_86 (tk_get c_0 (by decide)) (tk_len c_131 (by decide)) rfl cD_aI (Or.inr ⟨rfl, rfl⟩) (fun _ => ⟨rfl, rfl⟩) dX10_init_139 rfl ?_
  refine to_iconst (q := 143) (v := (0 : Int32)) (by decide) dX10_init_142 rfl ?_
  refine to_istore_n (q := 144) [(1, .int (0 : Int32)), (0, .ref 0)] rfl (by decide) dX10_init_143 rfl ?_
  refine to_iload_n (q := 145) rfl dX10_init_144 rfl ?_
  refine to_aload_n (q := 146) rfl (by decide) dX10_init_145 rfl ?_
  refine to_getR (q := 149) (b := 83) (k0 := 10) (C := RX10) (T := TX10) (N := 17) (j := 6) rfl fx_X10_37 (tk_get c_0 (by decide)) rfl rfl dX10_init_146 rfl ?_
  refine to_alen (q := 150) (v := (3 : Int32)) (tk_get c_83 (by decide)) (by decide) (by decide) dX10_init_149 rfl ?_
  refine to_icF (q := 153) (op := .ge) 172 (show ¬ (3 : Int32) ≤ 0 by decide) dX10_init_150 rfl rfl ?_
  refine to_aload_n (q := 154) rfl (by decide) dX10_init_153 rfl ?_
  refine to_getR (q := 157) (b := 83) (k0 := 10) (C := RX10) (T := TX10) (N := 17) (j := 6) rfl fx_X10_37 (tk_get c_0 (by decide)) rfl rfl dX10_init_154 rfl ?_
  refine to_iload_n (q := 158) rfl dX10_init_157 rfl ?_
  refine tc_new (q := 161) (n := 132) (n1 := 133) (k0 := 5) (C := RX5) (T := TX5) (N := 3) c_132 rfl rfl ⟨cl_X10_30, ins_X5, ini_X5⟩ dX10_init_158 rfl ?_
  refine to_dup (q := 162) rfl dX10_init_161 rfl ?_
  refine to_init (q := 165) (S1 := tk 134) mX5_init [] dX10_init_162 rfl rfl (by decide) (Nat.le_of_ble_eq_true rfl) mo_X5_init ⟨rfl, rfl⟩ (Or.inr (by decide)) im_X5_init (Call_mono (by decide) ((kc_X5 (a := 132) (by decide) c_132 c_133))) ?_
  refine tc_aast (q := 166) 0 (by decide) (tk_get c_83 (by decide)) (by decide) (by decide) (tk_get c_132 (by decide)) dX10_init_165 rfl ?_
  refine to_iinc (q := 169) (v := (1 : Int32)) rfl (by decide) [(1, .int (1 : Int32)), (0, .ref 0)] rfl (by decide) dX10_init_166 rfl ?_
  refine to_goto (q := 144) dX10_init_169 rfl ?_
  refine to_iload_n (q := 145) rfl dX10_init_144 rfl ?_
  refine to_aload_n (q := 146) rfl (by decide) dX10_init_145 rfl ?_
  refine to_getR (q := 149) (b := 83) (k0 := 10) (C := RX10) (T := TX10) (N := 17) (j := 6) rfl fx_X10_37 (tk_get c_0 (by decide)) rfl rfl dX10_init_146 rfl ?_
  refine to_alen (q := 150) (v := (3 : Int32)) (tk_get c_83 (by decide)) (by decide) (by decide) dX10_init_149 rfl ?_
  refine to_icF (q := 153) (op := .ge) 172 (show ¬ (3 : Int32) ≤ 1 by decide) dX10_init_150 rfl rfl ?_
  refine to_aload_n (q := 154) rfl (by decide) dX10_init_153 rfl ?_
  refine to_getR (q := 157) (b := 83) (k0 := 10) (C := RX10) (T := TX10) (N := 17) (j := 6) rfl fx_X10_37 (tk_get c_0 (by decide)) rfl rfl dX10_init_154 rfl ?_
  refine to_iload_n (q := 158) rfl dX10_init_157 rfl ?_
  refine tc_new (q := 161) (n := 134) (n1 := 135) (k0 := 5) (C := RX5) (T := TX5) (N := 3) c_134 rfl rfl ⟨cl_X10_30, ins_X5, ini_X5⟩ dX10_init_158 rfl ?_
  refine to_dup (q := 162) rfl dX10_init_161 rfl ?_
  refine to_init (q := 165) (S1 := tk 136) mX5_init [] dX10_init_162 rfl rfl (by decide) (Nat.le_of_ble_eq_true rfl) mo_X5_init ⟨rfl, rfl⟩ (Or.inr (by decide)) im_X5_init (Call_mono (by decide) ((kc_X5 (a := 134) (by decide) c_134 c_135))) ?_
  refine tc_aast (q := 166) 1 (by decide) (tk_get c_83 (by decide)) (by decide) (by decide) (tk_get c_134 (by decide)) dX10_init_165 rfl ?_
  refine to_iinc (q := 169) (v := (2 : Int32)) rfl (by decide) [(1, .int (2 : Int32)), (0, .ref 0)] rfl (by decide) dX10_init_166 rfl ?_
  refine to_goto (q := 144) dX10_init_169 rfl ?_
  refine to_iload_n (q := 145) rfl dX10_init_144 rfl ?_
  refine to_aload_n (q := 146) rfl (by decide) dX10_init_145 rfl ?_
  refine to_getR (q := 149) (b := 83) (k0 := 10) (C := RX10) (T := TX10) (N := 17) (j := 6) rfl fx_X10_37 (tk_get c_0 (by decide)) rfl rfl dX10_init_146 rfl ?_
  refine to_alen (q := 150) (v := (3 : Int32)) (tk_get c_83 (by decide)) (by decide) (by decide) dX10_init_149 rfl ?_
  refine to_icF (q := 153) (op := .ge) 172 (show ¬ (3 : Int32) ≤ 2 by decide) dX10_init_150 rfl rfl ?_
  refine to_aload_n (q := 154) rfl (by decide) dX10_init_153 rfl ?_
  refine to_getR (q := 157) (b := 83) (k0 := 10) (C := RX10) (T := TX10) (N := 17) (j := 6) rfl fx_X10_37 (tk_get c_0 (by decide)) rfl rfl dX10_init_154 rfl ?_
  refine to_iload_n (q := 158) rfl dX10_init_157 rfl ?_
  refine tc_new (q := 161) (n := 136) (n1 := 137) (k0 := 5) (C := RX5) (T := TX5) (N := 3) c_136 rfl rfl ⟨cl_X10_30, ins_X5, ini_X5⟩ dX10_init_158 rfl ?_
  refine to_dup (q := 162) rfl dX10_init_161 rfl ?_
  refine to_init (q := 165) (S1 := tk 138) mX5_init [] dX10_init_162 rfl rfl (by decide) (Nat.le_of_ble_eq_true rfl) mo_X5_init ⟨rfl, rfl⟩ (Or.inr (by decide)) im_X5_init (Call_mono (by decide) ((kc_X5 (a := 136) (by decide) c_136 c_137))) ?_
  refine tc_aast (q := 166) 2 (by decide) (tk_get c_83 (by decide)) (by decide) (by decide) (tk_get c_136 (by decide)) dX10_init_165 rfl ?_
  refine to_iinc (q := 169) (v := (3 : Int32)) rfl (by decide) [(1, .int (3 : Int32)), (0, .ref 0)] rfl (by decide) dX10_init_166 rfl ?_
  refine to_goto (q := 144) dX10_init_169 rfl ?_
  refine to_iload_n (q := 145) rfl dX10_init_144 rfl ?_
  refine to_aload_n (q := 146) rfl (by decide) dX10_init_145 rfl ?_
  refine to_getR (q := 149) (b := 83) (k0 := 10) (C := RX10) (T := TX10) (N := 17) (j := 6) rfl fx_X10_37 (tk_get c_0 (by decide)) rfl rfl dX10_init_146 rfl ?_
  refine to_alen (q := 150) (v := (3 : Int32)) (tk_get c_83 (by decide)) (by decide) (by decide) dX10_init_149 rfl ?_
  refine to_icT (q := 172) (op := .ge) (show (3 : Int32) ≤ 3 by decide) dX10_init_150 rfl ?_
  exact to_vret dX10_init_172 rfl rfl rfl trivial
