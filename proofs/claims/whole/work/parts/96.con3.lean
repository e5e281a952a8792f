def MX6_2 (m : Me) : Me := (setR (setI (setR (MX2_3 (zer m 3)) 2 2 (some 3)) 2 9 (-1)) 2 0 (some 1))
set_option maxRecDepth 20000 in
theorem kc_X6_2 (m : Me) : Call 3 mX6_init [.ref 2, .ref 1] (tk 3, m) none (tk 42, MX6_2 m) := by
  refine (call_of (P := fun _ => True) (Nat.le_of_ble_eq_true rfl) (by simp [Value.category]) ?_).1
  show TT _ (Call 2) mX6_init (0, [(0, .ref 2), (1, .ref 1)], [], tk 3, m) _ _
  refine to_aload_n (q := 1) rfl (by decide) dX6_init_0 rfl ?_
  refine to_obj (q := 4) dX6_init_1 rfl (by decide) (Nat.le_of_ble_eq_true rfl) ⟨ml_X6_3, im_obj, cd_obj⟩ ?_
  refine to_aload_n (q := 5) rfl (by decide) dX6_init_4 rfl ?_
  refine tc_new (q := 8) (n := 3) (n1 := 4) (k0 := 2) (C := RX2) (T := TX2) (N := 14) c_3 rfl rfl ⟨cl_X6_9, ins_X2, ini_X2⟩ dX6_init_5 rfl ?_
  refine to_dup (q := 9) rfl dX6_init_8 rfl ?_
  refine to_init (q := 12) (S1 := tk 42) mX2_init [] dX6_init_9 rfl rfl (by decide) (Nat.le_of_ble_eq_true rfl) mo_X2_init ⟨rfl, rfl⟩ (Or.inl ml_X6_11) im_X2_init (Call_mono (by decide) (kc_X2_3 _)) ?_
  refine to_putR (q := 15) (ty := .object "FanParts$Fan") (k0 := 6) (C := RX6) (T := TX6) (N := 10) (j := 2) rfl fx_X6_12 (tk_get c_2 (by decide)) (tk_len c_3 (by decide)) rfl cD_oX2 (Or.inl rfl) (fun _ => ⟨rfl, rfl⟩) dX6_init_12 rfl ?_
  refine to_aload_n (q := 16) rfl (by decide) dX6_init_15 rfl ?_
  refine to_iconst (q := 17) (v := (-1 : Int32)) (by decide) dX6_init_16 rfl ?_
  refine to_putI (q := 20) (ty := .int) (k0 := 6) (C := RX6) (T := TX6) (N := 10) (j := 9) rfl fx_X6_18 (tk_get c_2 (by decide)) rfl cD_I (Or.inl rfl) (nf_I _) dX6_init_17 rfl ?_
  refine to_aload_n (q := 21) rfl (by decide) dX6_init_20 rfl ?_
  refine to_aload_n (q := 22) rfl (by decide) dX6_init_21 rfl ?_
  refine to_putR (q := 25) (ty := .array .byte) (k0 := 6) (C := RX6) (T := TX6) (N := 10) (j := 0) rfl fx_X6_22 (tk_get c_2 (by decide)) (tk_len c_1 (by decide)) rfl cD_aB (Or.inr ⟨rfl, rfl⟩) (fun _ => ⟨rfl, rfl⟩) dX6_init_22 rfl ?_
  exact to_vret dX6_init_25 rfl rfl rfl trivial
def MX3_96 (m : Me) : Me := (setR (MX8 121 (zer (setR (MX7 118 (zer (setR (MX8 116 (zer (setR (MX7 113 (zer (setR (MX8 111 (zer (setR (MX7 108 (zer (setR (MX8 106 (zer (setR (MX7 103 (zer (setR (zer (setR (zer (setR (zer (setR (zer (setR (zer (setR (zer m 97) 96 0 (some 97)) 98) 96 1 (some 98)) 99) 96 3 (some 99)) 100) 96 4 (some 100)) 101) 96 5 (some 101)) 102) 96 6 (some 102)) 103)) 97 0 (some 103)) 106)) 98 0 (some 106)) 108)) 97 1 (some 108)) 111)) 98 1 (some 111)) 113)) 97 2 (some 113)) 116)) 98 2 (some 116)) 118)) 97 3 (some 118)) 121)) 98 3 (some 121))
set_option maxRecDepth 20000 in
theorem kc_X3_96 (m : Me) : Call 2 mX3_init [.ref 96] (tk 97, m) none (tk 123, MX3_96 m) := by
  refine (call_of (P := fun _ => True) (Nat.le_of_ble_eq_true rfl) (by simp [Value.category]) ?_).1
  show TT _ (Call 1) mX3_init (0, [(0, .ref 96)], [], tk 97, m) _ _
  refine to_aload_n (q := 1) rfl (by decide) dX3_init_0 rfl ?_
  refine to_obj (q := 4) dX3_init_1 rfl (by decide) (Nat.le_of_ble_eq_true rfl) ⟨ml_X3_3, im_obj, cd_obj⟩ ?_
  refine to_aload_n (q := 5) rfl (by decide) dX3_init_4 rfl ?_
  refine to_iconst (q := 6) (v := (4 : Int32)) (by decide) dX3_init_5 rfl ?_
  refine tc_anew (q := 9) (n := 97) (n1 := 98) c_97 rfl (by decide) (by decide) (by decide) rfl cl_X3_9 dX3_init_6 rfl ?_
  refine to_putR (q := 12) (ty := .array (.object "FanParts$Row")) (k0 := 3) (C := RX3) (T := TX3) (N := 8) (j := 0) rfl fx_X3_11 (tk_get c_96 (by decide)) (tk_len c_97 (by decide)) rfl cD_aX7 (Or.inr ⟨rfl, rfl⟩) (fun _ => ⟨rfl, rfl⟩) dX3_init_9 rfl ?_
  refine to_aload_n (q := 13) rfl (by decide) dX3_init_12 rfl ?_
  refine to_iconst (q := 14) (v := (4 : Int32)) (by decide) dX3_init_13 rfl ?_
  refine tc_anew (q := 17) (n := 98) (n1 := 99) c_98 rfl (by decide) (by decide) (by decide) rfl cl_X3_17 dX3_init_14 rfl ?_
  refine to_putR (q := 20) (ty := .array (.object "FanParts$Saying")) (k0 := 3) (C := RX3) (T := TX3) (N := 8) (j := 1) rfl fx_X3_19 (tk_get c_96 (by decide)) (tk_len c_98 (by decide)) rfl cD_aX8 (Or.inr ⟨rfl, rfl⟩) (fun _ => ⟨rfl, rfl⟩) dX3_init_17 rfl ?_
  refine to_aload_n (q := 21) rfl (by decide) dX3_init_20 rfl ?_
  refine to_bipush (q := 23) (v := (30 : Int32)) (by decide) dX3_init_21 rfl ?_
  refine tc_newa (q := 25) (ty := .int) (n := 99) (n1 := 100) c_99 rfl (by decide) (by decide) (by decide) ac_int dX3_init_23 rfl ?_
  refine to_putR (q := 28) (ty := .array .int) (k0 := 3) (C := RX3) (T := TX3) (N := 8) (j := 3) rfl fx_X3_23 (tk_get c_96 (by decide)) (tk_len c_99 (by decide)) rfl cD_aI (Or.inr ⟨rfl, rfl⟩) (fun _ => ⟨rfl, rfl⟩) dX3_init_25 rfl ?_
  refine to_aload_n (q := 29) rfl (by decide) dX3_init_28 rfl ?_
  refine to_bipush (q := 31) (v := (30 : Int32)) (by decide) dX3_init_29 rfl ?_
  refine tc_newa (q := 33) (ty := .int) (n := 100) (n1 := 101) c_100 rfl (by decide) (by decide) (by decide) ac_int dX3_init_31 rfl ?_
  refine to_putR (q := 36) (ty := .array .int) (k0 := 3) (C := RX3) (T := TX3) (N := 8) (j := 4) rfl fx_X3_27 (tk_get c_96 (by decide)) (tk_len c_100 (by decide)) rfl cD_aI (Or.inr ⟨rfl, rfl⟩) (fun _ => ⟨rfl, rfl⟩) dX3_init_33 rfl ?_
  refine to_aload_n (q := 37) rfl (by decide) dX3_init_36 rfl ?_
  refine to_bipush (q := 39) (v := (120 : Int32)) (by decide) dX3_init_37 rfl ?_
  refine tc_newa (q := 41) (ty := .int) (n := 101) (n1 := 102) c_101 rfl (by decide) (by decide) (by decide) ac_int dX3_init_39 rfl ?_
  refine to_putR (q := 44) (ty := .array .int) (k0 := 3) (C := RX3) (T := TX3) (N := 8) (j := 5) rfl fx_X3_30 (tk_get c_96 (by decide)) (tk_len c_101 (by decide)) rfl cD_aI (Or.inr ⟨rfl, rfl⟩) (fun _ => ⟨rfl, rfl⟩) dX3_init_41 rfl ?_
  refine to_aload_n (q := 45) rfl (by decide) dX3_init_44 rfl ?_
  refine to_bipush (q := 47) (v := (16 : Int32)) (by decide) dX3_init_45 rfl ?_
  refine tc_newa (q := 49) (ty := .int) (n := 102) (n1 := 103) c_102 rfl (by decide) (by decide) (by decide) ac_int dX3_init_47 rfl ?_
  refine to_putR (q := 52) (ty := .array .int) (k0 := 3) (C := RX3) (T := TX3) (N := 8) (j := 6) rfl fx_X3_33 (tk_get c_96 (by decide)) (tk_len c_102 (by decide)) rfl cD_aI (Or.inr ⟨rfl, rfl⟩) (fun _ => ⟨rfl, rfl⟩) dX3_init_49 rfl ?_
  refine to_iconst (q := 53) (v := (0 : Int32)) (by decide) dX3_init_52 rfl ?_
  refine to_istore_n (q := 54) [(1, .int (0 : Int32)), (0, .ref 96)] rfl (by decide) dX3_init_53 rfl ?_
  refine to_iload_n (q := 55) rfl dX3_init_54 rfl ?_
  refine to_aload_n (q := 56) rfl (by decide) dX3_init_55 rfl ?_
  refine to_getR (q := 59) (b := 97) (k0 := 3) (C := RX3) (T := TX3) (N := 8) (j := 0) rfl fx_X3_11 (tk_get c_96 (by decide)) rfl rfl dX3_init_56 rfl ?_
  refine to_alen (q := 60) (v := (4 : Int32)) (tk_get c_97 (by decide)) (by decide) (by decide) dX3_init_59 rfl ?_
  refine to_icF (q := 63) (op := .ge) 95 (show ¬ (4 : Int32) ≤ 0 by decide) dX3_init_60 rfl rfl ?_
  refine to_aload_n (q := 64) rfl (by decide) dX3_init_63 rfl ?_
  refine to_getR (q := 67) (b := 97) (k0 := 3) (C := RX3) (T := TX3) (N := 8) (j := 0) rfl fx_X3_11 (tk_get c_96 (by decide)) rfl rfl dX3_init_64 rfl ?_
  refine to_iload_n (q := 68) rfl dX3_init_67 rfl ?_
  refine tc_new (q := 71) (n := 103) (n1 := 104) (k0 := 7) (C := RX7) (T := TX7) (N := 3) c_103 rfl rfl ⟨cl_X3_9, ins_X7, ini_X7⟩ dX3_init_68 rfl ?_
  refine to_dup (q := 72) rfl dX3_init_71 rfl ?_
  refine to_init (q := 75) (S1 := tk 106) mX7_init [] dX3_init_72 rfl rfl (by decide) (Nat.le_of_ble_eq_true rfl) mo_X7_init ⟨rfl, rfl⟩ (Or.inr (by decide)) im_X7_init (Call_mono (by decide) ((kc_X7 (a := 103) (by decide) c_103 c_104 c_105))) ?_
  refine tc_aast (q := 76) 0 (by decide) (tk_get c_97 (by decide)) (by decide) (by decide) (tk_get c_103 (by decide)) dX3_init_75 rfl ?_
  refine to_aload_n (q := 77) rfl (by decide) dX3_init_76 rfl ?_
  refine to_getR (q := 80) (b := 98) (k0 := 3) (C := RX3) (T := TX3) (N := 8) (j := 1) rfl fx_X3_19 (tk_get c_96 (by decide)) rfl rfl dX3_init_77 rfl ?_
  refine to_iload_n (q := 81) rfl dX3_init_80 rfl ?_
  refine tc_new (q := 84) (n := 106) (n1 := 107) (k0 := 8) (C := RX8) (T := TX8) (N := 5) c_106 rfl rfl ⟨cl_X3_17, ins_X8, ini_X8⟩ dX3_init_81 rfl ?_
  refine to_dup (q := 85) rfl dX3_init_84 rfl ?_
  refine to_init (q := 88) (S1 := tk 108) mX8_init [] dX3_init_85 rfl rfl (by decide) (Nat.le_of_ble_eq_true rfl) mo_X8_init ⟨rfl, rfl⟩ (Or.inr (by decide)) im_X8_init (Call_mono (by decide) ((kc_X8 (a := 106) (by decide) c_106 c_107))) ?_
  refine tc_aast (q := 89) 0 (by decide) (tk_get c_98 (by decide)) (by decide) (by decide) (tk_get c_106 (by decide)) dX3_init_88 rfl ?_
  refine to_iinc (q := 92) (v := (1 : Int32)) rfl (by decide) [(1, .int (1 : Int32)), (0, .ref 96)] rfl (by decide) dX3_init_89 rfl ?_
  refine to_goto (q := 54) dX3_init_92 rfl ?_
  refine to_iload_n (q := 55) rfl dX3_init_54 rfl ?_
  refine to_aload_n (q := 56) rfl (by decide) dX3_init_55 rfl ?_
  refine to_getR (q := 59) (b := 97) (k0 := 3) (C := RX3) (T := TX3) (N := 8) (j := 0) rfl fx_X3_11 (tk_get c_96 (by decide)) rfl rfl dX3_init_56 rfl ?_
  refine to_alen (q := 60) (v := (4 : Int32)) (tk_get c_97 (by decide)) (by decide) (by decide) dX3_init_59 rfl ?_
  refine to_icF (q := 63) (op := .ge) 95 (show ¬ (4 : Int32) ≤ 1 by decide) dX3_init_60 rfl rfl ?_
  refine to_aload_n (q := 64) rfl (by decide) dX3_init_63 rfl ?_
  refine to_getR (q := 67) (b := 97) (k0 := 3) (C := RX3) (T := TX3) (N := 8) (j := 0) rfl fx_X3_11 (tk_get c_96 (by decide)) rfl rfl dX3_init_64 rfl ?_
  refine to_iload_n (q := 68) rfl dX3_init_67 rfl ?_
  refine tc_new (q := 71) (n := 108) (n1 := 109) (k0 := 7) (C := RX7) (T := TX7) (N := 3) c_108 rfl rfl ⟨cl_X3_9, ins_X7, ini_X7⟩ dX3_init_68 rfl ?_
  refine to_dup (q := 72) rfl dX3_init_71 rfl ?_
  refine to_init (q := 75) (S1 := tk 111) mX7_init [] dX3_init_72 rfl rfl (by decide) (Nat.le_of_ble_eq_true rfl) mo_X7_init ⟨rfl, rfl⟩ (Or.inr (by decide)) im_X7_init (Call_mono (by decide) ((kc_X7 (a := 108) (by decide) c_108 c_109 c_110))) ?_
  refine tc_aast (q := 76) 1 (by decide) (tk_get c_97 (by decide)) (by decide) (by decide) (tk_get c_108 (by decide)) dX3_init_75 rfl ?_
  refine to_aload_n (q := 77) rfl (by decide) dX3_init_76 rfl ?_
  refine to_getR (q := 80) (b := 98) (k0 := 3) (C := RX3) (T := TX3) (N := 8) (j := 1) rfl fx_X3_19 (tk_get c_96 (by decide)) rfl rfl dX3_init_77 rfl ?_
  refine to_iload_n (q := 81) rfl dX3_init_80 rfl ?_
  refine tc_new (q := 84) (n := 111) (n1 := 112) (k0 := 8) (C := RX8) (T := TX8) (N := 5) c_111 rfl rfl ⟨cl_X3_17, ins_X8, ini_X8⟩ dX3_init_81 rfl ?_
  refine to_dup (q := 85) rfl dX3_init_84 rfl ?_
  refine to_init (q := 88) (S1 := tk 113) mX8_init [] dX3_init_85 rfl rfl (by decide) (Nat.le_of_ble_eq_true rfl) mo_X8_init ⟨rfl, rfl⟩ (Or.inr (by decide)) im_X8_init (Call_mono (by decide) ((kc_X8 (a := 111) (by decide) c_111 c_112))) ?_
  refine tc_aast (q := 89) 1 (by decide) (tk_get c_98 (by decide)) (by decide) (by decide) (tk_get c_111 (by decide)) dX3_init_88 rfl ?_
  refine to_iinc (q := 92) (v := (2 : Int32)) rfl (by decide) [(1, .int (2 : Int32)), (0, .ref 96)] rfl (by decide) dX3_init_89 rfl ?_
  refine to_goto (q := 54) dX3_init_92 rfl ?_
  refine to_iload_n (q := 55) rfl dX3_init_54 rfl ?_
  refine to_aload_n (q := 56) rfl (by decide) dX3_init_55 rfl ?_
  refine to_getR (q := 59) (b := 97) (k0 := 3) (C := RX3) (T := TX3) (N := 8) (j := 0) rfl fx_X3_11 (tk_get c_96 (by decide)) rfl rfl dX3_init_56 rfl ?_
  refine to_alen (q := 60) (v := (4 : Int32)) (tk_get c_97 (by decide)) (by decide) (by decide) dX3_init_59 rfl ?_
  refine to_icF (q := 63) (op := .ge) 95 (show ¬ (4 : Int32) ≤ 2 by decide) dX3_init_60 rfl rfl ?_
  refine to_aload_n (q := 64) rfl (by decide) dX3_init_63 rfl ?_
  refine to_getR (q := 67) (b := 97) (k0 := 3) (C := RX3) (T := TX3) (N := 8) (j := 0) rfl fx_X3_11 (tk_get c_96 (by decide)) rfl rfl dX3_init_64 rfl ?_
  refine to_iload_n (q := 68) rfl dX3_init_67 rfl ?_
  refine tc_new (q := 71) (n := 113) (n1 := 114) (k0 := 7) (C := RX7) (T := TX7) (N := 3) c_113 rfl rfl ⟨cl_X3_9, ins_X7, ini_X7⟩ dX3_init_68 rfl ?_
  refine to_dup (q := 72) rfl dX3_init_71 rfl ?_
  refine to_init (q := 75) (S1 := tk 116) mX7_init [] dX3_init_72 rfl rfl (by decide) (Nat.le_of_ble_eq_true rfl) mo_X7_init ⟨rfl, rfl⟩ (Or.inr (by decide)) im_X7_init (Call_mono (by decide) ((kc_X7 (a := 113) (by decide) c_113 c_114 c_115))) ?_
  refine tc_aast (q := 76) 2 (by decide) (tk_get c_97 (by decide)) (by decide) (by decide) (tk_get c_113 (by decide)) dX3_init_75 rfl ?_
  refine to_aload_n (q := 77) rfl (by decide) dX3_init_76 rfl ?_
  refine to_getR (q := 80) (b := 98) (k0 := 3) (C := RX3) (T := TX3) (N := 8) (j := 1) rfl fx_X3_19 (tk_get c_96 (by decide)) rfl rfl dX3_init_77 rfl ?_
  refine to_iload_n (q := 81) rfl dX3_init_80 rfl ?_
  refine tc_new (q := 84) (n := 116) (n1 := 117) (k0 := 8) (C := RX8) (T := TX8) (N := 5) c_116 rfl rfl ⟨cl_X3_17, ins_X8, ini_X8⟩ dX3_init_81 rfl ?_
  refine to_dup (q := 85) rfl dX3_init_84 rfl ?_
  refine to_init (q := 88) (S1 := tk 118) mX8_init [] dX3_init_85 rfl rfl (by decide) (Nat.le_of_ble_eq_true rfl) mo_X8_init ⟨rfl, rfl⟩ (Or.inr (by decide)) im_X8_init (Call_mono (by decide) ((kc_X8 (a := 116) (by decide) c_116 c_117))) ?_
  refine tc_aast (q := 89) 2 (by decide) (tk_get c_98 (by decide)) (by decide) (by decide) (tk_get c_116 (by decide)) dX3_init_88 rfl ?_
  refine to_iinc (q := 92) (v := (3 : Int32)) rfl (by decide) [(1, .int (3 : Int32)), (0, .ref 96)] rfl (by decide) dX3_init_89 rfl ?_
  refine to_goto (q := 54) dX3_init_92 rfl ?_
  refine to_iload_n (q := 55) rfl dX3_init_54 rfl ?_
  refine to_aload_n (q := 56) rfl (by decide) dX3_init_55 rfl ?_
  refine to_getR (q := 59) (b := 97) (k0 := 3) (C := RX3) (T := TX3) (N := 8) (j := 0) rfl fx_X3_11 (tk_get c_96 (by decide)) rfl rfl dX3_init_56 rfl ?_
  refine to_alen (q := 60) (v := (4 : Int32)) (tk_get c_97 (by decide)) (by decide) (by decide) dX3_init_59 rfl ?_
  refine to_icF (q := 63) (op := .ge) 95 (show ¬ (4 : Int32) ≤ 3 by decide) dX3_init_60 rfl rfl ?_
  refine to_aload_n (q := 64) rfl (by decide) dX3_init_63 rfl ?_
  refine to_getR (q := 67) (b := 97) (k0 := 3) (C := RX3) (T := TX3) (N := 8) (j := 0) rfl fx_X3_11 (tk_get c_96 (by decide)) rfl rfl dX3_init_64 rfl ?_
  refine to_iload_n (q := 68) rfl dX3_init_67 rfl ?_
  refine tc_new (q := 71) (n := 118) (n1 := 119) (k0 := 7) (C := RX7) (T := TX7) (N := 3) c_118 rfl rfl ⟨cl_X3_9, ins_X7, ini_X7⟩ dX3_init_68 rfl ?_
  refine to_dup (q := 72) rfl dX3_init_71 rfl ?_
  refine to_init (q := 75) (S1 := tk 121) mX7_init [] dX3_init_72 rfl rfl (by decide) (Nat.le_of_ble_eq_true rfl) mo_X7_init ⟨rfl, rfl⟩ (Or.inr (by decide)) im_X7_init (Call_mono (by decide) ((kc_X7 (a := 118) (by decide) c_118 c_119 c_120))) ?_
  refine tc_aast (q := 76) 3 (by decide) (tk_get c_97 (by decide)) (by decide) (by decide) (tk_get c_118 (by decide)) dX3_init_75 rfl ?_
  refine to_aload_n (q := 77) rfl (by decide) dX3_init_76 rfl ?_
  refine to_getR (q := 80) (b := 98) (k0 := 3) (C := RX3) (T := TX3) (N := 8) (j := 1) rfl fx_X3_19 (tk_get c_96 (by decide)) rfl rfl dX3_init_77 rfl ?_
  refine to_iload_n (q := 81) rfl dX3_init_80 rfl ?_
  refine tc_new (q := 84) (n := 121) (n1 := 122) (k0 := 8) (C := RX8) (T := TX8) (N := 5) c_121 rfl rfl ⟨cl_X3_17, ins_X8, ini_X8⟩ dX3_init_81 rfl ?_
  refine to_dup (q := 85) rfl dX3_init_84 rfl ?_
  refine to_init (q := 88) (S1 := tk 123) mX8_init [] dX3_init_85 rfl rfl (by decide) (Nat.le_of_ble_eq_true rfl) mo_X8_init ⟨rfl, rfl⟩ (Or.inr (by decide)) im_X8_init (Call_mono (by decide) ((kc_X8 (a := 121) (by decide) c_121 c_122))) ?_
  refine tc_aast (q := 89) 3 (by decide) (tk_get c_98 (by decide)) (by decide) (by decide) (tk_get c_121 (by decide)) dX3_init_88 rfl ?_
  refine to_iinc (q := 92) (v := (4 : Int32)) rfl (by decide) [(1, .int (4 : Int32)), (0, .ref 96)] rfl (by decide) dX3_init_89 rfl ?_
  refine to_goto (q := 54) dX3_init_92 rfl ?_
  refine to_iload_n (q := 55) rfl dX3_init_54 rfl ?_
  refine to_aload_n (q := 56) rfl (by decide) dX3_init_55 rfl ?_
  refine to_getR (q := 59) (b := 97) (k0 := 3) (C := RX3) (T := TX3) (N := 8) (j := 0) rfl fx_X3_11 (tk_get c_96 (by decide)) rfl rfl dX3_init_56 rfl ?_
  refine to_alen (q := 60) (v := (4 : Int32)) (tk_get c_97 (by decide)) (by decide) (by decide) dX3_init_59 rfl ?_
  refine to_icT (q := 95) (op := .ge) (show (4 : Int32) ≤ 4 by decide) dX3_init_60 rfl ?_
  exact to_vret dX3_init_95 rfl rfl rfl trivial
def MX10_0 (m : Me) : Me := (setR (MX5 136 (zer (setR (MX5 134 (zer (setR (MX5 132 (zer (setR (zer (setR (MX1_127 (zer (setR (MX4_123 (zer (setR (MX3_96 (zer (setR (MX9_94 (zer (setR (MX7 91 (zer (setR (MX7 88 (zer (setR (MX0_84 (zer (setR (zer (setR (MX5 81 (zer (setR (MX2_42 (zer (setR (MX6_2 (zer (setR (zer m 1) 0 0 (some 1)) 2)) 0 2 (some 2)) 42)) 0 3 (some 42)) 81)) 0 5 (some 81)) 83) 0 6 (some 83)) 84)) 0 8 (some 84)) 88)) 0 9 (some 88)) 91)) 0 10 (some 91)) 94)) 0 11 (some 94)) 96)) 0 12 (some 96)) 123)) 0 13 (some 123)) 127)) 0 14 (some 127)) 131) 0 15 (some 131)) 132)) 83 0 (some 132)) 134)) 83 1 (some 134)) 136)) 83 2 (some 136))
set_option maxRecDepth 20000 in
theorem kc_X10_0 (m : Me) : Call 4 mX10_init [.ref 0] (tk 1, m) none (tk 138, MX10_0 m) := by
  refine (call_of (P := fun _ => True) (Nat.le_of_ble_eq_true rfl) (by simp [Value.category]) ?_).1
  show TT _ (Call 3) mX10_init (0, [(0, .ref 0)], [], tk 1, m) _ _
  refine to_aload_n (q := 1) rfl (by decide) dX10_init_0 rfl ?_
  refine to_obj (q := 4) dX10_init_1 rfl (by decide) (Nat.le_of_ble_eq_true rfl) ⟨ml_X10_3, im_obj, cd_obj⟩ ?_
  refine to_aload_n (q := 5) rfl (by decide) dX10_init_4 rfl ?_
  refine to_sipush (q := 8) (v := (900 : Int32)) (by decide) dX10_init_5 rfl ?_
  refine tc_newa (q := 10) (ty := .byte) (n := 1) (n1 := 2) c_1 rfl (by decide) (by decide) (by decide) ac_byte dX10_init_8 rfl ?_
  refine to_putR (q := 13) (ty := .array .byte) (k0 := 10) (C := RX10) (T := TX10) (N := 17) (j := 0) rfl fx_X10_9 (tk_get c_0 (by decide)) (tk_len c_1 (by decide)) rfl cD_aB (Or.inr ⟨rfl, rfl⟩) (fun _ => ⟨rfl, rfl⟩) dX10_init_10 rfl ?_
  refine to_aload_n (q := 14) rfl (by decide) dX10_init_13 rfl ?_
  refine tc_new (q := 17) (n := 2) (n1 := 3) (k0 := 6) (C := RX6) (T := TX6) (N := 10) c_2 rfl rfl ⟨cl_X10_13, ins_X6, ini_X6⟩ dX10_init_14 rfl ?_
  refine to_dup (q := 18) rfl dX10_init_17 rfl ?_
  refine to_aload_n (q := 19) rfl (by decide) dX10_init_18 rfl ?_
  refine to_getR (q := 22) (b := 1) (k0 := 10) (C := RX10) (T := TX10) (N := 17) (j := 0) rfl fx_X10_9 (tk_get c_0 (by decide)) rfl rfl dX10_init_19 rfl ?_
  refine to_init (q := 25) (S1 := tk 42) mX6_init [.ref 1] dX10_init_22 rfl rfl (by decide) (Nat.le_of_ble_eq_true rfl) mo_X6_init ⟨rfl, rfl⟩ (Or.inl ml_X10_15) im_X6_init (Call_mono (by decide) (kc_X6_2 _)) ?_
  refine to_putR (q := 28) (ty := .object "FanParts$Reader") (k0 := 10) (C := RX10) (T := TX10) (N := 17) (j := 2) rfl fx_X10_18 (tk_get c_0 (by decide)) (tk_len c_2 (by decide)) rfl cD_oX6 (Or.inr ⟨rfl, rfl⟩) (fun _ => ⟨rfl, rfl⟩) dX10_init_25 rfl ?_
  refine to_aload_n (q := 29) rfl (by decide) dX10_init_28 rfl ?_
  refine tc_new (q := 32) (n := 42) (n1 := 43) (k0 := 2) (C := RX2) (T := TX2) (N := 14) c_42 rfl rfl ⟨cl_X10_22, ins_X2, ini_X2⟩ dX10_init_29 rfl ?_
  refine to_dup (q := 33) rfl dX10_init_32 rfl ?_
  refine to_init (q := 36) (S1 := tk 81) mX2_init [] dX10_init_33 rfl rfl (by decide) (Nat.le_of_ble_eq_true rfl) mo_X2_init ⟨rfl, rfl⟩ (Or.inl ml_X10_24) im_X2_init (Call_mono (by decide) (kc_X2_42 _)) ?_
  refine to_putR (q := 39) (ty := .object "FanParts$Fan") (k0 := 10) (C := RX10) (T := TX10) (N := 17) (j := 3) rfl fx_X10_25 (tk_get c_0 (by decide)) (tk_len c_42 (by decide)) rfl cD_oX2 (Or.inl rfl) (fun _ => ⟨rfl, rfl⟩) dX10_init_36 rfl ?_
  refine to_aload_n (q := 40) rfl (by decide) dX10_init_39 rfl ?_
  refine tc_new (q := 43) (n := 81) (n1 := 82) (k0 := 5) (C := RX5) (T := TX5) (N := 3) c_81 rfl rfl ⟨cl_X10_29, ins_X5, ini_X5⟩ dX10_init_40 rfl ?_
  refine to_dup (q := 44) rfl dX10_init_43 rfl ?_
  refine to_init (q := 47) (S1 := tk 83) mX5_init [] dX10_init_44 rfl rfl (by decide) (Nat.le_of_ble_eq_true rfl) mo_X5_init ⟨rfl, rfl⟩ (Or.inr (by decide)) im_X5_init (Call_mono (by decide) ((kc_X5 (a := 81) (by decide) c_81 c_82))) ?_
  refine to_putR (q := 50) (ty := .object "FanParts$Painting") (k0 := 10) (C := RX10) (T := TX10) (N := 17) (j := 5) rfl fx_X10_32 (tk_get c_0 (by decide)) (tk_len c_81 (by decide)) rfl cD_oX5 (Or.inr ⟨rfl, rfl⟩) (fun _ => ⟨rfl, rfl⟩) dX10_init_47 rfl ?_
  refine to_aload_n (q := 51) rfl (by decide) dX10_init_50 rfl ?_
  refine to_iconst (q := 52) (v := (3 : Int32)) (by decide) dX10_init_51 rfl ?_
  refine tc_anew (q := 55) (n := 83) (n1 := 84) c_83 rfl (by decide) (by decide) (by decide) rfl cl_X10_29 dX10_init_52 rfl ?_
  refine to_putR (q := 58) (ty := .array (.object "FanParts$Painting")) (k0 := 10) (C := RX10) (T := TX10) (N := 17) (j := 6) rfl fx_X10_36 (tk_get c_0 (by decide)) (tk_len c_83 (by decide)) rfl cD_aX5 (Or.inr ⟨rfl, rfl⟩) (fun _ => ⟨rfl, rfl⟩) dX10_init_55 rfl ?_
  refine to_aload_n (q := 59) rfl (by decide) dX10_init_58 rfl ?_
  refine tc_new (q := 62) (n := 84) (n1 := 85) (k0 := 0) (C := RX0) (T := TX0) (N := 4) c_84 rfl rfl ⟨cl_X10_40, ins_X0, ini_X0⟩ dX10_init_59 rfl ?_
  refine to_dup (q := 63) rfl dX10_init_62 rfl ?_
  refine to_init (q := 66) (S1 := tk 88) mX0_init [] dX10_init_63 rfl rfl (by decide) (Nat.le_of_ble_eq_true rfl) mo_X0_init ⟨rfl, rfl⟩ (Or.inr (by decide)) im_X0_init (Call_mono (by decide) (kc_X0_84 _)) ?_
  refine to_putR (q := 69) (ty := .object "FanParts$Acts") (k0 := 10) (C := RX10) (T := TX10) (N := 17) (j := 8) rfl fx_X10_43 (tk_get c_0 (by decide)) (tk_len c_84 (by decide)) rfl cD_oX0 (Or.inr ⟨rfl, rfl⟩) (fun _ => ⟨rfl, rfl⟩) dX10_init_66 rfl ?_
  refine to_aload_n (q := 70) rfl (by decide) dX10_init_69 rfl ?_
  refine tc_new (q := 73) (n := 88) (n1 := 89) (k0 := 7) (C := RX7) (T := TX7) (N := 3) c_88 rfl rfl ⟨cl_X10_47, ins_X7, ini_X7⟩ dX10_init_70 rfl ?_
  refine to_dup (q := 74) rfl dX10_init_73 rfl ?_
  refine to_init (q := 77) (S1 := tk 91) mX7_init [] dX10_init_74 rfl rfl (by decide) (Nat.le_of_ble_eq_true rfl) mo_X7_init ⟨rfl, rfl⟩ (Or.inr (by decide)) im_X7_init (Call_mono (by decide) ((kc_X7 (a := 88) (by decide) c_88 c_89 c_90))) ?_
  refine to_putR (q := 80) (ty := .object "FanParts$Row") (k0 := 10) (C := RX10) (T := TX10) (N := 17) (j := 9) rfl fx_X10_50 (tk_get c_0 (by decide)) (tk_len c_88 (by decide)) rfl cD_oX7 (Or.inr ⟨rfl, rfl⟩) (fun _ => ⟨rfl, rfl⟩) dX10_init_77 rfl ?_
  refine to_aload_n (q := 81) rfl (by decide) dX10_init_80 rfl ?_
  refine tc_new (q := 84) (n := 91) (n1 := 92) (k0 := 7) (C := RX7) (T := TX7) (N := 3) c_91 rfl rfl ⟨cl_X10_47, ins_X7, ini_X7⟩ dX10_init_81 rfl ?_
  refine to_dup (q := 85) rfl dX10_init_84 rfl ?_
  refine to_init (q := 88) (S1 := tk 94) mX7_init [] dX10_init_85 rfl rfl (by decide) (Nat.le_of_ble_eq_true rfl) mo_X7_init ⟨rfl, rfl⟩ (Or.inr (by decide)) im_X7_init (Call_mono (by decide) ((kc_X7 (a := 91) (by decide) c_91 c_92 c_93))) ?_
  refine to_putR (q := 91) (ty := .object "FanParts$Row") (k0 := 10) (C := RX10) (T := TX10) (N := 17) (j := 10) rfl fx_X10_54 (tk_get c_0 (by decide)) (tk_len c_91 (by decide)) rfl cD_oX7 (Or.inr ⟨rfl, rfl⟩) (fun _ => ⟨rfl, rfl⟩) dX10_init_88 rfl ?_
  refine to_aload_n (q := 92) rfl (by decide) dX10_init_91 rfl ?_
  refine tc_new (q := 95) (n := 94) (n1 := 95) (k0 := 9) (C := RX9) (T := TX9) (N := 2) c_94 rfl rfl ⟨cl_X10_57, ins_X9, ini_X9⟩ dX10_init_92 rfl ?_
  refine to_dup (q := 96) rfl dX10_init_95 rfl ?_
  refine to_init (q := 99) (S1 := tk 96) mX9_init [] dX10_init_96 rfl rfl (by decide) (Nat.le_of_ble_eq_true rfl) mo_X9_init ⟨rfl, rfl⟩ (Or.inr (by decide)) im_X9_init (Call_mono (by decide) (kc_X9_94 _)) ?_
  refine to_putR (q := 102) (ty := .object "FanParts$Sight") (k0 := 10) (C := RX10) (T := TX10) (N := 17) (j := 11) rfl fx_X10_60 (tk_get c_0 (by decide)) (tk_len c_94 (by decide)) rfl cD_oX9 (Or.inr ⟨rfl, rfl⟩) (fun _ => ⟨rfl, rfl⟩) dX10_init_99 rfl ?_
  refine to_aload_n (q := 103) rfl (by decide) dX10_init_102 rfl ?_
  refine tc_new (q := 106) (n := 96) (n1 := 97) (k0 := 3) (C := RX3) (T := TX3) (N := 8) c_96 rfl rfl ⟨cl_X10_64, ins_X3, ini_X3⟩ dX10_init_103 rfl ?_
  refine to_dup (q := 107) rfl dX10_init_106 rfl ?_
  refine to_init (q := 110) (S1 := tk 123) mX3_init [] dX10_init_107 rfl rfl (by decide) (Nat.le_of_ble_eq_true rfl) mo_X3_init ⟨rfl, rfl⟩ (Or.inl ml_X10_66) im_X3_init (Call_mono (by decide) (kc_X3_96 _)) ?_
  refine to_putR (q := 113) (ty := .object "FanParts$Mender") (k0 := 10) (C := RX10) (T := TX10) (N := 17) (j := 12) rfl fx_X10_67 (tk_get c_0 (by decide)) (tk_len c_96 (by decide)) rfl cD_oX3 (Or.inr ⟨rfl, rfl⟩) (fun _ => ⟨rfl, rfl⟩) dX10_init_110 rfl ?_
  refine to_aload_n (q := 114) rfl (by decide) dX10_init_113 rfl ?_
  refine tc_new (q := 117) (n := 123) (n1 := 124) (k0 := 4) (C := RX4) (T := TX4) (N := 5) c_123 rfl rfl ⟨cl_X10_71, ins_X4, ini_X4⟩ dX10_init_114 rfl ?_
  refine to_dup (q := 118) rfl dX10_init_117 rfl ?_
  refine to_init (q := 121) (S1 := tk 127) mX4_init [] dX10_init_118 rfl rfl (by decide) (Nat.le_of_ble_eq_true rfl) mo_X4_init ⟨rfl, rfl⟩ (Or.inr (by decide)) im_X4_init (Call_mono (by decide) (kc_X4_123 _)) ?_
  refine to_putR (q := 124) (ty := .object "FanParts$Packer") (k0 := 10) (C := RX10) (T := TX10) (N := 17) (j := 13) rfl fx_X10_74 (tk_get c_0 (by decide)) (tk_len c_123 (by decide)) rfl cD_oX4 (Or.inr ⟨rfl, rfl⟩) (fun _ => ⟨rfl, rfl⟩) dX10_init_121 rfl ?_
  refine to_aload_n (q := 125) rfl (by decide) dX10_init_124 rfl ?_
  refine tc_new (q := 128) (n := 127) (n1 := 128) (k0 := 1) (C := RX1) (T := TX1) (N := 5) c_127 rfl rfl ⟨cl_X10_78, ins_X1, ini_X1⟩ dX10_init_125 rfl ?_
  refine to_dup (q := 129) rfl dX10_init_128 rfl ?_
  refine to_init (q := 132) (S1 := tk 131) mX1_init [] dX10_init_129 rfl rfl (by decide) (Nat.le_of_ble_eq_true rfl) mo_X1_init ⟨rfl, rfl⟩ (Or.inr (by decide)) im_X1_init (Call_mono (by decide) (kc_X1_127 _)) ?_
  refine to_putR (q := 135) (ty := .object "FanParts$Calmer") (k0 := 10) (C := RX10) (T := TX10) (N := 17) (j := 14) rfl fx_X10_81 (tk_get c_0 (by decide)) (tk_len c_127 (by decide)) rfl cD_oX1 (Or.inr ⟨rfl, rfl⟩) (fun _ => ⟨rfl, rfl⟩) dX10_init_132 rfl ?_
  refine to_aload_n (q := 136) rfl (by decide) dX10_init_135 rfl ?_
  refine to_sipush (q := 139) (v := (336 : Int32)) (by decide) dX10_init_136 rfl ?_
  refine tc_newa (q := 141) (ty := .int) (n := 131) (n1 := 132) c_131 rfl (by decide) (by decide) (by decide) ac_int dX10_init_139 rfl ?_
  refine to_putR (q := 144) (ty := .array .int) (k0 := 10) (C := RX10) (T := TX10) (N := 17) (j := 15) rfl fx_X10_85 (tk_get c_0 (by decide)) (tk_len c_131 (by decide)) rfl cD_aI (Or.inr ⟨rfl, rfl⟩) (fun _ => ⟨rfl, rfl⟩) dX10_init_141 rfl ?_
  refine to_iconst (q := 145) (v := (0 : Int32)) (by decide) dX10_init_144 rfl ?_
  refine to_istore_n (q := 146) [(1, .int (0 : Int32)), (0, .ref 0)] rfl (by decide) dX10_init_145 rfl ?_
  refine to_iload_n (q := 147) rfl dX10_init_146 rfl ?_
  refine to_aload_n (q := 148) rfl (by decide) dX10_init_147 rfl ?_
  refine to_getR (q := 151) (b := 83) (k0 := 10) (C := RX10) (T := TX10) (N := 17) (j := 6) rfl fx_X10_36 (tk_get c_0 (by decide)) rfl rfl dX10_init_148 rfl ?_
  refine to_alen (q := 152) (v := (3 : Int32)) (tk_get c_83 (by decide)) (by decide) (by decide) dX10_init_151 rfl ?_
  refine to_icF (q := 155) (op := .ge) 174 (show ¬ (3 : Int32) ≤ 0 by decide) dX10_init_152 rfl rfl ?_
  refine to_aload_n (q := 156) rfl (by decide) dX10_init_155 rfl ?_
  refine to_getR (q := 159) (b := 83) (k0 := 10) (C := RX10) (T := TX10) (N := 17) (j := 6) rfl fx_X10_36 (tk_get c_0 (by decide)) rfl rfl dX10_init_156 rfl ?_
  refine to_iload_n (q := 160) rfl dX10_init_159 rfl ?_
  refine tc_new (q := 163) (n := 132) (n1 := 133) (k0 := 5) (C := RX5) (T := TX5) (N := 3) c_132 rfl rfl ⟨cl_X10_29, ins_X5, ini_X5⟩ dX10_init_160 rfl ?_
  refine to_dup (q := 164) rfl dX10_init_163 rfl ?_
  refine to_init (q := 167) (S1 := tk 134) mX5_init [] dX10_init_164 rfl rfl (by decide) (Nat.le_of_ble_eq_true rfl) mo_X5_init ⟨rfl, rfl⟩ (Or.inr (by decide)) im_X5_init (Call_mono (by decide) ((kc_X5 (a := 132) (by decide) c_132 c_133))) ?_
  refine tc_aast (q := 168) 0 (by decide) (tk_get c_83 (by decide)) (by decide) (by decide) (tk_get c_132 (by decide)) dX10_init_167 rfl ?_
  refine to_iinc (q := 171) (v := (1 : Int32)) rfl (by decide) [(1, .int (1 : Int32)), (0, .ref 0)] rfl (by decide) dX10_init_168 rfl ?_
  refine to_goto (q := 146) dX10_init_171 rfl ?_
  refine to_iload_n (q := 147) rfl dX10_init_146 rfl ?_
  refine to_aload_n (q := 148) rfl (by decide) dX10_init_147 rfl ?_
  refine to_getR (q := 151) (b := 83) (k0 := 10) (C := RX10) (T := TX10) (N := 17) (j := 6) rfl fx_X10_36 (tk_get c_0 (by decide)) rfl rfl dX10_init_148 rfl ?_
  refine to_alen (q := 152) (v := (3 : Int32)) (tk_get c_83 (by decide)) (by decide) (by decide) dX10_init_151 rfl ?_
  refine to_icF (q := 155) (op := .ge) 174 (show ¬ (3 : Int32) ≤ 1 by decide) dX10_init_152 rfl rfl ?_
  refine to_aload_n (q := 156) rfl (by decide) dX10_init_155 rfl ?_
  refine to_getR (q := 159) (b := 83) (k0 := 10) (C := RX10) (T := TX10) (N := 17) (j := 6) rfl fx_X10_36 (tk_get c_0 (by decide)) rfl rfl dX10_init_156 rfl ?_
  refine to_iload_n (q := 160) rfl dX10_init_159 rfl ?_
  refine tc_new (q := 163) (n := 134) (n1 := 135) (k0 := 5) (C := RX5) (T := TX5) (N := 3) c_134 rfl rfl ⟨cl_X10_29, ins_X5, ini_X5⟩ dX10_init_160 rfl ?_
  refine to_dup (q := 164) rfl dX10_init_163 rfl ?_
  refine to_init (q := 167) (S1 := tk 136) mX5_init [] dX10_init_164 rfl rfl (by decide) (Nat.le_of_ble_eq_true rfl) mo_X5_init ⟨rfl, rfl⟩ (Or.inr (by decide)) im_X5_init (Call_mono (by decide) ((kc_X5 (a := 134) (by decide) c_134 c_135))) ?_
  refine tc_aast (q := 168) 1 (by decide) (tk_get c_83 (by decide)) (by decide) (by decide) (tk_get c_134 (by decide)) dX10_init_167 rfl ?_
  refine to_iinc (q := 171) (v := (2 : Int32)) rfl (by decide) [(1, .int (2 : Int32)), (0, .ref 0)] rfl (by decide) dX10_init_168 rfl ?_
  refine to_goto (q := 146) dX10_init_171 rfl ?_
  refine to_iload_n (q := 147) rfl dX10_init_146 rfl ?_
  refine to_aload_n (q := 148) rfl (by decide) dX10_init_147 rfl ?_
  refine to_getR (q := 151) (b := 83) (k0 := 10) (C := RX10) (T := TX10) (N := 17) (j := 6) rfl fx_X10_36 (tk_get c_0 (by decide)) rfl rfl dX10_init_148 rfl ?_
  refine to_alen (q := 152) (v := (3 : Int32)) (tk_get c_83 (by decide)) (by decide) (by decide) dX10_init_151 rfl ?_
  refine to_icF (q := 155) (op := .ge) 174 (show ¬ (3 : Int32) ≤ 2 by decide) dX10_init_152 rfl rfl ?_
  refine to_aload_n (q := 156) rfl (by decide) dX10_init_155 rfl ?_
  refine to_getR (q := 159) (b := 83) (k0 := 10) (C := RX10) (T := TX10) (N := 17) (j := 6) rfl fx_X10_36 (tk_get c_0 (by decide)) rfl rfl dX10_init_156 rfl ?_
  refine to_iload_n (q := 160) rfl dX10_init_159 rfl ?_
  refine tc_new (q := 163) (n := 136) (n1 := 137) (k0 := 5) (C := RX5) (T := TX5) (N := 3) c_136 rfl rfl ⟨cl_X10_29, ins_X5, ini_X5⟩ dX10_init_160 rfl ?_
  refine to_dup (q := 164) rfl dX10_init_163 rfl ?_
  refine to_init (q := 167) (S1 := tk 138) mX5_init [] dX10_init_164 rfl rfl (by decide) (Nat.le_of_ble_eq_true rfl) mo_X5_init ⟨rfl, rfl⟩ (Or.inr (by decide)) im_X5_init (Call_mono (by decide) ((kc_X5 (a := 136) (by decide) c_136 c_137))) ?_
  refine tc_aast (q := 168) 2 (by decide) (tk_get c_83 (by decide)) (by decide) (by decide) (tk_get c_136 (by decide)) dX10_init_167 rfl ?_
  refine to_iinc (q := 171) (v := (3 : Int32)) rfl (by decide) [(1, .int (3 : Int32)), (0, .ref 0)] rfl (by decide) dX10_init_168 rfl ?_
  refine to_goto (q := 146) dX10_init_171 rfl ?_
  refine to_iload_n (q := 147) rfl dX10_init_146 rfl ?_
  refine to_aload_n (q := 148) rfl (by decide) dX10_init_147 rfl ?_
  refine to_getR (q := 151) (b := 83) (k0 := 10) (C := RX10) (T := TX10) (N := 17) (j := 6) rfl fx_X10_36 (tk_get c_0 (by decide)) rfl rfl dX10_init_148 rfl ?_
  refine to_alen (q := 152) (v := (3 : Int32)) (tk_get c_83 (by decide)) (by decide) (by decide) dX10_init_151 rfl ?_
  refine to_icT (q := 174) (op := .ge) (show (3 : Int32) ≤ 3 by decide) dX10_init_152 rfl ?_
  exact to_vret dX10_init_174 rfl rfl rfl trivial
