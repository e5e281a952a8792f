def MX2_3 (m : Me) : Me := (setR (MX8 40 (zer (setR (MX8 38 (zer (setR (MX8 36 (zer (setR (MX8 34 (zer (setR (MX8 32 (zer (setR (MX8 30 (zer (setR (MX8 28 (zer (setR (MX8 26 (zer (setR (MX8 24 (zer (setR (MX8 22 (zer (setR (MX8 20 (zer (setR (MX8 18 (zer (setR (MX8 16 (zer (setR (MX8 14 (zer (setR (MX8 12 (zer (setR (MX8 10 (zer (setR (zer (setR (zer (setR (zer (setR (zer (setR (MX5 4 (zer m 4)) 3 5 (some 4)) 6) 3 6 (some 6)) 7) 3 8 (some 7)) 8) 3 10 (some 8)) 9) 3 12 (some 9)) 10)) 6 0 (some 10)) 12)) 6 1 (some 12)) 14)) 6 2 (some 14)) 16)) 6 3 (some 16)) 18)) 6 4 (some 18)) 20)) 6 5 (some 20)) 22)) 7 0 (some 22)) 24)) 7 1 (some 24)) 26)) 7 2 (some 26)) 28)) 7 3 (some 28)) 30)) 8 0 (some 30)) 32)) 8 1 (some 32)) 34)) 8 2 (some 34)) 36)) 8 3 (some 36)) 38)) 8 4 (some 38)) 40)) 8 5 (some 40))
set_option maxRecDepth 20000 in
theorem kc_X2_3 (m : Me) : Call 2 mX2_init [.ref 3] (tk 4, m) none (tk 42, MX2_3 m) := by
  refine (call_of (P := fun _ => True) (Nat.le_of_ble_eq_true rfl) (by simp [Value.category]) ?_).1
  show TT _ (Call 1) mX2_init (0, [(0, .ref 3)], [], tk 4, m) _ _
  refine to_aload_n (q := 1) rfl (by decide) dX2_init_0 rfl ?_
  refine to_obj (q := 4) dX2_init_1 rfl (by decide) (Nat.le_of_ble_eq_true rfl) ⟨ml_X2_3, im_obj, cd_obj⟩ ?_
  refine to_aload_n (q := 5) rfl (by decide) dX2_init_4 rfl ?_
  refine tc_new (q := 8) (n := 4) (n1 := 5) (k0 := 5) (C := RX5) (T := TX5) (N := 3) c_4 rfl rfl ⟨cl_X2_9, ins_X5, ini_X5⟩ dX2_init_5 rfl ?_
  refine to_dup (q := 9) rfl dX2_init_8 rfl ?_
  refine to_init (q := 12) (S1 := tk 6) mX5_init [] dX2_init_9 rfl rfl (by decide) (Nat.le_of_ble_eq_true rfl) mo_X5_init ⟨rfl, rfl⟩ (Or.inr (by decide)) im_X5_init (Call_mono (by decide) ((kc_X5 (a := 4) (by decide) c_4 c_5))) ?_
  refine to_putR (q := 15) (ty := .object "FanParts$Painting") (k0 := 2) (C := RX2) (T := TX2) (N := 14) (j := 5) rfl fx_X2_12 (tk_get c_3 (by decide)) (tk_len c_4 (by decide)) rfl cD_oX5 (Or.inr ⟨rfl, rfl⟩) (fun _ => ⟨rfl, rfl⟩) dX2_init_12 rfl ?_
  refine to_aload_n (q := 16) rfl (by decide) dX2_init_15 rfl ?_
  refine to_bipush (q := 18) (v := (6 : Int32)) (by decide) dX2_init_16 rfl ?_
  refine tc_anew (q := 21) (n := 6) (n1 := 7) c_6 rfl (by decide) (by decide) (by decide) rfl cl_X2_18 dX2_init_18 rfl ?_
  refine to_putR (q := 24) (ty := .array (.object "FanParts$Saying")) (k0 := 2) (C := RX2) (T := TX2) (N := 14) (j := 6) rfl fx_X2_20 (tk_get c_3 (by decide)) (tk_len c_6 (by decide)) rfl cD_aX8 (Or.inr ⟨rfl, rfl⟩) (fun _ => ⟨rfl, rfl⟩) dX2_init_21 rfl ?_
  refine to_aload_n (q := 25) rfl (by decide) dX2_init_24 rfl ?_
  refine to_iconst (q := 26) (v := (4 : Int32)) (by decide) dX2_init_25 rfl ?_
  refine tc_anew (q := 29) (n := 7) (n1 := 8) c_7 rfl (by decide) (by decide) (by decide) rfl cl_X2_18 dX2_init_26 rfl ?_
  refine to_putR (q := 32) (ty := .array (.object "FanParts$Saying")) (k0 := 2) (C := RX2) (T := TX2) (N := 14) (j := 8) rfl fx_X2_24 (tk_get c_3 (by decide)) (tk_len c_7 (by decide)) rfl cD_aX8 (Or.inr ⟨rfl, rfl⟩) (fun _ => ⟨rfl, rfl⟩) dX2_init_29 rfl ?_
  refine to_aload_n (q := 33) rfl (by decide) dX2_init_32 rfl ?_
  refine to_bipush (q := 35) (v := (6 : Int32)) (by decide) dX2_init_33 rfl ?_
  refine tc_anew (q := 38) (n := 8) (n1 := 9) c_8 rfl (by decide) (by decide) (by decide) rfl cl_X2_18 dX2_init_35 rfl ?_
  refine to_putR (q := 41) (ty := .array (.object "FanParts$Saying")) (k0 := 2) (C := RX2) (T := TX2) (N := 14) (j := 10) rfl fx_X2_27 (tk_get c_3 (by decide)) (tk_len c_8 (by decide)) rfl cD_aX8 (Or.inr ⟨rfl, rfl⟩) (fun _ => ⟨rfl, rfl⟩) dX2_init_38 rfl ?_
  refine to_aload_n (q := 42) rfl (by decide) dX2_init_41 rfl ?_
  refine to_bipush (q := 44) (v := (6 : Int32)) (by decide) dX2_init_42 rfl ?_
  refine tc_newa (q := 46) (ty := .int) (n := 9) (n1 := 10) c_9 rfl (by decide) (by decide) (by decide) ac_int dX2_init_44 rfl ?_
  refine to_putR (q := 49) (ty := .array .int) (k0 := 2) (C := RX2) (T := TX2) (N := 14) (j := 12) rfl fx_X2_30 (tk_get c_3 (by decide)) (tk_len c_9 (by decide)) rfl cD_aI (Or.inr ⟨rfl, rfl⟩) (fun _ => ⟨rfl, rfl⟩) dX2_init_46 rfl ?_
  refine to_iconst (q := 50) (v := (0 : Int32)) (by decide) dX2_init_49 rfl ?_
  refine to_istore_n (q := 51) [(1, .int (0 : Int32)), (0, .ref 3)] rfl (by decide) dX2_init_50 rfl ?_
  refine to_iload_n (q := 52) rfl dX2_init_51 rfl ?_
  refine to_aload_n (q := 53) rfl (by decide) dX2_init_52 rfl ?_
  refine to_getR (q := 56) (b := 6) (k0 := 2) (C := RX2) (T := TX2) (N := 14) (j := 6) rfl fx_X2_20 (tk_get c_3 (by decide)) rfl rfl dX2_init_53 rfl ?_
  refine to_alen (q := 57) (v := (6 : Int32)) (tk_get c_6 (by decide)) (by decide) (by decide) dX2_init_56 rfl ?_
  refine to_icF (q := 60) (op := .ge) 79 (show ¬ (6 : Int32) ≤ 0 by decide) dX2_init_57 rfl rfl ?_
  refine to_aload_n (q := 61) rfl (by decide) dX2_init_60 rfl ?_
  refine to_getR (q := 64) (b := 6) (k0 := 2) (C := RX2) (T := TX2) (N := 14) (j := 6) rfl fx_X2_20 (tk_get c_3 (by decide)) rfl rfl dX2_init_61 rfl ?_
  refine to_iload_n (q := 65) rfl dX2_init_64 rfl ?_
  refine tc_new (q := 68) (n := 10) (n1 := 11) (k0 := 8) (C := RX8) (T := TX8) (N := 5) c_10 rfl rfl ⟨cl_X2_18, ins_X8, ini_X8⟩ dX2_init_65 rfl ?_
  refine to_dup (q := 69) rfl dX2_init_68 rfl ?_
  refine to_init (q := 72) (S1 := tk 12) mX8_init [] dX2_init_69 rfl rfl (by decide) (Nat.le_of_ble_eq_true rfl) mo_X8_init ⟨rfl, rfl⟩ (Or.inr (by decide)) im_X8_init (Call_mono (by decide) ((kc_X8 (a := 10) (by decide) c_10 c_11))) ?_
  refine tc_aast (q := 73) 0 (by decide) (tk_get c_6 (by decide)) (by decide) (by decide) (tk_get c_10 (by decide)) dX2_init_72 rfl ?_
  refine to_iinc (q := 76) (v := (1 : Int32)) rfl (by decide) [(1, .int (1 : Int32)), (0, .ref 3)] rfl (by decide) dX2_init_73 rfl ?_
  refine to_goto (q := 51) dX2_init_76 rfl ?_
  refine to_iload_n (q := 52) rfl dX2_init_51 rfl ?_
  refine to_aload_n (q := 53) rfl (by decide) dX2_init_52 rfl ?_
  refine to_getR (q := 56) (b := 6) (k0 := 2) (C := RX2) (T := TX2) (N := 14) (j := 6) rfl fx_X2_20 (tk_get c_3 (by decide)) rfl rfl dX2_init_53 rfl ?_
  refine to_alen (q := 57) (v := (6 : Int32)) (tk_get c_6 (by decide)) (by decide) (by decide) dX2_init_56 rfl ?_
  refine to_icF (q := 60) (op := .ge) 79 (show ¬ (6 : Int32) ≤ 1 by decide) dX2_init_57 rfl rfl ?_
  refine to_aload_n (q := 61) rfl (by decide) dX2_init_60 rfl ?_
  refine to_getR (q := 64) (b := 6) (k0 := 2) (C := RX2) (T := TX2) (N := 14) (j := 6) rfl fx_X2_20 (tk_get c_3 (by decide)) rfl rfl dX2_init_61 rfl ?_
  refine to_iload_n (q := 65) rfl dX2_init_64 rfl ?_
  refine tc_new (q := 68) (n := 12) (n1 := 13) (k0 := 8) (C := RX8) (T := TX8) (N := 5) c_12 rfl rfl ⟨cl_X2_18, ins_X8, ini_X8⟩ dX2_init_65 rfl ?_
  refine to_dup (q := 69) rfl dX2_init_68 rfl ?_
  refine to_init (q := 72) (S1 := tk 14) mX8_init [] dX2_init_69 rfl rfl (by decide) (Nat.le_of_ble_eq_true rfl) mo_X8_init ⟨rfl, rfl⟩ (Or.inr (by decide)) im_X8_init (Call_mono (by decide) ((kc_X8 (a := 12) (by decide) c_12 c_13))) ?_
  refine tc_aast (q := 73) 1 (by decide) (tk_get c_6 (by decide)) (by decide) (by decide) (tk_get c_12 (by decide)) dX2_init_72 rfl ?_
  refine to_iinc (q := 76) (v := (2 : Int32)) rfl (by decide) [(1, .int (2 : Int32)), (0, .ref 3)] rfl (by decide) dX2_init_73 rfl ?_
  refine to_goto (q := 51) dX2_init_76 rfl ?_
  refine to_iload_n (q := 52) rfl dX2_init_51 rfl ?_
  refine to_aload_n (q := 53) rfl (by decide) dX2_init_52 rfl ?_
  refine to_getR (q := 56) (b := 6) (k0 := 2) (C := RX2) (T := TX2) (N := 14) (j := 6) rfl fx_X2_20 (tk_get c_3 (by decide)) rfl rfl dX2_init_53 rfl ?_
  refine to_alen (q := 57) (v := (6 : Int32)) (tk_get c_6 (by decide)) (by decide) (by decide) dX2_init_56 rfl ?_
  refine to_icF (q := 60) (op := .ge) 79 (show ¬ (6 : Int32) ≤ 2 by decide) dX2_init_57 rfl rfl ?_
  refine to_aload_n (q := 61) rfl (by decide) dX2_init_60 rfl ?_
  refine to_getR (q := 64) (b := 6) (k0 := 2) (C := RX2) (T := TX2) (N := 14) (j := 6) rfl fx_X2_20 (tk_get c_3 (by decide)) rfl rfl dX2_init_61 rfl ?_
  refine to_iload_n (q := 65) rfl dX2_init_64 rfl ?_
  refine tc_new (q := 68) (n := 14) (n1 := 15) (k0 := 8) (C := RX8) (T := TX8) (N := 5) c_14 rfl rfl ⟨cl_X2_18, ins_X8, ini_X8⟩ dX2_init_65 rfl ?_
  refine to_dup (q := 69) rfl dX2_init_68 rfl ?_
  refine to_init (q := 72) (S1 := tk 16) mX8_init [] dX2_init_69 rfl rfl (by decide) (Nat.le_of_ble_eq_true rfl) mo_X8_init ⟨rfl, rfl⟩ (Or.inr (by decide)) im_X8_init (Call_mono (by decide) ((kc_X8 (a := 14) (by decide) c_14 c_15))) ?_
  refine tc_aast (q := 73) 2 (by decide) (tk_get c_6 (by decide)) (by decide) (by decide) (tk_get c_14 (by decide)) dX2_init_72 rfl ?_
  refine to_iinc (q := 76) (v := (3 : Int32)) rfl (by decide) [(1, .int (3 : Int32)), (0, .ref 3)] rfl (by decide) dX2_init_73 rfl ?_
  refine to_goto (q := 51) dX2_init_76 rfl ?_
  refine to_iload_n (q := 52) rfl dX2_init_51 rfl ?_
  refine to_aload_n (q := 53) rfl (by decide) dX2_init_52 rfl ?_
  refine to_getR (q := 56) (b := 6) (k0 := 2) (C := RX2) (T := TX2) (N := 14) (j := 6) rfl fx_X2_20 (tk_get c_3 (by decide)) rfl rfl dX2_init_53 rfl ?_
  refine to_alen (q := 57) (v := (6 : Int32)) (tk_get c_6 (by decide)) (by decide) (by decide) dX2_init_56 rfl ?_
  refine to_icF (q := 60) (op := .ge) 79 (show ¬ (6 : Int32) ≤ 3 by decide) dX2_init_57 rfl rfl ?_
  refine to_aload_n (q := 61) rfl (by decide) dX2_init_60 rfl ?_
  refine to_getR (q := 64) (b := 6) (k0 := 2) (C := RX2) (T := TX2) (N := 14) (j := 6) rfl fx_X2_20 (tk_get c_3 (by decide)) rfl rfl dX2_init_61 rfl ?_
  refine to_iload_n (q := 65) rfl dX2_init_64 rfl ?_
  refine tc_new (q := 68) (n := 16) (n1 := 17) (k0 := 8) (C := RX8) (T := TX8) (N := 5) c_16 rfl rfl ⟨cl_X2_18, ins_X8, ini_X8⟩ dX2_init_65 rfl ?_
  refine to_dup (q := 69) rfl dX2_init_68 rfl ?_
  refine to_init (q := 72) (S1 := tk 18) mX8_init [] dX2_init_69 rfl rfl (by decide) (Nat.le_of_ble_eq_true rfl) mo_X8_init ⟨rfl, rfl⟩ (Or.inr (by decide)) im_X8_init (Call_mono (by decide) ((kc_X8 (a := 16) (by decide) c_16 c_17))) ?_
  refine tc_aast (q := 73) 3 (by decide) (tk_get c_6 (by decide)) (by decide) (by decide) (tk_get c_16 (by decide)) dX2_init_72 rfl ?_
  refine to_iinc (q := 76) (v := (4 : Int32)) rfl (by decide) [(1, .int (4 : Int32)), (0, .ref 3)] rfl (by decide) dX2_init_73 rfl ?_
  refine to_goto (q := 51) dX2_init_76 rfl ?_
  refine to_iload_n (q := 52) rfl dX2_init_51 rfl ?_
  refine to_aload_n (q := 53) rfl (by decide) dX2_init_52 rfl ?_
  refine to_getR (q := 56) (b := 6) (k0 := 2) (C := RX2) (T := TX2) (N := 14) (j := 6) rfl fx_X2_20 (tk_get c_3 (by decide)) rfl rfl dX2_init_53 rfl ?_
  refine to_alen (q := 57) (v := (6 : Int32)) (tk_get c_6 (by decide)) (by decide) (by decide) dX2_init_56 rfl ?_
  refine to_icF (q := 60) (op := .ge) 79 (show ¬ (6 : Int32) ≤ 4 by decide) dX2_init_57 rfl rfl ?_
  refine to_aload_n (q := 61) rfl (by decide) dX2_init_60 rfl ?_
  refine to_getR (q := 64) (b := 6) (k0 := 2) (C := RX2) (T := TX2) (N := 14) (j := 6) rfl fx_X2_20 (tk_get c_3 (by decide)) rfl rfl dX2_init_61 rfl ?_
  refine to_iload_n (q := 65) rfl dX2_init_64 rfl ?_
  refine tc_new (q := 68) (n := 18) (n1 := 19) (k0 := 8) (C := RX8) (T := TX8) (N := 5) c_18 rfl rfl ⟨cl_X2_18, ins_X8, ini_X8⟩ dX2_init_65 rfl ?_
  refine to_dup (q := 69) rfl dX2_init_68 rfl ?_
  refine to_init (q := 72) (S1 := tk 20) mX8_init [] dX2_init_69 rfl rfl (by decide) (Nat.le_of_ble_eq_true rfl) mo_X8_init ⟨rfl, rfl⟩ (Or.inr (by decide)) im_X8_init (Call_mono (by decide) ((kc_X8 (a := 18) (by decide) c_18 c_19))) ?_
  refine tc_aast (q := 73) 4 (by decide) (tk_get c_6 (by decide)) (by decide) (by decide) (tk_get c_18 (by decide)) dX2_init_72 rfl ?_
  refine to_iinc (q := 76) (v := (5 : Int32)) rfl (by decide) [(1, .int (5 : Int32)), (0, .ref 3)] rfl (by decide) dX2_init_73 rfl ?_
  refine to_goto (q := 51) dX2_init_76 rfl ?_
  refine to_iload_n (q := 52) rfl dX2_init_51 rfl ?_
  refine to_aload_n (q := 53) rfl (by decide) dX2_init_52 rfl ?_
  refine to_getR (q := 56) (b := 6) (k0 := 2) (C := RX2) (T := TX2) (N := 14) (j := 6) rfl fx_X2_20 (tk_get c_3 (by decide)) rfl rfl dX2_init_53 rfl ?_
  refine to_alen (q := 57) (v := (6 : Int32)) (tk_get c_6 (by decide)) (by decide) (by decide) dX2_init_56 rfl ?_
  refine to_icF (q := 60) (op := .ge) 79 (show ¬ (6 : Int32) ≤ 5 by decide) dX2_init_57 rfl rfl ?_
  refine to_aload_n (q := 61) rfl (by decide) dX2_init_60 rfl ?_
  refine to_getR (q := 64) (b := 6) (k0 := 2) (C := RX2) (T := TX2) (N := 14) (j := 6) rfl fx_X2_20 (tk_get c_3 (by decide)) rfl rfl dX2_init_61 rfl ?_
  refine to_iload_n (q := 65) rfl dX2_init_64 rfl ?_
  refine tc_new (q := 68) (n := 20) (n1 := 21) (k0 := 8) (C := RX8) (T := TX8) (N := 5) c_20 rfl rfl ⟨cl_X2_18, ins_X8, ini_X8⟩ dX2_init_65 rfl ?_
  refine to_dup (q := 69) rfl dX2_init_68 rfl ?_
  refine to_init (q := 72) (S1 := tk 22) mX8_init [] dX2_init_69 rfl rfl (by decide) (Nat.le_of_ble_eq_true rfl) mo_X8_init ⟨rfl, rfl⟩ (Or.inr (by decide)) im_X8_init (Call_mono (by decide) ((kc_X8 (a := 20) (by decide) c_20 c_21))) ?_
  refine tc_aast (q := 73) 5 (by decide) (tk_get c_6 (by decide)) (by decide) (by decide) (tk_get c_20 (by decide)) dX2_init_72 rfl ?_
  refine to_iinc (q := 76) (v := (6 : Int32)) rfl (by decide) [(1, .int (6 : Int32)), (0, .ref 3)] rfl (by decide) dX2_init_73 rfl ?_
  refine to_goto (q := 51) dX2_init_76 rfl ?_
  refine to_iload_n (q := 52) rfl dX2_init_51 rfl ?_
  refine to_aload_n (q := 53) rfl (by decide) dX2_init_52 rfl ?_
  refine to_getR (q := 56) (b := 6) (k0 := 2) (C := RX2) (T := TX2) (N := 14) (j := 6) rfl fx_X2_20 (tk_get c_3 (by decide)) rfl rfl dX2_init_53 rfl ?_
  refine to_alen (q := 57) (v := (6 : Int32)) (tk_get c_6 (by decide)) (by decide) (by decide) dX2_init_56 rfl ?_
  refine to_icT (q := 79) (op := .ge) (show (6 : Int32) ≤ 6 by decide) dX2_init_57 rfl ?_
  refine to_iconst (q := 80) (v := (0 : Int32)) (by decide) dX2_init_79 rfl ?_
  refine to_istore_n (q := 81) [(1, .int (0 : Int32)), (0, .ref 3)] rfl (by decide) dX2_init_80 rfl ?_
  refine to_iload_n (q := 82) rfl dX2_init_81 rfl ?_
  refine to_aload_n (q := 83) rfl (by decide) dX2_init_82 rfl ?_
  refine to_getR (q := 86) (b := 7) (k0 := 2) (C := RX2) (T := TX2) (N := 14) (j := 8) rfl fx_X2_24 (tk_get c_3 (by decide)) rfl rfl dX2_init_83 rfl ?_
  refine to_alen (q := 87) (v := (4 : Int32)) (tk_get c_7 (by decide)) (by decide) (by decide) dX2_init_86 rfl ?_
  refine to_icF (q := 90) (op := .ge) 109 (show ¬ (4 : Int32) ≤ 0 by decide) dX2_init_87 rfl rfl ?_
  refine to_aload_n (q := 91) rfl (by decide) dX2_init_90 rfl ?_
  refine to_getR (q := 94) (b := 7) (k0 := 2) (C := RX2) (T := TX2) (N := 14) (j := 8) rfl fx_X2_24 (tk_get c_3 (by decide)) rfl rfl dX2_init_91 rfl ?_
  refine to_iload_n (q := 95) rfl dX2_init_94 rfl ?_
  refine tc_new (q := 98) (n := 22) (n1 := 23) (k0 := 8) (C := RX8) (T := TX8) (N := 5) c_22 rfl rfl ⟨cl_X2_18, ins_X8, ini_X8⟩ dX2_init_95 rfl ?_
  refine to_dup (q := 99) rfl dX2_init_98 rfl ?_
  refine to_init (q := 102) (S1 := tk 24) mX8_init [] dX2_init_99 rfl rfl (by decide) (Nat.le_of_ble_eq_true rfl) mo_X8_init ⟨rfl, rfl⟩ (Or.inr (by decide)) im_X8_init (Call_mono (by decide) ((kc_X8 (a := 22) (by decide) c_22 c_23))) ?_
  refine tc_aast (q := 103) 0 (by decide) (tk_get c_7 (by decide)) (by decide) (by decide) (tk_get c_22 (by decide)) dX2_init_102 rfl ?_
  refine to_iinc (q := 106) (v := (1 : Int32)) rfl (by decide) [(1, .int (1 : Int32)), (0, .ref 3)] rfl (by decide) dX2_init_103 rfl ?_
  refine to_goto (q := 81) dX2_init_106 rfl ?_
  refine to_iload_n (q := 82) rfl dX2_init_81 rfl ?_
  refine to_aload_n (q := 83) rfl (by decide) dX2_init_82 rfl ?_
  refine to_getR (q := 86) (b := 7) (k0 := 2) (C := RX2) (T := TX2) (N := 14) (j := 8) rfl fx_X2_24 (tk_get c_3 (by decide)) rfl rfl dX2_init_83 rfl ?_
  refine to_alen (q := 87) (v := (4 : Int32)) (tk_get c_7 (by decide)) (by decide) (by decide) dX2_init_86 rfl ?_
  refine to_icF (q := 90) (op := .ge) 109 (show ¬ (4 : Int32) ≤ 1 by decide) dX2_init_87 rfl rfl ?_
  refine to_aload_n (q := 91) rfl (by decide) dX2_init_90 rfl ?_
  refine to_getR (q := 94) (b := 7) (k0 := 2) (C := RX2) (T := TX2) (N := 14) (j := 8) rfl fx_X2_24 (tk_get c_3 (by decide)) rfl rfl dX2_init_91 rfl ?_
  refine to_iload_n (q := 95) rfl dX2_init_94 rfl ?_
  refine tc_new (q := 98) (n := 24) (n1 := 25) (k0 := 8) (C := RX8) (T := TX8) (N := 5) c_24 rfl rfl ⟨cl_X2_18, ins_X8, ini_X8⟩ dX2_init_95 rfl ?_
  refine to_dup (q := 99) rfl dX2_init_98 rfl ?_
  refine to_init (q := 102) (S1 := tk 26) mX8_init [] dX2_init_99 rfl rfl (by decide) (Nat.le_of_ble_eq_true rfl) mo_X8_init ⟨rfl, rfl⟩ (Or.inr (by decide)) im_X8_init (Call_mono (by decide) ((kc_X8 (a := 24) (by decide) c_24 c_25))) ?_
  refine tc_aast (q := 103) 1 (by decide) (tk_get c_7 (by decide)) (by decide) (by decide) (tk_get c_24 (by decide)) dX2_init_102 rfl ?_
  refine to_iinc (q := 106) (v := (2 : Int32)) rfl (by decide) [(1, .int (2 : Int32)), (0, .ref 3)] rfl (by decide) dX2_init_103 rfl ?_
  refine to_goto (q := 81) dX2_init_106 rfl ?_
  refine to_iload_n (q := 82) rfl dX2_init_81 rfl ?_
  refine to_aload_n (q := 83) rfl (by decide) dX2_init_82 rfl ?_
  refine to_getR (q := 86) (b := 7) (k0 := 2) (C := RX2) (T := TX2) (N := 14) (j := 8) rfl fx_X2_24 (tk_get c_3 (by decide)) rfl rfl dX2_init_83 rfl ?_
  refine to_alen (q := 87) (v := (4 : Int32)) (tk_get c_7 (by decide)) (by decide) (by decide) dX2_init_86 rfl ?_
  refine to_icF (q := 90) (op := .ge) 109 (show ¬ (4 : Int32) ≤ 2 by decide) dX2_init_87 rfl rfl ?_
  refine to_aload_n (q := 91) rfl (by decide) dX2_init_90 rfl ?_
  refine to_getR (q := 94) (b := 7) (k0 := 2) (C := RX2) (T := TX2) (N := 14) (j := 8) rfl fx_X2_24 (tk_get c_3 (by decide)) rfl rfl dX2_init_91 rfl ?_
  refine to_iload_n (q := 95) rfl dX2_init_94 rfl ?_
  refine tc_new (q := 98) (n := 26) (n1 := 27) (k0 := 8) (C := RX8) (T := TX8) (N := 5) c_26 rfl rfl ⟨cl_X2_18, ins_X8, ini_X8⟩ dX2_init_95 rfl ?_
  refine to_dup (q := 99) rfl dX2_init_98 rfl ?_
  refine to_init (q := 102) (S1 := tk 28) mX8_init [] dX2_init_99 rfl rfl (by decide) (Nat.le_of_ble_eq_true rfl) mo_X8_init ⟨rfl, rfl⟩ (Or.inr (by decide)) im_X8_init (Call_mono (by decide) ((kc_X8 (a := 26) (by decide) c_26 c_27))) ?_
  refine tc_aast (q := 103) 2 (by decide) (tk_get c_7 (by decide)) (by decide) (by decide) (tk_get c_26 (by decide)) dX2_init_102 rfl ?_
  refine to_iinc (q := 106) (v := (3 : Int32)) rfl (by decide) [(1, .int (3 : Int32)), (0, .ref 3)] rfl (by decide) dX2_init_103 rfl ?_
  refine to_goto (q := 81) dX2_init_106 rfl ?_
  refine to_iload_n (q := 82) rfl dX2_init_81 rfl ?_
  refine to_aload_n (q := 83) rfl (by decide) dX2_init_82 rfl ?_
  refine to_getR (q := 86) (b := 7) (k0 := 2) (C := RX2) (T := TX2) (N := 14) (j := 8) rfl fx_X2_24 (tk_get c_3 (by decide)) rfl rfl dX2_init_83 rfl ?_
  refine to_alen (q := 87) (v := (4 : Int32)) (tk_get c_7 (by decide)) (by decide) (by decide) dX2_init_86 rfl ?_
  refine to_icF (q := 90) (op := .ge) 109 (show ¬ (4 : Int32) ≤ 3 by decide) dX2_init_87 rfl rfl ?_
  refine to_aload_n (q := 91) rfl (by decide) dX2_init_90 rfl ?_
  refine to_getR (q := 94) (b := 7) (k0 := 2) (C := RX2) (T := TX2) (N := 14) (j := 8) rfl fx_X2_24 (tk_get c_3 (by decide)) rfl rfl dX2_init_91 rfl ?_
  refine to_iload_n (q := 95) rfl dX2_init_94 rfl ?_
  refine tc_new (q := 98) (n := 28) (n1 := 29) (k0 := 8) (C := RX8) (T := TX8) (N := 5) c_28 rfl rfl ⟨cl_X2_18, ins_X8, ini_X8⟩ dX2_init_95 rfl ?_
  refine to_dup (q := 99) rfl dX2_init_98 rfl ?_
  refine to_init (q := 102) (S1 := tk 30) mX8_init [] dX2_init_99 rfl rfl (by decide) (Nat.le_of_ble_eq_true rfl) mo_X8_init ⟨rfl, rfl⟩ (Or.inr (by decide)) im_X8_init (Call_mono (by decide) ((kc_X8 (a := 28) (by decide) c_28 c_29))) ?_
  refine tc_aast (q := 103) 3 (by decide) (tk_get c_7 (by decide)) (by decide) (by decide) (tk_get c_28 (by decide)) dX2_init_102 rfl ?_
  refine to_iinc (q := 106) (v := (4 : Int32)) rfl (by decide) [(1, .int (4 : Int32)), (0, .ref 3)] rfl (by decide) dX2_init_103 rfl ?_
  refine to_goto (q := 81) dX2_init_106 rfl ?_
  refine to_iload_n (q := 82) rfl dX2_init_81 rfl ?_
  refine to_aload_n (q := 83) rfl (by decide) dX2_init_82 rfl ?_
  refine to_getR (q := 86) (b := 7) (k0 := 2) (C := RX2) (T := TX2) (N := 14) (j := 8) rfl fx_X2_24 (tk_get c_3 (by decide)) rfl rfl dX2_init_83 rfl ?_
  refine to_alen (q := 87) (v := (4 : Int32)) (tk_get c_7 (by decide)) (by decide) (by decide) dX2_init_86 rfl ?_
  refine to_icT (q := 109) (op := .ge) (show (4 : Int32) ≤ 4 by decide) dX2_init_87 rfl ?_
  refine to_iconst (q := 110) (v := (0 : Int32)) (by decide) dX2_init_109 rfl ?_
  refine to_istore_n (q := 111) [(1, .int (0 : Int32)), (0, .ref 3)] rfl (by decide) dX2_init_110 rfl ?_
  refine to_iload_n (q := 112) rfl dX2_init_111 rfl ?_
  refine to_aload_n (q := 113) rfl (by decide) dX2_init_112 rfl ?_
  refine to_getR (q := 116) (b := 8) (k0 := 2) (C := RX2) (T := TX2) (N := 14) (j := 10) rfl fx_X2_27 (tk_get c_3 (by decide)) rfl rfl dX2_init_113 rfl ?_
  refine to_alen (q := 117) (v := (6 : Int32)) (tk_get c_8 (by decide)) (by decide) (by decide) dX2_init_116 rfl ?_
  refine to_icF (q := 120) (op := .ge) 139 (show ¬ (6 : Int32) ≤ 0 by decide) dX2_init_117 rfl rfl ?_
  refine to_aload_n (q := 121) rfl (by decide) dX2_init_120 rfl ?_
  refine to_getR (q := 124) (b := 8) (k0 := 2) (C := RX2) (T := TX2) (N := 14) (j := 10) rfl fx_X2_27 (tk_get c_3 (by decide)) rfl rfl dX2_init_121 rfl ?_
  refine to_iload_n (q := 125) rfl dX2_init_124 rfl ?_
  refine tc_new (q := 128) (n := 30) (n1 := 31) (k0 := 8) (C := RX8) (T := TX8) (N := 5) c_30 rfl rfl ⟨cl_X2_18, ins_X8, ini_X8⟩ dX2_init_125 rfl ?_
  refine to_dup (q := 129) rfl dX2_init_128 rfl ?_
  refine to_init (q := 132) (S1 := tk 32) mX8_init [] dX2_init_129 rfl rfl (by decide) (Nat.le_of_ble_eq_true rfl) mo_X8_init ⟨rfl, rfl⟩ (Or.inr (by decide)) im_X8_init (Call_mono (by decide) ((kc_X8 (a := 30) (by decide) c_30 c_31))) ?_
  refine tc_aast (q := 133) 0 (by decide) (tk_get c_8 (by decide)) (by decide) (by decide) (tk_get c_30 (by decide)) dX2_init_132 rfl ?_
  refine to_iinc (q := 136) (v := (1 : Int32)) rfl (by decide) [(1, .int (1 : Int32)), (0, .ref 3)] rfl (by decide) dX2_init_133 rfl ?_
  refine to_goto (q := 111) dX2_init_136 rfl ?_
  refine to_iload_n (q := 112) rfl dX2_init_111 rfl ?_
  refine to_aload_n (q := 113) rfl (by decide) dX2_init_112 rfl ?_
  refine to_getR (q := 116) (b := 8) (k0 := 2) (C := RX2) (T := TX2) (N := 14) (j := 10) rfl fx_X2_27 (tk_get c_3 (by decide)) rfl rfl dX2_init_113 rfl ?_
  refine to_alen (q := 117) (v := (6 : Int32)) (tk_get c_8 (by decide)) (by decide) (by decide) dX2_init_116 rfl ?_
  refine to_icF (q := 120) (op := .ge) 139 (show ¬ (6 : Int32) ≤ 1 by decide) dX2_init_117 rfl rfl ?_
  refine to_aload_n (q := 121) rfl (by decide) dX2_init_120 rfl ?_
  refine to_getR (q := 124) (b := 8) (k0 := 2) (C := RX2) (T := TX2) (N := 14) (j := 10) rfl fx_X2_27 (tk_get c_3 (by decide)) rfl rfl dX2_init_121 rfl ?_
  refine to_iload_n (q := 125) rfl dX2_init_124 rfl ?_
  refine tc_new (q := 128) (n := 32) (n1 := 33) (k0 := 8) (C := RX8) (T := TX8) (N := 5) c_32 rfl rfl ⟨cl_X2_18, ins_X8, ini_X8⟩ dX2_init_125 rfl ?_
  refine to_dup (q := 129) rfl dX2_init_128 rfl ?_
  refine to_init (q := 132) (S1 := tk 34) mX8_init [] dX2_init_129 rfl rfl (by decide) (Nat.le_of_ble_eq_true rfl) mo_X8_init ⟨rfl, rfl⟩ (Or.inr (by decide)) im_X8_init (Call_mono (by decide) ((kc_X8 (a := 32) (by decide) c_32 c_33))) ?_
  refine tc_aast (q := 133) 1 (by decide) (tk_get c_8 (by decide)) (by decide) (by decide) (tk_get c_32 (by decide)) dX2_init_132 rfl ?_
  refine to_iinc (q := 136) (v := (2 : Int32)) rfl (by decide) [(1, .int (2 : Int32)), (0, .ref 3)] rfl (by decide) dX2_init_133 rfl ?_
  refine to_goto (q := 111) dX2_init_136 rfl ?_
  refine to_iload_n (q := 112) rfl dX2_init_111 rfl ?_
  refine to_aload_n (q := 113) rfl (by decide) dX2_init_112 rfl ?_
  refine to_getR (q := 116) (b := 8) (k0 := 2) (C := RX2) (T := TX2) (N := 14) (j := 10) rfl fx_X2_27 (tk_get c_3 (by decide)) rfl rfl dX2_init_113 rfl ?_
  refine to_alen (q := 117) (v := (6 : Int32)) (tk_get c_8 (by decide)) (by decide) (by decide) dX2_init_116 rfl ?_
  refine to_icF (q := 120) (op := .ge) 139 (show ¬ (6 : Int32) ≤ 2 by decide) dX2_init_117 rfl rfl ?_
  refine to_aload_n (q := 121) rfl (by decide) dX2_init_120 rfl ?_
  refine to_getR (q := 124) (b := 8) (k0 := 2) (C := RX2) (T := TX2) (N := 14) (j := 10) rfl fx_X2_27 (tk_get c_3 (by decide)) rfl rfl dX2_init_121 rfl ?_
  refine to_iload_n (q := 125) rfl dX2_init_124 rfl ?_
  refine tc_new (q := 128) (n := 34) (n1 := 35) (k0 := 8) (C := RX8) (T := TX8) (N := 5) c_34 rfl rfl ⟨cl_X2_18, ins_X8, ini_X8⟩ dX2_init_125 rfl ?_
  refine to_dup (q := 129) rfl dX2_init_128 rfl ?_
  refine to_init (q := 132) (S1 := tk 36) mX8_init [] dX2_init_129 rfl rfl (by decide) (Nat.le_of_ble_eq_true rfl) mo_X8_init ⟨rfl, rfl⟩ (Or.inr (by decide)) im_X8_init (Call_mono (by decide) ((kc_X8 (a := 34) (by decide) c_34 c_35))) ?_
  refine tc_aast (q := 133) 2 (by decide) (tk_get c_8 (by decide)) (by decide) (by decide) (tk_get c_34 (by decide)) dX2_init_132 rfl ?_
  refine to_iinc (q := 136) (v := (3 : Int32)) rfl (by decide) [(1, .int (3 : Int32)), (0, .ref 3)] rfl (by decide) dX2_init_133 rfl ?_
  refine to_goto (q := 111) dX2_init_136 rfl ?_
  refine to_iload_n (q := 112) rfl dX2_init_111 rfl ?_
  refine to_aload_n (q := 113) rfl (by decide) dX2_init_112 rfl ?_
  refine to_getR (q := 116) (b := 8) (k0 := 2) (C := RX2) (T := TX2) (N := 14) (j := 10) rfl fx_X2_27 (tk_get c_3 (by decide)) rfl rfl dX2_init_113 rfl ?_
  refine to_alen (q := 117) (v := (6 : Int32)) (tk_get c_8 (by decide)) (by decide) (by decide) dX2_init_116 rfl ?_
  refine to_icF (q := 120) (op := .ge) 139 (show ¬ (6 : Int32) ≤ 3 by decide) dX2_init_117 rfl rfl ?_
  refine to_aload_n (q := 121) rfl (by decide) dX2_init_120 rfl ?_
  refine to_getR (q := 124) (b := 8) (k0 := 2) (C := RX2) (T := TX2) (N := 14) (j := 10) rfl fx_X2_27 (tk_get c_3 (by decide)) rfl rfl dX2_init_121 rfl ?_
  refine to_iload_n (q := 125) rfl dX2_init_124 rfl ?_
  refine tc_new (q := 128) (n := 36) (n1 := 37) (k0 := 8) (C := RX8) (T := TX8) (N := 5) c_36 rfl rfl ⟨cl_X2_18, ins_X8, ini_X8⟩ dX2_init_125 rfl ?_
  refine to_dup (q := 129) rfl dX2_init_128 rfl ?_
  refine to_init (q := 132) (S1 := tk 38) mX8_init [] dX2_init_129 rfl rfl (by decide) (Nat.le_of_ble_eq_true rfl) mo_X8_init ⟨rfl, rfl⟩ (Or.inr (by decide)) im_X8_init (Call_mono (by decide) ((kc_X8 (a := 36) (by decide) c_36 c_37))) ?_
  refine tc_aast (q := 133) 3 (by decide) (tk_get c_8 (by decide)) (by decide) (by decide) (tk_get c_36 (by decide)) dX2_init_132 rfl ?_
  refine to_iinc (q := 136) (v := (4 : Int32)) rfl (by decide) [(1, .int (4 : Int32)), (0, .ref 3)] rfl (by decide) dX2_init_133 rfl ?_
  refine to_goto (q := 111) dX2_init_136 rfl ?_
  refine to_iload_n (q := 112) rfl dX2_init_111 rfl ?_
  refine to_aload_n (q := 113) rfl (by decide) dX2_init_112 rfl ?_
  refine to_getR (q := 116) (b := 8) (k0 := 2) (C := RX2) (T := TX2) (N := 14) (j := 10) rfl fx_X2_27 (tk_get c_3 (by decide)) rfl rfl dX2_init_113 rfl ?_
  refine to_alen (q := 117) (v := (6 : Int32)) (tk_get c_8 (by decide)) (by decide) (by decide) dX2_init_116 rfl ?_
  refine to_icF (q := 120) (op := .ge) 139 (show ¬ (6 : Int32) ≤ 4 by decide) dX2_init_117 rfl rfl ?_
  refine to_aload_n (q := 121) rfl (by decide) dX2_init_120 rfl ?_
  refine to_getR (q := 124) (b := 8) (k0 := 2) (C := RX2) (T := TX2) (N := 14) (j := 10) rfl fx_X2_27 (tk_get c_3 (by decide)) rfl rfl dX2_init_121 rfl ?_
  refine to_iload_n (q := 125) rfl dX2_init_124 rfl ?_
  refine tc_new (q := 128) (n := 38) (n1 := 39) (k0 := 8) (C := RX8) (T := TX8) (N := 5) c_38 rfl rfl ⟨cl_X2_18, ins_X8, ini_X8⟩ dX2_init_125 rfl ?_
  refine to_dup (q := 129) rfl dX2_init_128 rfl ?_
  refine to_init (q := 132) (S1 := tk 40) mX8_init [] dX2_init_129 rfl rfl (by decide) (Nat.le_of_ble_eq_true rfl) mo_X8_init ⟨rfl, rfl⟩ (Or.inr (by decide)) im_X8_init (Call_mono (by decide) ((kc_X8 (a := 38) (by decide) c_38 c_39))) ?_
  refine tc_aast (q := 133) 4 (by decide) (tk_get c_8 (by decide)) (by decide) (by decide) (tk_get c_38 (by decide)) dX2_init_132 rfl ?_
  refine to_iinc (q := 136) (v := (5 : Int32)) rfl (by decide) [(1, .int (5 : Int32)), (0, .ref 3)] rfl (by decide) dX2_init_133 rfl ?_
  refine to_goto (q := 111) dX2_init_136 rfl ?_
  refine to_iload_n (q := 112) rfl dX2_init_111 rfl ?_
  refine to_aload_n (q := 113) rfl (by decide) dX2_init_112 rfl ?_
  refine to_getR (q := 116) (b := 8) (k0 := 2) (C := RX2) (T := TX2) (N := 14) (j := 10) rfl fx_X2_27 (tk_get c_3 (by decide)) rfl rfl dX2_init_113 rfl ?_
  refine to_alen (q := 117) (v := (6 : Int32)) (tk_get c_8 (by decide)) (by decide) (by decide) dX2_init_116 rfl ?_
  refine to_icF (q := 120) (op := .ge) 139 (show ¬ (6 : Int32) ≤ 5 by decide) dX2_init_117 rfl rfl ?_
  refine to_aload_n (q := 121) rfl (by decide) dX2_init_120 rfl ?_
  refine to_getR (q := 124) (b := 8) (k0 := 2) (C := RX2) (T := TX2) (N := 14) (j := 10) rfl fx_X2_27 (tk_get c_3 (by decide)) rfl rfl dX2_init_121 rfl ?_
  refine to_iload_n (q := 125) rfl dX2_init_124 rfl ?_
  refine tc_new (q := 128) (n := 40) (n1 := 41) (k0 := 8) (C := RX8) (T := TX8) (N := 5) c_40 rfl rfl ⟨cl_X2_18, ins_X8, ini_X8⟩ dX2_init_125 rfl ?_
  refine to_dup (q := 129) rfl dX2_init_128 rfl ?_
  refine to_init (q := 132) (S1 := tk 42) mX8_init [] dX2_init_129 rfl rfl (by decide) (Nat.le_of_ble_eq_true rfl) mo_X8_init ⟨rfl, rfl⟩ (Or.inr (by decide)) im_X8_init (Call_mono (by decide) ((kc_X8 (a := 40) (by decide) c_40 c_41))) ?_
  refine tc_aast (q := 133) 5 (by decide) (tk_get c_8 (by decide)) (by decide) (by decide) (tk_get c_40 (by decide)) dX2_init_132 rfl ?_
  refine to_iinc (q := 136) (v := (6 : Int32)) rfl (by decide) [(1, .int (6 : Int32)), (0, .ref 3)] rfl (by decide) dX2_init_133 rfl ?_
  refine to_goto (q := 111) dX2_init_136 rfl ?_
  refine to_iload_n (q := 112) rfl dX2_init_111 rfl ?_
  refine to_aload_n (q := 113) rfl (by decide) dX2_init_112 rfl ?_
  refine to_getR (q := 116) (b := 8) (k0 := 2) (C := RX2) (T := TX2) (N := 14) (j := 10) rfl fx_X2_27 (tk_get c_3 (by decide)) rfl rfl dX2_init_113 rfl ?_
  refine to_alen (q := 117) (v := (6 : Int32)) (tk_get c_8 (by decide)) (by decide) (by decide) dX2_init_116 rfl ?_
  refine to_icT (q := 139) (op := .ge) (show (6 : Int32) ≤ 6 by decide) dX2_init_117 rfl ?_
  exact to_vret dX2_init_139 rfl rfl rfl trivial
def MX2_42 (m : Me) : Me := (setR (MX8 79 (zer (setR (MX8 77 (zer (setR (MX8 75 (zer (setR (MX8 73 (zer (setR (MX8 71 (zer (setR (MX8 69 (zer (setR (MX8 67 (zer (setR (MX8 65 (zer (setR (MX8 63 (zer (setR (MX8 61 (zer (setR (MX8 59 (zer (setR (MX8 57 (zer (setR (MX8 55 (zer (setR (MX8 53 (zer (setR (MX8 51 (zer (setR (MX8 49 (zer (setR (zer (setR (zer (setR (zer (setR (zer (setR (MX5 43 (zer m 43)) 42 5 (some 43)) 45) 42 6 (some 45)) 46) 42 8 (some 46)) 47) 42 10 (some 47)) 48) 42 12 (some 48)) 49)) 45 0 (some 49)) 51)) 45 1 (some 51)) 53)) 45 2 (some 53)) 55)) 45 3 (some 55)) 57)) 45 4 (some 57)) 59)) 45 5 (some 59)) 61)) 46 0 (some 61)) 63)) 46 1 (some 63)) 65)) 46 2 (some 65)) 67)) 46 3 (some 67)) 69)) 47 0 (some 69)) 71)) 47 1 (some 71)) 73)) 47 2 (some 73)) 75)) 47 3 (some 75)) 77)) 47 4 (some 77)) 79)) 47 5 (some 79))
set_option maxRecDepth 20000 in
theorem kc_X2_42 (m : Me) : Call 2 mX2_init [.ref 42] (tk 43, m) none (tk 81, MX2_42 m) := by
  refine (call_of (P := fun _ => True) (Nat.le_of_ble_eq_true rfl) (by simp [Value.category]) ?_).1
  show TT _ (Call 1) mX2_init (0, [(0, .ref 42)], [], tk 43, m) _ _
  refine to_aload_n (q := 1) rfl (by decide) dX2_init_0 rfl ?_
  refine to_obj (q := 4) dX2_init_1 rfl (by decide) (Nat.le_of_ble_eq_true rfl) ⟨ml_X2_3, im_obj, cd_obj⟩ ?_
  refine to_aload_n (q := 5) rfl (by decide) dX2_init_4 rfl ?_
  refine tc_new (q := 8) (n := 43) (n1 := 44) (k0 := 5) (C := RX5) (T := TX5) (N := 3) c_43 rfl rfl ⟨cl_X2_9, ins_X5, ini_X5⟩ dX2_init_5 rfl ?_
  refine to_dup (q := 9) rfl dX2_init_8 rfl ?_
  refine to_init (q := 12) (S1 := tk 45) mX5_init [] dX2_init_9 rfl rfl (by decide) (Nat.le_of_ble_eq_true rfl) mo_X5_init ⟨rfl, rfl⟩ (Or.inr (by decide)) im_X5_init (Call_mono (by decide) ((kc_X5 (a := 43) (by decide) c_43 c_44))) ?_
  refine to_putR (q := 15) (ty := .object "FanParts$Painting") (k0 := 2) (C := RX2) (T := TX2) (N := 14) (j := 5) rfl fx_X2_12 (tk_get c_42 (by decide)) (tk_len c_43 (by decide)) rfl cD_oX5 (Or.inr ⟨rfl, rfl⟩) (fun _ => ⟨rfl, rfl⟩) dX2_init_12 rfl ?_
  refine to_aload_n (q := 16) rfl (by decide) dX2_init_15 rfl ?_
  refine to_bipush (q := 18) (v := (6 : Int32)) (by decide) dX2_init_16 rfl ?_
  refine tc_anew (q := 21) (n := 45) (n1 := 46) c_45 rfl (by decide) (by decide) (by decide) rfl cl_X2_18 dX2_init_18 rfl ?_
  refine to_putR (q := 24) (ty := .array (.object "FanParts$Saying")) (k0 := 2) (C := RX2) (T := TX2) (N := 14) (j := 6) rfl fx_X2_20 (tk_get c_42 (by decide)) (tk_len c_45 (by decide)) rfl cD_aX8 (Or.inr ⟨rfl, rfl⟩) (fun _ => ⟨rfl, rfl⟩) dX2_init_21 rfl ?_
  refine to_aload_n (q := 25) rfl (by decide) dX2_init_24 rfl ?_
  refine to_iconst (q := 26) (v := (4 : Int32)) (by decide) dX2_init_25 rfl ?_
  refine tc_anew (q := 29) (n := 46) (n1 := 47) c_46 rfl (by decide) (by decide) (by decide) rfl cl_X2_18 dX2_init_26 rfl ?_
  refine to_putR (q := 32) (ty := .array (.object "FanParts$Saying")) (k0 := 2) (C := RX2) (T := TX2) (N := 14) (j := 8) rfl fx_X2_24 (tk_get c_42 (by decide)) (tk_len c_46 (by decide)) rfl cD_aX8 (Or.inr ⟨rfl, rfl⟩) (fun _ => ⟨rfl, rfl⟩) dX2_init_29 rfl ?_
  refine to_aload_n (q := 33) rfl (by decide) dX2_init_32 rfl ?_
  refine to_bipush (q := 35) (v := (6 : Int32)) (by decide) dX2_init_33 rfl ?_
  refine tc_anew (q := 38) (n := 47) (n1 := 48) c_47 rfl (by decide) (by decide) (by decide) rfl cl_X2_18 dX2_init_35 rfl ?_
  refine to_putR (q := 41) (ty := .array (.object "FanParts$Saying")) (k0 := 2) (C := RX2) (T := TX2) (N := 14) (j := 10) rfl fx_X2_27 (tk_get c_42 (by decide)) (tk_len c_47 (by decide)) rfl cD_aX8 (Or.inr ⟨rfl, rfl⟩) (fun _ => ⟨rfl, rfl⟩) dX2_init_38 rfl ?_
  refine to_aload_n (q := 42) rfl (by decide) dX2_init_41 rfl ?_
  refine to_bipush (q := 44) (v := (6 : Int32)) (by decide) dX2_init_42 rfl ?_
  refine tc_newa (q := 46) (ty := .int) (n := 48) (n1 := 49) c_48 rfl (by decide) (by decide) (by decide) ac_int dX2_init_44 rfl ?_
  refine to_putR (q := 49) (ty := .array .int) (k0 := 2) (C := RX2) (T := TX2) (N := 14) (j := 12) rfl fx_X2_30 (tk_get c_42 (by decide)) (tk_len c_48 (by decide)) rfl cD_aI (Or.inr ⟨rfl, rfl⟩) (fun _ => ⟨rfl, rfl⟩) dX2_init_46 rfl ?_
  refine to_iconst (q := 50) (v := (0 : Int32)) (by decide) dX2_init_49 rfl ?_
  refine to_istore_n (q := 51) [(1, .int (0 : Int32)), (0, .ref 42)] rfl (by decide) dX2_init_50 rfl ?_
  refine to_iload_n (q := 52) rfl dX2_init_51 rfl ?_
  refine to_aload_n (q := 53) rfl (by decide) dX2_init_52 rfl ?_
  refine to_getR (q := 56) (b := 45) (k0 := 2) (C := RX2) (T := TX2) (N := 14) (j := 6) rfl fx_X2_20 (tk_get c_42 (by decide)) rfl rfl dX2_init_53 rfl ?_
  refine to_alen (q := 57) (v := (6 : Int32)) (tk_get c_45 (by decide)) (by decide) (by decide) dX2_init_56 rfl ?_
  refine to_icF (q := 60) (op := .ge) 79 (show ¬ (6 : Int32) ≤ 0 by decide) dX2_init_57 rfl rfl ?_
  refine to_aload_n (q := 61) rfl (by decide) dX2_init_60 rfl ?_
  refine to_getR (q := 64) (b := 45) (k0 := 2) (C := RX2) (T := TX2) (N := 14) (j := 6) rfl fx_X2_20 (tk_get c_42 (by decide)) rfl rfl dX2_init_61 rfl ?_
  refine to_iload_n (q := 65) rfl dX2_init_64 rfl ?_
  refine tc_new (q := 68) (n := 49) (n1 := 50) (k0 := 8) (C := RX8) (T := TX8) (N := 5) c_49 rfl rfl ⟨cl_X2_18, ins_X8, ini_X8⟩ dX2_init_65 rfl ?_
  refine to_dup (q := 69) rfl dX2_init_68 rfl ?_
  refine to_init (q := 72) (S1 := tk 51) mX8_init [] dX2_init_69 rfl rfl (by decide) (Nat.le_of_ble_eq_true rfl) mo_X8_init ⟨rfl, rfl⟩ (Or.inr (by decide)) im_X8_init (Call_mono (by decide) ((kc_X8 (a := 49) (by decide) c_49 c_50))) ?_
  refine tc_aast (q := 73) 0 (by decide) (tk_get c_45 (by decide)) (by decide) (by decide) (tk_get c_49 (by decide)) dX2_init_72 rfl ?_
  refine to_iinc (q := 76) (v := (1 : Int32)) rfl (by decide) [(1, .int (1 : Int32)), (0, .ref 42)] rfl (by decide) dX2_init_73 rfl ?_
  refine to_goto (q := 51) dX2_init_76 rfl ?_
  refine to_iload_n (q := 52) rfl dX2_init_51 rfl ?_
  refine to_aload_n (q := 53) rfl (by decide) dX2_init_52 rfl ?_
  refine to_getR (q := 56) (b := 45) (k0 := 2) (C := RX2) (T := TX2) (N := 14) (j := 6) rfl fx_X2_20 (tk_get c_42 (by decide)) rfl rfl dX2_init_53 rfl ?_
  refine to_alen (q := 57) (v := (6 : Int32)) (tk_get c_45 (by decide)) (by decide) (by decide) dX2_init_56 rfl ?_
  refine to_icF (q := 60) (op := .ge) 79 (show ¬ (6 : Int32) ≤ 1 by decide) dX2_init_57 rfl rfl ?_
  refine to_aload_n (q := 61) rfl (by decide) dX2_init_60 rfl ?_
  refine to_getR (q := 64) (b := 45) (k0 := 2) (C := RX2) (T := TX2) (N := 14) (j := 6) rfl fx_X2_20 (tk_get c_42 (by decide)) rfl rfl dX2_init_61 rfl ?_
  refine to_iload_n (q := 65) rfl dX2_init_64 rfl ?_
  refine tc_new (q := 68) (n := 51) (n1 := 52) (k0 := 8) (C := RX8) (T := TX8) (N := 5) c_51 rfl rfl ⟨cl_X2_18, ins_X8, ini_X8⟩ dX2_init_65 rfl ?_
  refine to_dup (q := 69) rfl dX2_init_68 rfl ?_
  refine to_init (q := 72) (S1 := tk 53) mX8_init [] dX2_init_69 rfl rfl (by decide) (Nat.le_of_ble_eq_true rfl) mo_X8_init ⟨rfl, rfl⟩ (Or.inr (by decide)) im_X8_init (Call_mono (by decide) ((kc_X8 (a := 51) (by decide) c_51 c_52))) ?_
  refine tc_aast (q := 73) 1 (by decide) (tk_get c_45 (by decide)) (by decide) (by decide) (tk_get c_51 (by decide)) dX2_init_72 rfl ?_
  refine to_iinc (q := 76) (v := (2 : Int32)) rfl (by decide) [(1, .int (2 : Int32)), (0, .ref 42)] rfl (by decide) dX2_init_73 rfl ?_
  refine to_goto (q := 51) dX2_init_76 rfl ?_
  refine to_iload_n (q := 52) rfl dX2_init_51 rfl ?_
  refine to_aload_n (q := 53) rfl (by decide) dX2_init_52 rfl ?_
  refine to_getR (q := 56) (b := 45) (k0 := 2) (C := RX2) (T := TX2) (N := 14) (j := 6) rfl fx_X2_20 (tk_get c_42 (by decide)) rfl rfl dX2_init_53 rfl ?_
  refine to_alen (q := 57) (v := (6 : Int32)) (tk_get c_45 (by decide)) (by decide) (by decide) dX2_init_56 rfl ?_
  refine to_icF (q := 60) (op := .ge) 79 (show ¬ (6 : Int32) ≤ 2 by decide) dX2_init_57 rfl rfl ?_
  refine to_aload_n (q := 61) rfl (by decide) dX2_init_60 rfl ?_
  refine to_getR (q := 64) (b := 45) (k0 := 2) (C := RX2) (T := TX2) (N := 14) (j := 6) rfl fx_X2_20 (tk_get c_42 (by decide)) rfl rfl dX2_init_61 rfl ?_
  refine to_iload_n (q := 65) rfl dX2_init_64 rfl ?_
  refine tc_new (q := 68) (n := 53) (n1 := 54) (k0 := 8) (C := RX8) (T := TX8) (N := 5) c_53 rfl rfl ⟨cl_X2_18, ins_X8, ini_X8⟩ dX2_init_65 rfl ?_
  refine to_dup (q := 69) rfl dX2_init_68 rfl ?_
  refine to_init (q := 72) (S1 := tk 55) mX8_init [] dX2_init_69 rfl rfl (by decide) (Nat.le_of_ble_eq_true rfl) mo_X8_init ⟨rfl, rfl⟩ (Or.inr (by decide)) im_X8_init (Call_mono (by decide) ((kc_X8 (a := 53) (by decide) c_53 c_54))) ?_
  refine tc_aast (q := 73) 2 (by decide) (tk_get c_45 (by decide)) (by decide) (by decide) (tk_get c_53 (by decide)) dX2_init_72 rfl ?_
  refine to_iinc (q := 76) (v := (3 : Int32)) rfl (by decide) [(1, .int (3 : Int32)), (0, .ref 42)] rfl (by decide) dX2_init_73 rfl ?_
  refine to_goto (q := 51) dX2_init_76 rfl ?_
  refine to_iload_n (q := 52) rfl dX2_init_51 rfl ?_
  refine to_aload_n (q := 53) rfl (by decide) dX2_init_52 rfl ?_
  refine to_getR (q := 56) (b := 45) (k0 := 2) (C := RX2) (T := TX2) (N := 14) (j := 6) rfl fx_X2_20 (tk_get c_42 (by decide)) rfl rfl dX2_init_53 rfl ?_
  refine to_alen (q := 57) (v := (6 : Int32)) (tk_get c_45 (by decide)) (by decide) (by decide) dX2_init_56 rfl ?_
  refine to_icF (q := 60) (op := .ge) 79 (show ¬ (6 : Int32) ≤ 3 by decide) dX2_init_57 rfl rfl ?_
  refine to_aload_n (q := 61) rfl (by decide) dX2_init_60 rfl ?_
  refine to_getR (q := 64) (b := 45) (k0 := 2) (C := RX2) (T := TX2) (N := 14) (j := 6) rfl fx_X2_20 (tk_get c_42 (by decide)) rfl rfl dX2_init_61 rfl ?_
  refine to_iload_n (q := 65) rfl dX2_init_64 rfl ?_
  refine tc_new (q := 68) (n := 55) (n1 := 56) (k0 := 8) (C := RX8) (T := TX8) (N := 5) c_55 rfl rfl ⟨cl_X2_18, ins_X8, ini_X8⟩ dX2_init_65 rfl ?_
  refine to_dup (q := 69) rfl dX2_init_68 rfl ?_
  refine to_init (q := 72) (S1 := tk 57) mX8_init [] dX2_init_69 rfl rfl (by decide) (Nat.le_of_ble_eq_true rfl) mo_X8_init ⟨rfl, rfl⟩ (Or.inr (by decide)) im_X8_init (Call_mono (by decide) ((kc_X8 (a := 55) (by decide) c_55 c_56))) ?_
  refine tc_aast (q := 73) 3 (by decide) (tk_get c_45 (by decide)) (by decide) (by decide) (tk_get c_55 (by decide)) dX2_init_72 rfl ?_
  refine to_iinc (q := 76) (v := (4 : Int32)) rfl (by decide) [(1, .int (4 : Int32)), (0, .ref 42)] rfl (by decide) dX2_init_73 rfl ?_
  refine to_goto (q := 51) dX2_init_76 rfl ?_
  refine to_iload_n (q := 52) rfl dX2_init_51 rfl ?_
  refine to_aload_n (q := 53) rfl (by decide) dX2_init_52 rfl ?_
  refine to_getR (q := 56) (b := 45) (k0 := 2) (C := RX2) (T := TX2) (N := 14) (j := 6) rfl fx_X2_20 (tk_get c_42 (by decide)) rfl rfl dX2_init_53 rfl ?_
  refine to_alen (q := 57) (v := (6 : Int32)) (tk_get c_45 (by decide)) (by decide) (by decide) dX2_init_56 rfl ?_
  refine to_icF (q := 60) (op := .ge) 79 (show ¬ (6 : Int32) ≤ 4 by decide) dX2_init_57 rfl rfl ?_
  refine to_aload_n (q := 61) rfl (by decide) dX2_init_60 rfl ?_
  refine to_getR (q := 64) (b := 45) (k0 := 2) (C := RX2) (T := TX2) (N := 14) (j := 6) rfl fx_X2_20 (tk_get c_42 (by decide)) rfl rfl dX2_init_61 rfl ?_
  refine to_iload_n (q := 65) rfl dX2_init_64 rfl ?_
  refine tc_new (q := 68) (n := 57) (n1 := 58) (k0 := 8) (C := RX8) (T := TX8) (N := 5) c_57 rfl rfl ⟨cl_X2_18, ins_X8, ini_X8⟩ dX2_init_65 rfl ?_
  refine to_dup (q := 69) rfl dX2_init_68 rfl ?_
  refine to_init (q := 72) (S1 := tk 59) mX8_init [] dX2_init_69 rfl rfl (by decide) (Nat.le_of_ble_eq_true rfl) mo_X8_init ⟨rfl, rfl⟩ (Or.inr (by decide)) im_X8_init (Call_mono (by decide) ((kc_X8 (a := 57) (by decide) c_57 c_58))) ?_
  refine tc_aast (q := 73) 4 (by decide) (tk_get c_45 (by decide)) (by decide) (by decide) (tk_get c_57 (by decide)) dX2_init_72 rfl ?_
  refine to_iinc (q := 76) (v := (5 : Int32)) rfl (by decide) [(1, .int (5 : Int32)), (0, .ref 42)] rfl (by decide) dX2_init_73 rfl ?_
  refine to_goto (q := 51) dX2_init_76 rfl ?_
  refine to_iload_n (q := 52) rfl dX2_init_51 rfl ?_
  refine to_aload_n (q := 53) rfl (by decide) dX2_init_52 rfl ?_
  refine to_getR (q := 56) (b := 45) (k0 := 2) (C := RX2) (T := TX2) (N := 14) (j := 6) rfl fx_X2_20 (tk_get c_42 (by decide)) rfl rfl dX2_init_53 rfl ?_
  refine to_alen (q := 57) (v := (6 : Int32)) (tk_get c_45 (by decide)) (by decide) (by decide) dX2_init_56 rfl ?_
  refine to_icF (q := 60) (op := .ge) 79 (show ¬ (6 : Int32) ≤ 5 by decide) dX2_init_57 rfl rfl ?_
  refine to_aload_n (q := 61) rfl (by decide) dX2_init_60 rfl ?_
  refine to_getR (q := 64) (b := 45) (k0 := 2) (C := RX2) (T := TX2) (N := 14) (j := 6) rfl fx_X2_20 (tk_get c_42 (by decide)) rfl rfl dX2_init_61 rfl ?_
  refine to_iload_n (q := 65) rfl dX2_init_64 rfl ?_
  refine tc_new (q := 68) (n := 59) (n1 := 60) (k0 := 8) (C := RX8) (T := TX8) (N := 5) c_59 rfl rfl ⟨cl_X2_18, ins_X8, ini_X8⟩ dX2_init_65 rfl ?_
  refine to_dup (q := 69) rfl dX2_init_68 rfl ?_
  refine to_init (q := 72) (S1 := tk 61) mX8_init [] dX2_init_69 rfl rfl (by decide) (Nat.le_of_ble_eq_true rfl) mo_X8_init ⟨rfl, rfl⟩ (Or.inr (by decide)) im_X8_init (Call_mono (by decide) ((kc_X8 (a := 59) (by decide) c_59 c_60))) ?_
  refine tc_aast (q := 73) 5 (by decide) (tk_get c_45 (by decide)) (by decide) (by decide) (tk_get c_59 (by decide)) dX2_init_72 rfl ?_
  refine to_iinc (q := 76) (v := (6 : Int32)) rfl (by decide) [(1, .int (6 : Int32)), (0, .ref 42)] rfl (by decide) dX2_init_73 rfl ?_
  refine to_goto (q := 51) dX2_init_76 rfl ?_
  refine to_iload_n (q := 52) rfl dX2_init_51 rfl ?_
  refine to_aload_n (q := 53) rfl (by decide) dX2_init_52 rfl ?_
  refine to_getR (q := 56) (b := 45) (k0 := 2) (C := RX2) (T := TX2) (N := 14) (j := 6) rfl fx_X2_20 (tk_get c_42 (by decide)) rfl rfl dX2_init_53 rfl ?_
  refine to_alen (q := 57) (v := (6 : Int32)) (tk_get c_45 (by decide)) (by decide) (by decide) dX2_init_56 rfl ?_
  refine to_icT (q := 79) (op := .ge) (show (6 : Int32) ≤ 6 by decide) dX2_init_57 rfl ?_
  refine to_iconst (q := 80) (v := (0 : Int32)) (by decide) dX2_init_79 rfl ?_
  refine to_istore_n (q := 81) [(1, .int (0 : Int32)), (0, .ref 42)] rfl (by decide) dX2_init_80 rfl ?_
  refine to_iload_n (q := 82) rfl dX2_init_81 rfl ?_
  refine to_aload_n (q := 83) rfl (by decide) dX2_init_82 rfl ?_
  refine to_getR (q := 86) (b := 46) (k0 := 2) (C := RX2) (T := TX2) (N := 14) (j := 8) rfl fx_X2_24 (tk_get c_42 (by decide)) rfl rfl dX2_init_83 rfl ?_
  refine to_alen (q := 87) (v := (4 : Int32)) (tk_get c_46 (by decide)) (by decide) (by decide) dX2_init_86 rfl ?_
  refine to_icF (q := 90) (op := .ge) 109 (show ¬ (4 : Int32) ≤ 0 by decide) dX2_init_87 rfl rfl ?_
  refine to_aload_n (q := 91) rfl (by decide) dX2_init_90 rfl ?_
  refine to_getR (q := 94) (b := 46) (k0 := 2) (C := RX2) (T := TX2) (N := 14) (j := 8) rfl fx_X2_24 (tk_get c_42 (by decide)) rfl rfl dX2_init_91 rfl ?_
  refine to_iload_n (q := 95) rfl dX2_init_94 rfl ?_
  refine tc_new (q := 98) (n := 61) (n1 := 62) (k0 := 8) (C := RX8) (T := TX8) (N := 5) c_61 rfl rfl ⟨cl_X2_18, ins_X8, ini_X8⟩ dX2_init_95 rfl ?_
  refine to_dup (q := 99) rfl dX2_init_98 rfl ?_
  refine to_init (q := 102) (S1 := tk 63) mX8_init [] dX2_init_99 rfl rfl (by decide) (Nat.le_of_ble_eq_true rfl) mo_X8_init ⟨rfl, rfl⟩ (Or.inr (by decide)) im_X8_init (Call_mono (by decide) ((kc_X8 (a := 61) (by decide) c_61 c_62))) ?_
  refine tc_aast (q := 103) 0 (by decide) (tk_get c_46 (by decide)) (by decide) (by decide) (tk_get c_61 (by decide)) dX2_init_102 rfl ?_
  refine to_iinc (q := 106) (v := (1 : Int32)) rfl (by decide) [(1, .int (1 : Int32)), (0, .ref 42)] rfl (by decide) dX2_init_103 rfl ?_
  refine to_goto (q := 81) dX2_init_106 rfl ?_
  refine to_iload_n (q := 82) rfl dX2_init_81 rfl ?_
  refine to_aload_n (q := 83) rfl (by decide) dX2_init_82 rfl ?_
  refine to_getR (q := 86) (b := 46) (k0 := 2) (C := RX2) (T := TX2) (N := 14) (j := 8) rfl fx_X2_24 (tk_get c_42 (by decide)) rfl rfl dX2_init_83 rfl ?_
  refine to_alen (q := 87) (v := (4 : Int32)) (tk_get c_46 (by decide)) (by decide) (by decide) dX2_init_86 rfl ?_
  refine to_icF (q := 90) (op := .ge) 109 (show ¬ (4 : Int32) ≤ 1 by decide) dX2_init_87 rfl rfl ?_
  refine to_aload_n (q := 91) rfl (by decide) dX2_init_90 rfl ?_
  refine to_getR (q := 94) (b := 46) (k0 := 2) (C := RX2) (T := TX2) (N := 14) (j := 8) rfl fx_X2_24 (tk_get c_42 (by decide)) rfl rfl dX2_init_91 rfl ?_
  refine to_iload_n (q := 95) rfl dX2_init_94 rfl ?_
  refine tc_new (q := 98) (n := 63) (n1 := 64) (k0 := 8) (C := RX8) (T := TX8) (N := 5) c_63 rfl rfl ⟨cl_X2_18, ins_X8, ini_X8⟩ dX2_init_95 rfl ?_
  refine to_dup (q := 99) rfl dX2_init_98 rfl ?_
  refine to_init (q := 102) (S1 := tk 65) mX8_init [] dX2_init_99 rfl rfl (by decide) (Nat.le_of_ble_eq_true rfl) mo_X8_init ⟨rfl, rfl⟩ (Or.inr (by decide)) im_X8_init (Call_mono (by decide) ((kc_X8 (a := 63) (by decide) c_63 c_64))) ?_
  refine tc_aast (q := 103) 1 (by decide) (tk_get c_46 (by decide)) (by decide) (by decide) (tk_get c_63 (by decide)) dX2_init_102 rfl ?_
  refine to_iinc (q := 106) (v := (2 : Int32)) rfl (by decide) [(1, .int (2 : Int32)), (0, .ref 42)] rfl (by decide) dX2_init_103 rfl ?_
  refine to_goto (q := 81) dX2_init_106 rfl ?_
  refine to_iload_n (q := 82) rfl dX2_init_81 rfl ?_
  refine to_aload_n (q := 83) rfl (by decide) dX2_init_82 rfl ?_
  refine to_getR (q := 86) (b := 46) (k0 := 2) (C := RX2) (T := TX2) (N := 14) (j := 8) rfl fx_X2_24 (tk_get c_42 (by decide)) rfl rfl dX2_init_83 rfl ?_
  refine to_alen (q := 87) (v := (4 : Int32)) (tk_get c_46 (by decide)) (by decide) (by decide) dX2_init_86 rfl ?_
  refine to_icF (q := 90) (op := .ge) 109 (show ¬ (4 : Int32) ≤ 2 by decide) dX2_init_87 rfl rfl ?_
  refine to_aload_n (q := 91) rfl (by decide) dX2_init_90 rfl ?_
  refine to_getR (q := 94) (b := 46) (k0 := 2) (C := RX2) (T := TX2) (N := 14) (j := 8) rfl fx_X2_24 (tk_get c_42 (by decide)) rfl rfl dX2_init_91 rfl ?_
  refine to_iload_n (q := 95) rfl dX2_init_94 rfl ?_
  refine tc_new (q := 98) (n := 65) (n1 := 66) (k0 := 8) (C := RX8) (T := TX8) (N := 5) c_65 rfl rfl ⟨cl_X2_18, ins_X8, ini_X8⟩ dX2_init_95 rfl ?_
  refine to_dup (q := 99) rfl dX2_init_98 rfl ?_
  refine to_init (q := 102) (S1 := tk 67) mX8_init [] dX2_init_99 rfl rfl (by decide) (Nat.le_of_ble_eq_true rfl) mo_X8_init ⟨rfl, rfl⟩ (Or.inr (by decide)) im_X8_init (Call_mono (by decide) ((kc_X8 (a := 65) (by decide) c_65 c_66))) ?_
  refine tc_aast (q := 103) 2 (by decide) (tk_get c_46 (by decide)) (by decide) (by decide) (tk_get c_65 (by decide)) dX2_init_102 rfl ?_
  refine to_iinc (q := 106) (v := (3 : Int32)) rfl (by decide) [(1, .int (3 : Int32)), (0, .ref 42)] rfl (by decide) dX2_init_103 rfl ?_
  refine to_goto (q := 81) dX2_init_106 rfl ?_
  refine to_iload_n (q := 82) rfl dX2_init_81 rfl ?_
  refine to_aload_n (q := 83) rfl (by decide) dX2_init_82 rfl ?_
  refine to_getR (q := 86) (b := 46) (k0 := 2) (C := RX2) (T := TX2) (N := 14) (j := 8) rfl fx_X2_24 (tk_get c_42 (by decide)) rfl rfl dX2_init_83 rfl ?_
  refine to_alen (q := 87) (v := (4 : Int32)) (tk_get c_46 (by decide)) (by decide) (by decide) dX2_init_86 rfl ?_
  refine to_icF (q := 90) (op := .ge) 109 (show ¬ (4 : Int32) ≤ 3 by decide) dX2_init_87 rfl rfl ?_
  refine to_aload_n (q := 91) rfl (by decide) dX2_init_90 rfl ?_
  refine to_getR (q := 94) (b := 46) (k0 := 2) (C := RX2) (T := TX2) (N := 14) (j := 8) rfl fx_X2_24 (tk_get c_42 (by decide)) rfl rfl dX2_init_91 rfl ?_
  refine to_iload_n (q := 95) rfl dX2_init_94 rfl ?_
  refine tc_new (q := 98) (n := 67) (n1 := 68) (k0 := 8) (C := RX8) (T := TX8) (N := 5) c_67 rfl rfl ⟨cl_X2_18, ins_X8, ini_X8⟩ dX2_init_95 rfl ?_
  refine to_dup (q := 99) rfl dX2_init_98 rfl ?_
  refine to_init (q := 102) (S1 := tk 69) mX8_init [] dX2_init_99 rfl rfl (by decide) (Nat.le_of_ble_eq_true rfl) mo_X8_init ⟨rfl, rfl⟩ (Or.inr (by decide)) im_X8_init (Call_mono (by decide) ((kc_X8 (a := 67) (by decide) c_67 c_68))) ?_
  refine tc_aast (q := 103) 3 (by decide) (tk_get c_46 (by decide)) (by decide) (by decide) (tk_get c_67 (by decide)) dX2_init_102 rfl ?_
  refine to_iinc (q := 106) (v := (4 : Int32)) rfl (by decide) [(1, .int (4 : Int32)), (0, .ref 42)] rfl (by decide) dX2_init_103 rfl ?_
  refine to_goto (q := 81) dX2_init_106 rfl ?_
  refine to_iload_n (q := 82) rfl dX2_init_81 rfl ?_
  refine to_aload_n (q := 83) rfl (by decide) dX2_init_82 rfl ?_
  refine to_getR (q := 86) (b := 46) (k0 := 2) (C := RX2) (T := TX2) (N := 14) (j := 8) rfl fx_X2_24 (tk_get c_42 (by decide)) rfl rfl dX2_init_83 rfl ?_
  refine to_alen (q := 87) (v := (4 : Int32)) (tk_get c_46 (by decide)) (by decide) (by decide) dX2_init_86 rfl ?_
  refine to_icT (q := 109) (op := .ge) (show (4 : Int32) ≤ 4 by decide) dX2_init_87 rfl ?_
  refine to_iconst (q := 110) (v := (0 : Int32)) (by decide) dX2_init_109 rfl ?_
  refine to_istore_n (q := 111) [(1, .int (0 : Int32)), (0, .ref 42)] rfl (by decide) dX2_init_110 rfl ?_
  refine to_iload_n (q := 112) rfl dX2_init_111 rfl ?_
  refine to_aload_n (q := 113) rfl (by decide) dX2_init_112 rfl ?_
  refine to_getR (q := 116) (b := 47) (k0 := 2) (C := RX2) (T := TX2) (N := 14) (j := 10) rfl fx_X2_27 (tk_get c_42 (by decide)) rfl rfl dX2_init_113 rfl ?_
  refine to_alen (q := 117) (v := (6 : Int32)) (tk_get c_47 (by decide)) (by decide) (by decide) dX2_init_116 rfl ?_
  refine to_icF (q := 120) (op := .ge) 139 (show ¬ (6 : Int32) ≤ 0 by decide) dX2_init_117 rfl rfl ?_
  refine to_aload_n (q := 121) rfl (by decide) dX2_init_120 rfl ?_
  refine to_getR (q := 124) (b := 47) (k0 := 2) (C := RX2) (T := TX2) (N := 14) (j := 10) rfl fx_X2_27 (tk_get c_42 (by decide)) rfl rfl dX2_init_121 rfl ?_
  refine to_iload_n (q := 125) rfl dX2_init_124 rfl ?_
  refine tc_new (q := 128) (n := 69) (n1 := 70) (k0 := 8) (C := RX8) (T := TX8) (N := 5) c_69 rfl rfl ⟨cl_X2_18, ins_X8, ini_X8⟩ dX2_init_125 rfl ?_
  refine to_dup (q := 129) rfl dX2_init_128 rfl ?_
  refine to_init (q := 132) (S1 := tk 71) mX8_init [] dX2_init_129 rfl rfl (by decide) (Nat.le_of_ble_eq_true rfl) mo_X8_init ⟨rfl, rfl⟩ (Or.inr (by decide)) im_X8_init (Call_mono (by decide) ((kc_X8 (a := 69) (by decide) c_69 c_70))) ?_
  refine tc_aast (q := 133) 0 (by decide) (tk_get c_47 (by decide)) (by decide) (by decide) (tk_get c_69 (by decide)) dX2_init_132 rfl ?_
  refine to_iinc (q := 136) (v := (1 : Int32)) rfl (by decide) [(1, .int (1 : Int32)), (0, .ref 42)] rfl (by decide) dX2_init_133 rfl ?_
  refine to_goto (q := 111) dX2_init_136 rfl ?_
  refine to_iload_n (q := 112) rfl dX2_init_111 rfl ?_
  refine to_aload_n (q := 113) rfl (by decide) dX2_init_112 rfl ?_
  refine to_getR (q := 116) (b := 47) (k0 := 2) (C := RX2) (T := TX2) (N := 14) (j := 10) rfl fx_X2_27 (tk_get c_42 (by decide)) rfl rfl dX2_init_113 rfl ?_
  refine to_alen (q := 117) (v := (6 : Int32)) (tk_get c_47 (by decide)) (by decide) (by decide) dX2_init_116 rfl ?_
  refine to_icF (q := 120) (op := .ge) 139 (show ¬ (6 : Int32) ≤ 1 by decide) dX2_init_117 rfl rfl ?_
  refine to_aload_n (q := 121) rfl (by decide) dX2_init_120 rfl ?_
  refine to_getR (q := 124) (b := 47) (k0 := 2) (C := RX2) (T := TX2) (N := 14) (j := 10) rfl fx_X2_27 (tk_get c_42 (by decide)) rfl rfl dX2_init_121 rfl ?_
  refine to_iload_n (q := 125) rfl dX2_init_124 rfl ?_
  refine tc_new (q := 128) (n := 71) (n1 := 72) (k0 := 8) (C := RX8) (T := TX8) (N := 5) c_71 rfl rfl ⟨cl_X2_18, ins_X8, ini_X8⟩ dX2_init_125 rfl ?_
  refine to_dup (q := 129) rfl dX2_init_128 rfl ?_
  refine to_init (q := 132) (S1 := tk 73) mX8_init [] dX2_init_129 rfl rfl (by decide) (Nat.le_of_ble_eq_true rfl) mo_X8_init ⟨rfl, rfl⟩ (Or.inr (by decide)) im_X8_init (Call_mono (by decide) ((kc_X8 (a := 71) (by decide) c_71 c_72))) ?_
  refine tc_aast (q := 133) 1 (by decide) (tk_get c_47 (by decide)) (by decide) (by decide) (tk_get c_71 (by decide)) dX2_init_132 rfl ?_
  refine to_iinc (q := 136) (v := (2 : Int32)) rfl (by decide) [(1, .int (2 : Int32)), (0, .ref 42)] rfl (by decide) dX2_init_133 rfl ?_
  refine to_goto (q := 111) dX2_init_136 rfl ?_
  refine to_iload_n (q := 112) rfl dX2_init_111 rfl ?_
  refine to_aload_n (q := 113) rfl (by decide) dX2_init_112 rfl ?_
  refine to_getR (q := 116) (b := 47) (k0 := 2) (C := RX2) (T := TX2) (N := 14) (j := 10) rfl fx_X2_27 (tk_get c_42 (by decide)) rfl rfl dX2_init_113 rfl ?_
  refine to_alen (q := 117) (v := (6 : Int32)) (tk_get c_47 (by decide)) (by decide) (by decide) dX2_init_116 rfl ?_
  refine to_icF (q := 120) (op := .ge) 139 (show ¬ (6 : Int32) ≤ 2 by decide) dX2_init_117 rfl rfl ?_
  refine to_aload_n (q := 121) rfl (by decide) dX2_init_120 rfl ?_
  refine to_getR (q := 124) (b := 47) (k0 := 2) (C := RX2) (T := TX2) (N := 14) (j := 10) rfl fx_X2_27 (tk_get c_42 (by decide)) rfl rfl dX2_init_121 rfl ?_
  refine to_iload_n (q := 125) rfl dX2_init_124 rfl ?_
  refine tc_new (q := 128) (n := 73) (n1 := 74) (k0 := 8) (C := RX8) (T := TX8) (N := 5) c_73 rfl rfl ⟨cl_X2_18, ins_X8, ini_X8⟩ dX2_init_125 rfl ?_
  refine to_dup (q := 129) rfl dX2_init_128 rfl ?_
  refine to_init (q := 132) (S1 := tk 75) mX8_init [] dX2_init_129 rfl rfl (by decide) (Nat.le_of_ble_eq_true rfl) mo_X8_init ⟨rfl, rfl⟩ (Or.inr (by decide)) im_X8_init (Call_mono (by decide) ((kc_X8 (a := 73) (by decide) c_73 c_74))) ?_
  refine tc_aast (q := 133) 2 (by decide) (tk_get c_47 (by decide)) (by decide) (by decide) (tk_get c_73 (by decide)) dX2_init_132 rfl ?_
  refine to_iinc (q := 136) (v := (3 : Int32)) rfl (by decide) [(1, .int (3 : Int32)), (0, .ref 42)] rfl (by decide) dX2_init_133 rfl ?_
  refine to_goto (q := 111) dX2_init_136 rfl ?_
  refine to_iload_n (q := 112) rfl dX2_init_111 rfl ?_
  refine to_aload_n (q := 113) rfl (by decide) dX2_init_112 rfl ?_
  refine to_getR (q := 116) (b := 47) (k0 := 2) (C := RX2) (T := TX2) (N := 14) (j := 10) rfl fx_X2_27 (tk_get c_42 (by decide)) rfl rfl dX2_init_113 rfl ?_
  refine to_alen (q := 117) (v := (6 : Int32)) (tk_get c_47 (by decide)) (by decide) (by decide) dX2_init_116 rfl ?_
  refine to_icF (q := 120) (op := .ge) 139 (show ¬ (6 : Int32) ≤ 3 by decide) dX2_init_117 rfl rfl ?_
  refine to_aload_n (q := 121) rfl (by decide) dX2_init_120 rfl ?_
  refine to_getR (q := 124) (b := 47) (k0 := 2) (C := RX2) (T := TX2) (N := 14) (j := 10) rfl fx_X2_27 (tk_get c_42 (by decide)) rfl rfl dX2_init_121 rfl ?_
  refine to_iload_n (q := 125) rfl dX2_init_124 rfl ?_
  refine tc_new (q := 128) (n := 75) (n1 := 76) (k0 := 8) (C := RX8) (T := TX8) (N := 5) c_75 rfl rfl ⟨cl_X2_18, ins_X8, ini_X8⟩ dX2_init_125 rfl ?_
  refine to_dup (q := 129) rfl dX2_init_128 rfl ?_
  refine to_init (q := 132) (S1 := tk 77) mX8_init [] dX2_init_129 rfl rfl (by decide) (Nat.le_of_ble_eq_true rfl) mo_X8_init ⟨rfl, rfl⟩ (Or.inr (by decide)) im_X8_init (Call_mono (by decide) ((kc_X8 (a := 75) (by decide) c_75 c_76))) ?_
  refine tc_aast (q := 133) 3 (by decide) (tk_get c_47 (by decide)) (by decide) (by decide) (tk_get c_75 (by decide)) dX2_init_132 rfl ?_
  refine to_iinc (q := 136) (v := (4 : Int32)) rfl (by decide) [(1, .int (4 : Int32)), (0, .ref 42)] rfl (by decide) dX2_init_133 rfl ?_
  refine to_goto (q := 111) dX2_init_136 rfl ?_
  refine to_iload_n (q := 112) rfl dX2_init_111 rfl ?_
  refine to_aload_n (q := 113) rfl (by decide) dX2_init_112 rfl ?_
  refine to_getR (q := 116) (b := 47) (k0 := 2) (C := RX2) (T := TX2) (N := 14) (j := 10) rfl fx_X2_27 (tk_get c_42 (by decide)) rfl rfl dX2_init_113 rfl ?_
  refine to_alen (q := 117) (v := (6 : Int32)) (tk_get c_47 (by decide)) (by decide) (by decide) dX2_init_116 rfl ?_
  refine to_icF (q := 120) (op := .ge) 139 (show ¬ (6 : Int32) ≤ 4 by decide) dX2_init_117 rfl rfl ?_
  refine to_aload_n (q := 121) rfl (by decide) dX2_init_120 rfl ?_
  refine to_getR (q := 124) (b := 47) (k0 := 2) (C := RX2) (T := TX2) (N := 14) (j := 10) rfl fx_X2_27 (tk_get c_42 (by decide)) rfl rfl dX2_init_121 rfl ?_
  refine to_iload_n (q := 125) rfl dX2_init_124 rfl ?_
  refine tc_new (q := 128) (n := 77) (n1 := 78) (k0 := 8) (C := RX8) (T := TX8) (N := 5) c_77 rfl rfl ⟨cl_X2_18, ins_X8, ini_X8⟩ dX2_init_125 rfl ?_
  refine to_dup (q := 129) rfl dX2_init_128 rfl ?_
  refine to_init (q := 132) (S1 := tk 79) mX8_init [] dX2_init_129 rfl rfl (by decide) (Nat.le_of_ble_eq_true rfl) mo_X8_init ⟨rfl, rfl⟩ (Or.inr (by decide)) im_X8_init (Call_mono (by decide) ((kc_X8 (a := 77) (by decide) c_77 c_78))) ?_
  refine tc_aast (q := 133) 4 (by decide) (tk_get c_47 (by decide)) (by decide) (by decide) (tk_get c_77 (by decide)) dX2_init_132 rfl ?_
  refine to_iinc (q := 136) (v := (5 : Int32)) rfl (by decide) [(1, .int (5 : Int32)), (0, .ref 42)] rfl (by decide) dX2_init_133 rfl ?_
  refine to_goto (q := 111) dX2_init_136 rfl ?_
  refine to_iload_n (q := 112) rfl dX2_init_111 rfl ?_
  refine to_aload_n (q := 113) rfl (by decide) dX2_init_112 rfl ?_
  refine to_getR (q := 116) (b := 47) (k0 := 2) (C := RX2) (T := TX2) (N := 14) (j := 10) rfl fx_X2_27 (tk_get c_42 (by decide)) rfl rfl dX2_init_113 rfl ?_
  refine to_alen (q := 117) (v := (6 : Int32)) (tk_get c_47 (by decide)) (by decide) (by decide) dX2_init_116 rfl ?_
  refine to_icF (q := 120) (op := .ge) 139 (show ¬ (6 : Int32) ≤ 5 by decide) dX2_init_117 rfl rfl ?_
  refine to_aload_n (q := 121) rfl (by decide) dX2_init_120 rfl ?_
  refine to_getR (q := 124) (b := 47) (k0 := 2) (C := RX2) (T := TX2) (N := 14) (j := 10) rfl fx_X2_27 (tk_get c_42 (by decide)) rfl rfl dX2_init_121 rfl ?_
  refine to_iload_n (q := 125) rfl dX2_init_124 rfl ?_
  refine tc_new (q := 128) (n := 79) (n1 := 80) (k0 := 8) (C := RX8) (T := TX8) (N := 5) c_79 rfl rfl ⟨cl_X2_18, ins_X8, ini_X8⟩ dX2_init_125 rfl ?_
  refine to_dup (q := 129) rfl dX2_init_128 rfl ?_
  refine to_init (q := 132) (S1 := tk 81) mX8_init [] dX2_init_129 rfl rfl (by decide) (Nat.le_of_ble_eq_true rfl) mo_X8_init ⟨rfl, rfl⟩ (Or.inr (by decide)) im_X8_init (Call_mono (by decide) ((kc_X8 (a := 79) (by decide) c_79 c_80))) ?_
  refine tc_aast (q := 133) 5 (by decide) (tk_get c_47 (by decide)) (by decide) (by decide) (tk_get c_79 (by decide)) dX2_init_132 rfl ?_
  refine to_iinc (q := 136) (v := (6 : Int32)) rfl (by decide) [(1, .int (6 : Int32)), (0, .ref 42)] rfl (by decide) dX2_init_133 rfl ?_
  refine to_goto (q := 111) dX2_init_136 rfl ?_
  refine to_iload_n (q := 112) rfl dX2_init_111 rfl ?_
  refine to_aload_n (q := 113) rfl (by decide) dX2_init_112 rfl ?_
  refine to_getR (q := 116) (b := 47) (k0 := 2) (C := RX2) (T := TX2) (N := 14) (j := 10) rfl fx_X2_27 (tk_get c_42 (by decide)) rfl rfl dX2_init_113 rfl ?_
  refine to_alen (q := 117) (v := (6 : Int32)) (tk_get c_47 (by decide)) (by decide) (by decide) dX2_init_116 rfl ?_
  refine to_icT (q := 139) (op := .ge) (show (6 : Int32) ≤ 6 by decide) dX2_init_117 rfl ?_
  exact to_vret dX2_init_139 rfl rfl rfl trivial
