/-! constructors -/
def tk (n : Nat) : Sh := S0.take n
theorem tk_get {n a : Nat} {q : Nat × Nat} (e : S0[a]? = some q) (h : a < n) : (tk n)[a]? = some q := by
  unfold tk
  rw [List.getElem?_take_of_lt h]
  exact e
theorem tk_l {n : Nat} {q : Nat × Nat} (e : S0[n]? = some q) : n < 159 := (List.getElem?_eq_some_iff.mp e).1
theorem tk_n {n : Nat} (h : n ≤ 159) : (tk n).length = n := by
  unfold tk
  rw [List.length_take]
  exact Nat.min_eq_left h
theorem tk_len {n b : Nat} {q : Nat × Nat} (e : S0[b]? = some q) (h : b < n) : b < (tk n).length := by
  have h1 := tk_l e
  unfold tk
  rw [List.length_take]
  exact Nat.lt_min.mpr ⟨h, h1⟩
theorem tk_s {n n1 : Nat} {q : Nat × Nat} (e : S0[n]? = some q) (hn : n + 1 = n1) : tk n ++ [q] = tk n1 := by
  subst hn
  unfold tk
  rw [List.take_succ, e]
  rfl
section RULES3
variable {P : Sm → Prop} {call : MI → List Value → Sm → Option Value → Sm → Prop} {μ : MI} {pc q : Nat} {ls ls' : Lo} {st : List Value} {S : Sh} {m : Me} {r : Option Value} {σ' : Sm}
theorem tc_newa {n n1 k0 ln : Nat} {ty : ArrayType} {x : Int32} (e : S0[n]? = some (k0, ln)) (hn : n + 1 = n1) (h0 : ¬ x < 0) (h1 : x.toNatClampNeg = ln ∧ ln ≤ 100000) (hk : (k0 = 12 ∧ newarray.typeOf ty = .byte) ∨ (k0 = 13 ∧ newarray.typeOf ty = .int)) (hc : inT (.arrayClass (newarray.typeOf ty))) (hd : decode μ.2.1 pc = .ok (.newarray ty, 2)) (hq : pc + 2 = q) (k : TT P call μ (q, ls, .ref n :: st, tk n1, zer m n) r σ') : TT P call μ (pc, ls, .int x :: st, tk n, m) r σ' := by
  have hl := tk_l e
  have e1 := tk_n (n := n) (by omega)
  refine to_newa (q := q) k0 ln h0 h1 (by rw [e1]; omega) hk hc hd hq ?_
  rw [tk_s e hn, e1]
  exact k
theorem tc_anew {n n1 k0 ln ix : Nat} {x : Int32} {w : vw_C} (e : S0[n]? = some (k0, ln)) (hn : n + 1 = n1) (h0 : ¬ x < 0) (h1 : x.toNatClampNeg = ln ∧ ln ≤ 100000) (hk : 15 ≤ k0 ∧ k0 ≤ 17) (hw : vwCl[aCls k0]? = some w) (hc : inT (.classLink μ.1.cls ix w.1)) (hd : decode μ.2.1 pc = .ok (.anewarray ix, 3)) (hq : pc + 3 = q) (k : TT P call μ (q, ls, .ref n :: st, tk n1, zer m n) r σ') : TT P call μ (pc, ls, .int x :: st, tk n, m) r σ' := by
  have hl := tk_l e
  have e1 := tk_n (n := n) (by omega)
  refine to_anew (q := q) k0 ln h0 h1 (by rw [e1]; omega) hk hw hc hd hq ?_
  rw [tk_s e hn, e1]
  exact k
theorem tc_new {n n1 k0 ix N : Nat} {C : String} {T : u_T} (e : S0[n]? = some (k0, N)) (hn : n + 1 = n1) (hv : vwCl[k0]? = some (C, T, N)) (hc : inT (.classLink μ.1.cls ix C) ∧ inT (.instantiable C N) ∧ inT (.initialized C)) (hd : decode μ.2.1 pc = .ok (.new ix, 3)) (hq : pc + 3 = q) (k : TT P call μ (q, ls, .ref n :: st, tk n1, zer m n) r σ') : TT P call μ (pc, ls, st, tk n, m) r σ' := by
  have hl := tk_l e
  have e1 := tk_n (n := n) (by omega)
  refine to_new (q := q) k0 hv (by rw [e1]; omega) hc hd hq ?_
  rw [tk_s e hn, e1]
  exact k
theorem tc_aast {a k0 n b nb : Nat} {i : Int32} (j : Nat) (hj : i.toNatClampNeg = j) (ha : S[a]? = some (k0, n)) (h1 : 15 ≤ k0 ∧ k0 ≤ 17) (hi : inb i n) (hb : S[b]? = some (aCls k0, nb)) (hd : decode μ.2.1 pc = .ok (.aastore, 1)) (hq : pc + 1 = q) (k : TT P call μ (q, ls, st, S, setR m a j (some b)) r σ') : TT P call μ (pc, ls, .ref b :: .int i :: .ref a :: st, S, m) r σ' := by
  subst hj
  exact to_aast ha h1 hi hb hd hq k
end RULES3

theorem c_0 : S0[0]? = some (10, 17) := rfl
theorem c_1 : S0[1]? = some (6, 10) := rfl
theorem c_2 : S0[2]? = some (12, 900) := rfl
theorem c_3 : S0[3]? = some (2, 14) := rfl
theorem c_4 : S0[4]? = some (5, 3) := rfl
theorem c_5 : S0[5]? = some (13, 60) := rfl
theorem c_6 : S0[6]? = some (17, 6) := rfl
theorem c_7 : S0[7]? = some (17, 4) := rfl
theorem c_8 : S0[8]? = some (17, 6) := rfl
theorem c_9 : S0[9]? = some (13, 6) := rfl
theorem c_10 : S0[10]? = some (8, 5) := rfl
theorem c_11 : S0[11]? = some (13, 8) := rfl
theorem c_12 : S0[12]? = some (8, 5) := rfl
theorem c_13 : S0[13]? = some (13, 8) := rfl
theorem c_14 : S0[14]? = some (8, 5) := rfl
theorem c_15 : S0[15]? = some (13, 8) := rfl
theorem c_16 : S0[16]? = some (8, 5) := rfl
theorem c_17 : S0[17]? = some (13, 8) := rfl
theorem c_18 : S0[18]? = some (8, 5) := rfl
theorem c_19 : S0[19]? = some (13, 8) := rfl
theorem c_20 : S0[20]? = some (8, 5) := rfl
theorem c_21 : S0[21]? = some (13, 8) := rfl
theorem c_22 : S0[22]? = some (8, 5) := rfl
theorem c_23 : S0[23]? = some (13, 8) := rfl
theorem c_24 : S0[24]? = some (8, 5) := rfl
theorem c_25 : S0[25]? = some (13, 8) := rfl
theorem c_26 : S0[26]? = some (8, 5) := rfl
theorem c_27 : S0[27]? = some (13, 8) := rfl
theorem c_28 : S0[28]? = some (8, 5) := rfl
theorem c_29 : S0[29]? = some (13, 8) := rfl
theorem c_30 : S0[30]? = some (8, 5) := rfl
theorem c_31 : S0[31]? = some (13, 8) := rfl
theorem c_32 : S0[32]? = some (8, 5) := rfl
theorem c_33 : S0[33]? = some (13, 8) := rfl
theorem c_34 : S0[34]? = some (8, 5) := rfl
theorem c_35 : S0[35]? = some (13, 8) := rfl
theorem c_36 : S0[36]? = some (8, 5) := rfl
theorem c_37 : S0[37]? = some (13, 8) := rfl
theorem c_38 : S0[38]? = some (8, 5) := rfl
theorem c_39 : S0[39]? = some (13, 8) := rfl
theorem c_40 : S0[40]? = some (8, 5) := rfl
theorem c_41 : S0[41]? = some (13, 8) := rfl
theorem c_42 : S0[42]? = some (2, 14) := rfl
theorem c_43 : S0[43]? = some (5, 3) := rfl
theorem c_44 : S0[44]? = some (13, 60) := rfl
theorem c_45 : S0[45]? = some (17, 6) := rfl
theorem c_46 : S0[46]? = some (17, 4) := rfl
theorem c_47 : S0[47]? = some (17, 6) := rfl
theorem c_48 : S0[48]? = some (13, 6) := rfl
theorem c_49 : S0[49]? = some (8, 5) := rfl
theorem c_50 : S0[50]? = some (13, 8) := rfl
theorem c_51 : S0[51]? = some (8, 5) := rfl
theorem c_52 : S0[52]? = some (13, 8) := rfl
theorem c_53 : S0[53]? = some (8, 5) := rfl
theorem c_54 : S0[54]? = some (13, 8) := rfl
theorem c_55 : S0[55]? = some (8, 5) := rfl
theorem c_56 : S0[56]? = some (13, 8) := rfl
theorem c_57 : S0[57]? = some (8, 5) := rfl
theorem c_58 : S0[58]? = some (13, 8) := rfl
theorem c_59 : S0[59]? = some (8, 5) := rfl
theorem c_60 : S0[60]? = some (13, 8) := rfl
theorem c_61 : S0[61]? = some (8, 5) := rfl
theorem c_62 : S0[62]? = some (13, 8) := rfl
theorem c_63 : S0[63]? = some (8, 5) := rfl
theorem c_64 : S0[64]? = some (13, 8) := rfl
theorem c_65 : S0[65]? = some (8, 5) := rfl
theorem c_66 : S0[66]? = some (13, 8) := rfl
theorem c_67 : S0[67]? = some (8, 5) := rfl
theorem c_68 : S0[68]? = some (13, 8) := rfl
theorem c_69 : S0[69]? = some (8, 5) := rfl
theorem c_70 : S0[70]? = some (13, 8) := rfl
theorem c_71 : S0[71]? = some (8, 5) := rfl
theorem c_72 : S0[72]? = some (13, 8) := rfl
theorem c_73 : S0[73]? = some (8, 5) := rfl
theorem c_74 : S0[74]? = some (13, 8) := rfl
theorem c_75 : S0[75]? = some (8, 5) := rfl
theorem c_76 : S0[76]? = some (13, 8) := rfl
theorem c_77 : S0[77]? = some (8, 5) := rfl
theorem c_78 : S0[78]? = some (13, 8) := rfl
theorem c_79 : S0[79]? = some (8, 5) := rfl
theorem c_80 : S0[80]? = some (13, 8) := rfl
theorem c_81 : S0[81]? = some (5, 3) := rfl
theorem c_82 : S0[82]? = some (13, 60) := rfl
theorem c_83 : S0[83]? = some (15, 3) := rfl
theorem c_84 : S0[84]? = some (0, 4) := rfl
theorem c_85 : S0[85]? = some (13, 16) := rfl
theorem c_86 : S0[86]? = some (13, 16) := rfl
theorem c_87 : S0[87]? = some (13, 16) := rfl
theorem c_88 : S0[88]? = some (7, 3) := rfl
theorem c_89 : S0[89]? = some (13, 30) := rfl
theorem c_90 : S0[90]? = some (13, 30) := rfl
theorem c_91 : S0[91]? = some (7, 3) := rfl
theorem c_92 : S0[92]? = some (13, 30) := rfl
theorem c_93 : S0[93]? = some (13, 30) := rfl
theorem c_94 : S0[94]? = some (9, 2) := rfl
theorem c_95 : S0[95]? = some (13, 60) := rfl
theorem c_96 : S0[96]? = some (3, 8) := rfl
theorem c_97 : S0[97]? = some (16, 4) := rfl
theorem c_98 : S0[98]? = some (17, 4) := rfl
theorem c_99 : S0[99]? = some (13, 30) := rfl
theorem c_100 : S0[100]? = some (13, 30) := rfl
theorem c_101 : S0[101]? = some (13, 120) := rfl
theorem c_102 : S0[102]? = some (13, 16) := rfl
theorem c_103 : S0[103]? = some (7, 3) := rfl
theorem c_104 : S0[104]? = some (13, 30) := rfl
theorem c_105 : S0[105]? = some (13, 30) := rfl
theorem c_106 : S0[106]? = some (8, 5) := rfl
theorem c_107 : S0[107]? = some (13, 8) := rfl
theorem c_108 : S0[108]? = some (7, 3) := rfl
theorem c_109 : S0[109]? = some (13, 30) := rfl
theorem c_110 : S0[110]? = some (13, 30) := rfl
theorem c_111 : S0[111]? = some (8, 5) := rfl
theorem c_112 : S0[112]? = some (13, 8) := rfl
theorem c_113 : S0[113]? = some (7, 3) := rfl
theorem c_114 : S0[114]? = some (13, 30) := rfl
theorem c_115 : S0[115]? = some (13, 30) := rfl
theorem c_116 : S0[116]? = some (8, 5) := rfl
theorem c_117 : S0[117]? = some (13, 8) := rfl
theorem c_118 : S0[118]? = some (7, 3) := rfl
theorem c_119 : S0[119]? = some (13, 30) := rfl
theorem c_120 : S0[120]? = some (13, 30) := rfl
theorem c_121 : S0[121]? = some (8, 5) := rfl
theorem c_122 : S0[122]? = some (13, 8) := rfl
theorem c_123 : S0[123]? = some (4, 5) := rfl
theorem c_124 : S0[124]? = some (13, 36) := rfl
theorem c_125 : S0[125]? = some (13, 6) := rfl
theorem c_126 : S0[126]? = some (13, 384) := rfl
theorem c_127 : S0[127]? = some (1, 5) := rfl
theorem c_128 : S0[128]? = some (13, 36) := rfl
theorem c_129 : S0[129]? = some (13, 6) := rfl
theorem c_130 : S0[130]? = some (13, 6) := rfl
theorem c_131 : S0[131]? = some (13, 336) := rfl
theorem c_132 : S0[132]? = some (5, 3) := rfl
theorem c_133 : S0[133]? = some (13, 60) := rfl
theorem c_134 : S0[134]? = some (5, 3) := rfl
theorem c_135 : S0[135]? = some (13, 60) := rfl
theorem c_136 : S0[136]? = some (5, 3) := rfl
theorem c_137 : S0[137]? = some (13, 60) := rfl
theorem c_138 : S0[138]? = some (11, 37) := rfl
theorem c_139 : S0[139]? = some (13, 900) := rfl
theorem c_140 : S0[140]? = some (13, 8) := rfl
theorem c_141 : S0[141]? = some (13, 186) := rfl
theorem c_142 : S0[142]? = some (13, 186) := rfl
theorem c_143 : S0[143]? = some (13, 62) := rfl
theorem c_144 : S0[144]? = some (13, 62) := rfl
theorem c_145 : S0[145]? = some (13, 992) := rfl
theorem c_146 : S0[146]? = some (13, 186) := rfl
theorem c_147 : S0[147]? = some (13, 30) := rfl
theorem c_148 : S0[148]? = some (13, 30) := rfl
theorem c_149 : S0[149]? = some (13, 60) := rfl
theorem c_150 : S0[150]? = some (13, 60) := rfl
theorem c_151 : S0[151]? = some (13, 120) := rfl
theorem c_152 : S0[152]? = some (13, 4) := rfl
theorem c_153 : S0[153]? = some (13, 384) := rfl
theorem c_154 : S0[154]? = some (13, 60) := rfl
theorem c_155 : S0[155]? = some (13, 6) := rfl
theorem c_156 : S0[156]? = some (13, 6) := rfl
theorem c_157 : S0[157]? = some (13, 36) := rfl
theorem c_158 : S0[158]? = some (14, 1) := rfl
theorem cD_I : parseFieldDescriptor "I" = some (.int) := by decide +kernel
theorem cD_oX0 : parseFieldDescriptor "LFanParts$Acts;" = some (.object "FanParts$Acts") := by decide +kernel
theorem cD_oX1 : parseFieldDescriptor "LFanParts$Calmer;" = some (.object "FanParts$Calmer") := by decide +kernel
theorem cD_oX2 : parseFieldDescriptor "LFanParts$Fan;" = some (.object "FanParts$Fan") := by decide +kernel
theorem cD_oX3 : parseFieldDescriptor "LFanParts$Mender;" = some (.object "FanParts$Mender") := by decide +kernel
theorem cD_oX4 : parseFieldDescriptor "LFanParts$Packer;" = some (.object "FanParts$Packer") := by decide +kernel
theorem cD_oX5 : parseFieldDescriptor "LFanParts$Painting;" = some (.object "FanParts$Painting") := by decide +kernel
theorem cD_oX6 : parseFieldDescriptor "LFanParts$Reader;" = some (.object "FanParts$Reader") := by decide +kernel
theorem cD_oX7 : parseFieldDescriptor "LFanParts$Row;" = some (.object "FanParts$Row") := by decide +kernel
theorem cD_oX9 : parseFieldDescriptor "LFanParts$Sight;" = some (.object "FanParts$Sight") := by decide +kernel
theorem cD_aB : parseFieldDescriptor "[B" = some (.array .byte) := by decide +kernel
theorem cD_aI : parseFieldDescriptor "[I" = some (.array .int) := by decide +kernel
theorem cD_aX5 : parseFieldDescriptor "[LFanParts$Painting;" = some (.array (.object "FanParts$Painting")) := by decide +kernel
theorem cD_aX7 : parseFieldDescriptor "[LFanParts$Row;" = some (.array (.object "FanParts$Row")) := by decide +kernel
theorem cD_aX8 : parseFieldDescriptor "[LFanParts$Saying;" = some (.array (.object "FanParts$Saying")) := by decide +kernel
def MX8 (a : Nat) (m : Me) : Me := (setR (zer m (a + 1)) a 0 (some (a + 1)))
theorem kc_X8 {a : Nat} {m : Me} (ha : a < 159) (h0 : S0[a]? = some (8, 5)) (h1 : S0[a + 1]? = some (13, 8)) : Call 1 mX8_init [.ref a] (tk (a + 1), m) none (tk (a + 2), MX8 a m) := by
  refine (call_of (P := fun _ => True) (Nat.le_of_ble_eq_true rfl) (by simp [Value.category]) ?_).1
  show TT _ (Call 0) mX8_init (0, [(0, .ref a)], [], tk (a + 1), m) _ _
  refine to_aload_n (q := 1) rfl (by omega) dX8_init_0 rfl ?_
  refine to_obj (q := 4) dX8_init_1 rfl (by omega) (Nat.le_of_ble_eq_true rfl) ⟨ml_X8_3, im_obj, cd_obj⟩ ?_
  refine to_aload_n (q := 5) rfl (by omega) dX8_init_4 rfl ?_
  refine to_bipush (q := 7) (v := (8 : Int32)) (by decide) dX8_init_5 rfl ?_
  refine tc_newa (q := 9) (ty := .int) (n := a + 1) (n1 := a + 2) h1 rfl (by decide) (by decide) (by decide) ac_int dX8_init_7 rfl ?_
  refine to_putR (q := 12) (ty := .array .int) (k0 := 8) (C := RX8) (T := TX8) (N := 5) (j := 0) rfl fx_X8_9 (tk_get h0 (by omega)) (tk_len h1 (by omega)) rfl cD_aI (Or.inr ⟨rfl, rfl⟩) (fun _ => ⟨rfl, rfl⟩) dX8_init_9 rfl ?_
  exact to_vret dX8_init_12 rfl rfl rfl trivial
def MX5 (a : Nat) (m : Me) : Me := (setR (zer m (a + 1)) a 0 (some (a + 1)))
theorem kc_X5 {a : Nat} {m : Me} (ha : a < 159) (h0 : S0[a]? = some (5, 3)) (h1 : S0[a + 1]? = some (13, 60)) : Call 1 mX5_init [.ref a] (tk (a + 1), m) none (tk (a + 2), MX5 a m) := by
  refine (call_of (P := fun _ => True) (Nat.le_of_ble_eq_true rfl) (by simp [Value.category]) ?_).1
  show TT _ (Call 0) mX5_init (0, [(0, .ref a)], [], tk (a + 1), m) _ _
  refine to_aload_n (q := 1) rfl (by omega) dX5_init_0 rfl ?_
  refine to_obj (q := 4) dX5_init_1 rfl (by omega) (Nat.le_of_ble_eq_true rfl) ⟨ml_X5_3, im_obj, cd_obj⟩ ?_
  refine to_aload_n (q := 5) rfl (by omega) dX5_init_4 rfl ?_
  refine to_bipush (q := 7) (v := (60 : Int32)) (by decide) dX5_init_5 rfl ?_
  refine tc_newa (q := 9) (ty := .int) (n := a + 1) (n1 := a + 2) h1 rfl (by decide) (by decide) (by decide) ac_int dX5_init_7 rfl ?_
  refine to_putR (q := 12) (ty := .array .int) (k0 := 5) (C := RX5) (T := TX5) (N := 3) (j := 0) rfl fx_X5_9 (tk_get h0 (by omega)) (tk_len h1 (by omega)) rfl cD_aI (Or.inr ⟨rfl, rfl⟩) (fun _ => ⟨rfl, rfl⟩) dX5_init_9 rfl ?_
  exact to_vret dX5_init_12 rfl rfl rfl trivial
def MX7 (a : Nat) (m : Me) : Me := (setR (zer (setR (zer m (a + 1)) a 0 (some (a + 1))) (a + 2)) a 1 (some (a + 2)))
theorem kc_X7 {a : Nat} {m : Me} (ha : a < 159) (h0 : S0[a]? = some (7, 3)) (h1 : S0[a + 1]? = some (13, 30)) (h2 : S0[a + 2]? = some (13, 30)) : Call 1 mX7_init [.ref a] (tk (a + 1), m) none (tk (a + 3), MX7 a m) := by
  refine (call_of (P := fun _ => True) (Nat.le_of_ble_eq_true rfl) (by simp [Value.category]) ?_).1
  show TT _ (Call 0) mX7_init (0, [(0, .ref a)], [], tk (a + 1), m) _ _
  refine to_aload_n (q := 1) rfl (by omega) dX7_init_0 rfl ?_
  refine to_obj (q := 4) dX7_init_1 rfl (by omega) (Nat.le_of_ble_eq_true rfl) ⟨ml_X7_3, im_obj, cd_obj⟩ ?_
  refine to_aload_n (q := 5) rfl (by omega) dX7_init_4 rfl ?_
  refine to_bipush (q := 7) (v := (30 : Int32)) (by decide) dX7_init_5 rfl ?_
  refine tc_newa (q := 9) (ty := .int) (n := a + 1) (n1 := a + 2) h1 rfl (by decide) (by decide) (by decide) ac_int dX7_init_7 rfl ?_
  refine to_putR (q := 12) (ty := .array .int) (k0 := 7) (C := RX7) (T := TX7) (N := 3) (j := 0) rfl fx_X7_9 (tk_get h0 (by omega)) (tk_len h1 (by omega)) rfl cD_aI (Or.inr ⟨rfl, rfl⟩) (fun _ => ⟨rfl, rfl⟩) dX7_init_9 rfl ?_
  refine to_aload_n (q := 13) rfl (by omega) dX7_init_12 rfl ?_
  refine to_bipush (q := 15) (v := (30 : Int32)) (by decide) dX7_init_13 rfl ?_
  refine tc_newa (q := 17) (ty := .int) (n := a + 2) (n1 := a + 3) h2 rfl (by decide) (by decide) (by decide) ac_int dX7_init_15 rfl ?_
  refine to_putR (q := 20) (ty := .array .int) (k0 := 7) (C := RX7) (T := TX7) (N := 3) (j := 1) rfl fx_X7_15 (tk_get h0 (by omega)) (tk_len h2 (by omega)) rfl cD_aI (Or.inr ⟨rfl, rfl⟩) (fun _ => ⟨rfl, rfl⟩) dX7_init_17 rfl ?_
  exact to_vret dX7_init_20 rfl rfl rfl trivial
def MX0_84 (m : Me) : Me := (setR (zer (setR (zer (setR (zer m 85) 84 0 (some 85)) 86) 84 1 (some 86)) 87) 84 2 (some 87))
set_option maxRecDepth 20000 in
theorem kc_X0_84 (m : Me) : Call 1 mX0_init [.ref 84] (tk 85, m) none (tk 88, MX0_84 m) := by
  refine (call_of (P := fun _ => True) (Nat.le_of_ble_eq_true rfl) (by simp [Value.category]) ?_).1
  show TT _ (Call 0) mX0_init (0, [(0, .ref 84)], [], tk 85, m) _ _
  refine to_aload_n (q := 1) rfl (by decide) dX0_init_0 rfl ?_
  refine to_obj (q := 4) dX0_init_1 rfl (by decide) (Nat.le_of_ble_eq_true rfl) ⟨ml_X0_3, im_obj, cd_obj⟩ ?_
  refine to_aload_n (q := 5) rfl (by decide) dX0_init_4 rfl ?_
  refine to_bipush (q := 7) (v := (16 : Int32)) (by decide) dX0_init_5 rfl ?_
  refine tc_newa (q := 9) (ty := .int) (n := 85) (n1 := 86) c_85 rfl (by decide) (by decide) (by decide) ac_int dX0_init_7 rfl ?_
  refine to_putR (q := 12) (ty := .array .int) (k0 := 0) (C := RX0) (T := TX0) (N := 4) (j := 0) rfl fx_X0_9 (tk_get c_84 (by decide)) (tk_len c_85 (by decide)) rfl cD_aI (Or.inr ⟨rfl, rfl⟩) (fun _ => ⟨rfl, rfl⟩) dX0_init_9 rfl ?_
  refine to_aload_n (q := 13) rfl (by decide) dX0_init_12 rfl ?_
  refine to_bipush (q := 15) (v := (16 : Int32)) (by decide) dX0_init_13 rfl ?_
  refine tc_newa (q := 17) (ty := .int) (n := 86) (n1 := 87) c_86 rfl (by decide) (by decide) (by decide) ac_int dX0_init_15 rfl ?_
  refine to_putR (q := 20) (ty := .array .int) (k0 := 0) (C := RX0) (T := TX0) (N := 4) (j := 1) rfl fx_X0_15 (tk_get c_84 (by decide)) (tk_len c_86 (by decide)) rfl cD_aI (Or.inr ⟨rfl, rfl⟩) (fun _ => ⟨rfl, rfl⟩) dX0_init_17 rfl ?_
  refine to_aload_n (q := 21) rfl (by decide) dX0_init_20 rfl ?_
  refine to_bipush (q := 23) (v := (16 : Int32)) (by decide) dX0_init_21 rfl ?_
  refine tc_newa (q := 25) (ty := .int) (n := 87) (n1 := 88) c_87 rfl (by decide) (by decide) (by decide) ac_int dX0_init_23 rfl ?_
  refine to_putR (q := 28) (ty := .array .int) (k0 := 0) (C := RX0) (T := TX0) (N := 4) (j := 2) rfl fx_X0_18 (tk_get c_84 (by decide)) (tk_len c_87 (by decide)) rfl cD_aI (Or.inr ⟨rfl, rfl⟩) (fun _ => ⟨rfl, rfl⟩) dX0_init_25 rfl ?_
  exact to_vret dX0_init_28 rfl rfl rfl trivial
def MX9_94 (m : Me) : Me := (setI (setR (zer m 95) 94 0 (some 95)) 94 1 (-2))
set_option maxRecDepth 20000 in
theorem kc_X9_94 (m : Me) : Call 1 mX9_init [.ref 94] (tk 95, m) none (tk 96, MX9_94 m) := by
  refine (call_of (P := fun _ => True) (Nat.le_of_ble_eq_true rfl) (by simp [Value.category]) ?_).1
  show TT _ (Call 0) mX9_init (0, [(0, .ref 94)], [], tk 95, m) _ _
  refine to_aload_n (q := 1) rfl (by decide) dX9_init_0 rfl ?_
  refine to_obj (q := 4) dX9_init_1 rfl (by decide) (Nat.le_of_ble_eq_true rfl) ⟨ml_X9_3, im_obj, cd_obj⟩ ?_
  refine to_aload_n (q := 5) rfl (by decide) dX9_init_4 rfl ?_
  refine to_bipush (q := 7) (v := (60 : Int32)) (by decide) dX9_init_5 rfl ?_
  refine tc_newa (q := 9) (ty := .int) (n := 95) (n1 := 96) c_95 rfl (by decide) (by decide) (by decide) ac_int dX9_init_7 rfl ?_
  refine to_putR (q := 12) (ty := .array .int) (k0 := 9) (C := RX9) (T := TX9) (N := 2) (j := 0) rfl fx_X9_9 (tk_get c_94 (by decide)) (tk_len c_95 (by decide)) rfl cD_aI (Or.inr ⟨rfl, rfl⟩) (fun _ => ⟨rfl, rfl⟩) dX9_init_9 rfl ?_
  refine to_aload_n (q := 13) rfl (by decide) dX9_init_12 rfl ?_
  refine to_bipush (q := 15) (v := (-2 : Int32)) (by decide) dX9_init_13 rfl ?_
  refine to_putI (q := 18) (ty := .int) (k0 := 9) (C := RX9) (T := TX9) (N := 2) (j := 1) rfl fx_X9_15 (tk_get c_94 (by decide)) rfl cD_I (Or.inl rfl) (nf_I _) dX9_init_15 rfl ?_
  exact to_vret dX9_init_18 rfl rfl rfl trivial
def MX4_123 (m : Me) : Me := (setR (zer (setR (zer (setR (zer m 124) 123 0 (some 124)) 125) 123 1 (some 125)) 126) 123 2 (some 126))
set_option maxRecDepth 20000 in
theorem kc_X4_123 (m : Me) : Call 1 mX4_init [.ref 123] (tk 124, m) none (tk 127, MX4_123 m) := by
  refine (call_of (P := fun _ => True) (Nat.le_of_ble_eq_true rfl) (by simp [Value.category]) ?_).1
  show TT _ (Call 0) mX4_init (0, [(0, .ref 123)], [], tk 124, m) _ _
  refine to_aload_n (q := 1) rfl (by decide) dX4_init_0 rfl ?_
  refine to_obj (q := 4) dX4_init_1 rfl (by decide) (Nat.le_of_ble_eq_true rfl) ⟨ml_X4_3, im_obj, cd_obj⟩ ?_
  refine to_aload_n (q := 5) rfl (by decide) dX4_init_4 rfl ?_
  refine to_bipush (q := 7) (v := (36 : Int32)) (by decide) dX4_init_5 rfl ?_
  refine tc_newa (q := 9) (ty := .int) (n := 124) (n1 := 125) c_124 rfl (by decide) (by decide) (by decide) ac_int dX4_init_7 rfl ?_
  refine to_putR (q := 12) (ty := .array .int) (k0 := 4) (C := RX4) (T := TX4) (N := 5) (j := 0) rfl fx_X4_9 (tk_get c_123 (by decide)) (tk_len c_124 (by decide)) rfl cD_aI (Or.inr ⟨rfl, rfl⟩) (fun _ => ⟨rfl, rfl⟩) dX4_init_9 rfl ?_
  refine to_aload_n (q := 13) rfl (by decide) dX4_init_12 rfl ?_
  refine to_bipush (q := 15) (v := (6 : Int32)) (by decide) dX4_init_13 rfl ?_
  refine tc_newa (q := 17) (ty := .int) (n := 125) (n1 := 126) c_125 rfl (by decide) (by decide) (by decide) ac_int dX4_init_15 rfl ?_
  refine to_putR (q := 20) (ty := .array .int) (k0 := 4) (C := RX4) (T := TX4) (N := 5) (j := 1) rfl fx_X4_15 (tk_get c_123 (by decide)) (tk_len c_125 (by decide)) rfl cD_aI (Or.inr ⟨rfl, rfl⟩) (fun _ => ⟨rfl, rfl⟩) dX4_init_17 rfl ?_
  refine to_aload_n (q := 21) rfl (by decide) dX4_init_20 rfl ?_
  refine to_sipush (q := 24) (v := (384 : Int32)) (by decide) dX4_init_21 rfl ?_
  refine tc_newa (q := 26) (ty := .int) (n := 126) (n1 := 127) c_126 rfl (by decide) (by decide) (by decide) ac_int dX4_init_24 rfl ?_
  refine to_putR (q := 29) (ty := .array .int) (k0 := 4) (C := RX4) (T := TX4) (N := 5) (j := 2) rfl fx_X4_18 (tk_get c_123 (by decide)) (tk_len c_126 (by decide)) rfl cD_aI (Or.inr ⟨rfl, rfl⟩) (fun _ => ⟨rfl, rfl⟩) dX4_init_26 rfl ?_
  exact to_vret dX4_init_29 rfl rfl rfl trivial
def MX1_127 (m : Me) : Me := (setR (zer (setR (zer (setR (zer m 128) 127 0 (some 128)) 129) 127 1 (some 129)) 130) 127 2 (some 130))
set_option maxRecDepth 20000 in
theorem kc_X1_127 (m : Me) : Call 1 mX1_init [.ref 127] (tk 128, m) none (tk 131, MX1_127 m) := by
  refine (call_of (P := fun _ => True) (Nat.le_of_ble_eq_true rfl) (by simp [Value.category]) ?_).1
  show TT _ (Call 0) mX1_init (0, [(0, .ref 127)], [], tk 128, m) _ _
  refine to_aload_n (q := 1) rfl (by decide) dX1_init_0 rfl ?_
  refine to_obj (q := 4) dX1_init_1 rfl (by decide) (Nat.le_of_ble_eq_true rfl) ⟨ml_X1_3, im_obj, cd_obj⟩ ?_
  refine to_aload_n (q := 5) rfl (by decide) dX1_init_4 rfl ?_
  refine to_bipush (q := 7) (v := (36 : Int32)) (by decide) dX1_init_5 rfl ?_
  refine tc_newa (q := 9) (ty := .int) (n := 128) (n1 := 129) c_128 rfl (by decide) (by decide) (by decide) ac_int dX1_init_7 rfl ?_
  refine to_putR (q := 12) (ty := .array .int) (k0 := 1) (C := RX1) (T := TX1) (N := 5) (j := 0) rfl fx_X1_9 (tk_get c_127 (by decide)) (tk_len c_128 (by decide)) rfl cD_aI (Or.inr ⟨rfl, rfl⟩) (fun _ => ⟨rfl, rfl⟩) dX1_init_9 rfl ?_
  refine to_aload_n (q := 13) rfl (by decide) dX1_init_12 rfl ?_
  refine to_bipush (q := 15) (v := (6 : Int32)) (by decide) dX1_init_13 rfl ?_
  refine tc_newa (q := 17) (ty := .int) (n := 129) (n1 := 130) c_129 rfl (by decide) (by decide) (by decide) ac_int dX1_init_15 rfl ?_
  refine to_putR (q := 20) (ty := .array .int) (k0 := 1) (C := RX1) (T := TX1) (N := 5) (j := 1) rfl fx_X1_15 (tk_get c_127 (by decide)) (tk_len c_129 (by decide)) rfl cD_aI (Or.inr ⟨rfl, rfl⟩) (fun _ => ⟨rfl, rfl⟩) dX1_init_17 rfl ?_
  refine to_aload_n (q := 21) rfl (by decide) dX1_init_20 rfl ?_
  refine to_bipush (q := 23) (v := (6 : Int32)) (by decide) dX1_init_21 rfl ?_
  refine tc_newa (q := 25) (ty := .int) (n := 130) (n1 := 131) c_130 rfl (by decide) (by decide) (by decide) ac_int dX1_init_23 rfl ?_
  refine to_putR (q := 28) (ty := .array .int) (k0 := 1) (C := RX1) (T := TX1) (N := 5) (j := 2) rfl fx_X1_18 (tk_get c_127 (by decide)) (tk_len c_130 (by decide)) rfl cD_aI (Or.inr ⟨rfl, rfl⟩) (fun _ => ⟨rfl, rfl⟩) dX1_init_25 rfl ?_
  exact to_vret dX1_init_28 rfl rfl rfl trivial
def MX11_138 (m : Me) : Me := (setR (zer (setR (zer (setR (zer (setR (zer (setR (zer (setR (zer (setR (zer (setR (zer (setR (zer (setR (zer (setR (zer (setR (zer (setR (zer (setR (zer (setR (zer (setR (zer (setR (zer (setR (zer (setI (setR (zer m 139) 138 1 (some 139)) 138 10 (-1)) 140) 138 12 (some 140)) 141) 138 15 (some 141)) 142) 138 16 (some 142)) 143) 138 17 (some 143)) 144) 138 18 (some 144)) 145) 138 19 (some 145)) 146) 138 20 (some 146)) 147) 138 23 (some 147)) 148) 138 24 (some 148)) 149) 138 27 (some 149)) 150) 138 28 (some 150)) 151) 138 29 (some 151)) 152) 138 30 (some 152)) 153) 138 32 (some 153)) 154) 138 33 (some 154)) 155) 138 34 (some 155)) 156) 138 35 (some 156)) 157) 138 36 (some 157))
set_option maxRecDepth 20000 in
theorem kc_X11_138 (m : Me) : Call 1 mX11_init [.ref 138] (tk 139, m) none (tk 158, MX11_138 m) := by
  refine (call_of (P := fun _ => True) (Nat.le_of_ble_eq_true rfl) (by simp [Value.category]) ?_).1
  show TT _ (Call 0) mX11_init (0, [(0, .ref 138)], [], tk 139, m) _ _
  refine to_aload_n (q := 1) rfl (by decide) dX11_init_0 rfl ?_
  refine to_obj (q := 4) dX11_init_1 rfl (by decide) (Nat.le_of_ble_eq_true rfl) ⟨ml_X11_1, im_obj, cd_obj⟩ ?_
  refine to_aload_n (q := 5) rfl (by decide) dX11_init_4 rfl ?_
  refine to_sipush (q := 8) (v := (900 : Int32)) (by decide) dX11_init_5 rfl ?_
  refine tc_newa (q := 10) (ty := .int) (n := 139) (n1 := 140) c_139 rfl (by decide) (by decide) (by decide) ac_int dX11_init_8 rfl ?_
  refine to_putR (q := 13) (ty := .array .int) (k0 := 11) (C := RX11) (T := TX11) (N := 37) (j := 1) rfl fx_X11_7 (tk_get c_138 (by decide)) (tk_len c_139 (by decide)) rfl cD_aI (Or.inr ⟨rfl, rfl⟩) (fun _ => ⟨rfl, rfl⟩) dX11_init_10 rfl ?_
  refine to_aload_n (q := 14) rfl (by decide) dX11_init_13 rfl ?_
  refine to_iconst (q := 15) (v := (-1 : Int32)) (by decide) dX11_init_14 rfl ?_
  refine to_putI (q := 18) (ty := .int) (k0 := 11) (C := RX11) (T := TX11) (N := 37) (j := 10) rfl fx_X11_13 (tk_get c_138 (by decide)) rfl cD_I (Or.inl rfl) (nf_I _) dX11_init_15 rfl ?_
  refine to_aload_n (q := 19) rfl (by decide) dX11_init_18 rfl ?_
  refine to_bipush (q := 21) (v := (8 : Int32)) (by decide) dX11_init_19 rfl ?_
  refine tc_newa (q := 23) (ty := .int) (n := 140) (n1 := 141) c_140 rfl (by decide) (by decide) (by decide) ac_int dX11_init_21 rfl ?_
  refine to_putR (q := 26) (ty := .array .int) (k0 := 11) (C := RX11) (T := TX11) (N := 37) (j := 12) rfl fx_X11_17 (tk_get c_138 (by decide)) (tk_len c_140 (by decide)) rfl cD_aI (Or.inr ⟨rfl, rfl⟩) (fun _ => ⟨rfl, rfl⟩) dX11_init_23 rfl ?_
  refine to_aload_n (q := 27) rfl (by decide) dX11_init_26 rfl ?_
  refine to_sipush (q := 30) (v := (186 : Int32)) (by decide) dX11_init_27 rfl ?_
  refine tc_newa (q := 32) (ty := .int) (n := 141) (n1 := 142) c_141 rfl (by decide) (by decide) (by decide) ac_int dX11_init_30 rfl ?_
  refine to_putR (q := 35) (ty := .array .int) (k0 := 11) (C := RX11) (T := TX11) (N := 37) (j := 15) rfl fx_X11_20 (tk_get c_138 (by decide)) (tk_len c_141 (by decide)) rfl cD_aI (Or.inr ⟨rfl, rfl⟩) (fun _ => ⟨rfl, rfl⟩) dX11_init_32 rfl ?_
  refine to_aload_n (q := 36) rfl (by decide) dX11_init_35 rfl ?_
  refine to_sipush (q := 39) (v := (186 : Int32)) (by decide) dX11_init_36 rfl ?_
  refine tc_newa (q := 41) (ty := .int) (n := 142) (n1 := 143) c_142 rfl (by decide) (by decide) (by decide) ac_int dX11_init_39 rfl ?_
  refine to_putR (q := 44) (ty := .array .int) (k0 := 11) (C := RX11) (T := TX11) (N := 37) (j := 16) rfl fx_X11_23 (tk_get c_138 (by decide)) (tk_len c_142 (by decide)) rfl cD_aI (Or.inr ⟨rfl, rfl⟩) (fun _ => ⟨rfl, rfl⟩) dX11_init_41 rfl ?_
  refine to_aload_n (q := 45) rfl (by decide) dX11_init_44 rfl ?_
  refine to_bipush (q := 47) (v := (62 : Int32)) (by decide) dX11_init_45 rfl ?_
  refine tc_newa (q := 49) (ty := .int) (n := 143) (n1 := 144) c_143 rfl (by decide) (by decide) (by decide) ac_int dX11_init_47 rfl ?_
  refine to_putR (q := 52) (ty := .array .int) (k0 := 11) (C := RX11) (T := TX11) (N := 37) (j := 17) rfl fx_X11_26 (tk_get c_138 (by decide)) (tk_len c_143 (by decide)) rfl cD_aI (Or.inr ⟨rfl, rfl⟩) (fun _ => ⟨rfl, rfl⟩) dX11_init_49 rfl ?_
  refine to_aload_n (q := 53) rfl (by decide) dX11_init_52 rfl ?_
  refine to_bipush (q := 55) (v := (62 : Int32)) (by decide) dX11_init_53 rfl ?_
  refine tc_newa (q := 57) (ty := .int) (n := 144) (n1 := 145) c_144 rfl (by decide) (by decide) (by decide) ac_int dX11_init_55 rfl ?_
  refine to_putR (q := 60) (ty := .array .int) (k0 := 11) (C := RX11) (T := TX11) (N := 37) (j := 18) rfl fx_X11_29 (tk_get c_138 (by decide)) (tk_len c_144 (by decide)) rfl cD_aI (Or.inr ⟨rfl, rfl⟩) (fun _ => ⟨rfl, rfl⟩) dX11_init_57 rfl ?_
  refine to_aload_n (q := 61) rfl (by decide) dX11_init_60 rfl ?_
  refine to_sipush (q := 64) (v := (992 : Int32)) (by decide) dX11_init_61 rfl ?_
  refine tc_newa (q := 66) (ty := .int) (n := 145) (n1 := 146) c_145 rfl (by decide) (by decide) (by decide) ac_int dX11_init_64 rfl ?_
  refine to_putR (q := 69) (ty := .array .int) (k0 := 11) (C := RX11) (T := TX11) (N := 37) (j := 19) rfl fx_X11_32 (tk_get c_138 (by decide)) (tk_len c_145 (by decide)) rfl cD_aI (Or.inr ⟨rfl, rfl⟩) (fun _ => ⟨rfl, rfl⟩) dX11_init_66 rfl ?_
  refine to_aload_n (q := 70) rfl (by decide) dX11_init_69 rfl ?_
  refine to_sipush (q := 73) (v := (186 : Int32)) (by decide) dX11_init_70 rfl ?_
  refine tc_newa (q := 75) (ty := .int) (n := 146) (n1 := 147) c_146 rfl (by decide) (by decide) (by decide) ac_int dX11_init_73 rfl ?_
  refine to_putR (q := 78) (ty := .array .int) (k0 := 11) (C := RX11) (T := TX11) (N := 37) (j := 20) rfl fx_X11_35 (tk_get c_138 (by decide)) (tk_len c_146 (by decide)) rfl cD_aI (Or.inr ⟨rfl, rfl⟩) (fun _ => ⟨rfl, rfl⟩) dX11_init_75 rfl ?_
  refine to_aload_n (q := 79) rfl (by decide) dX11_init_78 rfl ?_
  refine to_bipush (q := 81) (v := (30 : Int32)) (by decide) dX11_init_79 rfl ?_
  refine tc_newa (q := 83) (ty := .int) (n := 147) (n1 := 148) c_147 rfl (by decide) (by decide) (by decide) ac_int dX11_init_81 rfl ?_
  refine to_putR (q := 86) (ty := .array .int) (k0 := 11) (C := RX11) (T := TX11) (N := 37) (j := 23) rfl fx_X11_38 (tk_get c_138 (by decide)) (tk_len c_147 (by decide)) rfl cD_aI (Or.inr ⟨rfl, rfl⟩) (fun _ => ⟨rfl, rfl⟩) dX11_init_83 rfl ?_
  refine to_aload_n (q := 87) rfl (by decide) dX11_init_86 rfl ?_
  refine to_bipush (q := 89) (v := (30 : Int32)) (by decide) dX11_init_87 rfl ?_
  refine tc_newa (q := 91) (ty := .int) (n := 148) (n1 := 149) c_148 rfl (by decide) (by decide) (by decide) ac_int dX11_init_89 rfl ?_
  refine to_putR (q := 94) (ty := .array .int) (k0 := 11) (C := RX11) (T := TX11) (N := 37) (j := 24) rfl fx_X11_41 (tk_get c_138 (by decide)) (tk_len c_148 (by decide)) rfl cD_aI (Or.inr ⟨rfl, rfl⟩) (fun _ => ⟨rfl, rfl⟩) dX11_init_91 rfl ?_
  refine to_aload_n (q := 95) rfl (by decide) dX11_init_94 rfl ?_
  refine to_bipush (q := 97) (v := (60 : Int32)) (by decide) dX11_init_95 rfl ?_
  refine tc_newa (q := 99) (ty := .int) (n := 149) (n1 := 150) c_149 rfl (by decide) (by decide) (by decide) ac_int dX11_init_97 rfl ?_
  refine to_putR (q := 102) (ty := .array .int) (k0 := 11) (C := RX11) (T := TX11) (N := 37) (j := 27) rfl fx_X11_44 (tk_get c_138 (by decide)) (tk_len c_149 (by decide)) rfl cD_aI (Or.inr ⟨rfl, rfl⟩) (fun _ => ⟨rfl, rfl⟩) dX11_init_99 rfl ?_
  refine to_aload_n (q := 103) rfl (by decide) dX11_init_102 rfl ?_
  refine to_bipush (q := 105) (v := (60 : Int32)) (by decide) dX11_init_103 rfl ?_
  refine tc_newa (q := 107) (ty := .int) (n := 150) (n1 := 151) c_150 rfl (by decide) (by decide) (by decide) ac_int dX11_init_105 rfl ?_
  refine to_putR (q := 110) (ty := .array .int) (k0 := 11) (C := RX11) (T := TX11) (N := 37) (j := 28) rfl fx_X11_47 (tk_get c_138 (by decide)) (tk_len c_150 (by decide)) rfl cD_aI (Or.inr ⟨rfl, rfl⟩) (fun _ => ⟨rfl, rfl⟩) dX11_init_107 rfl ?_
  refine to_aload_n (q := 111) rfl (by decide) dX11_init_110 rfl ?_
  refine to_bipush (q := 113) (v := (120 : Int32)) (by decide) dX11_init_111 rfl ?_
  refine tc_newa (q := 115) (ty := .int) (n := 151) (n1 := 152) c_151 rfl (by decide) (by decide) (by decide) ac_int dX11_init_113 rfl ?_
  refine to_putR (q := 118) (ty := .array .int) (k0 := 11) (C := RX11) (T := TX11) (N := 37) (j := 29) rfl fx_X11_50 (tk_get c_138 (by decide)) (tk_len c_151 (by decide)) rfl cD_aI (Or.inr ⟨rfl, rfl⟩) (fun _ => ⟨rfl, rfl⟩) dX11_init_115 rfl ?_
  refine to_aload_n (q := 119) rfl (by decide) dX11_init_118 rfl ?_
  refine to_iconst (q := 120) (v := (4 : Int32)) (by decide) dX11_init_119 rfl ?_
  refine tc_newa (q := 122) (ty := .int) (n := 152) (n1 := 153) c_152 rfl (by decide) (by decide) (by decide) ac_int dX11_init_120 rfl ?_
  refine to_putR (q := 125) (ty := .array .int) (k0 := 11) (C := RX11) (T := TX11) (N := 37) (j := 30) rfl fx_X11_53 (tk_get c_138 (by decide)) (tk_len c_152 (by decide)) rfl cD_aI (Or.inr ⟨rfl, rfl⟩) (fun _ => ⟨rfl, rfl⟩) dX11_init_122 rfl ?_
  refine to_aload_n (q := 126) rfl (by decide) dX11_init_125 rfl ?_
  refine to_sipush (q := 129) (v := (384 : Int32)) (by decide) dX11_init_126 rfl ?_
  refine tc_newa (q := 131) (ty := .int) (n := 153) (n1 := 154) c_153 rfl (by decide) (by decide) (by decide) ac_int dX11_init_129 rfl ?_
  refine to_putR (q := 134) (ty := .array .int) (k0 := 11) (C := RX11) (T := TX11) (N := 37) (j := 32) rfl fx_X11_56 (tk_get c_138 (by decide)) (tk_len c_153 (by decide)) rfl cD_aI (Or.inr ⟨rfl, rfl⟩) (fun _ => ⟨rfl, rfl⟩) dX11_init_131 rfl ?_
  refine to_aload_n (q := 135) rfl (by decide) dX11_init_134 rfl ?_
  refine to_bipush (q := 137) (v := (60 : Int32)) (by decide) dX11_init_135 rfl ?_
  refine tc_newa (q := 139) (ty := .int) (n := 154) (n1 := 155) c_154 rfl (by decide) (by decide) (by decide) ac_int dX11_init_137 rfl ?_
  refine to_putR (q := 142) (ty := .array .int) (k0 := 11) (C := RX11) (T := TX11) (N := 37) (j := 33) rfl fx_X11_59 (tk_get c_138 (by decide)) (tk_len c_154 (by decide)) rfl cD_aI (Or.inr ⟨rfl, rfl⟩) (fun _ => ⟨rfl, rfl⟩) dX11_init_139 rfl ?_
  refine to_aload_n (q := 143) rfl (by decide) dX11_init_142 rfl ?_
  refine to_bipush (q := 145) (v := (6 : Int32)) (by decide) dX11_init_143 rfl ?_
  refine tc_newa (q := 147) (ty := .int) (n := 155) (n1 := 156) c_155 rfl (by decide) (by decide) (by decide) ac_int dX11_init_145 rfl ?_
  refine to_putR (q := 150) (ty := .array .int) (k0 := 11) (C := RX11) (T := TX11) (N := 37) (j := 34) rfl fx_X11_62 (tk_get c_138 (by decide)) (tk_len c_155 (by decide)) rfl cD_aI (Or.inr ⟨rfl, rfl⟩) (fun _ => ⟨rfl, rfl⟩) dX11_init_147 rfl ?_
  refine to_aload_n (q := 151) rfl (by decide) dX11_init_150 rfl ?_
  refine to_bipush (q := 153) (v := (6 : Int32)) (by decide) dX11_init_151 rfl ?_
  refine tc_newa (q := 155) (ty := .int) (n := 156) (n1 := 157) c_156 rfl (by decide) (by decide) (by decide) ac_int dX11_init_153 rfl ?_
  refine to_putR (q := 158) (ty := .array .int) (k0 := 11) (C := RX11) (T := TX11) (N := 37) (j := 35) rfl fx_X11_65 (tk_get c_138 (by decide)) (tk_len c_156 (by decide)) rfl cD_aI (Or.inr ⟨rfl, rfl⟩) (fun _ => ⟨rfl, rfl⟩) dX11_init_155 rfl ?_
  refine to_aload_n (q := 159) rfl (by decide) dX11_init_158 rfl ?_
  refine to_bipush (q := 161) (v := (36 : Int32)) (by decide) dX11_init_159 rfl ?_
  refine tc_newa (q := 163) (ty := .int) (n := 157) (n1 := 158) c_157 rfl (by decide) (by decide) (by decide) ac_int dX11_init_161 rfl ?_
  refine to_putR (q := 166) (ty := .array .int) (k0 := 11) (C := RX11) (T := TX11) (N := 37) (j := 36) rfl fx_X11_68 (tk_get c_138 (by decide)) (tk_len c_157 (by decide)) rfl cD_aI (Or.inr ⟨rfl, rfl⟩) (fun _ => ⟨rfl, rfl⟩) dX11_init_163 rfl ?_
  exact to_vret dX11_init_166 rfl rfl rfl trivial
