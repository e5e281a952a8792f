/-! The library's own methods of texts, of the constants alone. -/
section STR
variable {S : Sh} {m : Me} {P : Sm → Prop}
theorem k_coder (hP : P (S, m)) {s0 : Nat} (hs : s0 < 32) : Call 1 mJ0_coder_7d493 [.ref (1000000 + s0)] (S, m) (some (.int 0)) (S, m) ∧ P (S, m) := by
  refine call_of (Nat.le_of_ble_eq_true rfl) (by simp [Value.category]) ?_
  show TT P (Call 0) mJ0_coder_7d493 (0, [(0, .ref (1000000 + s0))], [], S, m) _ _
  refine to_getC (q := 3) fl_J0_38 dJ0_coder_7d493_0 rfl ?_
  refine to_ifF (q := 6) (op := .eq) 13 (by show ¬ (1 : Int32) = 0; decide) dJ0_coder_7d493_3 rfl rfl ?_
  refine to_aload_n (q := 7) rfl (str_4 hs) dJ0_coder_7d493_6 rfl ?_
  refine to_getSc (q := 10) hs fl_J0_15 dJ0_coder_7d493_7 rfl ?_
  refine to_goto (q := 14) dJ0_coder_7d493_10 rfl ?_
  exact to_iret dJ0_coder_7d493_14 rfl (by decide) rfl rfl hP
theorem k_latin (hP : P (S, m)) {s0 : Nat} (hs : s0 < 32) : Call 1 mJ0_isLatin1_aae02 [.ref (1000000 + s0)] (S, m) (some (.int 1)) (S, m) ∧ P (S, m) := by
  refine call_of (Nat.le_of_ble_eq_true rfl) (by simp [Value.category]) ?_
  show TT P (Call 0) mJ0_isLatin1_aae02 (0, [(0, .ref (1000000 + s0))], [], S, m) _ _
  refine to_getC (q := 3) fl_J0_38 dJ0_isLatin1_aae02_0 rfl ?_
  refine to_ifF (q := 6) (op := .eq) 17 (by show ¬ (1 : Int32) = 0; decide) dJ0_isLatin1_aae02_3 rfl rfl ?_
  refine to_aload_n (q := 7) rfl (str_4 hs) dJ0_isLatin1_aae02_6 rfl ?_
  refine to_getSc (q := 10) hs fl_J0_15 dJ0_isLatin1_aae02_7 rfl ?_
  refine to_ifF (q := 13) (op := .ne) 17 (fun z => z rfl) dJ0_isLatin1_aae02_10 rfl rfl ?_
  refine to_iconst (q := 14) ic_1 dJ0_isLatin1_aae02_13 rfl ?_
  refine to_goto (q := 18) dJ0_isLatin1_aae02_14 rfl ?_
  exact to_iret dJ0_isLatin1_aae02_18 rfl (by decide) rfl rfl hP
def fJ0_length_8abf5 (s0 : Nat) (m : Me) : Option (Int32 × Me) := some (Int32.ofNat (slen s0), m)
theorem shr0_ (x : Int32) : x >>> ((0 : Int32) &&& 31) = x := by
  apply Int32.toBitVec_inj.mp
  show x.toBitVec.sshiftRight' _ = _
  simp
theorem kJ0_length_8abf5 (hS : ShOK S) {res : Int32 × Me} {s0 : Nat} (hf : fJ0_length_8abf5 s0 m = some res) (hs0 : s0 < 32) (hI : Inv m) : Call 6 mJ0_length_8abf5 [.ref (1000000 + s0)] (S, m) (some (.int res.1)) (S, res.2) ∧ Inv res.2 := by
  cases hf
  refine call_of (P := InvS) (Nat.le_of_ble_eq_true rfl) (by simp [Value.category]) ?_
  show TT InvS (Call 5) mJ0_length_8abf5 (0, [(0, .ref (1000000 + s0))], [], S, m) _ _
  refine to_aload_n (q := 1) rfl (str_4 hs0) dJ0_length_8abf5_0 rfl ?_
  refine to_getSv (q := 4) hs0 fl_J0_9 dJ0_length_8abf5_1 rfl ?_
  refine to_alenS (q := 5) hs0 dJ0_length_8abf5_4 rfl ?_
  refine to_aload_n (q := 6) rfl (str_4 hs0) dJ0_length_8abf5_5 rfl ?_
  refine to_virtI (q := 9) mJ0_coder_7d493 [] dJ0_length_8abf5_6 rfl rfl (Nat.le_of_ble_eq_true rfl) mo_J0_coder_7d493 mv_J0_335 (Or.inr ⟨_, rfl, hs0, rfl⟩) (Call_mono (by decide) (k_coder (P := fun _ => True) trivial hs0).1) ?_
  refine to_ishr (q := 10) dJ0_length_8abf5_9 rfl ?_
  rw [shr0_]
  exact to_iret dJ0_length_8abf5_10 rfl rfl rfl rfl hI
theorem k_pre (hP : P (S, m)) {x n : Int32} (h1 : ¬ x < 0) (h2 : x < n) : Call 1 mJ3_checkIndex_8e157 [.int x, .int n, .ref 4000000] (S, m) (some (.int x)) (S, m) ∧ P (S, m) := by
  refine call_of (Nat.le_of_ble_eq_true rfl) (by simp [Value.category]) ?_
  show TT P (Call 0) mJ3_checkIndex_8e157 (0, [(0, .int x), (1, .int n), (2, .ref 4000000)], [], S, m) _ _
  refine to_iload_n (q := 1) rfl dJ3_checkIndex_8e157_0 rfl ?_
  refine to_ifF (q := 4) (op := .lt) 9 h1 dJ3_checkIndex_8e157_1 rfl rfl ?_
  refine to_iload_n (q := 5) rfl dJ3_checkIndex_8e157_4 rfl ?_
  refine to_iload_n (q := 6) rfl dJ3_checkIndex_8e157_5 rfl ?_
  refine to_icT (q := 16) (op := .lt) h2 dJ3_checkIndex_8e157_6 rfl ?_
  refine to_iload_n (q := 17) rfl dJ3_checkIndex_8e157_16 rfl ?_
  exact to_iret dJ3_checkIndex_8e157_17 rfl rfl rfl rfl hP
theorem k_sci (hP : P (S, m)) {x n : Int32} (h1 : ¬ x < 0) (h2 : x < n) : Call 2 mJ0_checkIndex_df160 [.int x, .int n] (S, m) none (S, m) ∧ P (S, m) := by
  refine call_of (Nat.le_of_ble_eq_true rfl) (by simp [Value.category]) ?_
  show TT P (Call 1) mJ0_checkIndex_df160 (0, [(0, .int x), (1, .int n)], [], S, m) _ _
  refine to_iload_n (q := 1) rfl dJ0_checkIndex_df160_0 rfl ?_
  refine to_iload_n (q := 2) rfl dJ0_checkIndex_df160_1 rfl ?_
  refine to_getF (q := 5) fl_J0_1053 dJ0_checkIndex_df160_2 rfl ?_
  refine to_statI (q := 8) mJ3_checkIndex_8e157 [.int x, .int n, .ref 4000000] dJ0_checkIndex_df160_5 rfl rfl (Nat.le_of_ble_eq_true rfl) mo_J3_checkIndex_8e157 (Or.inl ml_J0_1059) sa_J3_checkIndex_8e157 (k_pre (P := fun _ => True) trivial h1 h2).1 ?_
  refine to_pop (q := 9) rfl dJ0_checkIndex_df160_8 rfl ?_
  exact to_vret dJ0_checkIndex_df160_9 rfl rfl rfl hP
theorem sch_c : ∀ s, s < 32 → ∀ j, j < slen s → ((sch s j &&& 255).toUInt32 % 65536).toInt32 = sch s j := by decide +kernel
theorem slen_lt : ∀ s, s < 32 → slen s < 10 := by decide +kernel
theorem inb_ofNat {x : Int32} {n : Nat} (hn : n < 2 ^ 31) (h : inb x n) : ¬ x < 0 ∧ x < Int32.ofNat n := by
  obtain ⟨j, hj, rfl⟩ := vp_in_of (show vp_in x n from h) hn
  exact ⟨nI_pos (by omega), nI_lt hj hn⟩
theorem k_l1 (hP : P (S, m)) {s0 : Nat} (hs : s0 < 32) {x : Int32} (hx : inb x (slen s0)) : Call 3 mJ1_charAt_3b067 [.ref (2000000 + s0), .int x] (S, m) (some (.int (sch s0 x.toNatClampNeg))) (S, m) ∧ P (S, m) := by
  have hb4 : 2000000 + s0 < 4000000 := by omega
  have hn : slen s0 < 2 ^ 31 := Nat.lt_trans (slen_lt s0 hs) (by decide)
  obtain ⟨g1, g2⟩ := inb_ofNat hn hx
  refine call_of (Nat.le_of_ble_eq_true rfl) (by simp [Value.category]) ?_
  show TT P (Call 2) mJ1_charAt_3b067 (0, [(0, .ref (2000000 + s0)), (1, .int x)], [], S, m) _ _
  refine to_iload_n (q := 1) rfl dJ1_charAt_3b067_0 rfl ?_
  refine to_aload_n (q := 2) rfl hb4 dJ1_charAt_3b067_1 rfl ?_
  refine to_alenS (q := 3) hs dJ1_charAt_3b067_2 rfl ?_
  refine to_statV (q := 6) mJ0_checkIndex_df160 [.int x, .int (Int32.ofNat (slen s0))] dJ1_charAt_3b067_3 rfl rfl (Nat.le_of_ble_eq_true rfl) mo_J0_checkIndex_df160 (Or.inl ml_J1_9) sa_J0_checkIndex_df160 (k_sci (P := fun _ => True) trivial g1 g2).1 ?_
  refine to_aload_n (q := 7) rfl hb4 dJ1_charAt_3b067_6 rfl ?_
  refine to_iload_n (q := 8) rfl dJ1_charAt_3b067_7 rfl ?_
  refine to_baldS (q := 9) hs hx dJ1_charAt_3b067_8 rfl ?_
  refine to_sipush (q := 12) (v := 255) (by decide) dJ1_charAt_3b067_9 rfl ?_
  refine to_iand (q := 13) dJ1_charAt_3b067_12 rfl ?_
  refine to_i2c (q := 14) dJ1_charAt_3b067_13 rfl ?_
  refine to_iret (ty := .char) dJ1_charAt_3b067_14 rfl (pk_nc _) ?_ rfl hP
  rw [sch_c s0 hs _ (inb_lt hx)]
def fJ0_charAt_5068e (s0 : Nat) (x1 : Int32) (m : Me) : Option (Int32 × Me) := ck (inb x1 (slen s0)) (some (sch s0 x1.toNatClampNeg, m))
theorem sch_nc : ∀ s, s < 32 → ∀ j, j < slen s → narrow .char (.int (sch s j)) = .int (sch s j) := by decide +kernel
theorem kJ0_charAt_5068e (hS : ShOK S) {res : Int32 × Me} {s0 : Nat} {x1 : Int32} (hf : fJ0_charAt_5068e s0 x1 m = some res) (hs0 : s0 < 32) (hI : Inv m) : Call 6 mJ0_charAt_5068e [.ref (1000000 + s0), .int x1] (S, m) (some (.int res.1)) (S, res.2) ∧ Inv res.2 := by
  unfold fJ0_charAt_5068e at hf
  obtain ⟨hx, hf⟩ := ck_some hf
  cases hf
  refine call_of (P := InvS) (Nat.le_of_ble_eq_true rfl) (by simp [Value.category]) ?_
  show TT InvS (Call 5) mJ0_charAt_5068e (0, [(0, .ref (1000000 + s0)), (1, .int x1)], [], S, m) _ _
  refine to_aload_n (q := 1) rfl (str_4 hs0) dJ0_charAt_5068e_0 rfl ?_
  refine to_virtI (q := 4) mJ0_isLatin1_aae02 [] dJ0_charAt_5068e_1 rfl rfl (Nat.le_of_ble_eq_true rfl) mo_J0_isLatin1_aae02 mv_J0_492 (Or.inr ⟨_, rfl, hs0, rfl⟩) (Call_mono (by decide) (k_latin (P := fun _ => True) trivial hs0).1) ?_
  refine to_ifF (q := 7) (op := .eq) 16 (by show ¬ (1 : Int32) = 0; decide) dJ0_charAt_5068e_4 rfl rfl ?_
  refine to_aload_n (q := 8) rfl (str_4 hs0) dJ0_charAt_5068e_7 rfl ?_
  refine to_getSv (q := 11) hs0 fl_J0_9 dJ0_charAt_5068e_8 rfl ?_
  refine to_iload_n (q := 12) rfl dJ0_charAt_5068e_11 rfl ?_
  refine to_statI (q := 15) mJ1_charAt_3b067 [.ref (2000000 + s0), .int x1] dJ0_charAt_5068e_12 rfl rfl (Nat.le_of_ble_eq_true rfl) mo_J1_charAt_3b067 (Or.inl ml_J0_495) sa_J1_charAt_3b067 (Call_mono (by decide) (k_l1 (P := fun _ => True) trivial hs0 hx).1) ?_
  exact to_iret (ty := .char) dJ0_charAt_5068e_15 rfl (sch_nc s0 hs0 _ (inb_lt hx)) rfl rfl hI
end STR
