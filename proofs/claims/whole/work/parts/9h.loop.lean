/-! THE CLAIM OUT OF ONE WALK OF THE LAW'S BODY. Your part is whole_start (and what it stands on); all else here is the same for every law, but numbers. -/
def R_law : String := "FanPartsLaw"
def lw_P (b : Addr) (xs : List Int32) (args : Array Value) (s : State) : Prop := args = #[.ref b] ∧ s.IntsAt b xs ∧ xs.length ≤ 3072 ∧ (Jvm.Cond.and given_1 narrow_1).before args s = true
def lw_Q (_ : Array Value) (s : State) (o : Outcome) (t : State) : Prop := o = .returned (some (.int 1)) ∧ Framed s o t [] 601024 7293034
def lw_Z (below : List Frame) (a : Array Value) (s : State) : State → Prop := fun t => ∃ o, t.status = .running ∧ Ended t below o ∧ lw_Q a s o t
/-- the law's own end, with 1 on the stack, nothing written that was there before, its room as the claim has it -/
theorem lw_ret {p : Program} {l : Launch} {e : Env} {s : State} {m : MethodId} {below : List Frame} {meth : Method} {c : Code} {b : Nat} (hx : p.tables.exec = Jvm.exec) (hb : c.code = code) (hr : meth.sig.returnType = ret) (hlocks : meth.locks = false) {pc : Nat} {H : Heap} {ls : Array Slot} (hdg : decode code pc = .ok (.ireturn, 1)) : W p l e room_1 s m #[Value.ref b] below meth c H [] 601024 7293034 (lw_Z below #[Value.ref b] s) (F0 m pc ls [.int 1]) := by
  intro T hT X
  obtain ⟨fs, hret, hrun, hended, hW, hframe⟩ := X.leave (v := some (.int 1)) (hlocks := hlocks) (fun h => by rw [hr] at h; cases h)
  have hmeth' : T.vm.method? m = some meth := X.method'
  refine ⟨T.setFrames fs, ?_, .returned (some (.int 1)), hrun, hended, rfl, ⟨_, rfl⟩, hW, hframe⟩
  jvm_step X.here [X.here.top, hx, hb, hdg, hmeth', hr, ret, narrow_b1]
  (try refine ⟨rfl, ?_⟩); (try refine ⟨rfl, ?_⟩)
  first | (intro acts; rw [hret _ acts rfl rfl rfl]) | rw [hret _ _ rfl rfl rfl]
  exact Steps.refl _
/-- what holds at the law's entry: the machine, the code, the tables' words (any of lw_tbl by 'hts w (by decide +kernel)'), the script of L ints xs at the cell b, what the Statement gives of the start (any of its parts by flat_of_before) -/
def lw_At (p : Program) (s : State) (m : MethodId) (meth : Method) (c : Code) (b L : Nat) (xs : Nat → Int32) : Prop :=
  p.tables.exec = Jvm.exec ∧ c.code = code ∧ meth.sig.returnType = ret ∧ c.maxLocals = 7 ∧ s.vm.findClass R_law = some m.cls ∧ (∀ w ∈ lw_tbl, w.before #[Value.ref b] s = true) ∧ va_X b L xs s s.heap ∧ b < s.heap.size ∧ meth.locks = false ∧ (Jvm.Cond.and given_1 narrow_1).before #[Value.ref b] s = true
/-! the law's loop -/
def lOff : List Nat := [256, 329, 354, 367, 380, 429, 454, 491, 540, 589, 638, 675, 688, 701, 750, 799, 836, 913, 950, 975, 988, 1001, 1026, 1051, 1076, 1089, 1114, 1167, 1244, 1269, 1282, 1331, 1344, 1357, 1370, 1419, 1432, 1445, 1470, 1495, 1556, 1609, 1634, 1647, 1660, 1673, 1698, 1735, 1791, 1816]
theorem lOff_in : ∀ k, k < 50 → (#[216, 289, 314, 327, 340, 389, 414, 451, 500, 549, 598, 635, 648, 661, 710, 759, 796, 873, 910, 935, 948, 961, 986, 1011, 1036, 1049, 1074, 1127, 1204, 1229, 1242, 1291, 1304, 1317, 1330, 1379, 1392, 1405, 1430, 1455, 1516, 1569, 1594, 1607, 1620, 1633, 1658, 1695, 1751, 1776] : Array Int)[k]? = some ((lOff.getD k 0 : Nat) - 40 : Int) := by decide +kernel
theorem and63 (a : Int32) : 0 ≤ (a &&& 63).toInt ∧ (a &&& 63).toInt ≤ 63 := by
  have h1 : (a &&& 63).toBitVec.toNat ≤ 63 := by
    rw [Int32.toBitVec_and, BitVec.toNat_and]
    exact Nat.and_le_right
  have h2 : (a &&& 63).toInt = ((a &&& 63).toBitVec.toNat : Int) := BitVec.toInt_eq_toNat_of_lt (by omega)
  omega
theorem nI_of1 {k : Int32} {j : Nat} (hj : j < 1000) (h : k.toInt = (j : Int)) : k = nI j := by
  rw [← Int32.toInt_inj, h, nI_toInt (by omega)]
theorem lexit {L i : Nat} (hL : L ≤ 3072) (hi : i ≤ 4000) : (Int32.ofNat L - 6 < nI i) ↔ L < i + 6 := by
  have e : Int32.ofNat L = nI L := rfl
  rw [e, Int32.lt_iff_toInt_lt, nI_toInt (by omega), Int32.toInt_sub, nI_toInt (by omega), show (6 : Int32).toInt = 6 from rfl, Int.bmod_eq_of_le (by omega) (by omega)]
  omega
theorem hin_of {L i : Nat} (hL : L ≤ 3072) (hi : i + 6 ≤ L) (k : Int32) (hk : 0 ≤ k ∧ k < 6) : inb (nI i + k) L := by
  have h1 : (0 : Int) ≤ k.toInt := Int32.le_iff_toInt_le.mp hk.1
  have h2 : k.toInt < 6 := Int32.lt_iff_toInt_lt.mp hk.2
  obtain ⟨j, hj⟩ : ∃ j : Nat, k.toInt = (j : Int) := ⟨k.toInt.toNat, by omega⟩
  rw [nI_of1 (by omega) hj, nI_add]
  exact (zs_inb (by omega)).mpr (by omega)
section LOOP
variable {G : EV} {p : Program} {l : Launch} {e : Env} {s : State} {m : MethodId} {args : Array Value} {below : List Frame} {meth : Method} {c : Code} {Q : State → Prop} {μ : MI}
variable {S : Sh} {mm : Me} {L : Nat} {xs : Nat → Int32}
theorem lw_case {i : Int32} (E : LE G p l s m args meth c μ L xs) (hS : ShOK S) (hlen : S.length < 999999) (hI : Inv mm) (hW : WI mm) (hin : ∀ k : Int32, 0 ≤ k ∧ k < 6 → inb (i + k) L) (next : ∀ S' mm', ShOK S' → (S' = S ∨ S' = S ++ [(18, 6)]) → Inv mm' → WI mm' → LW G p l e s m args below meth c Q (1829, [(4, .int i), (0, .ref 3000000), (1, .ref 0), (2, .ref 138), (3, .ref 158)], [], S', mm')) (k : Nat) (hk : k < 50) : LW G p l e s m args below meth c Q (lOff.getD k 0, [(4, .int i), (0, .ref 3000000), (1, .ref 0), (2, .ref 138), (3, .ref 158)], [], S, mm) := by
  match k, hk with
  | 0, _ => exact cs_0 E hS hI hW hin (fun m2 i2 w2 => next _ _ hS (Or.inl rfl) i2 w2)
  | 1, _ => exact cs_1 E hS hI hW hin (fun m2 i2 w2 => next _ _ hS (Or.inl rfl) i2 w2)
  | 2, _ => exact cs_2 E hS hI hW hin (fun m2 i2 w2 => next _ _ hS (Or.inl rfl) i2 w2)
  | 3, _ => exact cs_3 E hS hI hW hin (fun m2 i2 w2 => next _ _ hS (Or.inl rfl) i2 w2)
  | 4, _ => exact cs_4 E hS hI hW hin (fun m2 i2 w2 => next _ _ hS (Or.inl rfl) i2 w2)
  | 5, _ => exact cs_5 E hS hI hW hin (fun m2 i2 w2 => next _ _ hS (Or.inl rfl) i2 w2)
  | 6, _ => exact cs_6 E hS hI hW hin (fun m2 i2 w2 => next _ _ hS (Or.inl rfl) i2 w2)
  | 7, _ => exact cs_7 E hS hI hW hin (fun m2 i2 w2 => next _ _ hS (Or.inl rfl) i2 w2)
  | 8, _ => exact cs_8 E hS hI hW hin (fun m2 i2 w2 => next _ _ hS (Or.inl rfl) i2 w2)
  | 9, _ => exact cs_9 E hS hI hW hin (fun m2 i2 w2 => next _ _ hS (Or.inl rfl) i2 w2)
  | 10, _ => exact cs_10 E hS hI hW hin (fun m2 i2 w2 => next _ _ hS (Or.inl rfl) i2 w2)
  | 11, _ => exact cs_11 E hS hI hW hin (fun m2 i2 w2 => next _ _ hS (Or.inl rfl) i2 w2)
  | 12, _ => exact cs_12 E hS hI hW hin (fun m2 i2 w2 => next _ _ hS (Or.inl rfl) i2 w2)
  | 13, _ => exact cs_13 E hS hI hW hin (fun m2 i2 w2 => next _ _ hS (Or.inl rfl) i2 w2)
  | 14, _ => exact cs_14 E hS hI hW hin (fun m2 i2 w2 => next _ _ hS (Or.inl rfl) i2 w2)
  | 15, _ => exact cs_15 E hS hI hW hin (fun m2 i2 w2 => next _ _ hS (Or.inl rfl) i2 w2)
  | 16, _ => exact cs_16 E hS hI hW hin (fun m2 i2 w2 => next _ _ hS (Or.inl rfl) i2 w2)
  | 17, _ => exact cs_17 E hS hI hW hin (fun m2 i2 w2 => next _ _ hS (Or.inl rfl) i2 w2)
  | 18, _ => exact cs_18 E hS hI hW hin (fun m2 i2 w2 => next _ _ hS (Or.inl rfl) i2 w2)
  | 19, _ => exact cs_19 E hS hI hW hin (fun m2 i2 w2 => next _ _ hS (Or.inl rfl) i2 w2)
  | 20, _ => exact cs_20 E hS hI hW hin (fun m2 i2 w2 => next _ _ hS (Or.inl rfl) i2 w2)
  | 21, _ => exact cs_21 E hS hI hW hin (fun m2 i2 w2 => next _ _ hS (Or.inl rfl) i2 w2)
  | 22, _ => exact cs_22 E hS hI hW hin (fun m2 i2 w2 => next _ _ hS (Or.inl rfl) i2 w2)
  | 23, _ => exact cs_23 E hS hI hW hin (fun m2 i2 w2 => next _ _ hS (Or.inl rfl) i2 w2)
  | 24, _ => exact cs_24 E hS hI hW hin (fun m2 i2 w2 => next _ _ hS (Or.inl rfl) i2 w2)
  | 25, _ => exact cs_25 E hS hI hW hin (fun m2 i2 w2 => next _ _ hS (Or.inl rfl) i2 w2)
  | 26, _ => exact cs_26 E hS hI hW hin (fun m2 i2 w2 => next _ _ hS (Or.inl rfl) i2 w2)
  | 27, _ => exact cs_27 E hS hI hW hin (fun m2 i2 w2 => next _ _ hS (Or.inl rfl) i2 w2)
  | 28, _ => exact cs_28 E hS hI hW hin (fun m2 i2 w2 => next _ _ hS (Or.inl rfl) i2 w2)
  | 29, _ => exact cs_29 E hS hI hW hin (fun m2 i2 w2 => next _ _ hS (Or.inl rfl) i2 w2)
  | 30, _ => exact cs_30 E hS hI hW hin (fun m2 i2 w2 => next _ _ hS (Or.inl rfl) i2 w2)
  | 31, _ => exact cs_31 E hS hI hW hin (fun m2 i2 w2 => next _ _ hS (Or.inl rfl) i2 w2)
  | 32, _ => exact cs_32 E hS hI hW hin (fun m2 i2 w2 => next _ _ hS (Or.inl rfl) i2 w2)
  | 33, _ => exact cs_33 E hS hI hW hin (fun m2 i2 w2 => next _ _ hS (Or.inl rfl) i2 w2)
  | 34, _ => exact cs_34 E hS hI hW hin (fun m2 i2 w2 => next _ _ hS (Or.inl rfl) i2 w2)
  | 35, _ => exact cs_35 E hS hI hW hin (fun m2 i2 w2 => next _ _ hS (Or.inl rfl) i2 w2)
  | 36, _ => exact cs_36 E hS hI hW hin (fun m2 i2 w2 => next _ _ hS (Or.inl rfl) i2 w2)
  | 37, _ => exact cs_37 E hS hI hW hin (fun m2 i2 w2 => next _ _ hS (Or.inl rfl) i2 w2)
  | 38, _ => exact cs_38 E hS hI hW hin (fun m2 i2 w2 => next _ _ hS (Or.inl rfl) i2 w2)
  | 39, _ => exact cs_39 E hS hI hW hin (fun m2 i2 w2 => next _ _ hS (Or.inl rfl) i2 w2)
  | 40, _ => exact cs_40 E hS hI hW hin (fun m2 i2 w2 => next _ _ hS (Or.inl rfl) i2 w2)
  | 41, _ => exact cs_41 E hS hI hW hin (fun m2 i2 w2 => next _ _ hS (Or.inl rfl) i2 w2)
  | 42, _ => exact cs_42 E hS hI hW hin (fun m2 i2 w2 => next _ _ hS (Or.inl rfl) i2 w2)
  | 43, _ => exact cs_43 E hS hI hW hin (fun m2 i2 w2 => next _ _ hS (Or.inl rfl) i2 w2)
  | 44, _ => exact cs_44 E hS hI hW hin (fun m2 i2 w2 => next _ _ hS (Or.inl rfl) i2 w2)
  | 45, _ => exact cs_45 E hS hI hW hin (fun m2 i2 w2 => next _ _ hS (Or.inl rfl) i2 w2)
  | 46, _ => exact cs_46 E hS hI hW hin (fun m2 i2 w2 => next _ _ hS (Or.inl rfl) i2 w2)
  | 47, _ => exact cs_47 E hS hlen hI hW hin next
  | 48, _ => exact cs_48 E hS hI hW hin (fun m2 i2 w2 => next _ _ hS (Or.inl rfl) i2 w2)
  | 49, _ => exact cs_49 E hS hI hW hin (fun m2 i2 w2 => next _ _ hS (Or.inl rfl) i2 w2)
  | k + 50, h => exact absurd h (by omega)
set_option maxRecDepth 20000 in
theorem lw_loop (E : LE G p l s m args meth c μ L xs) (hL : L ≤ 3072) (hend : ∀ ls S mm, S.length ≤ 601024 → nS S ≤ 7293034 → LW G p l e s m args below meth c Q (1836, ls, [.int 1], S, mm)) : ∀ n i S mm, L < i + 6 * n + 6 → i ≤ L → ShOK S → S.length ≤ 159 + i → nS S ≤ 100000 + i → Inv mm → WI mm → LW G p l e s m args below meth c Q (23, [(4, .int (nI i)), (0, .ref 3000000), (1, .ref 0), (2, .ref 138), (3, .ref 158)], [], S, mm) := by
  have hK := LW.cl (l := l) (e := e) (below := below) (Q := Q) E.1
  intro n
  induction n with
  | zero =>
    intro i S mm h1 h2 hS h3 h4 hI hW
    refine ko_iload hK (q := 25) rfl (E.dc dL_law_23) rfl ?_
    refine ko_aload_n hK (q := 26) rfl (by decide) (E.dc dL_law_25) rfl ?_
    refine lw_slen E (q := 27) dL_law_26 rfl ?_
    refine ko_bipush hK (q := 29) bp_6 (E.dc dL_law_27) rfl ?_
    refine ko_isub hK (q := 30) (E.dc dL_law_29) rfl ?_
    refine ko_icT hK (q := 1835) (op := .gt) ((lexit hL (by omega)).mpr (by omega)) (E.dc dL_law_30) rfl ?_
    exact ko_iconst hK (q := 1836) ic_1 (E.dc dL_law_1835) rfl (hend _ _ _ (by omega) (by omega))
  | succ n ih =>
    intro i S mm h1 h2 hS h3 h4 hI hW
    refine ko_iload hK (q := 25) rfl (E.dc dL_law_23) rfl ?_
    refine ko_aload_n hK (q := 26) rfl (by decide) (E.dc dL_law_25) rfl ?_
    refine lw_slen E (q := 27) dL_law_26 rfl ?_
    refine ko_bipush hK (q := 29) bp_6 (E.dc dL_law_27) rfl ?_
    refine ko_isub hK (q := 30) (E.dc dL_law_29) rfl ?_
    by_cases hx : L < i + 6
    · refine ko_icT hK (q := 1835) (op := .gt) ((lexit hL (by omega)).mpr hx) (E.dc dL_law_30) rfl ?_
      exact ko_iconst hK (q := 1836) ic_1 (E.dc dL_law_1835) rfl (hend _ _ _ (by omega) (by omega))
    · refine ko_icF hK (q := 33) (op := .gt) 1835 (fun h => hx ((lexit hL (by omega)).mp h)) (E.dc dL_law_30) rfl rfl ?_
      refine ko_aload_n hK (q := 34) rfl (by decide) (E.dc dL_law_33) rfl ?_
      refine ko_iload hK (q := 36) rfl (E.dc dL_law_34) rfl ?_
      refine lw_sld E (q := 37) ((zs_inb (by omega)).mpr (by omega)) dL_law_36 rfl ?_
      refine ko_bipush hK (q := 39) bp_63 (E.dc dL_law_37) rfl ?_
      refine ko_iand hK (q := 40) (E.dc dL_law_39) rfl ?_
      have next : ∀ S' mm', ShOK S' → (S' = S ∨ S' = S ++ [(18, 6)]) → Inv mm' → WI mm' → LW G p l e s m args below meth c Q (1829, [(4, .int (nI i)), (0, .ref 3000000), (1, .ref 0), (2, .ref 138), (3, .ref 158)], [], S', mm') := by
        intro S' mm' hS' hd hI' hW'
        refine ko_iinc hK (q := 1832) (v := nI (i + 6)) rfl (nI_add i 6) [(4, .int (nI (i + 6))), (0, .ref 3000000), (1, .ref 0), (2, .ref 138), (3, .ref 158)] rfl (by rw [E.2.2.1]; decide) (E.dc dL_law_1829) rfl ?_
        refine ko_goto hK (q := 23) (E.dc dL_law_1832) rfl ?_
        have hz : S'.length ≤ S.length + 1 ∧ nS S' ≤ nS S + 6 := by
          rcases hd with rfl | rfl
          · omega
          · rw [nS_app]
            simp [nS]
        exact ih (i + 6) S' mm' (by omega) (by omega) hS' (by omega) (by omega) hI' hW'
      obtain ⟨v1, v2⟩ := and63 (xs (nI i).toNatClampNeg)
      generalize xs (nI i).toNatClampNeg &&& 63 = v at v1 v2 ⊢
      by_cases h50 : 49 < v.toInt
      · exact ko_tsOut hK (q := 1829) (E.dc dL_law_40) (Or.inr h50) rfl (next S mm hS (Or.inl rfl) hI hW)
      · obtain ⟨k, hk⟩ : ∃ k : Nat, v.toInt = (k : Int) := ⟨v.toInt.toNat, by omega⟩
        have hk50 : k < 50 := by omega
        refine ko_tsIn hK (q := lOff.getD k 0) (off := ((lOff.getD k 0 : Nat) : Int) - 40) (E.dc dL_law_40) (by omega) (by omega) ?_ (by omega) (lw_case E hS (by omega) hI hW (hin_of hL (by omega)) next k hk50)
        rw [hk, show ((k : Int) - 0).toNat = k by omega]
        exact lOff_in k hk50
end LOOP
