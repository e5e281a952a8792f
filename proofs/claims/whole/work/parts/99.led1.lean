/-! the class's led: words of its throw; its ways in the small machine -/
def nse : String := "java/util/NoSuchElementException"
def nseUp : List String := ["java/lang/RuntimeException", "java/lang/Exception"]
def zUn : Cond := .isRef (.static "java/lang/Throwable" "UNASSIGNED_STACK" "[Ljava/lang/StackTraceElement;")
def zSu : Cond := .isRef (.static "java/lang/Throwable" "SUPPRESSED_SENTINEL" "Ljava/util/List;")
def thN : String := "java/lang/Throwable"
def exL : List Cond := [zUn, zSu, .laysStatic thN "UNASSIGNED_STACK" "[Ljava/lang/StackTraceElement;", .laysStatic thN "SUPPRESSED_SENTINEL" "Ljava/util/List;", .declares ⟨"java/lang/RuntimeException", "<init>", "()V"⟩, .declares ⟨"java/lang/Exception", "<init>", "()V"⟩, .declares ⟨thN, "<init>", "()V"⟩, .castable nse nse]
theorem own_in : ∀ w ∈ Bundle.ownAtoms0 "FanParts" 367 nse nseUp, (w ∈ lw_tbl ∧ goodWord w = true) ∨ w ∈ exL := by decide +kernel
theorem exL_in : ∀ w ∈ exL.drop 2, w ∈ lw_tbl := by decide +kernel
theorem nse_cl : inT (.classLink RX10 365 nse) := ⟨by decide +kernel, by decide +kernel⟩
theorem nse_in : inT (.initialized nse) := ⟨by decide +kernel, by decide +kernel⟩
theorem nse_is : inT (.instantiable nse 6) := ⟨by decide +kernel, by decide +kernel⟩
theorem nse_c1 : inT (.code ⟨"java/lang/RuntimeException", "<init>", "()V"⟩ Bundle.five 1 none) := ⟨by decide +kernel, by decide +kernel⟩
theorem nse_c2 : inT (.code ⟨"java/lang/Exception", "<init>", "()V"⟩ Bundle.five 1 none) := ⟨by decide +kernel, by decide +kernel⟩
theorem nse_c3 : inT (.code ⟨thN, "<init>", "()V"⟩ Jvm.LibCode.Throwable.Init0.code 1 none) := ⟨by decide +kernel, by decide +kernel⟩
theorem nse_m1 : inT (.instanceMethod ⟨"java/lang/RuntimeException", "<init>", "()V"⟩) := ⟨by decide +kernel, by decide +kernel⟩
theorem nse_m2 : inT (.instanceMethod ⟨"java/lang/Exception", "<init>", "()V"⟩) := ⟨by decide +kernel, by decide +kernel⟩
theorem nse_m3 : inT (.instanceMethod ⟨thN, "<init>", "()V"⟩) := ⟨by decide +kernel, by decide +kernel⟩
/-- a static reference that nobody writes: all that the words say of it -/
def zS (C n d : String) (A : Nat → Prop) (U : State) : Prop := ∃ c k i f a cell v, U.vm.findClass C = some c ∧ U.fieldFound? C n d = some (c, k, i, f) ∧ f.isStatic = true ∧ k.statics = some a ∧ U.heap[a]? = some cell ∧ cell.vm.isStatics = true ∧ cell.cls = c ∧ f.slot < cell.slots.size ∧ k.staticTypes[f.slot]? = some f.type ∧ cell.slots[f.slot]? = some v ∧ (v = .null ∨ ∃ t, v = .ref t) ∧ ¬ A a
theorem zS_of {args : Array Value} {s : State} {C n d : String} {A : Nat → Prop} (hl : (Cond.laysStatic C n d).before args s = true) (h : (Cond.isRef (.static C n d)).before args s = true) (hA : ∀ a : Nat, a < s.heap.size → ¬ A a) : zS C n d A s := by
  obtain ⟨c, k, i, f, a, cell, hc, hi, hst, ha, hcell, hs, hcls, hlt, hty⟩ := Cond.laysStatic_spec hl
  cases hv : (Term.static C n d).eval args s none [] s with
  | none => simp [Cond.before, Cond.holds, Cond.value, hv] at h
  | some w =>
    obtain ⟨hst', a', cell', ha', hcell', -, hslot⟩ := Term.static_spec hi hv
    cases ha.symm.trans ha'
    cases hcell.symm.trans hcell'
    refine ⟨c, k, i, f, a, cell, w, hc, hi, hst, ha, hcell, hs, hcls, hlt, hty, hslot, ?_, hA a (Array.getElem?_eq_some_iff.mp hcell).1⟩
    simp only [Cond.before, Cond.holds, Cond.value, hv] at h
    cases w with
    | null => exact Or.inl rfl
    | ref t => exact Or.inr ⟨t, rfl⟩
    | _ => simp at h
theorem zS.warm {C n d : String} {A : Nat → Prop} {s U : State} (h : zS C n d A s) (hW : s.WarmedH U.vm) (hq : ∀ a : Nat, a < s.heap.size → ¬ A a → U.heap[a]? = s.heap[a]?) : zS C n d A U := by
  obtain ⟨c, k, i, f, a, cell, v, hc, hi, hst, ha, hcell, hs, hcls, hlt, hty, hslot, hv, hA⟩ := h
  obtain ⟨k', hi', he⟩ := State.fieldFound?_setVm hW.alike hi
  exact ⟨c, k', i, f, a, cell, v, by rw [hW.alike.findClass]; exact hc, hi', hst, by rw [he]; exact ha, by rw [hq a (Array.getElem?_eq_some_iff.mp hcell).1 hA]; exact hcell, hs, hcls, hlt, by rw [he]; exact hty, hslot, hv, hA⟩
theorem zS.lays {args : Array Value} {U : State} {C n d : String} {A : Nat → Prop} (h : zS C n d A U) : (Cond.laysStatic C n d).before args U = true := by
  obtain ⟨c, k, i, f, a, cell, v, hc, hi, hst, ha, hcell, hs, hcls, hlt, hty, hslot, hv, hA⟩ := h
  simp [Cond.before, Cond.holds, Cond.value, hc, hi, hst, ha, hcell, hs, hcls, hlt, hty]
theorem zS.ref {args : Array Value} {U : State} {C n d : String} {A : Nat → Prop} (h : zS C n d A U) : (Cond.isRef (.static C n d)).before args U = true := by
  obtain ⟨c, k, i, f, a, cell, v, hc, hi, hst, ha, hcell, hs, hcls, hlt, hty, hslot, hv, hA⟩ := h
  rcases hv with rfl | ⟨t, rfl⟩ <;> simp [Cond.before, Cond.holds, Cond.value, Term.eval, State.fieldNamed?, hi, hst, ha, hcell, hs, hslot]
theorem decl_of {args : Array Value} {U : State} {y : MethodName} {b : ByteArray} {n : Nat} {r : Option FieldType} (h1 : (Cond.code y b n r).before args U = true) (h2 : (Cond.instanceMethod y).before args U = true) : (Cond.declares y).before args U = true := by
  obtain ⟨mk, methM, hnamed, hmethM, hstM, habM⟩ := Cond.instanceMethod_spec h2
  obtain ⟨meth', c', hm', hc', -, -, -, -, -, hsig⟩ := Cond.code_spec hnamed h1
  cases hmethM.symm.trans hm'
  simp [Cond.before, Cond.holds, Cond.value, hnamed, hmethM, hstM, hsig]
def TH (A : Nat → Prop) (U : State) : Prop := zS thN "UNASSIGNED_STACK" "[Ljava/lang/StackTraceElement;" A U ∧ zS thN "SUPPRESSED_SENTINEL" "Ljava/util/List;" A U
theorem TH.warm {A : Nat → Prop} {s U : State} (h : TH A s) (hW : s.WarmedH U.vm) (hq : ∀ a : Nat, a < s.heap.size → ¬ A a → U.heap[a]? = s.heap[a]?) : TH A U := ⟨h.1.warm hW hq, h.2.warm hW hq⟩
theorem own_at {args : Array Value} {U : State} {A : Nat → Prop} (hT : ∀ w, inT w → w.before args U = true) (hZ : TH A U) : ∀ w ∈ Bundle.ownAtoms0 "FanParts" 367 nse nseUp, w.before args U = true := by
  intro w hw
  rcases own_in w hw with h | h
  · exact hT w h
  · simp only [exL, List.mem_cons, List.not_mem_nil, or_false] at h
    rcases h with rfl | rfl | rfl | rfl | rfl | rfl | rfl | rfl
    · exact hZ.1.ref
    · exact hZ.2.ref
    · exact hZ.1.lays
    · exact hZ.2.lays
    · exact decl_of (hT _ nse_c1) (hT _ nse_m1)
    · exact decl_of (hT _ nse_c2) (hT _ nse_m2)
    · exact decl_of (hT _ nse_c3) (hT _ nse_m3)
    · obtain ⟨cC, kC, hfc, -⟩ := Cond.instantiable_spec (hT _ nse_is)
      simp [Cond.before, Cond.holds, Cond.value, hfc, Vm.assignable_self]
section LED2
variable {S : Sh} {m : Me} {x : Int32}
theorem ledC_in {o : Option Nat} (h : ∀ c, o = some c → c < 30) : ledC o = -1 ↔ o = none := by
  cases o with
  | none => exact ⟨fun _ => rfl, fun _ => rfl⟩
  | some c =>
    have := h c rfl
    refine ⟨fun e => ?_, fun e => by cases e⟩
    exfalso
    have e2 : nI c = -nI 1 := e
    rw [zm_eq (by omega) (by omega)] at e2
    omega
set_option maxRecDepth 20000 in
theorem cled_ok (hS : ShOK S) (hI : Inv m) {c : Nat} (hc : c < 30) (hx : ¬ x < 0) (h4 : ¬ m.1 0 4 = 0) (hb : fX10_bareOfFront x m = some (nI c, m)) : Call 4 mX10_led [.ref 0, .int x] (S, m) (some (.int (nI c))) (S, m) := by
  refine (call_of (P := fun _ => True) (Nat.le_of_ble_eq_true rfl) (by simp [Value.category]) ?_).1
  show TT _ (Call 3) mX10_led (0, [(0, .ref 0), (1, .int x)], [], S, m) _ _
  have q := (kX10_bareOfFront hS hb hI).1
  have hne : ¬ nI c = (-1 : Int32) := by
    show ¬ nI c = -nI 1
    rw [zm_eq (by omega) (by omega)]
    omega
  refine to_iload_n (q := 1) rfl dX10_led_0 rfl ?_
  refine to_ifF (q := 4) (op := .lt) 11 hx dX10_led_1 rfl rfl ?_
  refine to_aload_n (q := 5) rfl (by decide) dX10_led_4 rfl ?_
  refine to_getI (q := 8) (k0 := 10) (C := RX10) (T := TX10) (N := 17) (j := 4) rfl fx_X10_110 (h_0 hS) rfl dX10_led_5 rfl ?_
  refine to_ifT (q := 15) (op := .ne) h4 dX10_led_8 rfl ?_
  refine to_aload_n (q := 16) rfl (by decide) dX10_led_15 rfl ?_
  refine to_iload_n (q := 17) rfl dX10_led_16 rfl ?_
  refine to_virtI (q := 20) mX10_bareOfFront [.int x] dX10_led_17 rfl rfl (Nat.le_of_ble_eq_true rfl) mo_X10_bareOfFront mv_X10_362 (Or.inl ⟨10, 17, _, h_0 hS, rfl, rfl⟩) q ?_
  refine to_istore_n (q := 21) [(2, .int (nI c)), (0, .ref 0), (1, .int x)] rfl (by decide) dX10_led_20 rfl ?_
  refine to_iload_n (q := 22) rfl dX10_led_21 rfl ?_
  refine to_iconst (q := 23) ic_m1 dX10_led_22 rfl ?_
  refine to_icT (q := 34) (op := .ne) hne dX10_led_23 rfl ?_
  refine to_iload_n (q := 35) rfl dX10_led_34 rfl ?_
  exact to_iret dX10_led_35 rfl rfl rfl rfl trivial
set_option maxRecDepth 20000 in
theorem cled_end : Wy (Call 3) mX10_led (26, [(2, .int (-1 : Int32)), (0, .ref 0), (1, .int x)], [], S, m) (20, [(0, .ref 0), (1, .int x)], [.int (-1)], S, m) := by
  refine ko_istore_n Wy.cl (q := 21) [(2, .int (-1 : Int32)), (0, .ref 0), (1, .int x)] rfl (by decide) dX10_led_20 rfl ?_
  refine ko_iload_n Wy.cl (q := 22) rfl dX10_led_21 rfl ?_
  refine ko_iconst Wy.cl (q := 23) ic_m1 dX10_led_22 rfl ?_
  refine ko_icF Wy.cl (q := 26) (op := .ne) 34 (fun h => h rfl) dX10_led_23 rfl rfl ?_
  exact Wy.rf
set_option maxRecDepth 20000 in
theorem cled_no (hS : ShOK S) (hI : Inv m) (hb : ¬ x < 0 → ¬ m.1 0 4 = 0 → fX10_bareOfFront x m = some (-1, m)) : Wy (Call 3) mX10_led (26, [(2, .int (-1 : Int32)), (0, .ref 0), (1, .int x)], [], S, m) (0, [(0, .ref 0), (1, .int x)], [], S, m) := by
  refine ko_iload_n Wy.cl (q := 1) rfl dX10_led_0 rfl ?_
  have hm1 : Wy (Call 3) mX10_led (26, [(2, .int (-1 : Int32)), (0, .ref 0), (1, .int x)], [], S, m) (11, [(0, .ref 0), (1, .int x)], [], S, m) := by
    refine ko_iconst Wy.cl (q := 12) ic_m1 dX10_led_11 rfl ?_
    exact ko_goto Wy.cl (q := 20) dX10_led_12 rfl cled_end
  by_cases hx : x < 0
  · exact ko_ifT Wy.cl (q := 11) (op := .lt) hx dX10_led_1 rfl hm1
  · refine ko_ifF Wy.cl (q := 4) (op := .lt) 11 hx dX10_led_1 rfl rfl ?_
    refine ko_aload_n Wy.cl (q := 5) rfl (by decide) dX10_led_4 rfl ?_
    refine ko_getI Wy.cl (q := 8) (k0 := 10) (C := RX10) (T := TX10) (N := 17) (j := 4) rfl fx_X10_110 (h_0 hS) rfl dX10_led_5 rfl ?_
    by_cases h4 : m.1 0 4 = 0
    · exact ko_ifF Wy.cl (q := 11) (op := .ne) 15 (fun h => h h4) dX10_led_8 rfl rfl hm1
    · have q := (kX10_bareOfFront hS (hb hx h4) hI).1
      refine ko_ifT Wy.cl (q := 15) (op := .ne) h4 dX10_led_8 rfl ?_
      refine ko_aload_n Wy.cl (q := 16) rfl (by decide) dX10_led_15 rfl ?_
      refine ko_iload_n Wy.cl (q := 17) rfl dX10_led_16 rfl ?_
      exact ko_virt Wy.cl (q := 20) mX10_bareOfFront [.int x] dX10_led_17 rfl rfl (Nat.le_of_ble_eq_true rfl) mo_X10_bareOfFront mv_X10_362 (Or.inl ⟨10, 17, _, h_0 hS, rfl, rfl⟩) q cled_end
end LED2
