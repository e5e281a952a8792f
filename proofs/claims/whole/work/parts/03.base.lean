abbrev MI : Type := MethodName × ByteArray × Nat × Option FieldType
/-- words of the tables that go with every call -/
def inT (w : Cond) : Prop := w ∈ lw_tbl ∧ goodWord w = true
def TB : List Cond := lw_tbl.filter goodWord
theorem inT_TB {w : Cond} (h : inT w) : w ∈ TB := List.mem_filter.mpr h
theorem TB_inT {w : Cond} (h : w ∈ TB) : inT w := List.mem_filter.mp h
theorem inT_of (i : Nat) {w : Cond} (h : lw_tbl[i]? = some w) (g : goodWord w = true) : inT w := ⟨List.mem_of_getElem? h, g⟩
/-- what a call's words must say -/
def mOk (μ : MI) (n : Nat) : Prop := inT (.code μ.1 μ.2.1 μ.2.2.1 μ.2.2.2) ∧ inT (.initialized μ.1.cls) ∧ (μ.1.cls ≠ "java/lang/invoke/MethodHandle" ∧ μ.1.cls ≠ "java/lang/invoke/VarHandle" ∧ (parseMethodDescriptor μ.1.desc).map (fun d => d.parameters.length) = some n) ∧ plainName μ.1.cls = true ∧ μ.2.2.1 ≤ 40
