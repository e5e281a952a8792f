/-! A small machine over tables of numbers and references: what a method does, a row an instruction, calls by what they answer. -/
abbrev Sh : Type := List (Nat × Nat)
abbrev Me : Type := (Nat → Nat → Int32) × (Nat → Nat → Option Nat)
abbrev Sm : Type := Sh × Me
abbrev Lo : Type := List (Nat × Value)
abbrev Cf : Type := Nat × Lo × List Value × Sm
def WS (μ : MI) : List Cond := Cond.code μ.1 μ.2.1 μ.2.2.1 μ.2.2.2 :: TB
/-- which fields are references, by class and number -/
def rtab : List (List Nat) := [[0, 1, 2], [0, 1, 2], [5, 6, 8, 10, 12], [0, 1, 3, 4, 5, 6], [0, 1, 2], [0], [0, 2], [0, 1], [0], [0], [0, 1, 3, 5, 6, 8, 9, 10, 11, 12, 13, 14, 15], [1, 12, 15, 16, 17, 18, 19, 20, 23, 24, 27, 28, 29, 30, 32, 33, 34, 35, 36]]
def rt (k j : Nat) : Bool := (rtab.getD k []).contains j
def fv (m : Me) (a j : Nat) (r : Bool) : Value := if r = true then va_rf (m.2 a j) else .int (m.1 a j)
def setI (m : Me) (a j : Nat) (x : Int32) : Me := (fun a' j' => if a' = a ∧ j' = j then x else m.1 a' j', m.2)
def setR (m : Me) (a j : Nat) (o : Option Nat) : Me := (m.1, fun a' j' => if a' = a ∧ j' = j then o else m.2 a' j')
def zer (m : Me) (a : Nat) : Me := (fun a' j' => if a' = a then 0 else m.1 a' j', fun a' j' => if a' = a then none else m.2 a' j')
def cpyI (m : Me) (a0 a1 sp dp n : Nat) : Me := (fun a' j' => if a' = a1 then va_cpy (m.1 a0) (m.1 a1) sp dp n j' else m.1 a' j', m.2)
/-- string constants: whose, at which entry, the text; their letters -/
def strs : List (String × Nat × String) := [("FanParts$Reader", 96, "fan"), ("FanParts$Reader", 125, "ribs"), ("FanParts$Reader", 136, "wide"), ("FanParts$Reader", 140, "price"), ("FanParts$Reader", 144, "opens"), ("FanParts$Reader", 146, "even"), ("FanParts$Reader", 148, "left"), ("FanParts$Reader", 100, "rib"), ("FanParts$Reader", 102, "word"), ("FanParts$Reader", 104, "wish"), ("FanParts$Reader", 106, "seen"), ("FanParts$Reader", 108, "beat"), ("FanParts$Reader", 162, "broken"), ("FanParts$Reader", 199, "front"), ("FanParts$Reader", 201, "back"), ("FanParts$Reader", 220, "from"), ("FanPartsModel", 182, "fan"), ("FanPartsModel", 216, "ribs"), ("FanPartsModel", 222, "wide"), ("FanPartsModel", 224, "price"), ("FanPartsModel", 226, "opens"), ("FanPartsModel", 228, "left"), ("FanPartsModel", 230, "even"), ("FanPartsModel", 187, "rib"), ("FanPartsModel", 235, "broken"), ("FanPartsModel", 196, "word"), ("FanPartsModel", 201, "wish"), ("FanPartsModel", 152, "front"), ("FanPartsModel", 154, "back"), ("FanPartsModel", 206, "seen"), ("FanPartsModel", 243, "from"), ("FanPartsModel", 211, "beat")]
def sby : List (List Int32) := [[102, 97, 110], [114, 105, 98, 115], [119, 105, 100, 101], [112, 114, 105, 99, 101], [111, 112, 101, 110, 115], [101, 118, 101, 110], [108, 101, 102, 116], [114, 105, 98], [119, 111, 114, 100], [119, 105, 115, 104], [115, 101, 101, 110], [98, 101, 97, 116], [98, 114, 111, 107, 101, 110], [102, 114, 111, 110, 116], [98, 97, 99, 107], [102, 114, 111, 109], [102, 97, 110], [114, 105, 98, 115], [119, 105, 100, 101], [112, 114, 105, 99, 101], [111, 112, 101, 110, 115], [108, 101, 102, 116], [101, 118, 101, 110], [114, 105, 98], [98, 114, 111, 107, 101, 110], [119, 111, 114, 100], [119, 105, 115, 104], [102, 114, 111, 110, 116], [98, 97, 99, 107], [115, 101, 101, 110], [102, 114, 111, 109], [98, 101, 97, 116]]
def slen (i : Nat) : Nat := (sby.getD i []).length
def sch (i j : Nat) : Int32 := (sby.getD i []).getD j 0
/-- how many words of the stack -/
def cats (st : List Value) : Nat := (st.map fun v => v.category).sum
/-- the branch's test -/
def cnd (op : ClassFile.Cond) (x y : Int32) : Prop := match op with
  | .eq => x = y
  | .ne => ¬ x = y
  | .lt => x < y
  | .ge => y ≤ x
  | .gt => y < x
  | .le => x ≤ y
/-- putting a value into the locals -/
def stl (ls : Lo) (i : Nat) (v : Value) : Lo := (i, v) :: ls.filter (fun q => !(q.1 == i))
def nestW : List Cond := [.methodLinkNest "FanParts" 11 ⟨"FanParts$Reader", "<init>", "()V"⟩ "FanParts", .methodLinkNest "FanParts$Fan" 11 ⟨"FanParts$Painting", "<init>", "()V"⟩ "FanParts", .methodLinkNest "FanParts$Fan" 34 ⟨"FanParts$Saying", "<init>", "()V"⟩ "FanParts", .methodLinkNest "FanParts" 32 ⟨"FanParts$Painting", "<init>", "()V"⟩ "FanParts", .methodLinkNest "FanParts" 43 ⟨"FanParts$Acts", "<init>", "()V"⟩ "FanParts", .methodLinkNest "FanParts" 50 ⟨"FanParts$Row", "<init>", "()V"⟩ "FanParts", .methodLinkNest "FanParts" 60 ⟨"FanParts$Sight", "<init>", "()V"⟩ "FanParts", .methodLinkNest "FanParts$Mender" 36 ⟨"FanParts$Row", "<init>", "()V"⟩ "FanParts", .methodLinkNest "FanParts$Mender" 37 ⟨"FanParts$Saying", "<init>", "()V"⟩ "FanParts", .methodLinkNest "FanParts" 74 ⟨"FanParts$Packer", "<init>", "()V"⟩ "FanParts", .methodLinkNest "FanParts" 81 ⟨"FanParts$Calmer", "<init>", "()V"⟩ "FanParts", .methodLinkNest "FanParts$Reader" 172 ⟨"FanParts", "cellIndex", "(II)I"⟩ "FanParts", .methodLinkNest "FanParts$Painting" 28 ⟨"FanParts", "cellIndex", "(II)I"⟩ "FanParts", .methodLinkNest "FanParts$Sight" 71 ⟨"FanParts", "cellIndex", "(II)I"⟩ "FanParts"]
theorem nestW_in : ∀ w ∈ nestW, w ∈ lw_tbl := by decide +kernel
/-- the classes of references' rows -/
def aCls (k : Nat) : Nat := if k = 15 then 5 else if k = 16 then 7 else 8
/-- one instruction -/
def OneI (call : MI → List Value → Sm → Option Value → Sm → Prop) (μ : MI) (pc : Nat) (ls : Lo) (st : List Value) (S : Sh) (m : Me) (c' : Cf) (ins : Instr) (len : Nat) : Prop := match ins with
  | .iconst n => len = 1 ∧ c' = (pc + 1, ls, .int (Int32.ofInt n) :: st, S, m)
  | .bipush n => len = 2 ∧ c' = (pc + 2, ls, .int (Int8.ofInt n).toInt32 :: st, S, m)
  | .sipush n => len = 3 ∧ c' = (pc + 3, ls, .int (Int16.ofInt n).toInt32 :: st, S, m)
  | .ldc ix => len = 2 ∧ ((∃ v, inT (.constant μ.1.cls ix v) ∧ c' = (pc + 2, ls, .int v :: st, S, m)) ∨ ∃ i tx, strs[i]? = some (μ.1.cls, ix, tx) ∧ c' = (pc + 2, ls, .ref (1000000 + i) :: st, S, m))
  | .ldc_w ix => len = 3 ∧ ∃ v, inT (.constant μ.1.cls ix v) ∧ c' = (pc + 3, ls, .int v :: st, S, m)
  | .iload_n k => len = 1 ∧ ∃ x, ls.lookup k.val = some (.int x) ∧ c' = (pc + 1, ls, .int x :: st, S, m)
  | .iload k => len = 2 ∧ ∃ x, ls.lookup k = some (.int x) ∧ c' = (pc + 2, ls, .int x :: st, S, m)
  | .aload_n k => len = 1 ∧ ∃ x, ls.lookup k.val = some (.ref x) ∧ x < 4000000 ∧ c' = (pc + 1, ls, .ref x :: st, S, m)
  | .aload k => len = 2 ∧ ∃ x, ls.lookup k = some (.ref x) ∧ x < 4000000 ∧ c' = (pc + 2, ls, .ref x :: st, S, m)
  | .istore_n k => len = 1 ∧ ∃ x st', st = .int x :: st' ∧ k.val < μ.2.2.1 ∧ c' = (pc + 1, stl ls k.val (.int x), st', S, m)
  | .istore k => len = 2 ∧ ∃ x st', st = .int x :: st' ∧ k < μ.2.2.1 ∧ c' = (pc + 2, stl ls k (.int x), st', S, m)
  | .astore_n k => len = 1 ∧ ∃ x st', st = .ref x :: st' ∧ x < 4000000 ∧ k.val < μ.2.2.1 ∧ c' = (pc + 1, stl ls k.val (.ref x), st', S, m)
  | .astore k => len = 2 ∧ ∃ x st', st = .ref x :: st' ∧ x < 4000000 ∧ k < μ.2.2.1 ∧ c' = (pc + 2, stl ls k (.ref x), st', S, m)
  | .iinc k n => len = 3 ∧ ∃ x, ls.lookup k = some (.int x) ∧ k < μ.2.2.1 ∧ c' = (pc + 3, stl ls k (.int (x + Int32.ofInt n)), st, S, m)
  | .iadd => len = 1 ∧ ∃ x y st', st = .int y :: .int x :: st' ∧ c' = (pc + 1, ls, .int (x + y) :: st', S, m)
  | .isub => len = 1 ∧ ∃ x y st', st = .int y :: .int x :: st' ∧ c' = (pc + 1, ls, .int (x - y) :: st', S, m)
  | .imul => len = 1 ∧ ∃ x y st', st = .int y :: .int x :: st' ∧ c' = (pc + 1, ls, .int (x * y) :: st', S, m)
  | .iand => len = 1 ∧ ∃ x y st', st = .int y :: .int x :: st' ∧ c' = (pc + 1, ls, .int (x &&& y) :: st', S, m)
  | .ior => len = 1 ∧ ∃ x y st', st = .int y :: .int x :: st' ∧ c' = (pc + 1, ls, .int (x ||| y) :: st', S, m)
  | .ixor => len = 1 ∧ ∃ x y st', st = .int y :: .int x :: st' ∧ c' = (pc + 1, ls, .int (x ^^^ y) :: st', S, m)
  | .ishl => len = 1 ∧ ∃ x y st', st = .int y :: .int x :: st' ∧ c' = (pc + 1, ls, .int (x <<< (y &&& 31)) :: st', S, m)
  | .ishr => len = 1 ∧ ∃ x y st', st = .int y :: .int x :: st' ∧ c' = (pc + 1, ls, .int (x >>> (y &&& 31)) :: st', S, m)
  | .iushr => len = 1 ∧ ∃ x y st', st = .int y :: .int x :: st' ∧ c' = (pc + 1, ls, .int (x.toUInt32 >>> (y.toUInt32 &&& Int32.toUInt32 31)).toInt32 :: st', S, m)
  | .idiv => len = 1 ∧ ∃ x y st', st = .int y :: .int x :: st' ∧ (¬ y = 0) ∧ c' = (pc + 1, ls, .int (x / y) :: st', S, m)
  | .irem => len = 1 ∧ ∃ x y st', st = .int y :: .int x :: st' ∧ (¬ y = 0) ∧ c' = (pc + 1, ls, .int (x - x / y * y) :: st', S, m)
  | .i2b => len = 1 ∧ ∃ x st', st = .int x :: st' ∧ c' = (pc + 1, ls, .int x.toInt8.toInt32 :: st', S, m)
  | .i2c => len = 1 ∧ ∃ x st', st = .int x :: st' ∧ c' = (pc + 1, ls, .int (x.toUInt32 % 65536).toInt32 :: st', S, m)
  | .dup => len = 1 ∧ ∃ v st', st = v :: st' ∧ v.category = 1 ∧ c' = (pc + 1, ls, v :: v :: st', S, m)
  | .dup2 => len = 1 ∧ ∃ v w st', st = v :: w :: st' ∧ v.category = 1 ∧ w.category = 1 ∧ c' = (pc + 1, ls, v :: w :: v :: w :: st', S, m)
  | .pop => len = 1 ∧ ∃ v st', st = v :: st' ∧ v.category = 1 ∧ c' = (pc + 1, ls, st', S, m)
  | .goto off => len = 3 ∧ ∃ tgt : Nat, (pc : Int) + off = (tgt : Int) ∧ c' = (tgt, ls, st, S, m)
  | .ifCond op off => len = 3 ∧ ∃ x st' tgt, st = .int x :: st' ∧ (pc : Int) + off = ((tgt : Nat) : Int) ∧ ((cnd op x 0 ∧ c' = (tgt, ls, st', S, m)) ∨ (¬ cnd op x 0 ∧ c' = (pc + 3, ls, st', S, m)))
  | .if_icmp op off => len = 3 ∧ ∃ x y st' tgt, st = .int y :: .int x :: st' ∧ (pc : Int) + off = ((tgt : Nat) : Int) ∧ ((cnd op x y ∧ c' = (tgt, ls, st', S, m)) ∨ (¬ cnd op x y ∧ c' = (pc + 3, ls, st', S, m)))
  | .tableswitch dflt lo hi offs => ∃ x st', st = .int x :: st' ∧ (((x.toInt < lo ∨ hi < x.toInt) ∧ ∃ tgt : Nat, (pc : Int) + dflt = (tgt : Int) ∧ c' = (tgt, ls, st', S, m)) ∨ ((¬ x.toInt < lo) ∧ (¬ hi < x.toInt) ∧ ∃ off, offs[(x.toInt - lo).toNat]? = some off ∧ ∃ tgt : Nat, (pc : Int) + off = (tgt : Int) ∧ c' = (tgt, ls, st', S, m)))
  | .getstatic ix => len = 3 ∧ ((inT (.fieldLink μ.1.cls ix "java/lang/String" "COMPACT_STRINGS" "Z") ∧ c' = (pc + 3, ls, .int 1 :: st, S, m)) ∨ (inT (.fieldLink μ.1.cls ix "jdk/internal/util/Preconditions" "SIOOBE_FORMATTER" "Ljava/util/function/BiFunction;") ∧ c' = (pc + 3, ls, .ref 4000000 :: st, S, m)))
  | .getfield ix => len = 3 ∧ ((∃ a st' k n C T N j, st = .ref a :: st' ∧ S[a]? = some (k, n) ∧ vwCl[k]? = some (C, T, N) ∧ j < N ∧ (T j).1 = C ∧ inT (.fieldLink μ.1.cls ix C (T j).2.1 (T j).2.2.1) ∧ c' = (pc + 3, ls, fv m a j (rt k j) :: st', S, m))
      ∨ (∃ i st', st = .ref (1000000 + i) :: st' ∧ i < 32 ∧ ((inT (.fieldLink μ.1.cls ix "java/lang/String" "coder" "B") ∧ c' = (pc + 3, ls, .int 0 :: st', S, m)) ∨ (inT (.fieldLink μ.1.cls ix "java/lang/String" "value" "[B") ∧ c' = (pc + 3, ls, .ref (2000000 + i) :: st', S, m)))))
  | .putfield ix => len = 3 ∧ ∃ v a st' k n C T N j ty, st = v :: .ref a :: st' ∧ S[a]? = some (k, n) ∧ vwCl[k]? = some (C, T, N) ∧ j < N ∧ (T j).1 = C ∧ inT (.fieldLink μ.1.cls ix C (T j).2.1 (T j).2.2.1) ∧ parseFieldDescriptor (T j).2.2.1 = some ty ∧ ((T j).2.2.2 = false ∨ (μ.1.name = "<init>" ∧ μ.1.cls = C))
      ∧ ((∃ x, v = .int x ∧ rt k j = false ∧ narrow ty (.int x) = .int x ∧ fits ty (.int x) = true ∧ c' = (pc + 3, ls, st', S, setI m a j x)) ∨ (∃ b, v = .ref b ∧ b < S.length ∧ rt k j = true ∧ (∀ q : Nat, narrow ty (.ref q) = .ref q ∧ fits ty (.ref q) = true) ∧ c' = (pc + 3, ls, st', S, setR m a j (some b))))
  | .arraylength => len = 1 ∧ ((∃ a st' k n, st = .ref a :: st' ∧ S[a]? = some (k, n) ∧ 12 ≤ k ∧ k ≤ 17 ∧ c' = (pc + 1, ls, .int (Int32.ofNat n) :: st', S, m)) ∨ (∃ i st', st = .ref (2000000 + i) :: st' ∧ i < 32 ∧ c' = (pc + 1, ls, .int (Int32.ofNat (slen i)) :: st', S, m)))
  | .iaload => len = 1 ∧ ∃ a i st' n, st = .int i :: .ref a :: st' ∧ S[a]? = some (13, n) ∧ vp_in i n ∧ c' = (pc + 1, ls, .int (m.1 a i.toNatClampNeg) :: st', S, m)
  | .baload => len = 1 ∧ ((∃ a i st' n, st = .int i :: .ref a :: st' ∧ S[a]? = some (12, n) ∧ vp_in i n ∧ c' = (pc + 1, ls, .int (m.1 a i.toNatClampNeg) :: st', S, m)) ∨ (∃ q i st', st = .int i :: .ref (2000000 + q) :: st' ∧ q < 32 ∧ vp_in i (slen q) ∧ c' = (pc + 1, ls, .int (sch q i.toNatClampNeg) :: st', S, m)))
  | .aaload => len = 1 ∧ ∃ a i st' k n, st = .int i :: .ref a :: st' ∧ S[a]? = some (k, n) ∧ 15 ≤ k ∧ k ≤ 17 ∧ vp_in i n ∧ c' = (pc + 1, ls, va_rf (m.2 a i.toNatClampNeg) :: st', S, m)
  | .iastore => len = 1 ∧ ∃ a i x st' n, st = .int x :: .int i :: .ref a :: st' ∧ S[a]? = some (13, n) ∧ vp_in i n ∧ c' = (pc + 1, ls, st', S, setI m a i.toNatClampNeg x)
  | .bastore => len = 1 ∧ ∃ a i x st' n, st = .int x :: .int i :: .ref a :: st' ∧ S[a]? = some (12, n) ∧ vp_in i n ∧ c' = (pc + 1, ls, st', S, setI m a i.toNatClampNeg x.toInt8.toInt32)
  | .aastore => len = 1 ∧ ∃ a i b st' k n nb, st = .ref b :: .int i :: .ref a :: st' ∧ S[a]? = some (k, n) ∧ 15 ≤ k ∧ k ≤ 17 ∧ vp_in i n ∧ S[b]? = some (aCls k, nb) ∧ c' = (pc + 1, ls, st', S, setR m a i.toNatClampNeg (some b))
  | .newarray ty => len = 2 ∧ ∃ x st' k n, st = .int x :: st' ∧ (¬ x < 0) ∧ x.toNatClampNeg = n ∧ n ≤ 100000 ∧ S.length < 999999 ∧ ((k = 12 ∧ newarray.typeOf ty = .byte) ∨ (k = 13 ∧ newarray.typeOf ty = .int)) ∧ inT (.arrayClass (newarray.typeOf ty)) ∧ c' = (pc + 2, ls, .ref S.length :: st', S ++ [(k, n)], zer m S.length)
  | .anewarray ix => len = 3 ∧ ∃ x st' k n q, st = .int x :: st' ∧ (¬ x < 0) ∧ x.toNatClampNeg = n ∧ n ≤ 100000 ∧ S.length < 999999 ∧ 15 ≤ k ∧ k ≤ 17 ∧ vwCl[aCls k]? = some q ∧ inT (.classLink μ.1.cls ix q.1) ∧ c' = (pc + 3, ls, .ref S.length :: st', S ++ [(k, n)], zer m S.length)
  | .new ix => len = 3 ∧ ∃ k C T N, vwCl[k]? = some (C, T, N) ∧ S.length < 999999 ∧ inT (.classLink μ.1.cls ix C) ∧ inT (.instantiable C N) ∧ inT (.initialized C) ∧ c' = (pc + 3, ls, .ref S.length :: st, S ++ [(k, N)], zer m S.length)
  | .invokevirtual ix => len = 3 ∧ ∃ μ' vs a st' r σ1, st = vs.reverse ++ .ref a :: st' ∧ cats st' ≤ 8 ∧ mOk μ' vs.length ∧ inT (.methodLink μ.1.cls ix μ'.1) ∧ inT (.instanceMethod μ'.1) ∧ inT (.selects μ'.1.cls μ'.1 μ'.1) ∧ ((∃ k n q, S[a]? = some (k, n) ∧ vwCl[k]? = some q ∧ q.1 = μ'.1.cls) ∨ (∃ i, a = 1000000 + i ∧ i < 32 ∧ μ'.1.cls = "java/lang/String")) ∧ call μ' (.ref a :: vs) (S, m) r σ1 ∧ c' = (pc + 3, ls, r.toList ++ st', σ1)
  | .invokestatic ix => len = 3 ∧ ((∃ μ' vs st' r σ1, st = vs.reverse ++ st' ∧ cats st' ≤ 8 ∧ mOk μ' vs.length ∧ (inT (.methodLink μ.1.cls ix μ'.1) ∨ .methodLinkNest μ.1.cls ix μ'.1 "FanParts" ∈ nestW) ∧ inT (.static μ'.1) ∧ call μ' vs (S, m) r σ1 ∧ c' = (pc + 3, ls, r.toList ++ st', σ1))
      ∨ (∃ a0 a1 sp dp x st' n0 n1, st = .int x :: .int dp :: .ref a1 :: .int sp :: .ref a0 :: st' ∧ cats st' ≤ 8 ∧ inT (.methodLink μ.1.cls ix arraycopyName) ∧ inT (.native arraycopyName) ∧ inT (.static arraycopyName) ∧ inT (.initialized "java/lang/System") ∧ S[a0]? = some (13, n0) ∧ S[a1]? = some (13, n1) ∧ (¬ sp < 0) ∧ (¬ dp < 0) ∧ (¬ x < 0) ∧ sp.toNatClampNeg + x.toNatClampNeg ≤ n0 ∧ dp.toNatClampNeg + x.toNatClampNeg ≤ n1 ∧ c' = (pc + 3, ls, st', S, cpyI m a0 a1 sp.toNatClampNeg dp.toNatClampNeg x.toNatClampNeg))
      ∨ (∃ x y st', st = .int y :: .int x :: st' ∧ cats st' ≤ 8 ∧ inT (.initialized "java/lang/Math") ∧ ((inT (.methodLink μ.1.cls ix Lib.Math.max.name) ∧ inT (.static Lib.Math.max.name) ∧ inT (.code Lib.Math.max.name Lib.Math.max.code 2 (some .int)) ∧ c' = (pc + 3, ls, .int (if x < y then y else x) :: st', S, m)) ∨ (inT (.methodLink μ.1.cls ix Lib.Math.min.name) ∧ inT (.static Lib.Math.min.name) ∧ inT (.code Lib.Math.min.name Lib.Math.min.code 2 (some .int)) ∧ c' = (pc + 3, ls, .int (if y < x then y else x) :: st', S, m)))))
  | .invokespecial ix => len = 3 ∧ ((∃ a st', st = .ref a :: st' ∧ a < 999999 ∧ cats st' ≤ 8 ∧ inT (.methodLink μ.1.cls ix objectInit) ∧ inT (.instanceMethod objectInit) ∧ inT (.code objectInit ⟨#[0xb1]⟩ 1 none) ∧ c' = (pc + 3, ls, st', S, m))
      ∨ (∃ μ' vs a st' σ1, st = vs.reverse ++ .ref a :: st' ∧ a < 999999 ∧ cats st' ≤ 8 ∧ mOk μ' vs.length ∧ μ'.1.name = "<init>" ∧ μ'.2.2.2 = none ∧ (inT (.methodLink μ.1.cls ix μ'.1) ∨ .methodLinkNest μ.1.cls ix μ'.1 "FanParts" ∈ nestW) ∧ inT (.instanceMethod μ'.1) ∧ call μ' (.ref a :: vs) (S, m) none σ1 ∧ c' = (pc + 3, ls, st', σ1)))
  | _ => False
def One (call : MI → List Value → Sm → Option Value → Sm → Prop) (μ : MI) (c c' : Cf) : Prop := ∃ ins len, decode μ.2.1 c.1 = .ok (ins, len) ∧ OneI call μ c.1 c.2.1 c.2.2.1 c.2.2.2.1 c.2.2.2.2 c' ins len
/-- how a method ends -/
def Fin' (μ : MI) (c : Cf) (r : Option Value) (σ' : Sm) : Prop := c.2.2.2 = σ' ∧ ((decode μ.2.1 c.1 = .ok (.ireturn, 1) ∧ ∃ x ty, c.2.2.1 = [.int x] ∧ μ.2.2.2 = some ty ∧ narrow ty (.int x) = .int x ∧ r = some (.int x))
  ∨ (decode μ.2.1 c.1 = .ok (.areturn, 1) ∧ ∃ a n, c.2.2.1 = [.ref a] ∧ a < 4000000 ∧ μ.2.2.2 = some (.object n) ∧ r = some (.ref a)) ∨ (decode μ.2.1 c.1 = .ok (.return_, 1) ∧ c.2.2.1 = [] ∧ μ.2.2.2 = none ∧ r = none))
def Path {α : Type} (rel : α → α → Prop) : Nat → α → α → Prop
  | 0, a, b => a = b
  | n + 1, a, b => ∃ c, rel a c ∧ Path rel n c b
def To (call : MI → List Value → Sm → Option Value → Sm → Prop) (μ : MI) (c : Cf) (r : Option Value) (σ' : Sm) : Prop := ∃ n c', Path (One call μ) n c c' ∧ Fin' μ c' r σ'
/-- a call, by how deep it goes -/
def Call : Nat → MI → List Value → Sm → Option Value → Sm → Prop
  | 0 => fun _ _ _ _ _ => False
  | d + 1 => fun μ vs σ r σ' => vs.length ≤ μ.2.2.1 ∧ (∀ v ∈ vs, v.category = 1) ∧ To (Call d) μ (0, lv_args 0 vs, [], σ) r σ'
