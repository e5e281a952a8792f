def TT (P : Sm → Prop) (call : MI → List Value → Sm → Option Value → Sm → Prop) (μ : MI) (c : Cf) (r : Option Value) (σ' : Sm) : Prop := To call μ c r σ' ∧ P σ'
section RULES2
variable {P : Sm → Prop} {call : MI → List Value → Sm → Option Value → Sm → Prop} {μ : MI} {pc q : Nat} {ls ls' : Lo} {st : List Value} {S : Sh} {m : Me} {r : Option Value} {σ' : Sm}
theorem to_iconst {n : Int} {v : Int32} (hv : Int32.ofInt n = v) (hd : decode μ.2.1 pc = .ok (.iconst n, 1)) (hq : pc + 1 = q) (k : TT P call μ (q, ls, .int v :: st, S, m) r σ') : TT P call μ (pc, ls, st, S, m) r σ' := by
  subst hq
  exact ⟨To_step ⟨_, _, hd, ⟨rfl, by rw [hv]⟩⟩ k.1, k.2⟩
theorem to_bipush {n : Int} {v : Int32} (hv : (Int8.ofInt n).toInt32 = v) (hd : decode μ.2.1 pc = .ok (.bipush n, 2)) (hq : pc + 2 = q) (k : TT P call μ (q, ls, .int v :: st, S, m) r σ') : TT P call μ (pc, ls, st, S, m) r σ' := by
  subst hq
  exact ⟨To_step ⟨_, _, hd, ⟨rfl, by rw [hv]⟩⟩ k.1, k.2⟩
theorem to_sipush {n : Int} {v : Int32} (hv : (Int16.ofInt n).toInt32 = v) (hd : decode μ.2.1 pc = .ok (.sipush n, 3)) (hq : pc + 3 = q) (k : TT P call μ (q, ls, .int v :: st, S, m) r σ') : TT P call μ (pc, ls, st, S, m) r σ' := by
  subst hq
  exact ⟨To_step ⟨_, _, hd, ⟨rfl, by rw [hv]⟩⟩ k.1, k.2⟩
theorem to_ldcI {ix : Nat} {v : Int32} (hc : inT (.constant μ.1.cls ix v)) (hd : decode μ.2.1 pc = .ok (.ldc ix, 2)) (hq : pc + 2 = q) (k : TT P call μ (q, ls, .int v :: st, S, m) r σ') : TT P call μ (pc, ls, st, S, m) r σ' := by
  subst hq
  exact ⟨To_step ⟨_, _, hd, ⟨rfl, Or.inl ⟨v, hc, rfl⟩⟩⟩ k.1, k.2⟩
theorem to_ldcS {ix i : Nat} {tx : String} (hc : strs[i]? = some (μ.1.cls, ix, tx)) (hd : decode μ.2.1 pc = .ok (.ldc ix, 2)) (hq : pc + 2 = q) (k : TT P call μ (q, ls, .ref (1000000 + i) :: st, S, m) r σ') : TT P call μ (pc, ls, st, S, m) r σ' := by
  subst hq
  exact ⟨To_step ⟨_, _, hd, ⟨rfl, Or.inr ⟨i, tx, hc, rfl⟩⟩⟩ k.1, k.2⟩
theorem to_ldcw {ix : Nat} {v : Int32} (hc : inT (.constant μ.1.cls ix v)) (hd : decode μ.2.1 pc = .ok (.ldc_w ix, 3)) (hq : pc + 3 = q) (k : TT P call μ (q, ls, .int v :: st, S, m) r σ') : TT P call μ (pc, ls, st, S, m) r σ' := by
  subst hq
  exact ⟨To_step ⟨_, _, hd, ⟨rfl, v, hc, rfl⟩⟩ k.1, k.2⟩
theorem to_iload_n {k0 : Fin 4} {x : Int32} (hl : ls.lookup k0.val = some (.int x)) (hd : decode μ.2.1 pc = .ok (.iload_n k0, 1)) (hq : pc + 1 = q) (k : TT P call μ (q, ls, .int x :: st, S, m) r σ') : TT P call μ (pc, ls, st, S, m) r σ' := by
  subst hq
  exact ⟨To_step ⟨_, _, hd, ⟨rfl, x, hl, rfl⟩⟩ k.1, k.2⟩
theorem to_iload {k0 : Nat} {x : Int32} (hl : ls.lookup k0 = some (.int x)) (hd : decode μ.2.1 pc = .ok (.iload k0, 2)) (hq : pc + 2 = q) (k : TT P call μ (q, ls, .int x :: st, S, m) r σ') : TT P call μ (pc, ls, st, S, m) r σ' := by
  subst hq
  exact ⟨To_step ⟨_, _, hd, ⟨rfl, x, hl, rfl⟩⟩ k.1, k.2⟩
theorem to_aload_n {k0 : Fin 4} {x : Nat} (hl : ls.lookup k0.val = some (.ref x)) (hx : x < 4000000) (hd : decode μ.2.1 pc = .ok (.aload_n k0, 1)) (hq : pc + 1 = q) (k : TT P call μ (q, ls, .ref x :: st, S, m) r σ') : TT P call μ (pc, ls, st, S, m) r σ' := by
  subst hq
  exact ⟨To_step ⟨_, _, hd, ⟨rfl, x, hl, hx, rfl⟩⟩ k.1, k.2⟩
theorem to_aload {k0 : Nat} {x : Nat} (hl : ls.lookup k0 = some (.ref x)) (hx : x < 4000000) (hd : decode μ.2.1 pc = .ok (.aload k0, 2)) (hq : pc + 2 = q) (k : TT P call μ (q, ls, .ref x :: st, S, m) r σ') : TT P call μ (pc, ls, st, S, m) r σ' := by
  subst hq
  exact ⟨To_step ⟨_, _, hd, ⟨rfl, x, hl, hx, rfl⟩⟩ k.1, k.2⟩
theorem to_istore_n {k0 : Fin 4} {x : Int32} (ls' : Lo) (hs : stl ls k0.val (.int x) = ls') (hk : k0.val < μ.2.2.1) (hd : decode μ.2.1 pc = .ok (.istore_n k0, 1)) (hq : pc + 1 = q) (k : TT P call μ (q, ls', st, S, m) r σ') : TT P call μ (pc, ls, .int x :: st, S, m) r σ' := by
  subst hq
  exact ⟨To_step ⟨_, _, hd, ⟨rfl, x, st, rfl, hk, by rw [hs]⟩⟩ k.1, k.2⟩
theorem to_istore {k0 : Nat} {x : Int32} (ls' : Lo) (hs : stl ls k0 (.int x) = ls') (hk : k0 < μ.2.2.1) (hd : decode μ.2.1 pc = .ok (.istore k0, 2)) (hq : pc + 2 = q) (k : TT P call μ (q, ls', st, S, m) r σ') : TT P call μ (pc, ls, .int x :: st, S, m) r σ' := by
  subst hq
  exact ⟨To_step ⟨_, _, hd, ⟨rfl, x, st, rfl, hk, by rw [hs]⟩⟩ k.1, k.2⟩
theorem to_astore_n {k0 : Fin 4} {x : Nat} (ls' : Lo) (hs : stl ls k0.val (.ref x) = ls') (hx : x < 4000000) (hk : k0.val < μ.2.2.1) (hd : decode μ.2.1 pc = .ok (.astore_n k0, 1)) (hq : pc + 1 = q) (k : TT P call μ (q, ls', st, S, m) r σ') : TT P call μ (pc, ls, .ref x :: st, S, m) r σ' := by
  subst hq
  exact ⟨To_step ⟨_, _, hd, ⟨rfl, x, st, rfl, hx, hk, by rw [hs]⟩⟩ k.1, k.2⟩
theorem to_astore {k0 : Nat} {x : Nat} (ls' : Lo) (hs : stl ls k0 (.ref x) = ls') (hx : x < 4000000) (hk : k0 < μ.2.2.1) (hd : decode μ.2.1 pc = .ok (.astore k0, 2)) (hq : pc + 2 = q) (k : TT P call μ (q, ls', st, S, m) r σ') : TT P call μ (pc, ls, .ref x :: st, S, m) r σ' := by
  subst hq
  exact ⟨To_step ⟨_, _, hd, ⟨rfl, x, st, rfl, hx, hk, by rw [hs]⟩⟩ k.1, k.2⟩
theorem to_iinc {k0 : Nat} {n : Int} {x v : Int32} (hl : ls.lookup k0 = some (.int x)) (hv : x + Int32.ofInt n = v) (ls' : Lo) (hs : stl ls k0 (.int v) = ls') (hk : k0 < μ.2.2.1) (hd : decode μ.2.1 pc = .ok (.iinc k0 n, 3)) (hq : pc + 3 = q) (k : TT P call μ (q, ls', st, S, m) r σ') : TT P call μ (pc, ls, st, S, m) r σ' := by
  subst hq
  exact ⟨To_step ⟨_, _, hd, ⟨rfl, x, hl, hk, by rw [hv, hs]⟩⟩ k.1, k.2⟩
theorem to_iadd {x y : Int32} (hd : decode μ.2.1 pc = .ok (.iadd, 1)) (hq : pc + 1 = q) (k : TT P call μ (q, ls, .int (x + y) :: st, S, m) r σ') : TT P call μ (pc, ls, .int y :: .int x :: st, S, m) r σ' := by
  subst hq
  exact ⟨To_step ⟨_, _, hd, ⟨rfl, x, y, st, rfl, rfl⟩⟩ k.1, k.2⟩
theorem to_isub {x y : Int32} (hd : decode μ.2.1 pc = .ok (.isub, 1)) (hq : pc + 1 = q) (k : TT P call μ (q, ls, .int (x - y) :: st, S, m) r σ') : TT P call μ (pc, ls, .int y :: .int x :: st, S, m) r σ' := by
  subst hq
  exact ⟨To_step ⟨_, _, hd, ⟨rfl, x, y, st, rfl, rfl⟩⟩ k.1, k.2⟩
theorem to_imul {x y : Int32} (hd : decode μ.2.1 pc = .ok (.imul, 1)) (hq : pc + 1 = q) (k : TT P call μ (q, ls, .int (x * y) :: st, S, m) r σ') : TT P call μ (pc, ls, .int y :: .int x :: st, S, m) r σ' := by
  subst hq
  exact ⟨To_step ⟨_, _, hd, ⟨rfl, x, y, st, rfl, rfl⟩⟩ k.1, k.2⟩
theorem to_iand {x y : Int32} (hd : decode μ.2.1 pc = .ok (.iand, 1)) (hq : pc + 1 = q) (k : TT P call μ (q, ls, .int (x &&& y) :: st, S, m) r σ') : TT P call μ (pc, ls, .int y :: .int x :: st, S, m) r σ' := by
  subst hq
  exact ⟨To_step ⟨_, _, hd, ⟨rfl, x, y, st, rfl, rfl⟩⟩ k.1, k.2⟩
theorem to_ior {x y : Int32} (hd : decode μ.2.1 pc = .ok (.ior, 1)) (hq : pc + 1 = q) (k : TT P call μ (q, ls, .int (x ||| y) :: st, S, m) r σ') : TT P call μ (pc, ls, .int y :: .int x :: st, S, m) r σ' := by
  subst hq
  exact ⟨To_step ⟨_, _, hd, ⟨rfl, x, y, st, rfl, rfl⟩⟩ k.1, k.2⟩
theorem to_ixor {x y : Int32} (hd : decode μ.2.1 pc = .ok (.ixor, 1)) (hq : pc + 1 = q) (k : TT P call μ (q, ls, .int (x ^^^ y) :: st, S, m) r σ') : TT P call μ (pc, ls, .int y :: .int x :: st, S, m) r σ' := by
  subst hq
  exact ⟨To_step ⟨_, _, hd, ⟨rfl, x, y, st, rfl, rfl⟩⟩ k.1, k.2⟩
theorem to_ishl {x y : Int32} (hd : decode μ.2.1 pc = .ok (.ishl, 1)) (hq : pc + 1 = q) (k : TT P call μ (q, ls, .int (x <<< (y &&& 31)) :: st, S, m) r σ') : TT P call μ (pc, ls, .int y :: .int x :: st, S, m) r σ' := by
  subst hq
  exact ⟨To_step ⟨_, _, hd, ⟨rfl, x, y, st, rfl, rfl⟩⟩ k.1, k.2⟩
theorem to_ishr {x y : Int32} (hd : decode μ.2.1 pc = .ok (.ishr, 1)) (hq : pc + 1 = q) (k : TT P call μ (q, ls, .int (x >>> (y &&& 31)) :: st, S, m) r σ') : TT P call μ (pc, ls, .int y :: .int x :: st, S, m) r σ' := by
  subst hq
  exact ⟨To_step ⟨_, _, hd, ⟨rfl, x, y, st, rfl, rfl⟩⟩ k.1, k.2⟩
theorem to_iushr {x y : Int32} (hd : decode μ.2.1 pc = .ok (.iushr, 1)) (hq : pc + 1 = q) (k : TT P call μ (q, ls, .int ((x.toUInt32 >>> (y.toUInt32 &&& Int32.toUInt32 31)).toInt32) :: st, S, m) r σ') : TT P call μ (pc, ls, .int y :: .int x :: st, S, m) r σ' := by
  subst hq
  exact ⟨To_step ⟨_, _, hd, ⟨rfl, x, y, st, rfl, rfl⟩⟩ k.1, k.2⟩
theorem to_idiv {x y : Int32} (hy : ¬ y = 0) (hd : decode μ.2.1 pc = .ok (.idiv, 1)) (hq : pc + 1 = q) (k : TT P call μ (q, ls, .int (x / y) :: st, S, m) r σ') : TT P call μ (pc, ls, .int y :: .int x :: st, S, m) r σ' := by
  subst hq
  exact ⟨To_step ⟨_, _, hd, ⟨rfl, x, y, st, rfl, hy, rfl⟩⟩ k.1, k.2⟩
theorem to_irem {x y : Int32} (hy : ¬ y = 0) (hd : decode μ.2.1 pc = .ok (.irem, 1)) (hq : pc + 1 = q) (k : TT P call μ (q, ls, .int (x - x / y * y) :: st, S, m) r σ') : TT P call μ (pc, ls, .int y :: .int x :: st, S, m) r σ' := by
  subst hq
  exact ⟨To_step ⟨_, _, hd, ⟨rfl, x, y, st, rfl, hy, rfl⟩⟩ k.1, k.2⟩
theorem to_i2b {x : Int32} (hd : decode μ.2.1 pc = .ok (.i2b, 1)) (hq : pc + 1 = q) (k : TT P call μ (q, ls, .int x.toInt8.toInt32 :: st, S, m) r σ') : TT P call μ (pc, ls, .int x :: st, S, m) r σ' := by
  subst hq
  exact ⟨To_step ⟨_, _, hd, ⟨rfl, x, st, rfl, rfl⟩⟩ k.1, k.2⟩
theorem to_i2c {x : Int32} (hd : decode μ.2.1 pc = .ok (.i2c, 1)) (hq : pc + 1 = q) (k : TT P call μ (q, ls, .int (x.toUInt32 % 65536).toInt32 :: st, S, m) r σ') : TT P call μ (pc, ls, .int x :: st, S, m) r σ' := by
  subst hq
  exact ⟨To_step ⟨_, _, hd, ⟨rfl, x, st, rfl, rfl⟩⟩ k.1, k.2⟩
theorem to_dup {v : Value} (hv : v.category = 1) (hd : decode μ.2.1 pc = .ok (.dup, 1)) (hq : pc + 1 = q) (k : TT P call μ (q, ls, v :: v :: st, S, m) r σ') : TT P call μ (pc, ls, v :: st, S, m) r σ' := by
  subst hq
  exact ⟨To_step ⟨_, _, hd, ⟨rfl, v, st, rfl, hv, rfl⟩⟩ k.1, k.2⟩
theorem to_dup2 {v w : Value} (hv : v.category = 1) (hw : w.category = 1) (hd : decode μ.2.1 pc = .ok (.dup2, 1)) (hq : pc + 1 = q) (k : TT P call μ (q, ls, v :: w :: v :: w :: st, S, m) r σ') : TT P call μ (pc, ls, v :: w :: st, S, m) r σ' := by
  subst hq
  exact ⟨To_step ⟨_, _, hd, ⟨rfl, v, w, st, rfl, hv, hw, rfl⟩⟩ k.1, k.2⟩
theorem to_pop {v : Value} (hv : v.category = 1) (hd : decode μ.2.1 pc = .ok (.pop, 1)) (hq : pc + 1 = q) (k : TT P call μ (q, ls, st, S, m) r σ') : TT P call μ (pc, ls, v :: st, S, m) r σ' := by
  subst hq
  exact ⟨To_step ⟨_, _, hd, ⟨rfl, v, st, rfl, hv, rfl⟩⟩ k.1, k.2⟩
theorem to_goto {off : Int} (hd : decode μ.2.1 pc = .ok (.goto off, 3)) (ht : (pc : Int) + off = (q : Int)) (k : TT P call μ (q, ls, st, S, m) r σ') : TT P call μ (pc, ls, st, S, m) r σ' := ⟨To_step ⟨_, _, hd, rfl, q, ht, rfl⟩ k.1, k.2⟩
theorem to_ifT {op : ClassFile.Cond} {off : Int} {x : Int32} (hc : cnd op x 0) (hd : decode μ.2.1 pc = .ok (.ifCond op off, 3)) (ht : (pc : Int) + off = (q : Int)) (k : TT P call μ (q, ls, st, S, m) r σ') : TT P call μ (pc, ls, .int x :: st, S, m) r σ' := ⟨To_step ⟨_, _, hd, rfl, x, st, q, rfl, ht, Or.inl ⟨hc, rfl⟩⟩ k.1, k.2⟩
theorem to_ifF {op : ClassFile.Cond} {off : Int} {x : Int32} (tgt : Nat) (hc : ¬ cnd op x 0) (hd : decode μ.2.1 pc = .ok (.ifCond op off, 3)) (ht : (pc : Int) + off = (tgt : Int)) (hq : pc + 3 = q) (k : TT P call μ (q, ls, st, S, m) r σ') : TT P call μ (pc, ls, .int x :: st, S, m) r σ' := by
  subst hq
  exact ⟨To_step ⟨_, _, hd, rfl, x, st, tgt, rfl, ht, Or.inr ⟨hc, rfl⟩⟩ k.1, k.2⟩
theorem to_icT {op : ClassFile.Cond} {off : Int} {x y : Int32} (hc : cnd op x y) (hd : decode μ.2.1 pc = .ok (.if_icmp op off, 3)) (ht : (pc : Int) + off = (q : Int)) (k : TT P call μ (q, ls, st, S, m) r σ') : TT P call μ (pc, ls, .int y :: .int x :: st, S, m) r σ' := ⟨To_step ⟨_, _, hd, rfl, x, y, st, q, rfl, ht, Or.inl ⟨hc, rfl⟩⟩ k.1, k.2⟩
theorem to_icF {op : ClassFile.Cond} {off : Int} {x y : Int32} (tgt : Nat) (hc : ¬ cnd op x y) (hd : decode μ.2.1 pc = .ok (.if_icmp op off, 3)) (ht : (pc : Int) + off = (tgt : Int)) (hq : pc + 3 = q) (k : TT P call μ (q, ls, st, S, m) r σ') : TT P call μ (pc, ls, .int y :: .int x :: st, S, m) r σ' := by
  subst hq
  exact ⟨To_step ⟨_, _, hd, rfl, x, y, st, tgt, rfl, ht, Or.inr ⟨hc, rfl⟩⟩ k.1, k.2⟩
theorem to_tsOut {dflt lo hi : Int} {offs : Array Int} {len : Nat} {x : Int32} (hd : decode μ.2.1 pc = .ok (.tableswitch dflt lo hi offs, len)) (hc : x.toInt < lo ∨ hi < x.toInt) (ht : (pc : Int) + dflt = (q : Int)) (k : TT P call μ (q, ls, st, S, m) r σ') : TT P call μ (pc, ls, .int x :: st, S, m) r σ' := ⟨To_step ⟨_, _, hd, x, st, rfl, Or.inl ⟨hc, q, ht, rfl⟩⟩ k.1, k.2⟩
theorem to_tsIn {dflt lo hi off : Int} {offs : Array Int} {len : Nat} {x : Int32} (hd : decode μ.2.1 pc = .ok (.tableswitch dflt lo hi offs, len)) (h1 : ¬ x.toInt < lo) (h2 : ¬ hi < x.toInt) (ho : offs[(x.toInt - lo).toNat]? = some off) (ht : (pc : Int) + off = (q : Int)) (k : TT P call μ (q, ls, st, S, m) r σ') : TT P call μ (pc, ls, .int x :: st, S, m) r σ' := ⟨To_step ⟨_, _, hd, x, st, rfl, Or.inr ⟨h1, h2, off, ho, q, ht, rfl⟩⟩ k.1, k.2⟩
theorem to_getC {ix : Nat} (hc : inT (.fieldLink μ.1.cls ix "java/lang/String" "COMPACT_STRINGS" "Z")) (hd : decode μ.2.1 pc = .ok (.getstatic ix, 3)) (hq : pc + 3 = q) (k : TT P call μ (q, ls, .int 1 :: st, S, m) r σ') : TT P call μ (pc, ls, st, S, m) r σ' := by
  subst hq
  exact ⟨To_step ⟨_, _, hd, ⟨rfl, Or.inl ⟨hc, rfl⟩⟩⟩ k.1, k.2⟩
theorem to_getF {ix : Nat} (hc : inT (.fieldLink μ.1.cls ix "jdk/internal/util/Preconditions" "SIOOBE_FORMATTER" "Ljava/util/function/BiFunction;")) (hd : decode μ.2.1 pc = .ok (.getstatic ix, 3)) (hq : pc + 3 = q) (k : TT P call μ (q, ls, .ref 4000000 :: st, S, m) r σ') : TT P call μ (pc, ls, st, S, m) r σ' := by
  subst hq
  exact ⟨To_step ⟨_, _, hd, ⟨rfl, Or.inr ⟨hc, rfl⟩⟩⟩ k.1, k.2⟩
theorem to_getI {ix a k0 n N j : Nat} {C : String} {T : u_T} (hv : vwCl[k0]? = some (C, T, N)) (hl : j < N ∧ (T j).1 = C ∧ inT (.fieldLink μ.1.cls ix C (T j).2.1 (T j).2.2.1)) (ha : S[a]? = some (k0, n)) (hr : rt k0 j = false) (hd : decode μ.2.1 pc = .ok (.getfield ix, 3)) (hq : pc + 3 = q) (k : TT P call μ (q, ls, .int (m.1 a j) :: st, S, m) r σ') : TT P call μ (pc, ls, .ref a :: st, S, m) r σ' := by
  subst hq
  exact ⟨To_step ⟨_, _, hd, ⟨rfl, Or.inl ⟨a, st, k0, n, C, T, N, j, rfl, ha, hv, hl.1, hl.2.1, hl.2.2, by rw [hr]; rfl⟩⟩⟩ k.1, k.2⟩
theorem to_getR {ix a k0 n N j : Nat} {C : String} {T : u_T} (hv : vwCl[k0]? = some (C, T, N)) (hl : j < N ∧ (T j).1 = C ∧ inT (.fieldLink μ.1.cls ix C (T j).2.1 (T j).2.2.1)) (ha : S[a]? = some (k0, n)) {b : Nat} (hr : rt k0 j = true) (hb : m.2 a j = some b) (hd : decode μ.2.1 pc = .ok (.getfield ix, 3)) (hq : pc + 3 = q) (k : TT P call μ (q, ls, .ref b :: st, S, m) r σ') : TT P call μ (pc, ls, .ref a :: st, S, m) r σ' := by
  subst hq
  exact ⟨To_step ⟨_, _, hd, ⟨rfl, Or.inl ⟨a, st, k0, n, C, T, N, j, rfl, ha, hv, hl.1, hl.2.1, hl.2.2, by rw [hr]; simp [fv, hb, va_rf]⟩⟩⟩ k.1, k.2⟩
theorem to_getSc {ix i : Nat} (hi : i < 32) (hc : inT (.fieldLink μ.1.cls ix "java/lang/String" "coder" "B")) (hd : decode μ.2.1 pc = .ok (.getfield ix, 3)) (hq : pc + 3 = q) (k : TT P call μ (q, ls, .int 0 :: st, S, m) r σ') : TT P call μ (pc, ls, .ref (1000000 + i) :: st, S, m) r σ' := by
  subst hq
  exact ⟨To_step ⟨_, _, hd, ⟨rfl, Or.inr ⟨i, st, rfl, hi, Or.inl ⟨hc, rfl⟩⟩⟩⟩ k.1, k.2⟩
theorem to_getSv {ix i : Nat} (hi : i < 32) (hc : inT (.fieldLink μ.1.cls ix "java/lang/String" "value" "[B")) (hd : decode μ.2.1 pc = .ok (.getfield ix, 3)) (hq : pc + 3 = q) (k : TT P call μ (q, ls, .ref (2000000 + i) :: st, S, m) r σ') : TT P call μ (pc, ls, .ref (1000000 + i) :: st, S, m) r σ' := by
  subst hq
  exact ⟨To_step ⟨_, _, hd, ⟨rfl, Or.inr ⟨i, st, rfl, hi, Or.inr ⟨hc, rfl⟩⟩⟩⟩ k.1, k.2⟩
theorem to_putI {ix a k0 n N j : Nat} {C : String} {T : u_T} (hv : vwCl[k0]? = some (C, T, N)) (hl : j < N ∧ (T j).1 = C ∧ inT (.fieldLink μ.1.cls ix C (T j).2.1 (T j).2.2.1)) (ha : S[a]? = some (k0, n)) {ty : FieldType} {x : Int32} (hr : rt k0 j = false) (hty : parseFieldDescriptor (T j).2.2.1 = some ty) (hf : (T j).2.2.2 = false ∨ (μ.1.name = "<init>" ∧ μ.1.cls = C)) (hn : narrow ty (.int x) = .int x ∧ fits ty (.int x) = true) (hd : decode μ.2.1 pc = .ok (.putfield ix, 3)) (hq : pc + 3 = q) (k : TT P call μ (q, ls, st, S, setI m a j x) r σ') : TT P call μ (pc, ls, .int x :: .ref a :: st, S, m) r σ' := by
  subst hq
  exact ⟨To_step ⟨_, _, hd, ⟨rfl, _, a, st, k0, n, C, T, N, j, ty, rfl, ha, hv, hl.1, hl.2.1, hl.2.2, hty, hf, Or.inl ⟨x, rfl, hr, hn.1, hn.2, rfl⟩⟩⟩ k.1, k.2⟩
theorem to_putR {ix a k0 n N j : Nat} {C : String} {T : u_T} (hv : vwCl[k0]? = some (C, T, N)) (hl : j < N ∧ (T j).1 = C ∧ inT (.fieldLink μ.1.cls ix C (T j).2.1 (T j).2.2.1)) (ha : S[a]? = some (k0, n)) {ty : FieldType} {b : Nat} (hb : b < S.length) (hr : rt k0 j = true) (hty : parseFieldDescriptor (T j).2.2.1 = some ty) (hf : (T j).2.2.2 = false ∨ (μ.1.name = "<init>" ∧ μ.1.cls = C)) (hn : ∀ q : Nat, narrow ty (.ref q) = .ref q ∧ fits ty (.ref q) = true) (hd : decode μ.2.1 pc = .ok (.putfield ix, 3)) (hq : pc + 3 = q) (k : TT P call μ (q, ls, st, S, setR m a j (some b)) r σ') : TT P call μ (pc, ls, .ref b :: .ref a :: st, S, m) r σ' := by
  subst hq
  exact ⟨To_step ⟨_, _, hd, ⟨rfl, _, a, st, k0, n, C, T, N, j, ty, rfl, ha, hv, hl.1, hl.2.1, hl.2.2, hty, hf, Or.inr ⟨b, rfl, hb, hr, hn, rfl⟩⟩⟩ k.1, k.2⟩
theorem to_alen {a k0 n : Nat} {v : Int32} (ha : S[a]? = some (k0, n)) (h1 : 12 ≤ k0 ∧ k0 ≤ 17) (hv : Int32.ofNat n = v) (hd : decode μ.2.1 pc = .ok (.arraylength, 1)) (hq : pc + 1 = q) (k : TT P call μ (q, ls, .int v :: st, S, m) r σ') : TT P call μ (pc, ls, .ref a :: st, S, m) r σ' := by
  subst hq
  exact ⟨To_step ⟨_, _, hd, ⟨rfl, Or.inl ⟨a, st, k0, n, rfl, ha, h1.1, h1.2, by rw [hv]⟩⟩⟩ k.1, k.2⟩
theorem to_alenS {i : Nat} (hi : i < 32) (hd : decode μ.2.1 pc = .ok (.arraylength, 1)) (hq : pc + 1 = q) (k : TT P call μ (q, ls, .int (Int32.ofNat (slen i)) :: st, S, m) r σ') : TT P call μ (pc, ls, .ref (2000000 + i) :: st, S, m) r σ' := by
  subst hq
  exact ⟨To_step ⟨_, _, hd, ⟨rfl, Or.inr ⟨i, st, rfl, hi, rfl⟩⟩⟩ k.1, k.2⟩
theorem to_iald {a n : Nat} {i : Int32} (ha : S[a]? = some (13, n)) (hi : vp_in i n) (hd : decode μ.2.1 pc = .ok (.iaload, 1)) (hq : pc + 1 = q) (k : TT P call μ (q, ls, .int (m.1 a i.toNatClampNeg) :: st, S, m) r σ') : TT P call μ (pc, ls, .int i :: .ref a :: st, S, m) r σ' := by
  subst hq
  exact ⟨To_step ⟨_, _, hd, ⟨rfl, a, i, st, n, rfl, ha, hi, rfl⟩⟩ k.1, k.2⟩
theorem to_bald {a n : Nat} {i : Int32} (ha : S[a]? = some (12, n)) (hi : vp_in i n) (hd : decode μ.2.1 pc = .ok (.baload, 1)) (hq : pc + 1 = q) (k : TT P call μ (q, ls, .int (m.1 a i.toNatClampNeg) :: st, S, m) r σ') : TT P call μ (pc, ls, .int i :: .ref a :: st, S, m) r σ' := by
  subst hq
  exact ⟨To_step ⟨_, _, hd, ⟨rfl, Or.inl ⟨a, i, st, n, rfl, ha, hi, rfl⟩⟩⟩ k.1, k.2⟩
theorem to_baldS {j : Nat} {i : Int32} (hj : j < 32) (hi : vp_in i (slen j)) (hd : decode μ.2.1 pc = .ok (.baload, 1)) (hq : pc + 1 = q) (k : TT P call μ (q, ls, .int (sch j i.toNatClampNeg) :: st, S, m) r σ') : TT P call μ (pc, ls, .int i :: .ref (2000000 + j) :: st, S, m) r σ' := by
  subst hq
  exact ⟨To_step ⟨_, _, hd, ⟨rfl, Or.inr ⟨j, i, st, rfl, hj, hi, rfl⟩⟩⟩ k.1, k.2⟩
theorem to_aald {a k0 n b : Nat} {i : Int32} (ha : S[a]? = some (k0, n)) (h1 : 15 ≤ k0 ∧ k0 ≤ 17) (hi : vp_in i n) (hb : m.2 a i.toNatClampNeg = some b) (hd : decode μ.2.1 pc = .ok (.aaload, 1)) (hq : pc + 1 = q) (k : TT P call μ (q, ls, .ref b :: st, S, m) r σ') : TT P call μ (pc, ls, .int i :: .ref a :: st, S, m) r σ' := by
  subst hq
  exact ⟨To_step ⟨_, _, hd, ⟨rfl, a, i, st, k0, n, rfl, ha, h1.1, h1.2, hi, by rw [hb]; rfl⟩⟩ k.1, k.2⟩
theorem to_iast {a n : Nat} {i x : Int32} (ha : S[a]? = some (13, n)) (hi : vp_in i n) (hd : decode μ.2.1 pc = .ok (.iastore, 1)) (hq : pc + 1 = q) (k : TT P call μ (q, ls, st, S, setI m a i.toNatClampNeg x) r σ') : TT P call μ (pc, ls, .int x :: .int i :: .ref a :: st, S, m) r σ' := by
  subst hq
  exact ⟨To_step ⟨_, _, hd, ⟨rfl, a, i, x, st, n, rfl, ha, hi, rfl⟩⟩ k.1, k.2⟩
theorem to_bast {a n : Nat} {i x : Int32} (ha : S[a]? = some (12, n)) (hi : vp_in i n) (hd : decode μ.2.1 pc = .ok (.bastore, 1)) (hq : pc + 1 = q) (k : TT P call μ (q, ls, st, S, setI m a i.toNatClampNeg x.toInt8.toInt32) r σ') : TT P call μ (pc, ls, .int x :: .int i :: .ref a :: st, S, m) r σ' := by
  subst hq
  exact ⟨To_step ⟨_, _, hd, ⟨rfl, a, i, x, st, n, rfl, ha, hi, rfl⟩⟩ k.1, k.2⟩
theorem to_aast {a k0 n b nb : Nat} {i : Int32} (ha : S[a]? = some (k0, n)) (h1 : 15 ≤ k0 ∧ k0 ≤ 17) (hi : vp_in i n) (hb : S[b]? = some (aCls k0, nb)) (hd : decode μ.2.1 pc = .ok (.aastore, 1)) (hq : pc + 1 = q) (k : TT P call μ (q, ls, st, S, setR m a i.toNatClampNeg (some b)) r σ') : TT P call μ (pc, ls, .ref b :: .int i :: .ref a :: st, S, m) r σ' := by
  subst hq
  exact ⟨To_step ⟨_, _, hd, ⟨rfl, a, i, b, st, k0, n, nb, rfl, ha, h1.1, h1.2, hi, hb, rfl⟩⟩ k.1, k.2⟩
theorem to_newa {ty : ArrayType} {x : Int32} (k0 n : Nat) (h0 : ¬ x < 0) (h1 : x.toNatClampNeg = n ∧ n ≤ 100000) (hS : S.length < 999999) (hk : (k0 = 12 ∧ newarray.typeOf ty = .byte) ∨ (k0 = 13 ∧ newarray.typeOf ty = .int)) (hc : inT (.arrayClass (newarray.typeOf ty))) (hd : decode μ.2.1 pc = .ok (.newarray ty, 2)) (hq : pc + 2 = q) (k : TT P call μ (q, ls, .ref S.length :: st, S ++ [(k0, n)], zer m S.length) r σ') : TT P call μ (pc, ls, .int x :: st, S, m) r σ' := by
  subst hq
  exact ⟨To_step ⟨_, _, hd, ⟨rfl, x, st, k0, n, rfl, h0, h1.1, h1.2, hS, hk, hc, rfl⟩⟩ k.1, k.2⟩
theorem to_anew {ix : Nat} {x : Int32} {w : vw_C} (k0 n : Nat) (h0 : ¬ x < 0) (h1 : x.toNatClampNeg = n ∧ n ≤ 100000) (hS : S.length < 999999) (hk : 15 ≤ k0 ∧ k0 ≤ 17) (hw : vwCl[aCls k0]? = some w) (hc : inT (.classLink μ.1.cls ix w.1)) (hd : decode μ.2.1 pc = .ok (.anewarray ix, 3)) (hq : pc + 3 = q) (k : TT P call μ (q, ls, .ref S.length :: st, S ++ [(k0, n)], zer m S.length) r σ') : TT P call μ (pc, ls, .int x :: st, S, m) r σ' := by
  subst hq
  exact ⟨To_step ⟨_, _, hd, ⟨rfl, x, st, k0, n, w, rfl, h0, h1.1, h1.2, hS, hk.1, hk.2, hw, hc, rfl⟩⟩ k.1, k.2⟩
theorem to_new {ix N : Nat} {C : String} {T : u_T} (k0 : Nat) (hv : vwCl[k0]? = some (C, T, N)) (hS : S.length < 999999) (hc : inT (.classLink μ.1.cls ix C) ∧ inT (.instantiable C N) ∧ inT (.initialized C)) (hd : decode μ.2.1 pc = .ok (.new ix, 3)) (hq : pc + 3 = q) (k : TT P call μ (q, ls, .ref S.length :: st, S ++ [(k0, N)], zer m S.length) r σ') : TT P call μ (pc, ls, st, S, m) r σ' := by
  subst hq
  exact ⟨To_step ⟨_, _, hd, ⟨rfl, k0, C, T, N, hv, hS, hc.1, hc.2.1, hc.2.2, rfl⟩⟩ k.1, k.2⟩
theorem to_virt {ix a : Nat} (μ' : MI) (vs : List Value) {r1 : Option Value} {S1 : Sh} {m1 : Me} {st0 : List Value} (hd : decode μ.2.1 pc = .ok (.invokevirtual ix, 3)) (hq : pc + 3 = q) (hst : st0 = vs.reverse ++ .ref a :: st) (hlen : cats st ≤ 8) (hm : mOk μ' vs.length) (h1 : inT (.methodLink μ.1.cls ix μ'.1) ∧ inT (.instanceMethod μ'.1) ∧ inT (.selects μ'.1.cls μ'.1 μ'.1)) (hr : (∃ k n w, S[a]? = some (k, n) ∧ vwCl[k]? = some w ∧ w.1 = μ'.1.cls) ∨ (∃ i, a = 1000000 + i ∧ i < 32 ∧ μ'.1.cls = "java/lang/String")) (hc : call μ' (.ref a :: vs) (S, m) r1 (S1, m1)) (k : TT P call μ (q, ls, r1.toList ++ st, S1, m1) r σ') : TT P call μ (pc, ls, st0, S, m) r σ' := by
  subst hq; subst hst
  exact ⟨To_step ⟨_, _, hd, rfl, μ', vs, a, st, r1, (S1, m1), rfl, hlen, hm, h1.1, h1.2.1, h1.2.2, hr, hc, rfl⟩ k.1, k.2⟩
theorem to_stat {ix : Nat} (μ' : MI) (vs : List Value) {r1 : Option Value} {S1 : Sh} {m1 : Me} {st0 : List Value} (hd : decode μ.2.1 pc = .ok (.invokestatic ix, 3)) (hq : pc + 3 = q) (hst : st0 = vs.reverse ++ st) (hlen : cats st ≤ 8) (hm : mOk μ' vs.length) (h1 : inT (.methodLink μ.1.cls ix μ'.1) ∨ .methodLinkNest μ.1.cls ix μ'.1 "FanParts" ∈ nestW) (h2 : inT (.static μ'.1)) (hc : call μ' vs (S, m) r1 (S1, m1)) (k : TT P call μ (q, ls, r1.toList ++ st, S1, m1) r σ') : TT P call μ (pc, ls, st0, S, m) r σ' := by
  subst hq; subst hst
  exact ⟨To_step ⟨_, _, hd, rfl, Or.inl ⟨μ', vs, st, r1, (S1, m1), rfl, hlen, hm, h1, h2, hc, rfl⟩⟩ k.1, k.2⟩
theorem to_copy {ix a0 a1 n0 n1 : Nat} {sp dp x : Int32} (hd : decode μ.2.1 pc = .ok (.invokestatic ix, 3)) (hq : pc + 3 = q) (hlen : cats st ≤ 8) (h : inT (.methodLink μ.1.cls ix arraycopyName) ∧ inT (.native arraycopyName) ∧ inT (.static arraycopyName) ∧ inT (.initialized "java/lang/System")) (ha0 : S[a0]? = some (13, n0)) (ha1 : S[a1]? = some (13, n1)) (h1 : ¬ sp < 0) (h2 : ¬ dp < 0) (h3 : ¬ x < 0) (h4 : sp.toNatClampNeg + x.toNatClampNeg ≤ n0) (h5 : dp.toNatClampNeg + x.toNatClampNeg ≤ n1) (k : TT P call μ (q, ls, st, S, cpyI m a0 a1 sp.toNatClampNeg dp.toNatClampNeg x.toNatClampNeg) r σ') : TT P call μ (pc, ls, .int x :: .int dp :: .ref a1 :: .int sp :: .ref a0 :: st, S, m) r σ' := by
  subst hq
  exact ⟨To_step ⟨_, _, hd, rfl, Or.inr (Or.inl ⟨a0, a1, sp, dp, x, st, n0, n1, rfl, hlen, h.1, h.2.1, h.2.2.1, h.2.2.2, ha0, ha1, h1, h2, h3, h4, h5, rfl⟩)⟩ k.1, k.2⟩
theorem to_max {ix : Nat} {x y : Int32} (hd : decode μ.2.1 pc = .ok (.invokestatic ix, 3)) (hq : pc + 3 = q) (hlen : cats st ≤ 8) (h : inT (.methodLink μ.1.cls ix Lib.Math.max.name) ∧ inT (.static Lib.Math.max.name) ∧ inT (.code Lib.Math.max.name Lib.Math.max.code 2 (some .int)) ∧ inT (.initialized "java/lang/Math")) (k : TT P call μ (q, ls, .int (if x < y then y else x) :: st, S, m) r σ') : TT P call μ (pc, ls, .int y :: .int x :: st, S, m) r σ' := by
  subst hq
  exact ⟨To_step ⟨_, _, hd, rfl, Or.inr (Or.inr ⟨x, y, st, rfl, hlen, h.2.2.2, Or.inl ⟨h.1, h.2.1, h.2.2.1, rfl⟩⟩)⟩ k.1, k.2⟩
theorem to_min {ix : Nat} {x y : Int32} (hd : decode μ.2.1 pc = .ok (.invokestatic ix, 3)) (hq : pc + 3 = q) (hlen : cats st ≤ 8) (h : inT (.methodLink μ.1.cls ix Lib.Math.min.name) ∧ inT (.static Lib.Math.min.name) ∧ inT (.code Lib.Math.min.name Lib.Math.min.code 2 (some .int)) ∧ inT (.initialized "java/lang/Math")) (k : TT P call μ (q, ls, .int (if y < x then y else x) :: st, S, m) r σ') : TT P call μ (pc, ls, .int y :: .int x :: st, S, m) r σ' := by
  subst hq
  exact ⟨To_step ⟨_, _, hd, rfl, Or.inr (Or.inr ⟨x, y, st, rfl, hlen, h.2.2.2, Or.inr ⟨h.1, h.2.1, h.2.2.1, rfl⟩⟩)⟩ k.1, k.2⟩
theorem to_obj {ix a : Nat} (hd : decode μ.2.1 pc = .ok (.invokespecial ix, 3)) (hq : pc + 3 = q) (ha : a < 999999) (hlen : cats st ≤ 8) (h : inT (.methodLink μ.1.cls ix objectInit) ∧ inT (.instanceMethod objectInit) ∧ inT (.code objectInit ⟨#[0xb1]⟩ 1 none)) (k : TT P call μ (q, ls, st, S, m) r σ') : TT P call μ (pc, ls, .ref a :: st, S, m) r σ' := by
  subst hq
  exact ⟨To_step ⟨_, _, hd, rfl, Or.inl ⟨a, st, rfl, ha, hlen, h.1, h.2.1, h.2.2, rfl⟩⟩ k.1, k.2⟩
theorem to_init {ix a : Nat} (μ' : MI) (vs : List Value) {S1 : Sh} {m1 : Me} {st0 : List Value} (hd : decode μ.2.1 pc = .ok (.invokespecial ix, 3)) (hq : pc + 3 = q) (hst : st0 = vs.reverse ++ .ref a :: st) (ha : a < 999999) (hlen : cats st ≤ 8) (hm : mOk μ' vs.length) (hn : μ'.1.name = "<init>" ∧ μ'.2.2.2 = none) (h1 : inT (.methodLink μ.1.cls ix μ'.1) ∨ .methodLinkNest μ.1.cls ix μ'.1 "FanParts" ∈ nestW) (h2 : inT (.instanceMethod μ'.1)) (hc : call μ' (.ref a :: vs) (S, m) none (S1, m1)) (k : TT P call μ (q, ls, st, S1, m1) r σ') : TT P call μ (pc, ls, st0, S, m) r σ' := by
  subst hq; subst hst
  exact ⟨To_step ⟨_, _, hd, rfl, Or.inr ⟨μ', vs, a, st, (S1, m1), rfl, ha, hlen, hm, hn.1, hn.2, h1, h2, hc, rfl⟩⟩ k.1, k.2⟩
theorem to_iret {x : Int32} {ty : FieldType} (hd : decode μ.2.1 pc = .ok (.ireturn, 1)) (hty : μ.2.2.2 = some ty) (hn : narrow ty (.int x) = .int x) (hr : r = some (.int x)) (hσ : (S, m) = σ') (hP : P σ') : TT P call μ (pc, ls, [.int x], S, m) r σ' := ⟨To_fin ⟨hσ, Or.inl ⟨hd, x, ty, rfl, hty, hn, hr⟩⟩, hP⟩
theorem to_aret {a : Nat} {nm : String} (hd : decode μ.2.1 pc = .ok (.areturn, 1)) (ha : a < 4000000) (hty : μ.2.2.2 = some (.object nm)) (hr : r = some (.ref a)) (hσ : (S, m) = σ') (hP : P σ') : TT P call μ (pc, ls, [.ref a], S, m) r σ' := ⟨To_fin ⟨hσ, Or.inr (Or.inl ⟨hd, a, nm, rfl, ha, hty, hr⟩)⟩, hP⟩
theorem to_vret (hd : decode μ.2.1 pc = .ok (.return_, 1)) (hty : μ.2.2.2 = none) (hr : r = none) (hσ : (S, m) = σ') (hP : P σ') : TT P call μ (pc, ls, [], S, m) r σ' := ⟨To_fin ⟨hσ, Or.inr (Or.inr ⟨hd, rfl, hty, hr⟩)⟩, hP⟩
theorem to_ext (ls' : Lo) (hx : Ext ls' ls) (h : TT P call μ (pc, ls', st, S, m) r σ') : TT P call μ (pc, ls, st, S, m) r σ' := ⟨To_ext ls' hx h.1, h.2⟩
theorem call_of {d : Nat} {vs : List Value} (h1 : vs.length ≤ μ.2.2.1) (h2 : ∀ v ∈ vs, v.category = 1) (h : TT P (Call d) μ (0, lv_args 0 vs, [], S, m) r σ') : Call (d + 1) μ vs (S, m) r σ' ∧ P σ' := ⟨⟨h1, h2, h.1⟩, h.2⟩
end RULES2
