/-! the rules once more, for whatever holds before a step when it holds behind it -/
section RULESK
variable {K : Cf → Prop} {call : MI → List Value → Sm → Option Value → Sm → Prop} {μ : MI} {pc q : Nat} {ls ls' : Lo} {st : List Value} {S : Sh} {m : Me}
theorem ko_iconst (hK : ∀ c c', One call μ c c' → K c' → K c) {n : Int} {v : Int32} (hv : Int32.ofInt n = v) (hd : decode μ.2.1 pc = .ok (.iconst n, 1)) (hq : pc + 1 = q) (k : K (q, ls, .int v :: st, S, m)) : K (pc, ls, st, S, m) := by
  subst hq
  exact hK _ _ ⟨_, _, hd, ⟨rfl, by rw [hv]⟩⟩ k
theorem ko_bipush (hK : ∀ c c', One call μ c c' → K c' → K c) {n : Int} {v : Int32} (hv : (Int8.ofInt n).toInt32 = v) (hd : decode μ.2.1 pc = .ok (.bipush n, 2)) (hq : pc + 2 = q) (k : K (q, ls, .int v :: st, S, m)) : K (pc, ls, st, S, m) := by
  subst hq
  exact hK _ _ ⟨_, _, hd, ⟨rfl, by rw [hv]⟩⟩ k
theorem ko_sipush (hK : ∀ c c', One call μ c c' → K c' → K c) {n : Int} {v : Int32} (hv : (Int16.ofInt n).toInt32 = v) (hd : decode μ.2.1 pc = .ok (.sipush n, 3)) (hq : pc + 3 = q) (k : K (q, ls, .int v :: st, S, m)) : K (pc, ls, st, S, m) := by
  subst hq
  exact hK _ _ ⟨_, _, hd, ⟨rfl, by rw [hv]⟩⟩ k
theorem ko_iload_n (hK : ∀ c c', One call μ c c' → K c' → K c) {k0 : Fin 4} {x : Int32} (hl : ls.lookup k0.val = some (.int x)) (hd : decode μ.2.1 pc = .ok (.iload_n k0, 1)) (hq : pc + 1 = q) (k : K (q, ls, .int x :: st, S, m)) : K (pc, ls, st, S, m) := by
  subst hq
  exact hK _ _ ⟨_, _, hd, ⟨rfl, x, hl, rfl⟩⟩ k
theorem ko_iload (hK : ∀ c c', One call μ c c' → K c' → K c) {k0 : Nat} {x : Int32} (hl : ls.lookup k0 = some (.int x)) (hd : decode μ.2.1 pc = .ok (.iload k0, 2)) (hq : pc + 2 = q) (k : K (q, ls, .int x :: st, S, m)) : K (pc, ls, st, S, m) := by
  subst hq
  exact hK _ _ ⟨_, _, hd, ⟨rfl, x, hl, rfl⟩⟩ k
theorem ko_aload_n (hK : ∀ c c', One call μ c c' → K c' → K c) {k0 : Fin 4} {x : Nat} (hl : ls.lookup k0.val = some (.ref x)) (hx : x < 4000000) (hd : decode μ.2.1 pc = .ok (.aload_n k0, 1)) (hq : pc + 1 = q) (k : K (q, ls, .ref x :: st, S, m)) : K (pc, ls, st, S, m) := by
  subst hq
  exact hK _ _ ⟨_, _, hd, ⟨rfl, x, hl, hx, rfl⟩⟩ k
theorem ko_aload (hK : ∀ c c', One call μ c c' → K c' → K c) {k0 : Nat} {x : Nat} (hl : ls.lookup k0 = some (.ref x)) (hx : x < 4000000) (hd : decode μ.2.1 pc = .ok (.aload k0, 2)) (hq : pc + 2 = q) (k : K (q, ls, .ref x :: st, S, m)) : K (pc, ls, st, S, m) := by
  subst hq
  exact hK _ _ ⟨_, _, hd, ⟨rfl, x, hl, hx, rfl⟩⟩ k
theorem ko_istore_n (hK : ∀ c c', One call μ c c' → K c' → K c) {k0 : Fin 4} {x : Int32} (ls' : Lo) (hs : stl ls k0.val (.int x) = ls') (hk : k0.val < μ.2.2.1) (hd : decode μ.2.1 pc = .ok (.istore_n k0, 1)) (hq : pc + 1 = q) (k : K (q, ls', st, S, m)) : K (pc, ls, .int x :: st, S, m) := by
  subst hq
  exact hK _ _ ⟨_, _, hd, ⟨rfl, x, st, rfl, hk, by rw [hs]⟩⟩ k
theorem ko_istore (hK : ∀ c c', One call μ c c' → K c' → K c) {k0 : Nat} {x : Int32} (ls' : Lo) (hs : stl ls k0 (.int x) = ls') (hk : k0 < μ.2.2.1) (hd : decode μ.2.1 pc = .ok (.istore k0, 2)) (hq : pc + 2 = q) (k : K (q, ls', st, S, m)) : K (pc, ls, .int x :: st, S, m) := by
  subst hq
  exact hK _ _ ⟨_, _, hd, ⟨rfl, x, st, rfl, hk, by rw [hs]⟩⟩ k
theorem ko_astore_n (hK : ∀ c c', One call μ c c' → K c' → K c) {k0 : Fin 4} {x : Nat} (ls' : Lo) (hs : stl ls k0.val (.ref x) = ls') (hx : x < 4000000) (hk : k0.val < μ.2.2.1) (hd : decode μ.2.1 pc = .ok (.astore_n k0, 1)) (hq : pc + 1 = q) (k : K (q, ls', st, S, m)) : K (pc, ls, .ref x :: st, S, m) := by
  subst hq
  exact hK _ _ ⟨_, _, hd, ⟨rfl, x, st, rfl, hx, hk, by rw [hs]⟩⟩ k
theorem ko_iinc (hK : ∀ c c', One call μ c c' → K c' → K c) {k0 : Nat} {n : Int} {x v : Int32} (hl : ls.lookup k0 = some (.int x)) (hv : x + Int32.ofInt n = v) (ls' : Lo) (hs : stl ls k0 (.int v) = ls') (hk : k0 < μ.2.2.1) (hd : decode μ.2.1 pc = .ok (.iinc k0 n, 3)) (hq : pc + 3 = q) (k : K (q, ls', st, S, m)) : K (pc, ls, st, S, m) := by
  subst hq
  exact hK _ _ ⟨_, _, hd, ⟨rfl, x, hl, hk, by rw [hv, hs]⟩⟩ k
theorem ko_iadd (hK : ∀ c c', One call μ c c' → K c' → K c) {x y : Int32} (hd : decode μ.2.1 pc = .ok (.iadd, 1)) (hq : pc + 1 = q) (k : K (q, ls, .int (x + y) :: st, S, m)) : K (pc, ls, .int y :: .int x :: st, S, m) := by
  subst hq
  exact hK _ _ ⟨_, _, hd, ⟨rfl, x, y, st, rfl, rfl⟩⟩ k
theorem ko_isub (hK : ∀ c c', One call μ c c' → K c' → K c) {x y : Int32} (hd : decode μ.2.1 pc = .ok (.isub, 1)) (hq : pc + 1 = q) (k : K (q, ls, .int (x - y) :: st, S, m)) : K (pc, ls, .int y :: .int x :: st, S, m) := by
  subst hq
  exact hK _ _ ⟨_, _, hd, ⟨rfl, x, y, st, rfl, rfl⟩⟩ k
theorem ko_iand (hK : ∀ c c', One call μ c c' → K c' → K c) {x y : Int32} (hd : decode μ.2.1 pc = .ok (.iand, 1)) (hq : pc + 1 = q) (k : K (q, ls, .int (x &&& y) :: st, S, m)) : K (pc, ls, .int y :: .int x :: st, S, m) := by
  subst hq
  exact hK _ _ ⟨_, _, hd, ⟨rfl, x, y, st, rfl, rfl⟩⟩ k
theorem ko_dup (hK : ∀ c c', One call μ c c' → K c' → K c) {v : Value} (hv : v.category = 1) (hd : decode μ.2.1 pc = .ok (.dup, 1)) (hq : pc + 1 = q) (k : K (q, ls, v :: v :: st, S, m)) : K (pc, ls, v :: st, S, m) := by
  subst hq
  exact hK _ _ ⟨_, _, hd, ⟨rfl, v, st, rfl, hv, rfl⟩⟩ k
theorem ko_pop (hK : ∀ c c', One call μ c c' → K c' → K c) {v : Value} (hv : v.category = 1) (hd : decode μ.2.1 pc = .ok (.pop, 1)) (hq : pc + 1 = q) (k : K (q, ls, st, S, m)) : K (pc, ls, v :: st, S, m) := by
  subst hq
  exact hK _ _ ⟨_, _, hd, ⟨rfl, v, st, rfl, hv, rfl⟩⟩ k
theorem ko_goto (hK : ∀ c c', One call μ c c' → K c' → K c) {off : Int} (hd : decode μ.2.1 pc = .ok (.goto off, 3)) (ht : (pc : Int) + off = (q : Int)) (k : K (q, ls, st, S, m)) : K (pc, ls, st, S, m) := hK _ _ ⟨_, _, hd, rfl, q, ht, rfl⟩ k
theorem ko_ifT (hK : ∀ c c', One call μ c c' → K c' → K c) {op : ClassFile.Cond} {off : Int} {x : Int32} (hc : cnd op x 0) (hd : decode μ.2.1 pc = .ok (.ifCond op off, 3)) (ht : (pc : Int) + off = (q : Int)) (k : K (q, ls, st, S, m)) : K (pc, ls, .int x :: st, S, m) := hK _ _ ⟨_, _, hd, rfl, x, st, q, rfl, ht, Or.inl ⟨hc, rfl⟩⟩ k
theorem ko_ifF (hK : ∀ c c', One call μ c c' → K c' → K c) {op : ClassFile.Cond} {off : Int} {x : Int32} (tgt : Nat) (hc : ¬ cnd op x 0) (hd : decode μ.2.1 pc = .ok (.ifCond op off, 3)) (ht : (pc : Int) + off = (tgt : Int)) (hq : pc + 3 = q) (k : K (q, ls, st, S, m)) : K (pc, ls, .int x :: st, S, m) := by
  subst hq
  exact hK _ _ ⟨_, _, hd, rfl, x, st, tgt, rfl, ht, Or.inr ⟨hc, rfl⟩⟩ k
theorem ko_icT (hK : ∀ c c', One call μ c c' → K c' → K c) {op : ClassFile.Cond} {off : Int} {x y : Int32} (hc : cnd op x y) (hd : decode μ.2.1 pc = .ok (.if_icmp op off, 3)) (ht : (pc : Int) + off = (q : Int)) (k : K (q, ls, st, S, m)) : K (pc, ls, .int y :: .int x :: st, S, m) := hK _ _ ⟨_, _, hd, rfl, x, y, st, q, rfl, ht, Or.inl ⟨hc, rfl⟩⟩ k
theorem ko_icF (hK : ∀ c c', One call μ c c' → K c' → K c) {op : ClassFile.Cond} {off : Int} {x y : Int32} (tgt : Nat) (hc : ¬ cnd op x y) (hd : decode μ.2.1 pc = .ok (.if_icmp op off, 3)) (ht : (pc : Int) + off = (tgt : Int)) (hq : pc + 3 = q) (k : K (q, ls, st, S, m)) : K (pc, ls, .int y :: .int x :: st, S, m) := by
  subst hq
  exact hK _ _ ⟨_, _, hd, rfl, x, y, st, tgt, rfl, ht, Or.inr ⟨hc, rfl⟩⟩ k
theorem ko_tsOut (hK : ∀ c c', One call μ c c' → K c' → K c) {dflt lo hi : Int} {offs : Array Int} {len : Nat} {x : Int32} (hd : decode μ.2.1 pc = .ok (.tableswitch dflt lo hi offs, len)) (hc : x.toInt < lo ∨ hi < x.toInt) (ht : (pc : Int) + dflt = (q : Int)) (k : K (q, ls, st, S, m)) : K (pc, ls, .int x :: st, S, m) := hK _ _ ⟨_, _, hd, x, st, rfl, Or.inl ⟨hc, q, ht, rfl⟩⟩ k
theorem ko_tsIn (hK : ∀ c c', One call μ c c' → K c' → K c) {dflt lo hi off : Int} {offs : Array Int} {len : Nat} {x : Int32} (hd : decode μ.2.1 pc = .ok (.tableswitch dflt lo hi offs, len)) (h1 : ¬ x.toInt < lo) (h2 : ¬ hi < x.toInt) (ho : offs[(x.toInt - lo).toNat]? = some off) (ht : (pc : Int) + off = (q : Int)) (k : K (q, ls, st, S, m)) : K (pc, ls, .int x :: st, S, m) := hK _ _ ⟨_, _, hd, x, st, rfl, Or.inr ⟨h1, h2, off, ho, q, ht, rfl⟩⟩ k
theorem ko_getI (hK : ∀ c c', One call μ c c' → K c' → K c) {ix a k0 n N j : Nat} {C : String} {T : u_T} (hv : vwCl[k0]? = some (C, T, N)) (hl : j < N ∧ (T j).1 = C ∧ inT (.fieldLink μ.1.cls ix C (T j).2.1 (T j).2.2.1)) (ha : S[a]? = some (k0, n)) (hr : rt k0 j = false) (hd : decode μ.2.1 pc = .ok (.getfield ix, 3)) (hq : pc + 3 = q) (k : K (q, ls, .int (m.1 a j) :: st, S, m)) : K (pc, ls, .ref a :: st, S, m) := by
  subst hq
  exact hK _ _ ⟨_, _, hd, ⟨rfl, Or.inl ⟨a, st, k0, n, C, T, N, j, rfl, ha, hv, hl.1, hl.2.1, hl.2.2, by rw [hr]; rfl⟩⟩⟩ k
theorem ko_getR (hK : ∀ c c', One call μ c c' → K c' → K c) {ix a k0 n N j : Nat} {C : String} {T : u_T} (hv : vwCl[k0]? = some (C, T, N)) (hl : j < N ∧ (T j).1 = C ∧ inT (.fieldLink μ.1.cls ix C (T j).2.1 (T j).2.2.1)) (ha : S[a]? = some (k0, n)) {b : Nat} (hr : rt k0 j = true) (hb : m.2 a j = some b) (hd : decode μ.2.1 pc = .ok (.getfield ix, 3)) (hq : pc + 3 = q) (k : K (q, ls, .ref b :: st, S, m)) : K (pc, ls, .ref a :: st, S, m) := by
  subst hq
  exact hK _ _ ⟨_, _, hd, ⟨rfl, Or.inl ⟨a, st, k0, n, C, T, N, j, rfl, ha, hv, hl.1, hl.2.1, hl.2.2, by rw [hr]; simp [fv, hb, va_rf]⟩⟩⟩ k
theorem ko_new (hK : ∀ c c', One call μ c c' → K c' → K c) {ix N : Nat} {C : String} {T : u_T} (k0 : Nat) (hv : vwCl[k0]? = some (C, T, N)) (hS : S.length < 999999) (hc : inT (.classLink μ.1.cls ix C) ∧ inT (.instantiable C N) ∧ inT (.initialized C)) (hd : decode μ.2.1 pc = .ok (.new ix, 3)) (hq : pc + 3 = q) (k : K (q, ls, .ref S.length :: st, S ++ [(k0, N)], zer m S.length)) : K (pc, ls, st, S, m) := by
  subst hq
  exact hK _ _ ⟨_, _, hd, ⟨rfl, k0, C, T, N, hv, hS, hc.1, hc.2.1, hc.2.2, rfl⟩⟩ k
theorem ko_virt (hK : ∀ c c', One call μ c c' → K c' → K c) {ix a : Nat} (μ' : MI) (vs : List Value) {r1 : Option Value} {S1 : Sh} {m1 : Me} {st0 : List Value} (hd : decode μ.2.1 pc = .ok (.invokevirtual ix, 3)) (hq : pc + 3 = q) (hst : st0 = vs.reverse ++ .ref a :: st) (hlen : cats st ≤ 8) (hm : mOk μ' vs.length) (h1 : inT (.methodLink μ.1.cls ix μ'.1) ∧ inT (.instanceMethod μ'.1) ∧ inT (.selects μ'.1.cls μ'.1 μ'.1)) (hr : (∃ k n w, S[a]? = some (k, n) ∧ vwCl[k]? = some w ∧ w.1 = μ'.1.cls) ∨ (∃ i, a = 1000000 + i ∧ i < 32 ∧ μ'.1.cls = "java/lang/String")) (hc : call μ' (.ref a :: vs) (S, m) r1 (S1, m1)) (k : K (q, ls, r1.toList ++ st, S1, m1)) : K (pc, ls, st0, S, m) := by
  subst hq; subst hst
  exact hK _ _ ⟨_, _, hd, rfl, μ', vs, a, st, r1, (S1, m1), rfl, hlen, hm, h1.1, h1.2.1, h1.2.2, hr, hc, rfl⟩ k
theorem ko_stat (hK : ∀ c c', One call μ c c' → K c' → K c) {ix : Nat} (μ' : MI) (vs : List Value) {r1 : Option Value} {S1 : Sh} {m1 : Me} {st0 : List Value} (hd : decode μ.2.1 pc = .ok (.invokestatic ix, 3)) (hq : pc + 3 = q) (hst : st0 = vs.reverse ++ st) (hlen : cats st ≤ 8) (hm : mOk μ' vs.length) (h1 : inT (.methodLink μ.1.cls ix μ'.1) ∨ .methodLinkNest μ.1.cls ix μ'.1 "FanParts" ∈ nestW) (h2 : inT (.static μ'.1)) (hc : call μ' vs (S, m) r1 (S1, m1)) (k : K (q, ls, r1.toList ++ st, S1, m1)) : K (pc, ls, st0, S, m) := by
  subst hq; subst hst
  exact hK _ _ ⟨_, _, hd, rfl, Or.inl ⟨μ', vs, st, r1, (S1, m1), rfl, hlen, hm, h1, h2, hc, rfl⟩⟩ k
theorem ko_init (hK : ∀ c c', One call μ c c' → K c' → K c) {ix a : Nat} (μ' : MI) (vs : List Value) {S1 : Sh} {m1 : Me} {st0 : List Value} (hd : decode μ.2.1 pc = .ok (.invokespecial ix, 3)) (hq : pc + 3 = q) (hst : st0 = vs.reverse ++ .ref a :: st) (ha : a < 999999) (hlen : cats st ≤ 8) (hm : mOk μ' vs.length) (hn : μ'.1.name = "<init>" ∧ μ'.2.2.2 = none) (h1 : inT (.methodLink μ.1.cls ix μ'.1) ∨ .methodLinkNest μ.1.cls ix μ'.1 "FanParts" ∈ nestW) (h2 : inT (.instanceMethod μ'.1)) (hc : call μ' (.ref a :: vs) (S, m) none (S1, m1)) (k : K (q, ls, st, S1, m1)) : K (pc, ls, st0, S, m) := by
  subst hq; subst hst
  exact hK _ _ ⟨_, _, hd, rfl, Or.inr ⟨μ', vs, a, st, (S1, m1), rfl, ha, hlen, hm, hn.1, hn.2, h1, h2, hc, rfl⟩⟩ k
end RULESK
/-- a way of the small machine to a given place -/
def Wy (call : MI → List Value → Sm → Option Value → Sm → Prop) (μ : MI) (c1 c : Cf) : Prop := ∃ n, Path (One call μ) n c c1
theorem Wy.cl {call : MI → List Value → Sm → Option Value → Sm → Prop} {μ : MI} {c1 : Cf} : ∀ c c', One call μ c c' → Wy call μ c1 c' → Wy call μ c1 c := fun c c' h ⟨n, k⟩ => ⟨n + 1, c', h, k⟩
theorem Wy.rf {call : MI → List Value → Sm → Option Value → Sm → Prop} {μ : MI} {c1 : Cf} : Wy call μ c1 c1 := ⟨0, rfl⟩
