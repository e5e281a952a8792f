/-! the law's walk, over the small machine's states -/
def LW (G : EV) (p : Program) (l : Launch) (e : Env) (s : State) (m : MethodId) (args : Array Value) (below : List Frame) (meth : Method) (c : Code) (Q : State → Prop) : Cf → Prop := fun c' => (c'.2.2.2.1.length ≤ room_1.cells ∧ nS c'.2.2.2.1 ≤ room_1.slots) ∧ ∀ (H : Heap) (locs : List Loc) (lsA : Array Slot), Rep G c'.2.2.2 H → va_S (A0 G) s.heap H locs → LocOK G lsA c.maxLocals c'.2.1 → W p l e room_1 s m args below meth c H locs c'.2.2.2.1.length (nS c'.2.2.2.1) Q (F0 m c'.1 lsA (cst G c'.2.2.1))
section LWS
variable {G : EV} {p : Program} {l : Launch} {e : Env} {s : State} {m : MethodId} {args : Array Value} {below : List Frame} {meth : Method} {c : Code} {Q : State → Prop} {μ : MI}
variable {pc q : Nat} {ls : Lo} {st : List Value} {S : Sh} {mm : Me}
theorem LW.cl (F : FC G p s m args meth c μ) : ∀ c0 c', One (Call 20) μ c0 c' → LW G p l e s m args below meth c Q c' → LW G p l e s m args below meth c Q c0 := by
  intro c0 c' h k
  obtain ⟨⟨b1, b2⟩, k⟩ := k
  obtain ⟨pc, ls, st, S, mm⟩ := c0
  obtain ⟨X, e1⟩ := One_grow (fun μ' vs σ r σ1 h => (simC (G := G) (l := l) 20 μ' vs σ r σ1 h).1) h
  have l1 : c'.2.2.2.1.length = S.length + X.length := by rw [e1]; simp
  have n1 : nS c'.2.2.2.1 = nS S + nS X := by rw [e1]; simp [nS]
  refine ⟨⟨by show S.length ≤ _; omega, by show nS S ≤ _; omega⟩, fun H locs lsA hR hS hl => ?_⟩
  refine stepW F (simC 20) ⟨by decide, by decide⟩ h ⟨by show S.length + (c'.2.2.2.1.length - S.length) ≤ _; omega, by show nS S + (nS c'.2.2.2.1 - nS S) ≤ _; omega⟩ hR hS hl ?_
  intro H1 locs1 lsA1 r1 r2 r3
  have := k H1 locs1 lsA1 r1 r2 r3
  show W p l e room_1 s m args below meth c H1 locs1 (S.length + (c'.2.2.2.1.length - S.length)) (nS S + (nS c'.2.2.2.1 - nS S)) Q _
  rw [show S.length + (c'.2.2.2.1.length - S.length) = c'.2.2.2.1.length by omega, show nS S + (nS c'.2.2.2.1 - nS S) = nS c'.2.2.2.1 by omega]
  exact this
theorem LW.sub {ls' : Lo} (h : ∀ q ∈ ls', q ∈ ls) (k : LW G p l e s m args below meth c Q (pc, ls', st, S, mm)) : LW G p l e s m args below meth c Q (pc, ls, st, S, mm) := by
  refine ⟨k.1, fun H locs lsA hR hS hl => k.2 H locs lsA hR hS ⟨⟨hl.1.1, hl.1.2.1, fun q hq => ?_⟩, fun q hq => hl.2 q (h q hq)⟩⟩
  obtain ⟨w, hw, rfl⟩ := List.mem_map.mp hq
  exact hl.1.2.2 _ (List.mem_map.mpr ⟨w, h w hw, rfl⟩)
def LE (G : EV) (p : Program) (l : Launch) (s : State) (m : MethodId) (args : Array Value) (meth : Method) (c : Code) (μ : MI) (L : Nat) (xs : Nat → Int32) : Prop := FC G p s m args meth c μ ∧ μ.2.1 = cL_law ∧ μ.2.2.1 = 7 ∧ μ.1.cls = RL ∧ va_X (gX G) L xs s s.heap ∧ gX G < s.heap.size ∧ gB G = s.heap.size ∧ TH (A0 G) s ∧ l.flags = pinnedFlags ++ [noTraceFlag]
theorem cv_scr : cv G (.ref 3000000) = .ref (gX G) := by
  rw [cv_ref4 (by decide)]
  unfold ca
  rw [if_neg (by decide), if_neg (by decide), if_neg (by decide)]
variable {L : Nat} {xs : Nat → Int32}
theorem lw_sld (E : LE G p l s m args meth c μ L xs) {i : Int32} (hin : inb i L) (hd : decode cL_law pc = .ok (.iaload, 1)) (hq : pc + 1 = q) (k : LW G p l e s m args below meth c Q (q, ls, .int (xs i.toNatClampNeg) :: st, S, mm)) : LW G p l e s m args below meth c Q (pc, ls, .int i :: .ref 3000000 :: st, S, mm) := by
  subst hq
  obtain ⟨F, h1, h2, h3, hX, hb, hB, -⟩ := E
  refine ⟨k.1, fun H locs lsA hR hS hl => ?_⟩
  show W _ _ _ _ _ _ _ _ _ _ _ _ _ _ _ (F0 m pc lsA (.int i :: cv G (.ref 3000000) :: cst G st))
  rw [cv_scr]
  exact va_sld F.1 (F.2.1.trans h1) hX hb (fun h => by unfold A0 at h; omega) hS hin hd (k.2 H locs lsA hR hS hl)
theorem lw_slen (E : LE G p l s m args meth c μ L xs) (hd : decode cL_law pc = .ok (.arraylength, 1)) (hq : pc + 1 = q) (k : LW G p l e s m args below meth c Q (q, ls, .int (Int32.ofNat L) :: st, S, mm)) : LW G p l e s m args below meth c Q (pc, ls, .ref 3000000 :: st, S, mm) := by
  subst hq
  obtain ⟨F, h1, h2, h3, hX, hb, hB, -⟩ := E
  refine ⟨k.1, fun H locs lsA hR hS hl => ?_⟩
  show W _ _ _ _ _ _ _ _ _ _ _ _ _ _ _ (F0 m pc lsA (cv G (.ref 3000000) :: cst G st))
  rw [cv_scr]
  exact va_slen F.1 (F.2.1.trans h1) hX hb (fun h => by unfold A0 at h; omega) hS hd (k.2 H locs lsA hR hS hl)
theorem lw_i2l (E : LE G p l s m args meth c μ L xs) {x : Int32} (hd : decode cL_law pc = .ok (.i2l, 1)) (hq : pc + 1 = q) (k : LW G p l e s m args below meth c Q (q, ls, .long x.toInt64 :: st, S, mm)) : LW G p l e s m args below meth c Q (pc, ls, .int x :: st, S, mm) := by
  subst hq
  obtain ⟨F, h1, h2, h3, hX, hb, hB, -⟩ := E
  exact ⟨k.1, fun H locs lsA hR hS hl => lv_i2l F.1 (F.2.1.trans h1) hd rfl (k.2 H locs lsA hR hS hl)⟩
theorem lw_lald (E : LE G p l s m args meth c μ L xs) {a n : Nat} {i : Int32} (ha : S[a]? = some (14, n)) (hin : inb i n) (hd : decode cL_law pc = .ok (.laload, 1)) (hq : pc + 1 = q) (k : LW G p l e s m args below meth c Q (q, ls, .long (mm.1 a i.toNatClampNeg).toInt64 :: st, S, mm)) : LW G p l e s m args below meth c Q (pc, ls, .int i :: .ref a :: st, S, mm) := by
  subst hq
  obtain ⟨F, h1, h2, h3, hX, hb, hB, -⟩ := E
  exact ⟨k.1, fun H locs lsA hR hS hl => s_lald F (by rw [h1]; exact hd) ha hin hR (k.2 H locs lsA hR hS hl)⟩
theorem LE.dc (E : LE G p l s m args meth c μ L xs) {pc : Nat} {r : Except DecodeError (Instr × Nat)} (h : decode cL_law pc = r) : decode μ.2.1 pc = r := by rw [E.2.1]; exact h
theorem LE.ml (E : LE G p l s m args meth c μ L xs) {ix : Nat} {y : MethodName} {P : Prop} (h : inT (.methodLink RL ix y) ∧ P) : inT (.methodLink μ.1.cls ix y) ∧ P := by rw [E.2.2.2.1]; exact h
/-- one argument out of the script -/
theorem lw_arg (E : LE G p l s m args meth c μ L xs) {i : Int32} (kI : Int) {kk : Int32} (d0 : decode cL_law pc = .ok (.aload_n 0, 1)) (d1 : decode cL_law (pc + 1) = .ok (.iload 4, 2)) (d2 : decode cL_law (pc + 3) = .ok (.iconst kI, 1)) (d3 : decode cL_law (pc + 4) = .ok (.iadd, 1)) (d4 : decode cL_law (pc + 5) = .ok (.iaload, 1)) (hv : Int32.ofInt kI = kk) (hin : inb (i + kk) L) (hl0 : ls.lookup 0 = some (.ref 3000000)) (hl4 : ls.lookup 4 = some (.int i)) (hq : pc + 6 = q)
    (k : LW G p l e s m args below meth c Q (q, ls, .int (xs (i + kk).toNatClampNeg) :: st, S, mm)) : LW G p l e s m args below meth c Q (pc, ls, st, S, mm) := by
  have hK := LW.cl (l := l) (e := e) (below := below) (Q := Q) E.1
  refine ko_aload_n hK (k0 := 0) (q := pc + 1) hl0 (by decide) (by rw [E.2.1]; exact d0) rfl ?_
  refine ko_iload hK (k0 := 4) (q := pc + 3) hl4 (by rw [E.2.1]; exact d1) rfl ?_
  refine ko_iconst hK (q := pc + 4) hv (by rw [E.2.1]; exact d2) rfl ?_
  refine ko_iadd hK (q := pc + 5) (by rw [E.2.1]; exact d3) rfl ?_
  exact lw_sld E hin d4 (by omega) k
end LWS
