section MAKE
variable {G : EV} {p : Program} {l : Launch} {e : Env} {R : Room} {s : State} {m : MethodId} {args : Array Value} {below : List Frame} {meth : Method} {c : Code} {H : Heap} {locs : List Loc} {cells slots : Nat} {Q : State → Prop} {μ : MI}
variable {pc : Nat} {ls : Lo} {st : List Value} {S : Sh} {mm : Me} {lsA : Array Slot}
theorem zer_1 (m : Me) (a j : Nat) : (zer m a).1 a j = 0 := if_pos rfl
theorem zer_2 (m : Me) (a j : Nat) : (zer m a).2 a j = none := if_pos rfl
theorem va_S.grow {A : Nat → Prop} {H0 H1 : Heap} (hS : va_S A H0 H locs) (hz : H1.size = H.size + 1) (ho : ∀ q, q < H.size → H1[q]? = H[q]?) : va_S A H0 H1 locs := ⟨by have := hS.1; omega, fun q h1 h2 => by rw [ho q (Nat.lt_of_lt_of_le h1 hS.1)]; exact hS.2.1 q h1 h2, hS.2.2⟩
theorem s_new (F : FC G p s m args meth c μ) {ix k N : Nat} {C : String} {T : u_T} {st' : List Value} (hd : decode μ.2.1 pc = .ok (.new ix, 3)) (hv : vwCl[k]? = some (C, T, N)) (hlen : S.length < 999999) (h1 : inT (.classLink μ.1.cls ix C)) (h2 : inT (.instantiable C N)) (h3 : inT (.initialized C)) (hR : Rep G (S, mm) H) (hS : va_S (A0 G) s.heap H locs) (hcells : cells + 1 ≤ R.cells) (hslots : slots + N ≤ R.slots)
    (k' : ∀ H1 : Heap, Rep G (S ++ [(k, N)], zer mm S.length) H1 → va_S (A0 G) s.heap H1 locs → W p l e R s m args below meth c H1 locs (cells + 1) (slots + N) Q (F0 m (pc + 3) lsA (cv G (.ref S.length) :: st'))) : W p l e R s m args below meth c H locs cells slots Q (F0 m pc lsA st') := by
  have hKn := F.2.2.2.2.2.1.1.1 k _ hv
  have hsz : H.size = gB G + S.length := hR.1
  have hk12 := vw_lt hv
  refine W.newcK F.1 F.2.1 F.2.2.2.1 (F.2.2.2.2.1 _ h1) (F.2.2.2.2.1 _ h2) (F.2.2.2.2.1 _ h3) rfl hd hcells hslots hKn.2.1 hsz fun H1 kC hkC e1 z1 o1 => ?_
  have hob := u_born (T := T) (N := N) (fun j => match parseFieldDescriptor (T j).2.2.1 with | some t => t | none => .int) F.tb (uws_tb hv) hKn hkC e1 (fun j hj => by
    obtain ⟨ty, hty, -⟩ := ty_at hv (j := j) hj
    have hty' : parseFieldDescriptor (T j).2.2.1 = some ty := hty
    rw [hty'])
  have z1' : H1.size = H.size + 1 := by rw [z1, hsz]
  have o1' : ∀ q, q < H.size → H1[q]? = H[q]? := fun q hq => o1 q (by rw [← hsz]; exact hq)
  have hc := k' H1 (hR.push hlen z1' o1' ⟨fun _ => ⟨(C, T, N), hv, rfl, hob.to (fun j hj => ?_)⟩, fun h => by omega, fun h => by omega, fun h => by omega⟩) (hS.grow z1' o1')
  · rw [cv_ref (by omega)] at hc
    exact hc
  · obtain ⟨ty, hty, hdf⟩ := ty_at hv (j := j) hj
    have hty' : parseFieldDescriptor (T j).2.2.1 = some ty := hty
    show defaultValue (match parseFieldDescriptor (T j).2.2.1 with | some t => t | none => .int) = cv G (fv (zer mm S.length) S.length j (rt k j))
    rw [hty']
    show defaultValue ty = _
    rw [hdf]
    unfold fv
    rw [zer_1, zer_2]
    by_cases h : rt k j = true
    · rw [if_pos h, if_pos h]; rfl
    · rw [if_neg h, if_neg h]; rfl
theorem s_newa (F : FC G p s m args meth c μ) {ty : ArrayType} {k n : Nat} {x : Int32} {st' : List Value} (hd : decode μ.2.1 pc = .ok (.newarray ty, 2)) (hx0 : ¬ x < 0) (hx : x.toNatClampNeg = n) (hn : n ≤ 100000) (hlen : S.length < 999999) (hk : (k = 12 ∧ newarray.typeOf ty = .byte) ∨ (k = 13 ∧ newarray.typeOf ty = .int)) (h1 : inT (.arrayClass (newarray.typeOf ty))) (hR : Rep G (S, mm) H) (hS : va_S (A0 G) s.heap H locs) (hcells : cells + 1 ≤ R.cells) (hslots : slots + n ≤ R.slots)
    (k' : ∀ H1 : Heap, Rep G (S ++ [(k, n)], zer mm S.length) H1 → va_S (A0 G) s.heap H1 locs → W p l e R s m args below meth c H1 locs (cells + 1) (slots + n) Q (F0 m (pc + 2) lsA (cv G (.ref S.length) :: st'))) : W p l e R s m args below meth c H locs cells slots Q (F0 m pc lsA (.int x :: st')) := by
  have hsz : H.size = gB G + S.length := hR.1
  have hK := F.2.2.2.2.2.1.1.2
  refine va_newaK F.1 F.2.1 (F.2.2.2.2.1 _ h1) rfl hd rfl hx0 hx (by rcases hk with ⟨-, q⟩ | ⟨-, q⟩ <;> rw [q] <;> simp only [componentBytes] <;> omega) hcells hslots hsz fun H1 cA e1 z1 o1 hAr hfc => ?_
  have z1' : H1.size = H.size + 1 := by rw [z1, hsz]
  have o1' : ∀ q, q < H.size → H1[q]? = H[q]? := fun q hq => o1 q (by rw [← hsz]; exact hq)
  have hcA : cA = gA G k ∧ defaultValue (newarray.typeOf ty) = .int 0 := by
    rcases hk with ⟨q1, q2⟩ | ⟨q1, q2⟩
    · have h := (hK 0 _ rfl).2
      rw [q2] at hfc ⊢
      exact ⟨by rw [q1]; exact Option.some.inj (hfc.symm.trans h), rfl⟩
    · have h := (hK 1 _ rfl).2
      rw [q2] at hfc ⊢
      exact ⟨by rw [q1]; exact Option.some.inj (hfc.symm.trans h), rfl⟩
  have hc := k' H1 (hR.push hlen z1' o1' ⟨fun h => by omega, fun _ => ?_, fun h => by omega, fun h => by omega⟩) (hS.grow z1' o1')
  · rw [cv_ref (by omega)] at hc
    exact hc
  · rw [e1, hcA.1, hcA.2]
    congr 2
    funext j
    rw [zer_1]
theorem s_anew (F : FC G p s m args meth c μ) {ix k n : Nat} {x : Int32} {q : vw_C} {st' : List Value} (hd : decode μ.2.1 pc = .ok (.anewarray ix, 3)) (hx0 : ¬ x < 0) (hx : x.toNatClampNeg = n) (hn : n ≤ 100000) (hlen : S.length < 999999) (hk1 : 15 ≤ k) (hk2 : k ≤ 17) (hq : vwCl[aCls k]? = some q) (h1 : inT (.classLink μ.1.cls ix q.1)) (hR : Rep G (S, mm) H) (hS : va_S (A0 G) s.heap H locs) (hcells : cells + 1 ≤ R.cells) (hslots : slots + n ≤ R.slots)
    (k' : ∀ H1 : Heap, Rep G (S ++ [(k, n)], zer mm S.length) H1 → va_S (A0 G) s.heap H1 locs → W p l e R s m args below meth c H1 locs (cells + 1) (slots + n) Q (F0 m (pc + 3) lsA (cv G (.ref S.length) :: st'))) : W p l e R s m args below meth c H locs cells slots Q (F0 m pc lsA (.int x :: st')) := by
  have hsz : H.size = gB G + S.length := hR.1
  obtain ⟨q', hq', ⟨kA, comp, r1, r2, r3, r4⟩, hAO⟩ := aRow F hk1 hk2
  have e0 : q' = q := Option.some.inj (hq'.symm.trans hq)
  subst e0
  subst hx
  refine W.anew F.1 F.2.1 F.2.2.2.1 (F.2.2.2.2.1 _ h1) (va_AO.use hAO) rfl hd rfl hx0 (by omega) hcells hslots fun cA kA' comp' f1 f2 f3 f4 => ?_
  have hcA : cA = gA G k := Option.some.inj (f1.symm.trans r4)
  generalize hH1 : H.push ({ cls := cA, slots := Array.replicate x.toNatClampNeg .null, vm := .none } : Cell) = H1
  have z1' : H1.size = H.size + 1 := by rw [← hH1, Array.size_push]
  have o1' : ∀ z, z < H.size → H1[z]? = H[z]? := fun z hz => by rw [← hH1, Array.getElem?_push, if_neg (Nat.ne_of_lt hz)]
  have e1 : H1[H.size]? = some (arrV cA x.toNatClampNeg (fun _ => .null)) := by rw [← hH1, Array.getElem?_push_size, ← arrV_new]
  have hc := k' H1 (hR.push hlen z1' o1' ⟨fun h => by omega, fun h => by omega, fun h => by omega, fun _ => ?_⟩) (hS.grow z1' o1')
  · rw [cv_ref (by omega), ← hsz] at hc
    exact hc
  · rw [← hsz, e1, hcA]
    congr 2
    funext j
    rw [zer_2]
    rfl
theorem nfw {n : Nat} (h : n ≤ 8) : 2 * 0 + n + (nativeFrameWords "java/lang/System" "arraycopy" 5 + 11) ≤ 64 := by
  have h1 : nativeFrameWords "java/lang/System" "arraycopy" 5 + 11 ≤ 56 := by decide +kernel
  omega
/-- numbers copied from one row into another -/
theorem s_copy (F : FC G p s m args meth c μ) {ix a0 a1 n0 n1 : Nat} {sp dp n : Int32} {st' : List Value} (hml : c.maxLocals = lsA.size) (hd : decode μ.2.1 pc = .ok (.invokestatic ix, 3)) (hlink : inT (.methodLink μ.1.cls ix arraycopyName)) (hnat : inT (.native arraycopyName)) (hstat : inT (.static arraycopyName)) (hini : inT (.initialized "java/lang/System")) (ha0 : S[a0]? = some (13, n0)) (ha1 : S[a1]? = some (13, n1)) (h1 : ¬ sp < 0) (h2 : ¬ dp < 0) (h3 : ¬ n < 0) (h4 : sp.toNatClampNeg + n.toNatClampNeg ≤ n0) (h5 : dp.toNatClampNeg + n.toNatClampNeg ≤ n1)
    (hroom : (st'.map fun v => v.category).sum ≤ 8) (hfr : 1 ≤ R.frames) (hlo : 64 ≤ R.locals) (hR : Rep G (S, mm) H) (hS : va_S (A0 G) s.heap H locs)
    (k' : ∀ (H1 : Heap) (locs1 : List Loc), Rep G (S, cpyI mm a0 a1 sp.toNatClampNeg dp.toNatClampNeg n.toNatClampNeg) H1 → va_S (A0 G) s.heap H1 locs1 → W p l e R s m args below meth c H1 locs1 cells slots Q (F0 m (pc + 3) lsA st')) : W p l e R s m args below meth c H locs cells slots Q (F0 m pc lsA (.int n :: .int dp :: cv G (.ref a1) :: .int sp :: cv G (.ref a0) :: st')) := by
  rw [hR.ref (σ := (S, mm)) ha0, hR.ref (σ := (S, mm)) ha1]
  have nn : ∀ z : Int32, ¬ z < 0 → z.toInt = (z.toNatClampNeg : Int) := by
    intro z hz
    have hz0 : (0 : Int) ≤ z.toInt := by
      have := Int32.not_lt.mp hz
      simpa using Int32.le_iff_toInt_le.mp this
    show z.toInt = ((z.toInt.toNat : Nat) : Int)
    omega
  have hc0 := (hR.2.2 a0 13 n0 ha0).2.1 (Or.inr rfl)
  have hc1 := (hR.2.2 a1 13 n1 ha1).2.1 (Or.inr rfl)
  obtain ⟨-, k0, hk0, cm0, hkk0⟩ := (arrK F).2.1 n0 (fun j => .int (mm.1 a0 j))
  obtain ⟨-, k1, hk1, cm1, hkk1⟩ := (arrK F).2.1 n1 (fun j => .int (mm.1 a1 j))
  intro T hT X
  obtain ⟨vm', X', step⟩ := X.arraycopy F.1 F.2.2.2.1 (F.2.2.2.2.1 _ hlink) (F.2.2.2.2.1 _ hnat) (F.2.2.2.2.1 _ hstat) (F.2.2.2.2.1 _ hini) (src := gB G + a0) (dst := gB G + a1) (srcPos := sp) (destPos := dp) (n := n) (by rw [hT]; exact hc0) (by rw [hT]; exact hc1)
    (fun _ h => by cases h) (fun _ h => by cases h) (fun h => by cases h) (fun h => by cases h) hk0 hk1 hkk0 hkk1 rfl h1 h2 h3
    (by rw [nn sp h1, nn n h3, arrV_size]; omega) (by rw [nn dp h2, nn n h3, arrV_size]; omega)
    (fun vm₁ _ i hi => by
      have e : (arrV (gA G 13) n0 (fun j => .int (mm.1 a0 j))).slots.getD (sp.toNatClampNeg + i) .null = .int (mm.1 a0 (sp.toNatClampNeg + i)) := by
        rw [Array.getD_eq_getD_getElem?, arrV_read _ _ (by omega)]
        rfl
      rw [e]
      exact ⟨rfl, trivial⟩)
    (g := F0 m pc lsA (.int n :: .int dp :: .ref (gB G + a1) :: .int sp :: .ref (gB G + a0) :: st')) rfl hml.symm (rest := st') rfl (by rw [F.2.1]; exact hd) hfr (by show 2 * 0 + _ + _ ≤ _; exact Nat.le_trans (nfw hroom) hlo)
  have e1 : copied (arrV (gA G 13) n0 (fun j => .int (mm.1 a0 j))) (arrV (gA G 13) n1 (fun j => .int (mm.1 a1 j))) sp dp n = arrV (gA G 13) n1 (fun j => .int (va_cpy (mm.1 a0) (mm.1 a1) sp.toNatClampNeg dp.toNatClampNeg n.toNatClampNeg j)) := va_copied (fun z => .int z) (gA G 13) (gA G 13) (mm.1 a0) (mm.1 a1) h4
  rw [e1] at X' step
  have hl : gB G + a1 < H.size := (Array.getElem?_eq_some_iff.mp hc1).1
  generalize hcell : arrV (gA G 13) n1 (fun j => .int (va_cpy (mm.1 a0) (mm.1 a1) sp.toNatClampNeg dp.toNatClampNeg n.toNatClampNeg j)) = nc at X' step
  have hheap : ((T.setVm vm').setCell (gB G + a1) nc).heap = H.setIfInBounds (gB G + a1) nc := by rw [← hT]; rfl
  have oq : ∀ q : Nat, q ≠ gB G + a1 → (H.setIfInBounds (gB G + a1) nc)[q]? = H[q]? := fun q hq => by simp [Array.getElem?_setIfInBounds, Ne.symm hq]
  have hz : (H.setIfInBounds (gB G + a1) nc).size = H.size := by simp
  obtain ⟨t, t1, t2⟩ := k' _ _ (hR.upd ha1 hz oq (fun b j hb => ⟨if_neg hb, rfl⟩) ⟨fun h => by omega, fun _ => by
      rw [show (H.setIfInBounds (gB G + a1) nc)[gB G + a1]? = some nc by simp [Array.getElem?_setIfInBounds, hl], ← hcell]
      congr 2
      funext j
      show _ = Value.int (if a1 = a1 then _ else _)
      rw [if_pos rfl], fun h => by omega, fun h => by omega⟩) ⟨by rw [hz]; exact hS.1, fun q g1 g2 => by
      rw [oq q (fun e => g2 (by rw [e]; exact Nat.le_add_right _ _))]
      exact hS.2.1 q g1 g2, fun q hq => by
      rcases List.mem_append.mp hq with h | h
      · exact hS.2.2 q h
      · obtain ⟨z, -, hz⟩ := List.mem_map.mp h
        rw [← hz]
        exact Nat.le_add_right _ _⟩ _ hheap X'
  exact ⟨t, step t t1, t2⟩
end MAKE
