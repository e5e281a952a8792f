/-! The small machine's instructions, one by one, in the real one. -/
def nS (S : Sh) : Nat := (S.map (fun q => q.2)).sum
def rmd (d : Nat) (σ σ1 : Sm) : Room := { frames := d, cells := σ1.1.length - σ.1.length, slots := nS σ1.1 - nS σ.1, locals := 64 * d }
def PcG (G : EV) (vs : List Value) (σ : Sm) : Array Value → State → Prop := va_Pc (cst G vs) (fun U => Rep G σ U.heap ∧ WC G U)
def QcG (G : EV) (r : Option Value) (σ1 : Sm) : Array Value → State → Outcome → State → Prop := fun _ st oc t => oc = .returned (r.map (cv G)) ∧ Rep G σ1 t.heap ∧ va_F (A0 G) st t
def MetG (G : EV) (l : Launch) (d : Nat) (μ : MI) (vs : List Value) (σ : Sm) (r : Option Value) (σ1 : Sm) : Prop := (∃ X, σ1.1 = σ.1 ++ X) ∧ (mOk μ (vs.length) ∨ mOk μ (vs.length - 1) → Met l μ.1 (WS μ) (rmd d σ σ1) (PcG G vs σ) (QcG G r σ1) (σ1.1.length - σ.1.length) (nS σ1.1 - nS σ.1) (A0 G))
def FC (G : EV) (p : Program) (s : State) (m : MethodId) (args : Array Value) (meth : Method) (c : Code) (μ : MI) : Prop := p.tables.exec = Jvm.exec ∧ c.code = μ.2.1 ∧ c.maxLocals = μ.2.2.1 ∧ s.vm.findClass μ.1.cls = some m.cls ∧ (∀ w, inT w → w.before args s = true) ∧ WC G s ∧ meth.name = μ.1.name
def LocOK (G : EV) (lsA : Array Slot) (n : Nat) (ls : Lo) : Prop := lv_has lsA n (cls_ G ls) ∧ ∀ q ∈ ls, q.2.category = 1
theorem look_mem {ls : Lo} {i : Nat} {v : Value} (h : ls.lookup i = some v) : (i, v) ∈ ls := by
  induction ls with
  | nil => simp at h
  | cons q t ih =>
    obtain ⟨j, w⟩ := q
    rw [List.lookup_cons] at h
    by_cases e : (i == j) = true
    · rw [e] at h
      simp at h e
      subst h; subst e
      exact List.mem_cons_self
    · have e' : (i == j) = false := by simpa using e
      rw [e'] at h
      exact List.mem_cons_of_mem _ (ih h)
theorem LocOK.at {G : EV} {lsA : Array Slot} {n : Nat} {ls : Lo} (h : LocOK G lsA n ls) {i : Nat} {v : Value} (hi : ls.lookup i = some v) : lsA[i]? = some (.val (cv G v)) := h.1.2.2 (i, cv G v) (List.mem_map.mpr ⟨(i, v), look_mem hi, rfl⟩)
theorem stl_cls {G : EV} {s : State} (hW : WC G s) {ls : Lo} {i : Nat} {v : Value} (hc : ∀ q ∈ ls, q.2.category = 1) : (i, cv G v) :: (cls_ G ls).filter (fun q => !(q.1 == i) && !(q.1 + 1 == i && q.2.category == 2)) = cls_ G (stl ls i v) := by
  unfold stl cls_
  rw [List.map_cons, List.filter_map]
  congr 2
  apply List.filter_congr
  intro q hq
  have h1 : (cv G q.2).category = 1 := by rw [cv_cat hW]; exact hc q hq
  simp [h1]
theorem stl_cat {ls : Lo} {i : Nat} {v : Value} (hv : v.category = 1) (hc : ∀ q ∈ ls, q.2.category = 1) : ∀ q ∈ stl ls i v, q.2.category = 1 := by
  intro q hq
  rcases List.mem_cons.mp hq with e | h
  · rw [e]; exact hv
  · exact hc q (List.mem_filter.mp h).1
theorem LocOK.st {G : EV} {s : State} (hW : WC G s) {lsA : Array Slot} {n : Nat} {ls : Lo} {i : Nat} {v : Value} (hc : ∀ q ∈ ls, q.2.category = 1) (hv : v.category = 1) (h : lv_has lsA n ((i, cv G v) :: (cls_ G ls).filter (fun q => !(q.1 == i) && !(q.1 + 1 == i && q.2.category == 2)))) : LocOK G lsA n (stl ls i v) := ⟨by rw [← stl_cls hW hc]; exact h, stl_cat hv hc⟩
theorem cat_sum (l : List Value) : (l.map fun v => v.category).sum ≤ 2 * l.length := by
  induction l with
  | nil => simp
  | cons v t ih =>
    simp only [List.map_cons, List.sum_cons, List.length_cons]
    rcases lv_cat v with h | h <;> omega
theorem vw_lt {k : Nat} {q : vw_C} (h : vwCl[k]? = some q) : k < 12 := (List.getElem?_eq_some_iff.mp h).1
/-- what the tables say of the classes' fields, all together -/
theorem uws_in : ∀ q ∈ vwCl, ∀ w ∈ u_ws q.1 q.2.1 q.2.2, w ∈ lw_tbl ∧ goodWord w = true := by decide +kernel
theorem nm_all : ∀ q ∈ vwCl, ∀ a, a < q.2.2 → ∀ b, b < q.2.2 → a ≠ b → (q.2.1 a).2.1 ≠ (q.2.1 b).2.1 := by decide +kernel
theorem ty_all : ∀ k, k < 12 → ∀ j, j < (vwCl.getD k ("", fun _ => ("", "", "", false), 0)).2.2 → (parseFieldDescriptor ((vwCl.getD k ("", fun _ => ("", "", "", false), 0)).2.1 j).2.2.1).map defaultValue = some (if rt k j = true then Value.null else .int 0) := by decide +kernel
theorem ty_at {k : Nat} {q : vw_C} (h : vwCl[k]? = some q) {j : Nat} (hj : j < q.2.2) : ∃ ty, parseFieldDescriptor (q.2.1 j).2.2.1 = some ty ∧ defaultValue ty = if rt k j = true then Value.null else .int 0 := by
  have h0 := ty_all k (vw_lt h) j
  have e : vwCl.getD k ("", fun _ => ("", "", "", false), 0) = q := by rw [List.getD_eq_getElem?_getD, h]; rfl
  rw [e] at h0
  have h1 := h0 hj
  cases hp : parseFieldDescriptor (q.2.1 j).2.2.1 with
  | none => rw [hp] at h1; simp at h1
  | some ty => rw [hp] at h1; exact ⟨ty, rfl, Option.some.inj h1⟩
section SIM
variable {G : EV} {p : Program} {l : Launch} {e : Env} {R : Room} {s : State} {m : MethodId} {args : Array Value} {below : List Frame} {meth : Method} {c : Code} {H : Heap} {locs : List Loc} {cells slots : Nat} {Q : State → Prop} {μ : MI}
theorem FC.tb (F : FC G p s m args meth c μ) : ∀ w ∈ TB, w.before args s = true := fun w h => F.2.2.2.2.1 w (TB_inT h)
theorem uws_tb {k : Nat} {q : vw_C} (h : vwCl[k]? = some q) : ∀ w ∈ u_ws q.1 q.2.1 q.2.2, w ∈ TB := fun w hw => inT_TB (uws_in q (List.mem_of_getElem? h) w hw)
/-- an object's field, in the real tables -/
theorem fld (F : FC G p s m args meth c μ) {S : Sh} {mm : Me} (hR : Rep G (S, mm) H) {a k n : Nat} (ha : S[a]? = some (k, n)) {C : String} {T : u_T} {N : Nat} (hv : vwCl[k]? = some (C, T, N)) {j : Nat} (hj : j < N) (hC : (T j).1 = C) :
    ∃ (cf fi : Nat) (kf kC : Class) (f : Field) (cell : Cell), s.fieldFound? C (T j).2.1 (T j).2.2.1 = some (cf, kf, fi, f) ∧ f.isStatic = false ∧ f.slot = gI G k j ∧ H[gB G + a]? = some cell ∧ cell.cls = gC G k ∧ cell.vm = .none ∧ (∀ i, i < N → cell.slots[gI G k i]? = some (cv G (fv mm a i (rt k i)))) ∧ s.vm.findClass C = some (gC G k) ∧ s.vm.classes[gC G k]? = some kC ∧ kC.kind = .ordinary ∧ n = N := by
  obtain ⟨q, h1, h2, cell, h3, h4, h5, h6⟩ := (hR.2.2 a k n ha).1 (vw_lt hv)
  have hq : q = (C, T, N) := Option.some.inj (h1.symm.trans hv)
  subst hq
  obtain ⟨hS, hfc, kC, hkC, hkind⟩ := F.2.2.2.2.2.1.1.1 k _ hv
  obtain ⟨cf, kf, fi, f, hi, hsl⟩ := hS j hj
  have hi' : s.fieldFound? C (T j).2.1 (T j).2.2.1 = some (cf, kf, fi, f) := by
    have hi2 : s.fieldFound? (T j).1 (T j).2.1 (T j).2.2.1 = some (cf, kf, fi, f) := hi
    rw [hC] at hi2
    exact hi2
  exact ⟨cf, fi, kf, kC, f, cell, hi', (u_facts hfc hkC (u_lays F.tb (uws_tb hv) hj) hi).1, hsl, h3, h4, h5, h6, hfc, hkC, hkind, h2⟩
theorem apart_ (F : FC G p s m args meth c μ) {k : Nat} {C : String} {T : u_T} {N : Nat} (hv : vwCl[k]? = some (C, T, N)) : ∀ x y, x < N → y < N → x ≠ y → gI G k x ≠ gI G k y := by
  intro x y hx hy hne
  obtain ⟨hS, -⟩ := F.2.2.2.2.2.1.1.1 k _ hv
  obtain ⟨_, _, _, fa, hia, ea⟩ := hS x hx
  obtain ⟨_, _, _, fb, hib, eb⟩ := hS y hy
  have ea' : fa.slot = gI G k x := ea
  have eb' : fb.slot = gI G k y := eb
  rw [← ea', ← eb']
  obtain ⟨tx, htx, -⟩ := ty_at hv (j := x) hx
  obtain ⟨ty, hty, -⟩ := ty_at hv (j := y) hy
  refine u_apart (u_lays F.tb (uws_tb hv) hx) (u_lays F.tb (uws_tb hv) hy) hia hib ?_
  rw [(State.fieldFound?_type hia htx).1, (State.fieldFound?_type hib hty).1]
  exact nm_all _ (List.mem_of_getElem? hv) x hx y hy hne
/-- a call, whatever it answers -/
theorem callW_ {pc : Nat} {ls : Array Slot} {st0 rest : List Value} {mc ms : Nat} {Qa : State → Outcome → State → Prop} {free : Addr → Prop} (hr : va_Run p l e R s m args below meth c H locs cells slots mc ms (F0 m pc ls st0) rest Qa free)
    (kk : ∀ (v : Option Value) (st₀ t : State) (L : List Loc), st₀.heap = H → Qa st₀ (.returned v) t → (∀ q ∈ L, free q.base) → W p l e R s m args below meth c t.heap (locs ++ L) (cells + mc) (slots + ms) Q (F0 m (pc + 3) ls (v.toList ++ rest))) : W p l e R s m args below meth c H locs cells slots Q (F0 m pc ls st0) := by
  intro T hT X
  obtain ⟨v, st₀, t, T', L, h0, X', hL, e1, e2, hq, st⟩ := hr T hT X
  obtain ⟨t2, a1, b1⟩ := kk v st₀ t L h0 hq hL T' e1 X'
  exact ⟨t2, st t2 a1, b1⟩
theorem va_S.call {A : Nat → Prop} {H0 : Heap} {L : List Loc} {st₀ t : State} (hS : va_S A H0 H locs) (h0 : st₀.heap = H) (hF : va_F A st₀ t) (hL : ∀ q ∈ L, A q.base) : va_S A H0 t.heap (locs ++ L) := by
  obtain ⟨f1, f2⟩ := hF
  rw [h0] at f1 f2
  refine ⟨Nat.le_trans hS.1 f1, fun q h1 h2 => ?_, fun q hq => ?_⟩
  · rw [f2 q (Nat.lt_of_lt_of_le h1 hS.1) h2]
    exact hS.2.1 q h1 h2
  · rcases List.mem_append.mp hq with h | h
    · exact hS.2.2 q h
    · exact hL q h
theorem va_S.low {H0 : Heap} (hS : va_S (A0 G) H0 H locs) (hb : gB G ≤ H0.size) : ∀ q, q < gB G → H[q]? = H0[q]? := fun q h => hS.2.1 q (Nat.lt_of_lt_of_le h hb) (Nat.not_le.mpr h)
theorem PcG.blind {vs : List Value} {σ : Sm} : FrameBlind (PcG G vs σ) := fun a U g mk h => ⟨h.1, h.2.1, h.2.2.calling⟩
theorem PcG.pre {vs : List Value} {σ : Sm} (hWC : WC G s) (hS : va_S (A0 G) s.heap H locs) (hR : Rep G σ H) : ∀ U : State, U.heap = H → s.WarmedH U.vm → PcG G vs σ (cst G vs).toArray U := fun U hU hW => ⟨rfl, by rw [hU]; exact hR, hWC.warm hW (by rw [hU]; exact hS.low hWC.2.2.2.2.2.2.2.1) (by rw [hU]; exact Nat.le_trans hWC.2.2.2.2.2.2.2.1 hS.1)⟩
theorem callB_ (F : FC G p s m args meth c μ) {d n : Nat} {μ' : MI} {σ σ1 : Sm} {ix : Nat} (hm : mOk μ' n) (hl : inT (.methodLink μ.1.cls ix μ'.1)) (hR : d + 1 ≤ R.frames ∧ 64 * (d + 1) ≤ R.locals) : CallB R s args μ.1.cls ix μ'.1 μ'.2.1 μ'.2.2.1 μ'.2.2.2 (WS μ') (rmd d σ σ1) (σ1.1.length - σ.1.length) (nS σ1.1 - nS σ.1) n := by
  obtain ⟨h1, h2, ⟨h3, h4, h5⟩, h6, h7⟩ := hm
  refine ⟨rfl, rfl, hR.1, by show 8 + (μ'.2.2.1 + 11) + 64 * d ≤ R.locals; omega, fun w hw a' U hW => ?_, List.mem_cons_self, F.2.2.2.2.1 _ h1, F.2.2.2.2.1 _ h2, ⟨h3, h4⟩, fun sig hs => ?_, F.2.2.2.2.1 _ hl⟩
  · have hg : inT w := by
      rcases List.mem_cons.mp hw with e | h
      · rw [e]; exact h1
      · exact TB_inT h
    exact word_at hW (good_of_word hg.2) (F.2.2.2.2.1 w hg)
  · rw [hs] at h5
    exact (Option.some.inj h5).symm
theorem callN_ (F : FC G p s m args meth c μ) {d n : Nat} {μ' : MI} {σ σ1 : Sm} {ix : Nat} (hm : mOk μ' n) (hl : .methodLinkNest μ.1.cls ix μ'.1 "FanParts" ∈ nestW) (hR : d + 1 ≤ R.frames ∧ 64 * (d + 1) ≤ R.locals) : va_CN R s args μ.1.cls ix μ'.1 "FanParts" μ'.2.1 μ'.2.2.1 μ'.2.2.2 (WS μ') (rmd d σ σ1) (σ1.1.length - σ.1.length) (nS σ1.1 - nS σ.1) n := by
  obtain ⟨h1, h2, ⟨h3, h4, h5⟩, h6, h7⟩ := hm
  refine ⟨⟨rfl, rfl, hR.1, by show 8 + (μ'.2.2.1 + 11) + 64 * d ≤ R.locals; omega, fun w hw a' U hW => ?_, List.mem_cons_self⟩, F.2.2.2.2.1 _ h1, F.2.2.2.2.1 _ h2, ⟨h3, h4⟩, fun sig hs => ?_, va_Nw.use rfl (F.2.2.2.2.2.1.2.1 _ hl)⟩
  · have hg : inT w := by
      rcases List.mem_cons.mp hw with e | h
      · rw [e]; exact h1
      · exact TB_inT h
    exact word_at hW (good_of_word hg.2) (F.2.2.2.2.1 w hg)
  · rw [hs] at h5
    exact (Option.some.inj h5).symm
theorem cst_call {vs st' : List Value} {a b : Nat} (h : cv G (.ref a) = .ref b) : cst G (vs.reverse ++ .ref a :: st') = (cst G vs).reverse ++ .ref b :: cst G st' := by
  unfold cst
  rw [List.map_append, List.map_cons, h, List.map_reverse]
theorem cst_callS {vs st' : List Value} : cst G (vs.reverse ++ st') = (cst G vs).reverse ++ cst G st' := by
  unfold cst
  rw [List.map_append, List.map_reverse]
theorem cst_room (hW : WC G s) {st' : List Value} (h : cats st' ≤ 8) : ((cst G st').map fun v => v.category).sum ≤ 8 := by
  have e : (cst G st').map (fun v => v.category) = st'.map fun v => v.category := by
    unfold cst
    rw [List.map_map]
    apply List.map_congr_left
    intro v _
    exact cv_cat hW v
  rw [e]
  exact h
theorem cst_ret {r : Option Value} {st' : List Value} : (r.map (cv G)).toList ++ cst G st' = cst G (r.toList ++ st') := by
  cases r <;> rfl
end SIM
