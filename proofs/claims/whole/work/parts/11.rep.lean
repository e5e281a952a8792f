/-! The small machine's state in the real one: cells one behind the other from a base on. -/
abbrev EV : Type := Nat × (Nat → Nat) × (Nat → Nat) × Value × (Nat → ClassId) × (Nat → Nat → Nat) × (Nat → ClassId) × Nat
abbrev gB (G : EV) : Nat := G.1
abbrev gK (G : EV) : Nat → Nat := G.2.1
abbrev gV (G : EV) : Nat → Nat := G.2.2.1
abbrev gF (G : EV) : Value := G.2.2.2.1
abbrev gC (G : EV) : Nat → ClassId := G.2.2.2.2.1
abbrev gI (G : EV) : Nat → Nat → Nat := G.2.2.2.2.2.1
abbrev gA (G : EV) : Nat → ClassId := G.2.2.2.2.2.2.1
abbrev gX (G : EV) : Nat := G.2.2.2.2.2.2.2
def A0 (G : EV) : Nat → Prop := fun q => gB G ≤ q
def ca (G : EV) (a : Nat) : Nat := if a < 1000000 then gB G + a else if a < 2000000 then gK G (a - 1000000) else if a < 3000000 then gV G (a - 2000000) else gX G
def cv (G : EV) (v : Value) : Value := match v with
  | .ref a => if a < 4000000 then .ref (ca G a) else gF G
  | w => w
def cls_ (G : EV) (ls : Lo) : Lo := ls.map (fun q => (q.1, cv G q.2))
def cst (G : EV) (st : List Value) : List Value := st.map (cv G)
def cellR (G : EV) (m : Me) (H : Heap) (a k n : Nat) : Prop :=
  (k < 12 → ∃ q, vwCl[k]? = some q ∧ n = q.2.2 ∧ t_OB (gB G + a) (gC G k) q.2.2 (gI G k) H (fun j => cv G (fv m a j (rt k j)))) ∧
  (k = 12 ∨ k = 13 → H[gB G + a]? = some (arrV (gA G k) n (fun j => .int (m.1 a j)))) ∧
  (k = 14 → H[gB G + a]? = some (arrV (gA G k) n (fun j => .long (m.1 a j).toInt64))) ∧
  (15 ≤ k ∧ k ≤ 17 → H[gB G + a]? = some (arrV (gA G k) n (fun j => cv G (va_rf (m.2 a j)))))
def Rep (G : EV) (σ : Sm) (H : Heap) : Prop := H.size = gB G + σ.1.length ∧ σ.1.length ≤ 999999 ∧ ∀ a k n, σ.1[a]? = some (k, n) → cellR G σ.2 H a k n
def tysG (G : EV) : List (ClassId × FieldType) := [(gA G 12, .byte), (gA G 13, .int), (gA G 14, .long), (gA G 15, .object "FanParts$Painting"), (gA G 16, .object "FanParts$Row"), (gA G 17, .object "FanParts$Saying")]
def strG (G : EV) (U : State) (H : Heap) (i : Nat) : Prop := va_O "java/lang/String" (gK G i) (A0 G) U H ∧ va_OF "java/lang/String" "coder" "B" (.int 0) (gK G i) (A0 G) U H ∧ va_OF "java/lang/String" "value" "[B" (.ref (gV G i)) (gK G i) (A0 G) U H ∧ va_T .byte (gV G i) (slen i) (fun j => .int (sch i j)) (A0 G) U H
def WC (G : EV) (U : State) : Prop :=
  va_K (gC G, gI G) vwCl (tysG G) U ∧ (∀ w ∈ nestW, va_Nw w U) ∧ (va_AO "FanParts$Painting" U ∧ va_AO "FanParts$Row" U ∧ va_AO "FanParts$Saying" U) ∧ (∀ i q, strs[i]? = some q → vk_R q.1 q.2.1 q.2.2 (gK G i) U) ∧ (∀ i, i < 32 → strG G U U.heap i)
  ∧ va_Z "java/lang/String" "COMPACT_STRINGS" "Z" (.int 1) (A0 G) U U.heap ∧ va_Z "jdk/internal/util/Preconditions" "SIOOBE_FORMATTER" "Ljava/util/function/BiFunction;" (gF G) (A0 G) U U.heap ∧ gB G ≤ U.heap.size ∧ (gF G = .null ∨ ∃ t, gF G = .ref t)
theorem nestW_warm {s U : State} (hW : s.WarmedH U.vm) (h : ∀ w ∈ nestW, va_Nw w s) : ∀ w ∈ nestW, va_Nw w U := by
  intro w hw
  have h1 := h w hw
  simp only [nestW, List.mem_cons, List.not_mem_nil, or_false] at hw
  rcases hw with rfl | rfl | rfl | rfl | rfl | rfl | rfl | rfl | rfl | rfl | rfl | rfl | rfl | rfl <;> exact va_Nw.warmM hW h1
theorem WC.warm {G : EV} {s U : State} (h : WC G s) (hW : s.WarmedH U.vm) (hh : ∀ q, q < gB G → U.heap[q]? = s.heap[q]?) (hz : gB G ≤ U.heap.size) : WC G U := by
  obtain ⟨h1, h2, ⟨h3, h4, h5⟩, h6, h7, h8, h9, -, h11⟩ := h
  have hq : ∀ a : Nat, a < s.heap.size → ¬ A0 G a → U.heap[a]? = s.heap[a]? := fun a _ ha => hh a (Nat.not_le.mp ha)
  refine ⟨h1.moved hW.alike, nestW_warm hW h2, ⟨va_AO.moved hW.alike h3, va_AO.moved hW.alike h4, va_AO.moved hW.alike h5⟩, fun i q hi => (h6 i q hi).warm hW, fun i hi => ?_, (h8.moved hW.alike).kept hq, (h9.moved hW.alike).kept hq, hz, h11⟩
  obtain ⟨a, b, c, d⟩ := h7 i hi
  exact ⟨(va_O.moved hW.alike a).kept hq, (va_OF.moved hW.alike b).kept hq, (va_OF.moved hW.alike c).kept hq, (va_T.moved hW.alike d).kept hq⟩
theorem WC.calling {G : EV} {U : State} {g : JFrame} {mk : MethodId} {a : Array Value} (h : WC G U) : WC G (U.calling g mk a) := WC.warm h (State.WarmedH.refl U) (fun _ _ => rfl) h.2.2.2.2.2.2.2.1
theorem cv_cat {G : EV} {s : State} (h : WC G s) (v : Value) : (cv G v).category = v.category := by
  cases v with
  | ref a =>
    show Value.category (if a < 4000000 then .ref (ca G a) else gF G) = 1
    split
    · rfl
    · rcases h.2.2.2.2.2.2.2.2 with e | ⟨t, e⟩ <;> rw [e] <;> rfl
  | _ => rfl
theorem ca_lt {G : EV} {a : Nat} (h : a < 1000000) : ca G a = gB G + a := by unfold ca; rw [if_pos h]
theorem cv_ref {G : EV} {a : Nat} (h : a < 1000000) : cv G (.ref a) = .ref (gB G + a) := by
  show (if a < 4000000 then Value.ref (ca G a) else gF G) = _
  rw [if_pos (by omega), ca_lt h]
theorem cv_ref4 {G : EV} {a : Nat} (h : a < 4000000) : cv G (.ref a) = .ref (ca G a) := by
  show (if a < 4000000 then Value.ref (ca G a) else gF G) = _
  rw [if_pos h]
theorem cv_str {G : EV} {i : Nat} (h : i < 32) : cv G (.ref (1000000 + i)) = .ref (gK G i) := by
  rw [cv_ref4 (by omega)]
  unfold ca
  rw [if_neg (by omega), if_pos (by omega), Nat.add_sub_cancel_left]
theorem cv_byt {G : EV} {i : Nat} (h : i < 32) : cv G (.ref (2000000 + i)) = .ref (gV G i) := by
  rw [cv_ref4 (by omega)]
  unfold ca
  rw [if_neg (by omega), if_neg (by omega), if_pos (by omega), Nat.add_sub_cancel_left]
theorem cv_fm {G : EV} : cv G (.ref 4000000) = gF G := by
  show (if 4000000 < 4000000 then Value.ref (ca G 4000000) else gF G) = _
  rw [if_neg (by omega)]
theorem Rep.lt {G : EV} {σ : Sm} {H : Heap} (h : Rep G σ H) {a : Nat} {q : Nat × Nat} (ha : σ.1[a]? = some q) : a < 999999 := Nat.lt_of_lt_of_le (List.getElem?_eq_some_iff.mp ha).1 h.2.1
theorem Rep.ref {G : EV} {σ : Sm} {H : Heap} (h : Rep G σ H) {a : Nat} {q : Nat × Nat} (ha : σ.1[a]? = some q) : cv G (.ref a) = .ref (gB G + a) := cv_ref (by have := h.lt ha; omega)
/-- only one cell's contents change -/
theorem Rep.upd {G : EV} {S : Sh} {m m1 : Me} {H H1 : Heap} (h : Rep G (S, m) H) {a k n : Nat} (ha : S[a]? = some (k, n)) (hz : H1.size = H.size) (ho : ∀ q, q ≠ gB G + a → H1[q]? = H[q]?) (hm : ∀ b j, b ≠ a → m1.1 b j = m.1 b j ∧ m1.2 b j = m.2 b j) (hc : cellR G m1 H1 a k n) : Rep G (S, m1) H1 := by
  refine ⟨by rw [hz]; exact h.1, h.2.1, fun b k' n' hb => ?_⟩
  by_cases e : b = a
  · subst e
    have : (k', n') = (k, n) := Option.some.inj (hb.symm.trans ha)
    cases this
    exact hc
  · obtain ⟨h1, h2, h3, h4⟩ := h.2.2 b k' n' hb
    have hq : H1[gB G + b]? = H[gB G + b]? := ho _ (fun h => e (Nat.add_left_cancel h))
    refine ⟨fun hk => ?_, fun hk => ?_, fun hk => ?_, fun hk => ?_⟩
    · obtain ⟨q, g1, g2, g3⟩ := h1 hk
      refine ⟨q, g1, g2, (g3.kept hq).to (fun j _ => ?_)⟩
      show cv G (fv m b j (rt k' j)) = cv G (fv m1 b j (rt k' j))
      unfold fv
      rw [(hm b j e).1, (hm b j e).2]
    · rw [hq, h2 hk]; congr 2; funext j; rw [(hm b j e).1]
    · rw [hq, h3 hk]; congr 2; funext j; rw [(hm b j e).1]
    · rw [hq, h4 hk]; congr 2; funext j; rw [(hm b j e).2]
/-- a new cell -/
theorem Rep.push {G : EV} {S : Sh} {m : Me} {H H1 : Heap} (h : Rep G (S, m) H) {k n : Nat} (hl : S.length < 999999) (hz : H1.size = H.size + 1) (ho : ∀ q, q < H.size → H1[q]? = H[q]?) (hc : cellR G (zer m S.length) H1 S.length k n) : Rep G (S ++ [(k, n)], zer m S.length) H1 := by
  refine ⟨by rw [hz, h.1]; simp; omega, by simp; omega, fun b k' n' hb => ?_⟩
  by_cases e : b < S.length
  · have hb' : S[b]? = some (k', n') := by simpa [List.getElem?_append_left e] using hb
    obtain ⟨h1, h2, h3, h4⟩ := h.2.2 b k' n' hb'
    have hs : H.size = gB G + S.length := h.1
    have hq : H1[gB G + b]? = H[gB G + b]? := ho _ (by omega)
    have z1 : ∀ j, (zer m S.length).1 b j = m.1 b j := fun j => if_neg (by omega)
    have z2 : ∀ j, (zer m S.length).2 b j = m.2 b j := fun j => if_neg (by omega)
    refine ⟨fun hk => ?_, fun hk => ?_, fun hk => ?_, fun hk => ?_⟩
    · obtain ⟨q, g1, g2, g3⟩ := h1 hk
      refine ⟨q, g1, g2, (g3.kept hq).to (fun j _ => ?_)⟩
      show cv G (fv m b j (rt k' j)) = cv G (fv (zer m S.length) b j (rt k' j))
      unfold fv
      rw [z1, z2]
    · rw [hq, h2 hk]; congr 2; funext j; rw [z1]
    · rw [hq, h3 hk]; congr 2; funext j; rw [z1]
    · rw [hq, h4 hk]; congr 2; funext j; rw [z2]
  · have hb2 := hb
    simp only [List.getElem?_append_right (Nat.not_lt.mp e)] at hb2
    have hz0 : b - S.length < 1 := (List.getElem?_eq_some_iff.mp hb2).1
    have e2 : b = S.length := by omega
    subst e2
    simp at hb2
    obtain ⟨rfl, rfl⟩ := hb2
    exact hc
