/-! the start: what is known of the tables and of the heap -/
theorem arr_of {args : Array Value} {s : State} {ty : FieldType} (h : (Cond.arrayClass ty).before args s = true) : ∃ cA, ArrOfT s cA ty ∧ s.vm.findClass ("[" ++ ty.toString) = some cA := by
  obtain ⟨c, k, comp, h1, h2, h3⟩ := Cond.arrayClass_spec h
  exact ⟨c, fun n z => ⟨fun k h => (by cases h), k, h2, comp, h3⟩, h1⟩
theorem arro_of {args : Array Value} {s : State} {C : String} (h : (Cond.arrayOver (.object C)).before args s = true) : ∃ cA, ArrOfT s cA (.object C) ∧ va_RA s cA (.object C) := by
  obtain ⟨comp, c, k, h1, h2, h3, h4, h5⟩ := Cond.arrayOver_spec h
  exact ⟨c, fun n z => ⟨fun k h => (by cases h), k, h3, comp, h4⟩, k, comp, h3, h4, h1, h5⟩
def strT (i : Nat) : Term := .string (strs.getD i ("", 0, "")).1 (strs.getD i ("", 0, "")).2.1
def strV (i : Nat) : Term := .field (strT i) "java/lang/String" "value" "[B"
def strW (i : Nat) : List Cond := [.exactly (strT i) "java/lang/String", .eq (.field (strT i) "java/lang/String" "coder" "B") (.int 0), .arrayOf (strV i) .byte, .eq (.length (strV i)) (.int (Int32.ofNat (slen i)))]
def strE (i j : Nat) : Cond := .eq (.elem (strV i) (.int (Int32.ofNat j))) (.int (sch i j))
theorem strW_in : ∀ i, i < 32 → ∀ w ∈ strW i, w ∈ flatC (Jvm.Cond.and given_1 narrow_1) := by decide +kernel
theorem strE_in : ∀ i, i < 32 → ∀ j, j < slen i → strE i j ∈ flatC (Jvm.Cond.and given_1 narrow_1) := by decide +kernel
theorem strR_in : ∀ q ∈ strs, Cond.stringRef q.1 q.2.1 q.2.2 ∈ lw_tbl := by decide +kernel
theorem inst_in : ∀ q ∈ vwCl, Cond.instantiable q.1 q.2.2 ∈ lw_tbl := by decide +kernel
theorem nest_on : ∀ w ∈ nestW, w.onTables = true := by decide +kernel
theorem word_in : ∀ w ∈ ([.laysStatic "java/lang/String" "COMPACT_STRINGS" "Z", .initialized "java/lang/String", .laysStatic "jdk/internal/util/Preconditions" "SIOOBE_FORMATTER" "Ljava/util/function/BiFunction;", .initialized "jdk/internal/util/Preconditions", .arrayClass .byte, .arrayClass .int, .arrayClass .long, .arrayOver (.object "FanParts$Painting"), .arrayOver (.object "FanParts$Row"), .arrayOver (.object "FanParts$Saying"), .laysStatic thN "UNASSIGNED_STACK" "[Ljava/lang/StackTraceElement;", .laysStatic thN "SUPPRESSED_SENTINEL" "Ljava/util/List;"] : List Cond), w ∈ lw_tbl := by decide +kernel
theorem giv_in : ∀ w ∈ ([.eq (.static "java/lang/String" "COMPACT_STRINGS" "Z") (.int 1), .isRef (.static "jdk/internal/util/Preconditions" "SIOOBE_FORMATTER" "Ljava/util/function/BiFunction;"), zUn, zSu] : List Cond), w ∈ flatC (Jvm.Cond.and given_1 narrow_1) := by decide +kernel
set_option maxHeartbeats 1000000 in
theorem wc_start {s : State} {args : Array Value} (b : Nat) (hts : ∀ w ∈ lw_tbl, w.before args s = true) (hgv : (Jvm.Cond.and given_1 narrow_1).before args s = true) : ∃ G : EV, gB G = s.heap.size ∧ gX G = b ∧ WC G s ∧ TH (A0 G) s := by
  have hs := flat_of_before _ hgv
  have hA : ∀ a : Nat, a < s.heap.size → ¬ s.heap.size ≤ a := fun a h => Nat.not_le.mpr h
  have wd := fun w hw => hts w (word_in w hw)
  have gv := fun w hw => hs w (giv_in w hw)
  have hcl : ∀ c : Nat, ∃ z : ClassId × (Nat → Nat), ∀ q, vwCl[c]? = some q → u_Kn s q.1 q.2.1 q.2.2 z.1 z.2 := by
    intro c
    cases h : vwCl[c]? with
    | none => exact ⟨(0, id), fun q hq => by cases hq⟩
    | some q =>
      have hm := List.mem_of_getElem? h
      obtain ⟨cC, iS, hk⟩ := u_known (ws := lw_tbl) hts (fun w hw => (uws_in q hm w hw).1) (hts _ (inst_in q hm))
      exact ⟨(cC, iS), fun q' hq' => by cases hq'; exact hk⟩
  obtain ⟨z, hz⟩ := Classical.axiomOfChoice hcl
  have hst : ∀ i : Nat, ∃ q : Nat × Nat, i < 32 → (strT i).eval args s none [] s = some (.ref q.1) ∧ va_O "java/lang/String" q.1 (fun a => s.heap.size ≤ a) s s.heap ∧ va_OF "java/lang/String" "coder" "B" (.int 0) q.1 (fun a => s.heap.size ≤ a) s s.heap ∧ va_OF "java/lang/String" "value" "[B" (.ref q.2) q.1 (fun a => s.heap.size ≤ a) s s.heap ∧ va_T .byte q.2 (slen i) (fun j => .int (sch i j)) (fun a => s.heap.size ≤ a) s s.heap := by
    intro i
    by_cases hi : i < 32
    · have w := fun c hc => hs c (strW_in i hi c hc)
      obtain ⟨a, c, cA, kA, q1, q2, q3, q4, q5, q6, -⟩ := Cond.exactly_spec (args := args) (first := s) (o := none) (s := s) (idx := []) (t := strT i) (cls := "java/lang/String") (w _ (List.mem_cons_self ..))
      obtain ⟨t, ht, hT⟩ := va_Tof (f := fun j => .int (sch i j)) (A := fun a => s.heap.size ≤ a) (Nat.lt_trans (slen_lt i hi) (by decide)) (w (.arrayOf (strV i) .byte) (List.mem_cons_of_mem _ (List.mem_cons_of_mem _ (List.mem_cons_self ..)))) (va_eqt (w (.eq (.length (strV i)) (.int (Int32.ofNat (slen i)))) (List.mem_cons_of_mem _ (List.mem_cons_of_mem _ (List.mem_cons_of_mem _ (List.mem_cons_self ..)))))) (fun j hj => va_eqt (hs _ (strE_in i hi j hj))) hA
      exact ⟨(a, t), fun _ => ⟨q1, ⟨cA, q3, q5, by rw [q6]; exact q2, hA a (Array.getElem?_eq_some_iff.mp q3).1⟩, vk_OFof q1 (va_eqt (w (.eq (.field (strT i) "java/lang/String" "coder" "B") (.int 0)) (List.mem_cons_of_mem _ (List.mem_cons_self ..)))) hA, vk_OFof q1 ht hA, hT⟩⟩
    · exact ⟨(0, 0), fun h => absurd h hi⟩
  obtain ⟨ad, had⟩ := Classical.axiomOfChoice hst
  obtain ⟨a12, h12, g12⟩ := arr_of (wd (.arrayClass .byte) (by simp))
  obtain ⟨a13, h13, g13⟩ := arr_of (wd (.arrayClass .int) (by simp))
  obtain ⟨a14, h14, g14⟩ := arr_of (wd (.arrayClass .long) (by simp))
  obtain ⟨a15, h15, g15⟩ := arro_of (wd (.arrayOver (.object "FanParts$Painting")) (by simp))
  obtain ⟨a16, h16, g16⟩ := arro_of (wd (.arrayOver (.object "FanParts$Row")) (by simp))
  obtain ⟨a17, h17, g17⟩ := arro_of (wd (.arrayOver (.object "FanParts$Saying")) (by simp))
  have hcs : va_Z "java/lang/String" "COMPACT_STRINGS" "Z" (.int 1) (fun a => s.heap.size ≤ a) s s.heap := va_Zof (wd _ (by simp)) (wd _ (by simp)) (va_eqi (gv _ (by simp))) hA
  obtain ⟨vF, hvF, hnF⟩ : ∃ v, va_Z "jdk/internal/util/Preconditions" "SIOOBE_FORMATTER" "Ljava/util/function/BiFunction;" v (fun a => s.heap.size ≤ a) s s.heap ∧ (v = .null ∨ ∃ t, v = .ref t) := by
    rcases va_Zqof (A := fun a => s.heap.size ≤ a) (wd (.laysStatic "jdk/internal/util/Preconditions" "SIOOBE_FORMATTER" "Ljava/util/function/BiFunction;") (by simp)) (wd (.initialized "jdk/internal/util/Preconditions") (by simp)) (gv (.isRef (.static "jdk/internal/util/Preconditions" "SIOOBE_FORMATTER" "Ljava/util/function/BiFunction;")) (by simp)) hA with h | ⟨t, h⟩
    · exact ⟨_, h, Or.inl rfl⟩
    · exact ⟨_, h, Or.inr ⟨t, rfl⟩⟩
  refine ⟨(s.heap.size, fun i => (ad i).1, fun i => (ad i).2, vF, fun c => (z c).1, fun c => (z c).2, fun k => if k = 12 then a12 else if k = 13 then a13 else if k = 14 then a14 else if k = 15 then a15 else if k = 16 then a16 else a17, b), rfl, rfl, ⟨⟨fun c q hq => hz c q hq, fun k q hk => ?_⟩, fun w hw => va_Nw.of (nest_on w hw) (hts w (nestW_in w hw)), ⟨va_AO.of (wd _ (by simp)), va_AO.of (wd _ (by simp)), va_AO.of (wd _ (by simp))⟩, fun i q hq => ?_, fun i hi => (had i hi).2, hcs, hvF, Nat.le_refl _, hnF⟩, zS_of (wd _ (by simp)) (gv zUn (by simp)) hA, zS_of (wd _ (by simp)) (gv zSu (by simp)) hA⟩
  · match k, hk with
    | 0, hk => cases Option.some.inj hk; exact ⟨h12, g12⟩
    | 1, hk => cases Option.some.inj hk; exact ⟨h13, g13⟩
    | 2, hk => cases Option.some.inj hk; exact ⟨h14, g14⟩
    | 3, hk => cases Option.some.inj hk; exact ⟨h15, g15⟩
    | 4, hk => cases Option.some.inj hk; exact ⟨h16, g16⟩
    | 5, hk => cases Option.some.inj hk; exact ⟨h17, g17⟩
    | k + 6, hk => cases hk
  · have hi := strs_lt hq
    have h1 := (had i hi).1
    have e : strT i = .string q.1 q.2.1 := by
      unfold strT
      rw [List.getD_eq_getElem?_getD, hq]
      rfl
    rw [e] at h1
    exact vk_R.of (hts _ (strR_in q (List.mem_of_getElem? hq))) h1
