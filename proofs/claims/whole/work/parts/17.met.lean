section MET
variable {G : EV} {l : Launch}
theorem lvargs_cls {G : EV} {s : State} (hW : WC G s) (vs : List Value) : ∀ i, lv_args i (cst G vs) = cls_ G (lv_args i vs) := by
  induction vs with
  | nil => intro i; rfl
  | cons v t ih =>
    intro i
    show (i, cv G v) :: lv_args (if (cv G v).category = 2 then i + 2 else i + 1) (cst G t) = (i, cv G v) :: cls_ G (lv_args (if v.category = 2 then i + 2 else i + 1) t)
    rw [cv_cat hW, ih]
theorem lvargs_cat {vs : List Value} (h : ∀ v ∈ vs, v.category = 1) : ∀ i, ∀ q ∈ lv_args i vs, q.2.category = 1 := by
  induction vs with
  | nil => intro i q hq; simp [lv_args] at hq
  | cons v t ih =>
    intro i q hq
    rcases List.mem_cons.mp hq with e | hq
    · rw [e]; exact h v List.mem_cons_self
    · exact ih (fun w hw => h w (List.mem_cons_of_mem _ hw)) _ q hq
theorem lgsl_len {vs : List Value} (h : ∀ v ∈ vs, v.category = 1) : (lg_sl vs).length = vs.length := by
  induction vs with
  | nil => rfl
  | cons v t ih =>
    have h1 : v.category = 1 := h v List.mem_cons_self
    show ((if v.category = 2 then [Slot.val v, Slot.second] else [Slot.val v]) ++ lg_sl t).length = t.length + 1
    rw [if_neg (by omega), List.length_append, ih (fun w hw => h w (List.mem_cons_of_mem _ hw))]
    simp
    omega
/-- a call of the small machine, as a contract of the real one -/
theorem simC (d : Nat) : ∀ μ vs σ r σ1, Call d μ vs σ r σ1 → MetG G l d μ vs σ r σ1 := by
  induction d with
  | zero => intro μ vs σ r σ1 h; exact h.elim
  | succ d ih =>
    intro μ vs σ r σ1 h
    obtain ⟨hlen, hcat, n, c1, hp, hfin⟩ := h
    have hg : ∃ X, c1.2.2.2.1 = σ.1 ++ X := path_grow (fun μ' vs σ r σ1 h => (ih μ' vs σ r σ1 h).1) n _ _ hp
    have hσ : c1.2.2.2 = σ1 := hfin.1
    refine ⟨by rw [← hσ]; exact hg, fun hm => ?_⟩
    have hpl : plainName μ.1.cls = true := by rcases hm with h | h <;> exact h.2.2.2.1
    refine Met.ofW (cc := μ.2.1) (maxL := μ.2.2.1) (ret := μ.2.2.2) hpl rfl ?_
    intro p e s m args below meth c s₁ B hml hv
    obtain ⟨rfl, hRep, hWC⟩ := hv
    have hts := atoms_spec (ws := WS μ) B.pre
    have F : FC G p s m (cst G vs).toArray meth c μ := ⟨B.exec, B.bytes, hml, findClass_of_methodNamed B.named, fun w hw => hts w (List.mem_cons_of_mem _ (inT_TB hw)), hWC, (name_of_methodNamed B.named B.method).1⟩
    have hlocks := B.notSynchronized
    have hr := B.returns
    have hcat' : ∀ v ∈ cst G vs, v.category = 1 := by
      intro v hv
      obtain ⟨w, hw, rfl⟩ := List.mem_map.mp hv
      rw [cv_cat hWC]
      exact hcat w hw
    have hl := lv_entry (cst G vs) (n := μ.2.2.1) (by rw [lgsl_len hcat']; simpa [cst] using hlen)
    rw [lg_entry_eq]
    generalize (lg_sl (cst G vs) ++ List.replicate (μ.2.2.1 - (lg_sl (cst G vs)).length) Slot.unset).toArray = lsA at hl ⊢
    rw [lvargs_cls hWC] at hl
    have hl' : LocOK G lsA c.maxLocals (lv_args 0 vs) := ⟨by rw [hml]; exact hl, lvargs_cat hcat 0⟩
    have hroom : 0 + (c1.2.2.2.1.length - σ.1.length) ≤ (headSpec (WS μ) (rmd (d + 1) σ σ1)).room.cells ∧ 0 + (nS c1.2.2.2.1 - nS σ.1) ≤ (headSpec (WS μ) (rmd (d + 1) σ σ1)).room.slots := by
      rw [hσ, Nat.zero_add, Nat.zero_add]
      exact ⟨Nat.le_refl _, Nat.le_refl _⟩
    refine (pathW F ih ⟨Nat.le_refl _, Nat.le_refl _⟩ n (0, lv_args 0 vs, [], σ) c1 s.heap [] 0 0 lsA hp hroom hRep va_S.rf hl' ?_).2
    intro H1 locs1 lsA1 r1 r2 r3
    have hz : 0 + (c1.2.2.2.1.length - σ.1.length) = σ1.1.length - σ.1.length := by rw [hσ, Nat.zero_add]
    have hz2 : 0 + (nS c1.2.2.2.1 - nS σ.1) = nS σ1.1 - nS σ.1 := by rw [hσ, Nat.zero_add]
    dsimp only at r1 ⊢
    rw [hz, hz2]
    rw [hσ] at r1
    have hF : ∀ t : State, t.heap = H1 → va_F (A0 G) s t := fun t ht => r2.F ht
    rcases hfin.2 with ⟨hd, x, ty, e1, e2, e3, e4⟩ | ⟨hd, a, nm, e1, ha4, e2, e4⟩ | ⟨hd, e1, e2, e4⟩
    · rw [e1]
      exact W.zret (ty := ty) F.1 F.2.1 (hr.trans e2) e3 (fun t ht hW => ⟨by rw [e4]; rfl, by rw [ht]; exact r1, hF t ht⟩) r2.2.2 hd hlocks
    · rw [e1]
      exact W.aret (rt := .object nm) F.1 F.2.1 (hr.trans e2) (Or.inl ⟨nm, rfl⟩) (Or.inr ⟨_, cv_ref4 ha4⟩) (fun t ht hW => ⟨by rw [e4]; rfl, by rw [ht]; exact r1, hF t ht⟩) r2.2.2 hd hlocks
    · rw [e1]
      exact W.vret F.1 F.2.1 (hr.trans e2) (fun t ht hW => ⟨by rw [e4]; rfl, by rw [ht]; exact r1, hF t ht⟩) r2.2.2 hd hlocks
end MET
