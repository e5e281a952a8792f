section STEP
variable {G : EV} {p : Program} {l : Launch} {e : Env} {R : Room} {s : State} {m : MethodId} {args : Array Value} {below : List Frame} {meth : Method} {c : Code} {H : Heap} {locs : List Loc} {cells slots : Nat} {Q : State → Prop} {μ : MI}
variable {pc : Nat} {ls : Lo} {st : List Value} {S : Sh} {mm : Me} {lsA : Array Slot} {c' : Cf} {call : MI → List Value → Sm → Option Value → Sm → Prop}
theorem One_grow (hcall : ∀ μ' vs σ r σ1, call μ' vs σ r σ1 → ∃ X, σ1.1 = σ.1 ++ X) (h : One call μ (pc, ls, st, S, mm) c') : ∃ X, c'.2.2.2.1 = S ++ X := by
  obtain ⟨ins, len, -, h⟩ := h
  unfold OneI at h
  dsimp only at h
  split at h
  · obtain ⟨rfl, rfl⟩ := h
    exact ⟨[], (List.append_nil S).symm⟩
  · obtain ⟨rfl, rfl⟩ := h
    exact ⟨[], (List.append_nil S).symm⟩
  · obtain ⟨rfl, rfl⟩ := h
    exact ⟨[], (List.append_nil S).symm⟩
  · obtain ⟨rfl, ⟨v, hc, rfl⟩ | ⟨i, tx, hi, rfl⟩⟩ := h
    all_goals exact ⟨[], (List.append_nil S).symm⟩
  · obtain ⟨rfl, v, hc, rfl⟩ := h
    exact ⟨[], (List.append_nil S).symm⟩
  · obtain ⟨rfl, x, hi, rfl⟩ := h
    exact ⟨[], (List.append_nil S).symm⟩
  · obtain ⟨rfl, x, hi, rfl⟩ := h
    exact ⟨[], (List.append_nil S).symm⟩
  · obtain ⟨rfl, x, hi, hx4, rfl⟩ := h
    exact ⟨[], (List.append_nil S).symm⟩
  · obtain ⟨rfl, x, hi, hx4, rfl⟩ := h
    exact ⟨[], (List.append_nil S).symm⟩
  · obtain ⟨rfl, x, st', rfl, hk, rfl⟩ := h
    exact ⟨[], (List.append_nil S).symm⟩
  · obtain ⟨rfl, x, st', rfl, hk, rfl⟩ := h
    exact ⟨[], (List.append_nil S).symm⟩
  · obtain ⟨rfl, x, st', rfl, hx4, hk, rfl⟩ := h
    exact ⟨[], (List.append_nil S).symm⟩
  · obtain ⟨rfl, x, st', rfl, hx4, hk, rfl⟩ := h
    exact ⟨[], (List.append_nil S).symm⟩
  · obtain ⟨rfl, x, hi, hk, rfl⟩ := h
    exact ⟨[], (List.append_nil S).symm⟩
  · obtain ⟨rfl, x, y, st', rfl, rfl⟩ := h
    exact ⟨[], (List.append_nil S).symm⟩
  · obtain ⟨rfl, x, y, st', rfl, rfl⟩ := h
    exact ⟨[], (List.append_nil S).symm⟩
  · obtain ⟨rfl, x, y, st', rfl, rfl⟩ := h
    exact ⟨[], (List.append_nil S).symm⟩
  · obtain ⟨rfl, x, y, st', rfl, rfl⟩ := h
    exact ⟨[], (List.append_nil S).symm⟩
  · obtain ⟨rfl, x, y, st', rfl, rfl⟩ := h
    exact ⟨[], (List.append_nil S).symm⟩
  · obtain ⟨rfl, x, y, st', rfl, rfl⟩ := h
    exact ⟨[], (List.append_nil S).symm⟩
  · obtain ⟨rfl, x, y, st', rfl, rfl⟩ := h
    exact ⟨[], (List.append_nil S).symm⟩
  · obtain ⟨rfl, x, y, st', rfl, rfl⟩ := h
    exact ⟨[], (List.append_nil S).symm⟩
  · obtain ⟨rfl, x, y, st', rfl, rfl⟩ := h
    exact ⟨[], (List.append_nil S).symm⟩
  · obtain ⟨rfl, x, y, st', rfl, hy, rfl⟩ := h
    exact ⟨[], (List.append_nil S).symm⟩
  · obtain ⟨rfl, x, y, st', rfl, hy, rfl⟩ := h
    exact ⟨[], (List.append_nil S).symm⟩
  · obtain ⟨rfl, x, st', rfl, rfl⟩ := h
    exact ⟨[], (List.append_nil S).symm⟩
  · obtain ⟨rfl, x, st', rfl, rfl⟩ := h
    exact ⟨[], (List.append_nil S).symm⟩
  · obtain ⟨rfl, v, st', rfl, hv, rfl⟩ := h
    exact ⟨[], (List.append_nil S).symm⟩
  · obtain ⟨rfl, v, w, st', rfl, hv, hw, rfl⟩ := h
    exact ⟨[], (List.append_nil S).symm⟩
  · obtain ⟨rfl, v, st', rfl, hv, rfl⟩ := h
    exact ⟨[], (List.append_nil S).symm⟩
  · obtain ⟨rfl, tgt, ht, rfl⟩ := h
    exact ⟨[], (List.append_nil S).symm⟩
  · obtain ⟨rfl, x, st', tgt, rfl, ht, ⟨hc, rfl⟩ | ⟨hc, rfl⟩⟩ := h
    all_goals exact ⟨[], (List.append_nil S).symm⟩
  · obtain ⟨rfl, x, y, st', tgt, rfl, ht, ⟨hc, rfl⟩ | ⟨hc, rfl⟩⟩ := h
    all_goals exact ⟨[], (List.append_nil S).symm⟩
  · obtain ⟨x, st', rfl, ⟨hc, tgt, ht, rfl⟩ | ⟨h1, h2, off, ho, tgt, ht, rfl⟩⟩ := h
    all_goals exact ⟨[], (List.append_nil S).symm⟩
  · obtain ⟨rfl, ⟨hc, rfl⟩ | ⟨hc, rfl⟩⟩ := h
    all_goals exact ⟨[], (List.append_nil S).symm⟩
  · obtain ⟨rfl, ⟨a, st', k, n, C, T, N, j, rfl, ha, hv, hj, hC, hL, rfl⟩ | ⟨i, st', rfl, hi, ⟨hc, rfl⟩ | ⟨hc, rfl⟩⟩⟩ := h
    all_goals exact ⟨[], (List.append_nil S).symm⟩
  · obtain ⟨rfl, v, a, st', k, n, C, T, N, j, ty, rfl, ha, hv, hj, hC, hL, hty, hfin, ⟨x, rfl, hrt, hn, hf, rfl⟩ | ⟨b, rfl, hbl, hrt, hnf, rfl⟩⟩ := h
    all_goals exact ⟨[], (List.append_nil S).symm⟩
  · obtain ⟨rfl, ⟨a, st', k, n, rfl, ha, h1, h2, rfl⟩ | ⟨i, st', rfl, hi, rfl⟩⟩ := h
    all_goals exact ⟨[], (List.append_nil S).symm⟩
  · obtain ⟨rfl, a, i, st', n, rfl, ha, hin, rfl⟩ := h
    exact ⟨[], (List.append_nil S).symm⟩
  · obtain ⟨rfl, ⟨a, i, st', n, rfl, ha, hin, rfl⟩ | ⟨q, i, st', rfl, hq, hin, rfl⟩⟩ := h
    all_goals exact ⟨[], (List.append_nil S).symm⟩
  · obtain ⟨rfl, a, i, st', k, n, rfl, ha, h1, h2, hin, rfl⟩ := h
    exact ⟨[], (List.append_nil S).symm⟩
  · obtain ⟨rfl, a, i, x, st', n, rfl, ha, hin, rfl⟩ := h
    exact ⟨[], (List.append_nil S).symm⟩
  · obtain ⟨rfl, a, i, x, st', n, rfl, ha, hin, rfl⟩ := h
    exact ⟨[], (List.append_nil S).symm⟩
  · obtain ⟨rfl, a, i, b, st', k, n, nb, rfl, ha, h1, h2, hin, hbb, rfl⟩ := h
    exact ⟨[], (List.append_nil S).symm⟩
  · obtain ⟨rfl, x, st', k, n, rfl, h1, h2, h3, h4, h5, h6, rfl⟩ := h
    exact ⟨[(k, n)], rfl⟩
  · obtain ⟨rfl, x, st', k, n, q, rfl, h1, h2, h3, h4, h5, h6, h7, h8, rfl⟩ := h
    exact ⟨[(k, n)], rfl⟩
  · obtain ⟨rfl, k, C, T, N, h1, h2, h3, h4, h5, rfl⟩ := h
    exact ⟨[(k, N)], rfl⟩
  · obtain ⟨rfl, μ', vs, a, st', r, σ1, rfl, h1, h2, h3, h4, h5, h6, h7, rfl⟩ := h
    exact hcall _ _ _ _ _ h7
  · obtain ⟨rfl, ⟨μ', vs, st', r, σ1, rfl, h1, h2, h3, h4, h5, rfl⟩ | ⟨a0, a1, sp, dp, x, st', n0, n1, rfl, h0, h1, h2, h3, h4, h5, h6, h7, h8, h9, h10, h11, rfl⟩ | ⟨x, y, st', rfl, h1, h2, ⟨h3, h4, h5, rfl⟩ | ⟨h3, h4, h5, rfl⟩⟩⟩ := h
    · exact hcall _ _ _ _ _ h5
    all_goals exact ⟨[], (List.append_nil S).symm⟩
  · obtain ⟨rfl, ⟨a, st', rfl, h0, h1, h2, h3, h4, rfl⟩ | ⟨μ', vs, a, st', σ1, rfl, h0, h1, h2, h3, h4, h5, h6, h7, rfl⟩⟩ := h
    · exact ⟨[], (List.append_nil S).symm⟩
    · exact hcall _ _ _ _ _ h7
  · exact h.elim
theorem path_grow (hcall : ∀ μ' vs σ r σ1, call μ' vs σ r σ1 → ∃ X, σ1.1 = σ.1 ++ X) (n : Nat) : ∀ c0 c1, Path (One call μ) n c0 c1 → ∃ X, c1.2.2.2.1 = c0.2.2.2.1 ++ X := by
  induction n with
  | zero => intro c0 c1 h; cases h; exact ⟨[], by simp⟩
  | succ n ih =>
    intro c0 c1 h
    obtain ⟨c2, h1, h2⟩ := h
    obtain ⟨pc, ls, st, S, mm⟩ := c0
    obtain ⟨X1, e1⟩ := One_grow hcall h1
    obtain ⟨X2, e2⟩ := ih c2 c1 h2
    exact ⟨X1 ++ X2, by rw [e2, e1, List.append_assoc]⟩
/-- one instruction of the small machine is one of the real one -/
theorem stepW (F : FC G p s m args meth c μ) {d : Nat} (hcall : ∀ μ' vs σ r σ1, call μ' vs σ r σ1 → MetG G l d μ' vs σ r σ1) (hRm : d + 1 ≤ R.frames ∧ 64 * (d + 1) ≤ R.locals) (h : One call μ (pc, ls, st, S, mm) c') (hroom : cells + (c'.2.2.2.1.length - S.length) ≤ R.cells ∧ slots + (nS c'.2.2.2.1 - nS S) ≤ R.slots) (hR : Rep G (S, mm) H) (hS : va_S (A0 G) s.heap H locs) (hl : LocOK G lsA c.maxLocals ls) (kk : KK G p l e R s m args below meth c cells slots Q S c') : W p l e R s m args below meth c H locs cells slots Q (F0 m pc lsA (cst G st)) := by
  obtain ⟨ins, len, hd, h⟩ := h
  dsimp only at hd h
  have hx := F.1
  have hb := F.2.1
  have hWC := F.2.2.2.2.2.1
  have hml : c.maxLocals = μ.2.2.1 := F.2.2.1
  unfold OneI at h
  split at h
  · obtain ⟨rfl, rfl⟩ := h
    exact lv_iconst hx hb hd rfl (kk.same hR hS hl)
  · obtain ⟨rfl, rfl⟩ := h
    exact lv_bipush hx hb hd rfl (kk.same hR hS hl)
  · obtain ⟨rfl, rfl⟩ := h
    exact lv_sipush hx hb hd rfl (kk.same hR hS hl)
  · obtain ⟨rfl, ⟨v, hc, rfl⟩ | ⟨i, tx, hi, rfl⟩⟩ := h
    · exact lv_ldc hx hb F.2.2.2.1 (F.2.2.2.2.1 _ hc) hd (kk.same hR hS hl)
    · have k1 := kk.same hR hS hl
      have e1 : cst G (.ref (1000000 + i) :: st) = .ref (gK G i) :: cst G st := by show cv G _ :: _ = _; rw [cv_str (strs_lt hi)]; rfl
      rw [e1] at k1
      exact va_ldcS hx hb F.2.2.2.1 (hWC.2.2.2.1 i _ hi) hd k1
  · obtain ⟨rfl, v, hc, rfl⟩ := h
    exact lv_ldcw hx hb F.2.2.2.1 (F.2.2.2.2.1 _ hc) hd (kk.same hR hS hl)
  · obtain ⟨rfl, x, hi, rfl⟩ := h
    exact lv_iload_n hx hb hd rfl (hl.at hi) (kk.same hR hS hl)
  · obtain ⟨rfl, x, hi, rfl⟩ := h
    exact lv_iload hx hb hd (hl.at hi) (kk.same hR hS hl)
  · obtain ⟨rfl, x, hi, hx4, rfl⟩ := h
    have k1 := kk.same hR hS hl
    have e1 : cst G (.ref x :: st) = .ref (ca G x) :: cst G st := by show cv G _ :: _ = _; rw [cv_ref4 hx4]; rfl
    rw [e1] at k1
    have h1 := hl.at hi
    rw [cv_ref4 hx4] at h1
    exact lv_aload_n hx hb hd rfl h1 k1
  · obtain ⟨rfl, x, hi, hx4, rfl⟩ := h
    have k1 := kk.same hR hS hl
    have e1 : cst G (.ref x :: st) = .ref (ca G x) :: cst G st := by show cv G _ :: _ = _; rw [cv_ref4 hx4]; rfl
    rw [e1] at k1
    have h1 := hl.at hi
    rw [cv_ref4 hx4] at h1
    exact lv_aload hx hb hd h1 k1
  · obtain ⟨rfl, x, st', rfl, hk, rfl⟩ := h
    exact lv_istore_n hx hb hd rfl hl.1 (by rw [hml]; exact hk) rfl (fun ls1 h1 => kk.same hR hS (LocOK.st (v := .int x) hWC hl.2 rfl h1))
  · obtain ⟨rfl, x, st', rfl, hk, rfl⟩ := h
    exact lv_istore hx hb hd hl.1 (by rw [hml]; exact hk) rfl (fun ls1 h1 => kk.same hR hS (LocOK.st (v := .int x) hWC hl.2 rfl h1))
  · obtain ⟨rfl, x, st', rfl, hx4, hk, rfl⟩ := h
    have e1 : cst G (.ref x :: st') = .ref (ca G x) :: cst G st' := by show cv G _ :: _ = _; rw [cv_ref4 hx4]; rfl
    rw [e1]
    exact lv_astore_n hx hb hd rfl hl.1 (by rw [hml]; exact hk) rfl (fun ls1 h1 => kk.same hR hS (LocOK.st (v := .ref x) hWC hl.2 rfl (by rw [cv_ref4 hx4]; exact h1)))
  · obtain ⟨rfl, x, st', rfl, hx4, hk, rfl⟩ := h
    have e1 : cst G (.ref x :: st') = .ref (ca G x) :: cst G st' := by show cv G _ :: _ = _; rw [cv_ref4 hx4]; rfl
    rw [e1]
    exact lv_astore hx hb hd hl.1 (by rw [hml]; exact hk) rfl (fun ls1 h1 => kk.same hR hS (LocOK.st (v := .ref x) hWC hl.2 rfl (by rw [cv_ref4 hx4]; exact h1)))
  · rename_i k n
    obtain ⟨rfl, x, hi, hk, rfl⟩ := h
    obtain ⟨j, hj⟩ := List.getElem?_of_mem (show (k, cv G (.int x)) ∈ cls_ G ls from List.mem_map.mpr ⟨(k, .int x), look_mem hi, rfl⟩)
    exact lv_iinc hx hb hd hl.1 hj rfl (by rw [hml]; exact hk) rfl (fun ls1 h1 => kk.same hR hS (LocOK.st (v := .int (x + Int32.ofInt n)) hWC hl.2 rfl h1))
  · obtain ⟨rfl, x, y, st', rfl, rfl⟩ := h
    exact lv_iadd hx hb hd (kk.same hR hS hl)
  · obtain ⟨rfl, x, y, st', rfl, rfl⟩ := h
    exact lv_isub hx hb hd (kk.same hR hS hl)
  · obtain ⟨rfl, x, y, st', rfl, rfl⟩ := h
    exact lv_imul hx hb hd (kk.same hR hS hl)
  · obtain ⟨rfl, x, y, st', rfl, rfl⟩ := h
    exact lv_iand hx hb hd (kk.same hR hS hl)
  · obtain ⟨rfl, x, y, st', rfl, rfl⟩ := h
    exact lv_ior hx hb hd (kk.same hR hS hl)
  · obtain ⟨rfl, x, y, st', rfl, rfl⟩ := h
    exact lv_ixor hx hb hd (kk.same hR hS hl)
  · obtain ⟨rfl, x, y, st', rfl, rfl⟩ := h
    exact lv_ishl hx hb hd (kk.same hR hS hl)
  · obtain ⟨rfl, x, y, st', rfl, rfl⟩ := h
    exact lv_ishr hx hb hd (kk.same hR hS hl)
  · obtain ⟨rfl, x, y, st', rfl, rfl⟩ := h
    exact lv_iushr hx hb hd rfl (kk.same hR hS hl)
  · obtain ⟨rfl, x, y, st', rfl, hy, rfl⟩ := h
    exact lv_idiv hx hb hd hy (kk.same hR hS hl)
  · obtain ⟨rfl, x, y, st', rfl, hy, rfl⟩ := h
    exact lv_irem hx hb hd hy (kk.same hR hS hl)
  · obtain ⟨rfl, x, st', rfl, rfl⟩ := h
    exact lv_i2b hx hb hd rfl (kk.same hR hS hl)
  · obtain ⟨rfl, x, st', rfl, rfl⟩ := h
    exact lv_i2c hx hb hd rfl (kk.same hR hS hl)
  · obtain ⟨rfl, v, st', rfl, hv, rfl⟩ := h
    exact lv_dup hx hb hd (by rw [cv_cat hWC]; exact hv) (kk.same hR hS hl)
  · obtain ⟨rfl, v, w, st', rfl, hv, hw, rfl⟩ := h
    exact lv_dup2_11 hx hb hd (by rw [cv_cat hWC]; exact hv) (by rw [cv_cat hWC]; exact hw) (kk.same hR hS hl)
  · obtain ⟨rfl, v, st', rfl, hv, rfl⟩ := h
    exact lv_pop hx hb hd (by rw [cv_cat hWC]; exact hv) (kk.same hR hS hl)
  · obtain ⟨rfl, tgt, ht, rfl⟩ := h
    exact lv_goto hx hb hd ht (kk.same hR hS hl)
  · obtain ⟨rfl, x, st', tgt, rfl, ht, ⟨hc, rfl⟩ | ⟨hc, rfl⟩⟩ := h
    · exact s_if hx hb hd ht (fun _ => kk.same hR hS hl) (fun q => absurd hc q)
    · exact s_if hx hb hd ht (fun q => absurd q hc) (fun _ => kk.same hR hS hl)
  · obtain ⟨rfl, x, y, st', tgt, rfl, ht, ⟨hc, rfl⟩ | ⟨hc, rfl⟩⟩ := h
    · exact s_icmp hx hb hd ht (fun _ => kk.same hR hS hl) (fun q => absurd hc q)
    · exact s_icmp hx hb hd ht (fun q => absurd q hc) (fun _ => kk.same hR hS hl)
  · obtain ⟨x, st', rfl, ⟨hc, tgt, ht, rfl⟩ | ⟨h1, h2, off, ho, tgt, ht, rfl⟩⟩ := h
    · exact lv_tableOut hx hb hd hc ht (kk.same hR hS hl)
    · exact lv_tableIn hx hb hd h1 h2 ho ht (kk.same hR hS hl)
  · obtain ⟨rfl, ⟨hc, rfl⟩ | ⟨hc, rfl⟩⟩ := h
    · exact va_gets hx hb hWC.2.2.2.2.2.1 hS F.2.2.2.1 (F.2.2.2.2.1 _ hc) (fun _ h => h) hd (kk.same hR hS hl)
    · have k1 := kk.same hR hS hl
      have e1 : cst G (.ref 4000000 :: st) = gF G :: cst G st := by show cv G _ :: _ = _; rw [cv_fm]; rfl
      rw [e1] at k1
      exact va_gets hx hb hWC.2.2.2.2.2.2.1 hS F.2.2.2.1 (F.2.2.2.2.1 _ hc) (fun _ h => h) hd k1
  · obtain ⟨rfl, ⟨a, st', k, n, C, T, N, j, rfl, ha, hv, hj, hC, hL, rfl⟩ | ⟨i, st', rfl, hi, ⟨hc, rfl⟩ | ⟨hc, rfl⟩⟩⟩ := h
    · exact s_get F hd ha hv hj hC hL hR (kk.same hR hS hl)
    · have e1 : cst G (.ref (1000000 + i) :: st') = .ref (gK G i) :: cst G st' := by show cv G _ :: _ = _; rw [cv_str hi]; rfl
      rw [e1]
      exact vk_getf hx hb (hWC.2.2.2.2.1 i hi).2.1 hS F.2.2.2.1 (F.2.2.2.2.1 _ hc) (fun _ h => h) hd (kk.same hR hS hl)
    · have e1 : cst G (.ref (1000000 + i) :: st') = .ref (gK G i) :: cst G st' := by show cv G _ :: _ = _; rw [cv_str hi]; rfl
      have k1 := kk.same hR hS hl
      have e2 : cst G (.ref (2000000 + i) :: st') = .ref (gV G i) :: cst G st' := by show cv G _ :: _ = _; rw [cv_byt hi]; rfl
      rw [e2] at k1
      rw [e1]
      exact vk_getf hx hb (hWC.2.2.2.2.1 i hi).2.2.1 hS F.2.2.2.1 (F.2.2.2.2.1 _ hc) (fun _ h => h) hd k1
  · obtain ⟨rfl, v, a, st', k, n, C, T, N, j, ty, rfl, ha, hv, hj, hC, hL, hty, hfin, ⟨x, rfl, hrt, hn, hf, rfl⟩ | ⟨b, rfl, hbl, hrt, hnf, rfl⟩⟩ := h
    · refine s_put F (mm := mm) (v := .int x) (m1 := setI mm a j x) hd ha hv hj hC hL hty hfin hn hf (fun b i hb => ⟨if_neg (fun h => hb h.1), rfl⟩) (fun i hi => ?_) hR hS (fun H1 locs1 h1 h2 => kk.same h1 h2 hl)
      by_cases e0 : i = j
      · subst e0
        rw [if_pos rfl, hrt]
        show Value.int (if a = a ∧ i = i then x else _) = _
        simp
      · rw [if_neg e0]
        unfold fv
        show (if _ then va_rf (mm.2 a i) else Value.int (if a = a ∧ i = j then x else mm.1 a i)) = _
        simp [e0]
    · have hb6 : b < 1000000 := Nat.lt_of_lt_of_le hbl (Nat.le_trans hR.2.1 (by decide))
      refine s_put F (mm := mm) (v := .ref b) (m1 := setR mm a j (some b)) hd ha hv hj hC hL hty hfin (by rw [cv_ref hb6]; exact (hnf _).1) (by rw [cv_ref hb6]; exact (hnf _).2) (fun b i hb => ⟨rfl, if_neg (fun h => hb h.1)⟩) (fun i hi => ?_) hR hS (fun H1 locs1 h1 h2 => kk.same h1 h2 hl)
      by_cases e0 : i = j
      · subst e0
        rw [if_pos rfl, hrt]
        show va_rf (if a = a ∧ i = i then some b else _) = _
        simp [va_rf]
      · rw [if_neg e0]
        unfold fv
        show (if _ then va_rf (if a = a ∧ i = j then some b else mm.2 a i) else Value.int (mm.1 a i)) = _
        simp [e0]
  · obtain ⟨rfl, ⟨a, st', k, n, rfl, ha, h1, h2, rfl⟩ | ⟨i, st', rfl, hi, rfl⟩⟩ := h
    · exact s_alen F hd ha h1 h2 hR (kk.same hR hS hl)
    · have e1 : cst G (.ref (2000000 + i) :: st') = .ref (gV G i) :: cst G st' := by show cv G _ :: _ = _; rw [cv_byt hi]; rfl
      rw [e1]
      exact va_tlen hx hb (hWC.2.2.2.2.1 i hi).2.2.2 hS rfl hd (kk.same hR hS hl)
  · obtain ⟨rfl, a, i, st', n, rfl, ha, hin, rfl⟩ := h
    exact s_iald F hd ha hin hR (kk.same hR hS hl)
  · obtain ⟨rfl, ⟨a, i, st', n, rfl, ha, hin, rfl⟩ | ⟨q, i, st', rfl, hq, hin, rfl⟩⟩ := h
    · exact s_bald F hd ha hin hR (kk.same hR hS hl)
    · have e1 : cst G (.int i :: .ref (2000000 + q) :: st') = .int i :: .ref (gV G q) :: cst G st' := by show cv G _ :: cv G _ :: _ = _; rw [cv_byt hq]; rfl
      rw [e1]
      exact va_tb hx hb (hWC.2.2.2.2.1 q hq).2.2.2 hS hin rfl hd (kk.same hR hS hl)
  · obtain ⟨rfl, a, i, st', k, n, rfl, ha, h1, h2, hin, rfl⟩ := h
    exact s_aald F hd ha h1 h2 hin hR (kk.same hR hS hl)
  · obtain ⟨rfl, a, i, x, st', n, rfl, ha, hin, rfl⟩ := h
    exact s_iast F hd ha hin hR hS (fun H1 locs1 h1 h2 => kk.same h1 h2 hl)
  · obtain ⟨rfl, a, i, x, st', n, rfl, ha, hin, rfl⟩ := h
    exact s_bast F hd ha hin hR hS (fun H1 locs1 h1 h2 => kk.same h1 h2 hl)
  · obtain ⟨rfl, a, i, b, st', k, n, nb, rfl, ha, h1, h2, hin, hbb, rfl⟩ := h
    exact s_aast F hd ha h1 h2 hin hbb hR hS (fun H1 locs1 h1 h2 => kk.same h1 h2 hl)
  · obtain ⟨rfl, x, st', k, n, rfl, h1, h2, h3, h4, h5, h6, rfl⟩ := h
    have e1 : (S ++ [(k, n)]).length - S.length = 1 := by simp
    have e2 : nS (S ++ [(k, n)]) - nS S = n := by simp [nS]
    dsimp only at hroom
    rw [e1, e2] at hroom
    refine s_newa F hd h1 h2 h3 h4 h5 h6 hR hS hroom.1 hroom.2 (fun H1 r1 r2 => ?_)
    have k1 := kk H1 locs lsA r1 r2 hl
    dsimp only at k1
    rw [e1, e2] at k1
    exact k1
  · obtain ⟨rfl, x, st', k, n, q, rfl, h1, h2, h3, h4, h5, h6, h7, h8, rfl⟩ := h
    have e1 : (S ++ [(k, n)]).length - S.length = 1 := by simp
    have e2 : nS (S ++ [(k, n)]) - nS S = n := by simp [nS]
    dsimp only at hroom
    rw [e1, e2] at hroom
    refine s_anew F hd h1 h2 h3 h4 h5 h6 h7 h8 hR hS hroom.1 hroom.2 (fun H1 r1 r2 => ?_)
    have k1 := kk H1 locs lsA r1 r2 hl
    dsimp only at k1
    rw [e1, e2] at k1
    exact k1
  · obtain ⟨rfl, k, C, T, N, h1, h2, h3, h4, h5, rfl⟩ := h
    have e1 : (S ++ [(k, N)]).length - S.length = 1 := by simp
    have e2 : nS (S ++ [(k, N)]) - nS S = N := by simp [nS]
    dsimp only at hroom
    rw [e1, e2] at hroom
    refine s_new F hd h1 h2 h3 h4 h5 hR hS hroom.1 hroom.2 (fun H1 r1 r2 => ?_)
    have k1 := kk H1 locs lsA r1 r2 hl
    dsimp only at k1
    rw [e1, e2] at k1
    exact k1
  · obtain ⟨rfl, μ', vs, a, st', r, σ1, rfl, h1, h2, h3, h4, h5, h6, h7, rfl⟩ := h
    exact s_virt F hd h1 h2 h3 h4 h5 h6 (hcall _ _ _ _ _ h7) hRm hroom hR hS hl kk
  · obtain ⟨rfl, ⟨μ', vs, st', r, σ1, rfl, h1, h2, h3, h4, h5, rfl⟩ | ⟨a0, a1, sp, dp, x, st', n0, n1, rfl, h0, h1, h2, h3, h4, h5, h6, h7, h8, h9, h10, h11, rfl⟩ | ⟨x, y, st', rfl, h1, h2, ⟨h3, h4, h5, rfl⟩ | ⟨h3, h4, h5, rfl⟩⟩⟩ := h
    · exact s_stat F hd h1 h2 h3 h4 (hcall _ _ _ _ _ h5) hRm hroom hR hS hl kk
    · exact s_copy F hl.1.1.symm hd h1 h2 h3 h4 h5 h6 h7 h8 h9 h10 h11 (cst_room hWC h0) (by omega) (by omega) hR hS (fun H1 locs1 r1 r2 => kk.same r1 r2 hl)
    · have h9 := cst_room hWC h1
      exact va_mmax hx hb hl.1.1.symm F.2.2.2.1 (F.2.2.2.2.1 _ h3) (F.2.2.2.2.1 _ h4) (F.2.2.2.2.1 _ h2) (F.2.2.2.2.1 _ h5) (by omega) (Nat.le_trans (Nat.add_le_add_right h9 13) (by omega)) (Nat.le_trans (Nat.le_add_right _ _) hroom.1) (Nat.le_trans (Nat.le_add_right _ _) hroom.2) hd (kk.same hR hS hl)
    · have h9 := cst_room hWC h1
      exact va_mmin hx hb hl.1.1.symm F.2.2.2.1 (F.2.2.2.2.1 _ h3) (F.2.2.2.2.1 _ h4) (F.2.2.2.2.1 _ h2) (F.2.2.2.2.1 _ h5) (by omega) (Nat.le_trans (Nat.add_le_add_right h9 13) (by omega)) (Nat.le_trans (Nat.le_add_right _ _) hroom.1) (Nat.le_trans (Nat.le_add_right _ _) hroom.2) hd (kk.same hR hS hl)
  · obtain ⟨rfl, ⟨a, st', rfl, h0, h1, h2, h3, h4, rfl⟩ | ⟨μ', vs, a, st', σ1, rfl, h0, h1, h2, h3, h4, h5, h6, h7, rfl⟩⟩ := h
    · have e1 : cst G (.ref a :: st') = .ref (gB G + a) :: cst G st' := by show cv G _ :: _ = _; rw [cv_ref (Nat.lt_trans h0 (by decide))]; rfl
      rw [e1]
      exact W.objInit hx hb F.2.2.2.1 (F.2.2.2.2.1 _ h2) (F.2.2.2.2.1 _ h3) (F.2.2.2.2.1 _ h4) rfl hl.1.1 rfl hd (by omega) (by have h9 := cst_room hWC h1; show 2 * 0 + _ + 12 ≤ _; omega) (kk.same hR hS hl)
    · exact s_init F hd h1 h2 h3 h4 (Nat.lt_trans h0 (by decide)) h5 h6 (hcall _ _ _ _ _ h7) hRm hroom hR hS hl kk
  · exact h.elim
theorem pathW (F : FC G p s m args meth c μ) {d : Nat} (hcall : ∀ μ' vs σ r σ1, call μ' vs σ r σ1 → MetG G l d μ' vs σ r σ1) (hRm : d + 1 ≤ R.frames ∧ 64 * (d + 1) ≤ R.locals) (n : Nat) : ∀ (c0 c1 : Cf) (H : Heap) (locs : List Loc) (cells slots : Nat) (lsA : Array Slot), Path (One call μ) n c0 c1 → (cells + (c1.2.2.2.1.length - c0.2.2.2.1.length) ≤ R.cells ∧ slots + (nS c1.2.2.2.1 - nS c0.2.2.2.1) ≤ R.slots) → Rep G c0.2.2.2 H → va_S (A0 G) s.heap H locs → LocOK G lsA c.maxLocals c0.2.1 → KK G p l e R s m args below meth c cells slots Q c0.2.2.2.1 c1 → (∃ X, c1.2.2.2.1 = c0.2.2.2.1 ++ X) ∧ W p l e R s m args below meth c H locs cells slots Q (F0 m c0.1 lsA (cst G c0.2.2.1)) := by
  induction n with
  | zero =>
    intro c0 c1 H locs cells slots lsA hp hroom hR hS hl kk
    cases hp
    obtain ⟨pc, ls, st, S, mm⟩ := c0
    exact ⟨⟨[], by simp⟩, kk.same hR hS hl⟩
  | succ n ih =>
    intro c0 c1 H locs cells slots lsA hp hroom hR hS hl kk
    obtain ⟨c2, h1, h2⟩ := hp
    obtain ⟨pc, ls, st, S, mm⟩ := c0
    have g1 : ∃ X, c2.2.2.2.1 = S ++ X := One_grow (fun μ' vs σ r σ1 h => (hcall μ' vs σ r σ1 h).1) h1
    have g2 : ∃ X, c1.2.2.2.1 = c2.2.2.2.1 ++ X := path_grow (fun μ' vs σ r σ1 h => (hcall μ' vs σ r σ1 h).1) n c2 c1 h2
    obtain ⟨X1, e1⟩ := g1
    obtain ⟨X2, e2⟩ := g2
    have l1 : c2.2.2.2.1.length = S.length + X1.length := by rw [e1]; simp
    have l2 : c1.2.2.2.1.length = c2.2.2.2.1.length + X2.length := by rw [e2]; simp
    have n1 : nS c2.2.2.2.1 = nS S + nS X1 := by rw [e1]; simp [nS]
    have n2 : nS c1.2.2.2.1 = nS c2.2.2.2.1 + nS X2 := by rw [e2]; simp [nS]
    dsimp only at hroom hR hl kk ⊢
    refine ⟨⟨X1 ++ X2, by rw [e2, e1, List.append_assoc]⟩, stepW F hcall hRm h1 (by constructor <;> omega) hR hS hl fun H1 locs1 lsA1 r1 r2 r3 => ?_⟩
    refine (ih c2 c1 H1 locs1 _ _ lsA1 h2 (by constructor <;> omega) r1 r2 r3 fun H3 locs3 lsA3 q1 q2 q3 => ?_).2
    have k := kk H3 locs3 lsA3 q1 q2 q3
    have t1 : cells + (c1.2.2.2.1.length - S.length) = cells + (c2.2.2.2.1.length - S.length) + (c1.2.2.2.1.length - c2.2.2.2.1.length) := by omega
    have t2 : slots + (nS c1.2.2.2.1 - nS S) = slots + (nS c2.2.2.2.1 - nS S) + (nS c1.2.2.2.1 - nS c2.2.2.2.1) := by omega
    rw [t1, t2] at k
    exact k
end STEP
