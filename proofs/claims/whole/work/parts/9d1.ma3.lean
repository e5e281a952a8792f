/-! mendAll: PLACES laid over one another; what a wish costs at least -/
theorem nodup_from {r : Nat → Nat} (hf : z_fan r) {side op br : Nat} (ho : op ≤ z_mo r) : ∀ n k, k + n ≤ r 0 → (z_from r side op br n k).Pairwise (fun a b => a ≠ b)
  | 0, k, _ => List.Pairwise.nil
  | n + 1, k, hk => by
    show (z_seg r side op br k ++ z_from r side op br n (k + 1)).Pairwise _
    have h3 := hf.2.2.2.1
    rw [List.pairwise_append]
    refine ⟨?_, nodup_from hf ho n (k + 1) (by omega), fun a ha b hb => ?_⟩
    · unfold z_seg
      split
      · exact List.Pairwise.nil
      · rw [List.pairwise_map]
        exact List.Pairwise.imp (fun h => by omega) (List.pairwise_lt_range)
    · rw [mem_from] at hb
      obtain ⟨i, i1, i2, hb⟩ := hb
      have q1 := z_op_le hf (k := k) (rib := z_rib r side k) ho
      have q2 := z_op_le hf (k := i) (rib := z_rib r side i) ho
      unfold z_seg at ha hb
      split at ha
      · cases ha
      · split at hb
        · cases hb
        · obtain ⟨c, hc, rfl⟩ := List.mem_map.mp ha
          obtain ⟨d, hd, rfl⟩ := List.mem_map.mp hb
          rw [List.mem_range] at hc hd
          have : z_rib r side k ≠ z_rib r side i := by
            unfold z_rib
            split <;> omega
          omega
theorem nodup_getD {L : List Nat} (h : L.Pairwise (fun a b => a ≠ b)) {a b : Nat} (ha : a < L.length) (hb : b < L.length) (e : L.getD a 0 = L.getD b 0) : a = b := by
  rw [List.getD_eq_getElem?_getD, List.getD_eq_getElem?_getD, List.getElem?_eq_getElem ha, List.getElem?_eq_getElem hb] at e
  have e' : L[a] = L[b] := e
  rw [List.pairwise_iff_getElem] at h
  rcases Nat.lt_trichotomy a b with q | q | q
  · exact absurd e' (h a b ha hb q)
  · exact q
  · exact absurd e'.symm (h b a hb ha q)
theorem omin_or {a b : Option Nat} {x : Nat} (h : omin a b = some x) : a = some x ∨ b = some x := by
  cases a with
  | none => exact Or.inr h
  | some y =>
    cases b with
    | none => exact Or.inl h
    | some z =>
      have := Option.some.inj h
      split at this
      · exact Or.inr (by rw [this])
      · exact Or.inl (by rw [this])
theorem mpl_at {r s : Nat → Nat} {i : Nat} {G : (Nat → Option Nat) → Option Nat} {N : Nat → Option Nat} {x : Nat} : ∀ j p, mpl r s i G p j N = some x → ∃ q N' n' y, p ≤ q ∧ q < p + j ∧ mclm r s i q 0 (r (64 + i)) N 0 = some (N', n') ∧ G N' = some y ∧ x = y + n'
  | 0, p, h => by cases h
  | j + 1, p, h => by
    rw [mpl] at h
    rcases omin_or h with h | h
    · cases hc : mclm r s i p 0 (r (64 + i)) N 0 with
      | none => rw [hc] at h; cases h
      | some z =>
        rw [hc] at h
        have h' : oad z.2 (G z.1) = some x := h
        cases hg : G z.1 with
        | none => rw [hg] at h'; cases h'
        | some y =>
          rw [hg] at h'
          exact ⟨p, z.1, z.2, y, Nat.le_refl _, by omega, hc, hg, (Option.some.inj h').symm⟩
    · obtain ⟨q, N', n', y, a, b, c⟩ := mpl_at j (p + 1) h
      exact ⟨q, N', n', y, by omega, by omega, c⟩
section MA3
variable {m : Me} {H : Bool} {t : Nat} {r s : Nat → Nat} {x1 x2 x3 x4 : Int32}
theorem mcl_inj (hO : KO r s) {i p a b : Nat} (hi : i < r 6) (ha : p + a < (zWs r s i).length) (hb : p + b < (zWs r s i).length) (e : mcl r s i p a = mcl r s i p b) : a = b := by
  have h := nodup_getD (nodup_from hO.1.1 (side := r (100 + i)) (br := s 60) (hO.1.i hi).2.2.2.2.1 (r 0) 0 (by omega)) ha hb (by
    unfold mcl at e
    have : (zWs r s i).getD (p + a) 0 = (zWs r s i).getD (p + b) 0 := by omega
    exact this)
  omega
/-! the class -/
def vx (r : Nat → Nat) (x : Nat) : Prop := x / 3 < r 0 ∧ x % 3 < r 1
theorem cc_inj (hf : z_fan r) {x y : Nat} (hx : vx r x) (hy : vx r y) (e : z_cc r x = z_cc r y) : x = y := by
  obtain ⟨-, h0, h1, h2, -⟩ := hf
  unfold z_cc at e
  unfold vx at hx hy
  have : r 1 = 1 ∨ r 1 = 2 ∨ r 1 = 3 := by omega
  rcases this with q | q | q <;> rw [q] at e hx hy <;> omega
theorem cc_lt (hf : z_fan r) {x : Nat} (hx : vx r x) : z_cc r x < 30 := by
  obtain ⟨-, h0, h1, h2, -⟩ := hf
  unfold z_cc
  unfold vx at hx
  have : r 1 = 1 ∨ r 1 = 2 ∨ r 1 = 3 := by omega
  rcases this with q | q | q <;> rw [q] at hx ⊢ <;> omega
theorem zWs_vx (hO : KO r s) {i k : Nat} (hi : i < r 6) (hk : k < (zWs r s i).length) : vx r ((zWs r s i).getD k 0) := by
  obtain ⟨rib, c, h1, h2, h3⟩ := show_cell hO.1.1 (hO.1.i hi).2.2.2.2.1 (getD_mem0 hk)
  have := hO.1.1.2.2.2.1
  have h3' : (zWs r s i).getD k 0 = 3 * rib + c := h3
  unfold vx
  rw [h3']
  omega
end MA3
def ovl (A B : Nat → Option Nat) : Nat → Option Nat := fun c => match A c with
  | some x => some x
  | none => B c
def cpt (A B : Nat → Option Nat) : Prop := ∀ c x y, A c = some x → B c = some y → x = y
theorem ovl_s {A B : Nat → Option Nat} {c x : Nat} (h : A c = some x) : ovl A B c = some x := by unfold ovl; rw [h]
theorem ovl_n {A B : Nat → Option Nat} {c : Nat} (h : A c = none) : ovl A B c = B c := by unfold ovl; rw [h]
def stg (s : Nat → Nat) (A : Nat → Option Nat) (c : Nat) : Bool := match A c with
  | some l => !decide (s c = l)
  | none => false
def tot (s : Nat → Nat) (A : Nat → Option Nat) : Nat := z_ct (stg s A) 0 60
def dl (s : Nat → Nat) (M Q : Nat → Option Nat) : Nat := z_ct (fun c => (M c).isNone && stg s Q c) 0 60
theorem ct_add {f g h : Nat → Bool} (e : ∀ c, (if f c = true then 1 else 0) = (if g c = true then 1 else 0) + (if h c = true then 1 else 0)) : ∀ j k, z_ct f k j = z_ct g k j + z_ct h k j
  | 0, k => rfl
  | j + 1, k => by
    rw [z_ct, z_ct, z_ct, ct_add e j (k + 1), e k]
    omega
theorem ct_le4 {f g h u : Nat → Bool} (e : ∀ c, (if f c = true then 1 else 0) + (if g c = true then 1 else 0) ≤ (if h c = true then 1 else 0) + (if u c = true then 1 else 0)) : ∀ j k, z_ct f k j + z_ct g k j ≤ z_ct h k j + z_ct u k j
  | 0, k => Nat.le_refl _
  | j + 1, k => by
    rw [z_ct, z_ct, z_ct, z_ct]
    have := ct_le4 e j (k + 1)
    have := e k
    omega
theorem tot_ovl (s : Nat → Nat) (M Q : Nat → Option Nat) : tot s (ovl M Q) = tot s M + dl s M Q := by
  refine ct_add (fun c => ?_) 60 0
  cases hm : M c with
  | none =>
    have : stg s M c = false := by unfold stg; rw [hm]
    rw [this]
    have : stg s (ovl M Q) c = stg s Q c := by unfold stg; rw [ovl_n hm]
    rw [this]
    simp
  | some x =>
    have : stg s (ovl M Q) c = stg s M c := by unfold stg; rw [ovl_s hm, hm]
    rw [this]
    simp
theorem dl_step (s : Nat → Nat) (M P Q : Nat → Option Nat) : dl s M Q + dl s P Q ≤ dl s (ovl M P) Q + dl s n0 Q := by
  refine ct_le4 (fun c => ?_) 60 0
  cases hm : M c with
  | none =>
    rw [ovl_n hm]
    cases hp : P c <;> cases stg s Q c <;> simp [n0]
  | some x =>
    rw [ovl_s hm]
    cases hp : P c <;> cases stg s Q c <;> simp [n0]
theorem dl_0 (s : Nat → Nat) (P Q : Nat → Option Nat) : dl s P Q ≤ dl s n0 Q := by
  have := ct_le4 (f := fun c => (P c).isNone && stg s Q c) (g := fun _ => false) (h := fun c => (n0 c).isNone && stg s Q c) (u := fun _ => false) (fun c => by
    cases hp : P c <;> cases stg s Q c <;> simp [n0]) 60 0
  unfold dl
  omega
def plc (r s : Nat → Nat) (i p : Nat) : Nat → Nat → Nat → Option Nat
  | _, 0, _ => none
  | k, j + 1, c => if c = mcl r s i p k then some (mlt r i k) else plc r s i p (k + 1) j c
def PLc (r s : Nat → Nat) (i p : Nat) : Nat → Option Nat := plc r s i p 0 (r (64 + i))
theorem plc_some {r s : Nat → Nat} {i p : Nat} {c l : Nat} : ∀ j k, plc r s i p k j c = some l → ∃ q, k ≤ q ∧ q < k + j ∧ c = mcl r s i p q ∧ l = mlt r i q
  | 0, k, h => by cases h
  | j + 1, k, h => by
    rw [plc] at h
    split at h
    · rename_i e
      exact ⟨k, Nat.le_refl _, by omega, e, (Option.some.inj h).symm⟩
    · obtain ⟨q, a, b, d⟩ := plc_some j (k + 1) h
      exact ⟨q, by omega, by omega, d⟩
theorem ov_n {r s : Nat → Nat} {i p k j : Nat} {N : Nat → Option Nat} (h : N (mcl r s i p k) = none) : ovl (updU N (mcl r s i p k) (mlt r i k)) (plc r s i p (k + 1) j) = ovl N (plc r s i p k (j + 1)) := by
  funext c
  by_cases e : c = mcl r s i p k
  · have h1 : updU N (mcl r s i p k) (mlt r i k) c = some (mlt r i k) := by unfold updU; rw [if_pos e]
    rw [ovl_s h1, ovl_n (by rw [e]; exact h), plc, if_pos e]
  · have h1 : updU N (mcl r s i p k) (mlt r i k) c = N c := by unfold updU; rw [if_neg e]
    unfold ovl
    rw [h1, plc, if_neg e]
theorem ov_s {r s : Nat → Nat} {i p k j x : Nat} {N : Nat → Option Nat} (h : N (mcl r s i p k) = some x) : ovl N (plc r s i p (k + 1) j) = ovl N (plc r s i p k (j + 1)) := by
  funext c
  by_cases e : c = mcl r s i p k
  · rw [← e] at h
    rw [ovl_s h, ovl_s h]
  · unfold ovl
    rw [plc, if_neg e]
theorem ov_0 (N : Nat → Option Nat) {r s : Nat → Nat} {i p k : Nat} : ovl N (plc r s i p k 0) = N := by
  funext c
  unfold ovl
  rw [plc]
  cases N c <;> rfl
theorem ovl_n0 (Q : Nat → Option Nat) : ovl n0 Q = Q := rfl
theorem mclm_ov {r s : Nat → Nat} {i p : Nat} : ∀ j k N n N' n', mclm r s i p k j N n = some (N', n') → N' = ovl N (plc r s i p k j)
  | 0, k, N, n, N', n', h => by
    rw [mclm] at h
    rw [ov_0]
    exact (Prod.mk.inj (Option.some.inj h)).1.symm
  | j + 1, k, N, n, N', n', h => by
    rw [mclm] at h
    cases hN : N (mcl r s i p k) with
    | none =>
      rw [hN] at h
      rw [mclm_ov j _ _ _ N' n' h, ov_n hN]
    | some x =>
      rw [hN] at h
      simp only at h
      split at h
      · rw [mclm_ov j _ _ _ N' n' h, ov_s hN]
      · cases h
theorem ct_pt {f g : Nat → Bool} {c : Nat} (e : ∀ x, x ≠ c → f x = g x) (hg : g c = false) : ∀ j k, k ≤ c → c < k + j → z_ct f k j = z_ct g k j + (if f c = true then 1 else 0)
  | 0, k, h1, h2 => by omega
  | j + 1, k, h1, h2 => by
    rw [z_ct, z_ct]
    by_cases q : k = c
    · subst q
      have : ∀ j' k', k < k' → z_ct f k' j' = z_ct g k' j' := by
        intro j'
        induction j' with
        | zero => intro k' _; rfl
        | succ j' ih => intro k' hk; rw [z_ct, z_ct, ih (k' + 1) (by omega), e k' (by omega)]
      rw [this j (k + 1) (by omega), hg]
      simp only [Bool.false_eq_true, if_false]
      omega
    · rw [ct_pt e hg j (k + 1) (by omega) (by omega), e k q]
      omega
theorem tot_upd {s : Nat → Nat} {N : Nat → Option Nat} {c l : Nat} (hc : c < 60) (h : N c = none) : tot s (updU N c l) = tot s N + (if s c = l then 0 else 1) := by
  have e := ct_pt (f := stg s (updU N c l)) (g := stg s N) (c := c) (fun x hx => by unfold stg updU; rw [if_neg hx]) (by unfold stg; rw [h]) 60 0 (by omega) (by omega)
  unfold tot
  rw [e]
  have : stg s (updU N c l) c = !decide (s c = l) := by unfold stg updU; rw [if_pos rfl]
  rw [this]
  by_cases q : s c = l <;> simp [q]
section TH
variable {r s : Nat → Nat}
theorem mclm_tot (hO : KO r s) {i p : Nat} (hi : i < r 6) (hp : p + r (64 + i) ≤ (zWs r s i).length) : ∀ j k N n N' n', k + j = r (64 + i) → mclm r s i p k j N n = some (N', n') → tot s N' + n = tot s N + n'
  | 0, k, N, n, N', n', hk, h => by
    rw [mclm] at h
    obtain ⟨rfl, rfl⟩ := Prod.mk.inj (Option.some.inj h)
    rfl
  | j + 1, k, N, n, N', n', hk, h => by
    rw [mclm] at h
    cases hN : N (mcl r s i p k) with
    | none =>
      rw [hN] at h
      have h1 := mclm_tot hO hi hp j (k + 1) _ _ N' n' (by omega) h
      have h2 := tot_upd (s := s) (l := mlt r i k) (mcl_lt hO hi (p := p) (k := k) (by omega)) hN
      omega
    | some x =>
      rw [hN] at h
      simp only at h
      split at h
      · exact mclm_tot hO hi hp j (k + 1) _ _ N' n' (by omega) h
      · cases h
theorem mclm_iff (hO : KO r s) {i p : Nat} (hi : i < r 6) (hp : p + r (64 + i) ≤ (zWs r s i).length) : ∀ j k N n, k + j = r (64 + i) → ((∀ q, k ≤ q → q < k + j → N (mcl r s i p q) = none ∨ N (mcl r s i p q) = some (mlt r i q)) → ∃ z, mclm r s i p k j N n = some z) ∧ ((∃ q, k ≤ q ∧ q < k + j ∧ ¬ (N (mcl r s i p q) = none ∨ N (mcl r s i p q) = some (mlt r i q))) → mclm r s i p k j N n = none)
  | 0, k, N, n, hk => ⟨fun _ => ⟨_, rfl⟩, fun ⟨q, a, b, _⟩ => by omega⟩
  | j + 1, k, N, n, hk => by
    rw [mclm]
    cases hN : N (mcl r s i p k) with
    | none =>
      have e : ∀ q, k + 1 ≤ q → q < k + 1 + j → updU N (mcl r s i p k) (mlt r i k) (mcl r s i p q) = N (mcl r s i p q) := fun q a b => by
        unfold updU
        rw [if_neg]
        intro z
        have := mcl_inj hO hi (by omega) (by omega) z
        omega
      obtain ⟨g1, g2⟩ := mclm_iff hO hi hp j (k + 1) (updU N (mcl r s i p k) (mlt r i k)) (n + if s (mcl r s i p k) = mlt r i k then 0 else 1) (by omega)
      refine ⟨fun h => g1 (fun q a b => ?_), fun ⟨q, a, b, h⟩ => g2 ⟨q, ?_, by omega, ?_⟩⟩
      · rw [e q a b]
        exact h q (by omega) (by omega)
      · rcases Nat.eq_or_lt_of_le a with z | z
        · subst z
          exact absurd (Or.inl hN) h
        · exact z
      · have hq : k + 1 ≤ q := by
          rcases Nat.eq_or_lt_of_le a with z | z
          · subst z
            exact absurd (Or.inl hN) h
          · exact z
        rw [e q hq (by omega)]
        exact h
    | some x =>
      simp only
      obtain ⟨g1, g2⟩ := mclm_iff hO hi hp j (k + 1) N n (by omega)
      by_cases hx : x = mlt r i k
      · rw [if_pos hx]
        refine ⟨fun h => g1 (fun q a b => h q (by omega) (by omega)), fun ⟨q, a, b, h⟩ => g2 ⟨q, ?_, by omega, h⟩⟩
        rcases Nat.eq_or_lt_of_le a with z | z
        · subst z
          exact absurd (Or.inr (by rw [hN, hx])) h
        · exact z
      · rw [if_neg hx]
        refine ⟨fun h => ?_, fun _ => rfl⟩
        rcases h k (by omega) (by omega) with z | z
        · rw [hN] at z; cases z
        · rw [hN] at z; exact absurd (Option.some.inj z) hx
theorem plc_at (hO : KO r s) {i p : Nat} (hi : i < r 6) (hp : p + r (64 + i) ≤ (zWs r s i).length) : ∀ j k q, k + j = r (64 + i) → k ≤ q → q < k + j → plc r s i p k j (mcl r s i p q) = some (mlt r i q)
  | 0, k, q, _, a, b => by omega
  | j + 1, k, q, hk, a, b => by
    rw [plc]
    by_cases e : mcl r s i p q = mcl r s i p k
    · rw [if_pos e]
      have := mcl_inj hO hi (by omega) (by omega) e
      rw [this]
    · rw [if_neg e]
      refine plc_at hO hi hp j (k + 1) q (by omega) ?_ (by omega)
      rcases Nat.eq_or_lt_of_le a with z | z
      · subst z; exact absurd rfl e
      · exact z
/-- what laying a wish from a PLACE comes to -/
theorem mclm_e (hO : KO r s) {i p : Nat} (hi : i < r 6) (hp : p + r (64 + i) ≤ (zWs r s i).length) (N : Nat → Option Nat) : (cpt N (PLc r s i p) ∧ mclm r s i p 0 (r (64 + i)) N 0 = some (ovl N (PLc r s i p), dl s N (PLc r s i p))) ∨ (¬ cpt N (PLc r s i p) ∧ mclm r s i p 0 (r (64 + i)) N 0 = none) := by
  obtain ⟨g1, g2⟩ := mclm_iff hO hi hp (r (64 + i)) 0 N 0 (by omega)
  by_cases h : ∀ q, q < r (64 + i) → N (mcl r s i p q) = none ∨ N (mcl r s i p q) = some (mlt r i q)
  · refine Or.inl ⟨fun c x y a b => ?_, ?_⟩
    · obtain ⟨q, q1, q2, rfl, rfl⟩ := plc_some _ _ b
      rcases h q (by omega) with z | z
      · rw [z] at a; cases a
      · rw [z] at a; exact (Option.some.inj a).symm
    · obtain ⟨⟨N', n'⟩, hz⟩ := g1 (fun q _ b => h q (by omega))
      have e1 := mclm_ov _ _ _ _ _ _ hz
      have e2 := mclm_tot hO hi hp _ _ _ _ _ _ (by omega) hz
      have e3 := tot_ovl s N (PLc r s i p)
      rw [e1] at e2
      have : n' = dl s N (PLc r s i p) := by
        unfold PLc at e3 ⊢
        omega
      rw [hz, e1, this]
      rfl
  · have : ∃ q, q < r (64 + i) ∧ ¬ (N (mcl r s i p q) = none ∨ N (mcl r s i p q) = some (mlt r i q)) := by
      refine Classical.byContradiction fun z => h (fun q hq => Classical.byContradiction fun w => z ⟨q, hq, w⟩)
    obtain ⟨q, hq, hn⟩ := this
    refine Or.inr ⟨fun hc => hn ?_, g2 ⟨q, by omega, by omega, hn⟩⟩
    cases hN : N (mcl r s i p q) with
    | none => exact Or.inl rfl
    | some x =>
      have := hc _ _ _ hN (plc_at hO hi hp _ _ q (by omega) (by omega) (by omega))
      rw [this]
      exact Or.inr rfl
theorem dl_8 (hO : KO r s) {i p : Nat} (hi : i < r 6) (hp : p + r (64 + i) ≤ (zWs r s i).length) (h8 : r (64 + i) ≤ 8) {N : Nat → Option Nat} (h : cpt N (PLc r s i p)) : dl s N (PLc r s i p) ≤ 8 := by
  rcases mclm_e hO hi hp N with ⟨_, e⟩ | ⟨z, _⟩
  · have := mclm_n _ _ _ _ _ _ e
    omega
  · exact absurd h z
theorem cpt_n0 (Q : Nat → Option Nat) : cpt n0 Q := fun c x y a b => by cases a
/-! rows of PLACES -/
def Ch (r s : Nat → Nat) : List Nat → (Nat → Option Nat) → (Nat → Option Nat) → Prop
  | [], N, N' => N' = N
  | i :: is, N, N' => ∃ p, p < npl r s i ∧ cpt N (PLc r s i p) ∧ Ch r s is (ovl N (PLc r s i p)) N'
theorem mpl_ge {i : Nat} {G : (Nat → Option Nat) → Option Nat} {N N1 : Nat → Option Nat} {n1 y : Nat} : ∀ j p q, p ≤ q → q < p + j → mclm r s i q 0 (r (64 + i)) N 0 = some (N1, n1) → G N1 = some y → ∃ x, mpl r s i G p j N = some x ∧ x ≤ y + n1
  | 0, p, q, a, b, _, _ => by omega
  | j + 1, p, q, a, b, h1, h2 => by
    rw [mpl]
    by_cases e : q = p
    · subst e
      rw [h1]
      have : mpv G (some (N1, n1)) = some (y + n1) := by
        show oad n1 (G N1) = _
        rw [h2]
        rfl
      rw [this]
      cases mpl r s i G (q + 1) j N with
      | none => exact ⟨_, rfl, Nat.le_refl _⟩
      | some z =>
        refine ⟨_, rfl, ?_⟩
        split <;> omega
    · obtain ⟨x, hx, hl⟩ := mpl_ge j (p + 1) q (by omega) (by omega) h1 h2
      rw [hx]
      cases mpv G (mclm r s i p 0 (r (64 + i)) N 0) with
      | none => exact ⟨_, rfl, hl⟩
      | some z =>
        refine ⟨_, rfl, ?_⟩
        split <;> omega
theorem npl_at {i q : Nat} (h : q < npl r s i) : q + r (64 + i) ≤ (zWs r s i).length := by unfold npl at h; omega
theorem mbl_ch (hO : KO r s) : ∀ (is : List Nat) N, (∀ i ∈ is, i < r 6) → (∀ i ∈ is, z_bare (z_wish r i) = false) → (∀ N', Ch r s is N N' → ∃ x, mbl r s is N = some x ∧ x + tot s N ≤ tot s N') ∧ (∀ x, mbl r s is N = some x → ∃ N', Ch r s is N N' ∧ tot s N' = x + tot s N)
  | [], N, _, _ => by
    refine ⟨fun N' h => ⟨0, rfl, ?_⟩, fun x h => ⟨N, rfl, ?_⟩⟩
    · rw [show N' = N from h]; omega
    · have := Option.some.inj h; omega
  | i :: is, N, hi, hb => by
    have h1 := hi i List.mem_cons_self
    have h2 := hb i List.mem_cons_self
    have em : mbl r s (i :: is) N = mpl r s i (mbl r s is) 0 (npl r s i) N := by
      rw [mbl, h2]
      rfl
    rw [em]
    refine ⟨fun N' ⟨p, a, b, c⟩ => ?_, fun x h => ?_⟩
    · obtain ⟨g1, -⟩ := mbl_ch hO is (ovl N (PLc r s i p)) (fun a ha => hi a (List.mem_cons_of_mem _ ha)) (fun a ha => hb a (List.mem_cons_of_mem _ ha))
      obtain ⟨y, hy, hl⟩ := g1 N' c
      have ec : mclm r s i p 0 (r (64 + i)) N 0 = some (ovl N (PLc r s i p), dl s N (PLc r s i p)) := by
        rcases mclm_e hO h1 (npl_at a) N with ⟨_, e⟩ | ⟨z, _⟩
        · exact e
        · exact absurd b z
      obtain ⟨x, hx, hxl⟩ := mpl_ge (G := mbl r s is) (npl r s i) 0 p (by omega) (by omega) ec hy
      refine ⟨x, hx, ?_⟩
      have := tot_ovl s N (PLc r s i p)
      omega
    · obtain ⟨q, N1, n1, y, a, b, c, d, rfl⟩ := mpl_at _ _ h
      have hq : q < npl r s i := by omega
      rcases mclm_e hO h1 (npl_at hq) N with ⟨z, e⟩ | ⟨_, e⟩
      · rw [c] at e
        have e1 : N1 = ovl N (PLc r s i q) := congrArg Prod.fst (Option.some.inj e)
        have e2 : n1 = dl s N (PLc r s i q) := congrArg Prod.snd (Option.some.inj e)
        rw [e1] at d
        obtain ⟨-, g2⟩ := mbl_ch hO is (ovl N (PLc r s i q)) (fun a ha => hi a (List.mem_cons_of_mem _ ha)) (fun a ha => hb a (List.mem_cons_of_mem _ ha))
        obtain ⟨N', k1, k2⟩ := g2 y d
        refine ⟨N', ⟨q, hq, z, k1⟩, ?_⟩
        have := tot_ovl s N (PLc r s i q)
        omega
      · rw [c] at e; cases e
theorem cpt_swap {N P Q : Nat → Option Nat} (h1 : cpt N P) (h2 : cpt (ovl N P) Q) : cpt N Q ∧ cpt (ovl N Q) P ∧ ovl (ovl N P) Q = ovl (ovl N Q) P := by
  refine ⟨fun c x y a b => h2 c x y (ovl_s a) b, fun c x y a b => ?_, ?_⟩
  · cases hN : N c with
    | none =>
      rw [ovl_n hN] at a
      exact (h2 c y x (by rw [ovl_n hN]; exact b) a).symm
    | some z =>
      rw [ovl_s hN] at a
      have := Option.some.inj a
      subst this
      exact h1 c _ y hN b
  · funext c
    cases hN : N c with
    | some z => rw [ovl_s (ovl_s hN), ovl_s (ovl_s hN)]
    | none =>
      cases hP : P c with
      | none =>
        rw [ovl_n (by rw [ovl_n hN]; exact hP)]
        cases hQ : Q c with
        | none => rw [ovl_n (by rw [ovl_n hN]; exact hQ), hP]
        | some y => rw [ovl_s (by rw [ovl_n hN]; exact hQ)]
      | some x =>
        have a1 : ovl N P c = some x := by rw [ovl_n hN]; exact hP
        rw [ovl_s a1]
        cases hQ : Q c with
        | none => rw [ovl_n (by rw [ovl_n hN]; exact hQ), hP]
        | some y =>
          have := h2 c x y a1 hQ
          subst this
          rw [ovl_s (by rw [ovl_n hN]; exact hQ)]
theorem ch_perm {is js : List Nat} (h : is.Perm js) : ∀ N N', Ch r s is N N' → Ch r s js N N' := by
  induction h with
  | nil => exact fun N N' h => h
  | cons x _ ih => exact fun N N' ⟨p, a, b, c⟩ => ⟨p, a, b, ih _ _ c⟩
  | swap x y l =>
    intro N N' ⟨p, a, b, q, a', b', c⟩
    obtain ⟨h1, h2, h3⟩ := cpt_swap b b'
    exact ⟨q, a', h1, p, a, h2, by rw [← h3]; exact c⟩
  | trans _ _ ih1 ih2 => exact fun N N' h => ih2 _ _ (ih1 _ _ h)
theorem mbl_perm (hO : KO r s) {is js : List Nat} (h : is.Perm js) (hi : ∀ i ∈ is, i < r 6) (N : Nat → Option Nat) : mbl r s is N = mbl r s js N := by
  by_cases hb : ∃ i, i ∈ is ∧ z_bare (z_wish r i) = true
  · rw [mbl_bare is N hb, mbl_bare js N (by obtain ⟨i, a, b⟩ := hb; exact ⟨i, h.subset a, b⟩)]
  · have hb1 : ∀ i ∈ is, z_bare (z_wish r i) = false := fun i hi => by
      cases hz : z_bare (z_wish r i)
      · rfl
      · exact absurd ⟨i, hi, hz⟩ hb
    obtain ⟨a1, a2⟩ := mbl_ch hO is N hi hb1
    obtain ⟨b1, b2⟩ := mbl_ch hO js N (fun i h' => hi i (h.symm.subset h')) (fun i h' => hb1 i (h.symm.subset h'))
    cases hx : mbl r s is N with
    | none =>
      cases hy : mbl r s js N with
      | none => rfl
      | some y =>
        obtain ⟨N', c1, c2⟩ := b2 y hy
        obtain ⟨x, hx', _⟩ := a1 N' (ch_perm h.symm _ _ c1)
        rw [hx] at hx'; cases hx'
    | some x =>
      obtain ⟨N', c1, c2⟩ := a2 x hx
      obtain ⟨y, hy, c3⟩ := b1 N' (ch_perm h _ _ c1)
      obtain ⟨N2, d1, d2⟩ := b2 y hy
      obtain ⟨x', hx', d3⟩ := a1 N2 (ch_perm h.symm _ _ d1)
      rw [hx] at hx'
      have := Option.some.inj hx'
      rw [hy]
      exact congrArg some (by omega)
/-! what a wish costs at least -/
def cso (r s : Nat → Nat) (N : Nat → Option Nat) (i p : Nat) : Option Nat := match mclm r s i p 0 (r (64 + i)) N 0 with
  | some q => some q.2
  | none => none
theorem cso_e (hO : KO r s) {i p : Nat} (hi : i < r 6) (hp : p < npl r s i) (N : Nat → Option Nat) : (cpt N (PLc r s i p) ∧ cso r s N i p = some (dl s N (PLc r s i p))) ∨ (¬ cpt N (PLc r s i p) ∧ cso r s N i p = none) := by
  unfold cso
  rcases mclm_e hO hi (npl_at hp) N with ⟨a, e⟩ | ⟨a, e⟩
  · exact Or.inl ⟨a, by rw [e]⟩
  · exact Or.inr ⟨a, by rw [e]⟩
theorem cso_s (hO : KO r s) {i p x : Nat} (hi : i < r 6) (hp : p < npl r s i) {N : Nat → Option Nat} (h : cso r s N i p = some x) : cpt N (PLc r s i p) ∧ x = dl s N (PLc r s i p) := by
  rcases cso_e hO hi hp N with ⟨a, e⟩ | ⟨a, e⟩
  · rw [e] at h
    exact ⟨a, (Option.some.inj h).symm⟩
  · rw [e] at h; cases h
theorem cso_c (hO : KO r s) {i p : Nat} (hi : i < r 6) (hp : p < npl r s i) {N : Nat → Option Nat} (h : cpt N (PLc r s i p)) : cso r s N i p = some (dl s N (PLc r s i p)) := by
  rcases cso_e hO hi hp N with ⟨a, e⟩ | ⟨a, e⟩
  · exact e
  · exact absurd h a
def wmF (r s : Nat → Nat) (N : Nat → Option Nat) (i : Nat) : Nat → Nat → Nat → Nat
  | _, 0, a => a
  | p, j + 1, a => wmF r s N i (p + 1) j (match cso r s N i p with
    | some x => if x < a then x else a
    | none => a)
theorem wmF_le {N : Nat → Option Nat} {i : Nat} : ∀ j p a, wmF r s N i p j a ≤ a ∧ ∀ q x, p ≤ q → q < p + j → cso r s N i q = some x → wmF r s N i p j a ≤ x
  | 0, p, a => ⟨Nat.le_refl _, fun q x h1 h2 => by omega⟩
  | j + 1, p, a => by
    rw [wmF]
    obtain ⟨h1, h2⟩ := wmF_le (N := N) (i := i) j (p + 1) (match cso r s N i p with
      | some x => if x < a then x else a
      | none => a)
    refine ⟨Nat.le_trans h1 ?_, fun q x h3 h4 h5 => ?_⟩
    · cases cso r s N i p with
      | none => exact Nat.le_refl _
      | some x => simp only; split <;> omega
    · by_cases e : q = p
      · subst e
        refine Nat.le_trans h1 ?_
        rw [h5]
        simp only
        split <;> omega
      · exact h2 q x (by omega) (by omega) h5
def wmA (r s : Nat → Nat) (N : Nat → Option Nat) (i : Nat) : Nat := wmF r s N i 0 (npl r s i) 33
def mxI (r s : Nat → Nat) (i p w : Nat) : Nat → Nat → Nat → Nat
  | _, 0, a => a
  | q, j + 1, a => mxI r s i p w (q + 1) j (match cso r s (PLc r s i p) w q with
    | some x => if a < dl s n0 (PLc r s w q) - x then dl s n0 (PLc r s w q) - x else a
    | none => a)
def mxO (r s : Nat → Nat) (i w : Nat) : Nat → Nat → Nat → Nat
  | _, 0, a => a
  | p, j + 1, a => mxO r s i w (p + 1) j (mxI r s i p w 0 (npl r s w) a)
def sav (r s : Nat → Nat) (i w : Nat) : Nat := mxO r s i w 0 (npl r s i) 0
theorem mxI_ge {i p w : Nat} : ∀ j q a, a ≤ mxI r s i p w q j a ∧ ∀ q' x, q ≤ q' → q' < q + j → cso r s (PLc r s i p) w q' = some x → dl s n0 (PLc r s w q') - x ≤ mxI r s i p w q j a
  | 0, q, a => ⟨Nat.le_refl _, fun q' x h1 h2 => by omega⟩
  | j + 1, q, a => by
    rw [mxI]
    obtain ⟨h1, h2⟩ := mxI_ge (i := i) (p := p) (w := w) j (q + 1) (match cso r s (PLc r s i p) w q with
      | some x => if a < dl s n0 (PLc r s w q) - x then dl s n0 (PLc r s w q) - x else a
      | none => a)
    refine ⟨Nat.le_trans ?_ h1, fun q' x h3 h4 h5 => ?_⟩
    · cases cso r s (PLc r s i p) w q with
      | none => exact Nat.le_refl _
      | some x => simp only; split <;> omega
    · by_cases e : q' = q
      · subst e
        refine Nat.le_trans ?_ h1
        rw [h5]
        simp only
        split <;> omega
      · exact h2 q' x (by omega) (by omega) h5
theorem mxO_ge {i w : Nat} : ∀ j p a, a ≤ mxO r s i w p j a ∧ ∀ p' q x, p ≤ p' → p' < p + j → q < npl r s w → cso r s (PLc r s i p') w q = some x → dl s n0 (PLc r s w q) - x ≤ mxO r s i w p j a
  | 0, p, a => ⟨Nat.le_refl _, fun q' _ x h1 h2 => by omega⟩
  | j + 1, p, a => by
    rw [mxO]
    obtain ⟨g1, g2⟩ := mxI_ge (r := r) (s := s) (i := i) (p := p) (w := w) (npl r s w) 0 a
    obtain ⟨h1, h2⟩ := mxO_ge (i := i) (w := w) j (p + 1) (mxI r s i p w 0 (npl r s w) a)
    refine ⟨Nat.le_trans g1 h1, fun p' q x h3 h4 h5 h6 => ?_⟩
    by_cases e : p' = p
    · subst e
      exact Nat.le_trans (g2 q x (by omega) (by omega) h6) h1
    · exact h2 p' q x (by omega) (by omega) h5 h6
theorem mxI_le {i p w B : Nat} (hB : ∀ q, q < npl r s w → dl s n0 (PLc r s w q) ≤ B) : ∀ j q a, q + j = npl r s w → a ≤ B → mxI r s i p w q j a ≤ B
  | 0, q, a, _, h => h
  | j + 1, q, a, hq, h => by
    rw [mxI]
    refine mxI_le hB j (q + 1) _ (by omega) ?_
    have := hB q (by omega)
    cases cso r s (PLc r s i p) w q with
    | none => exact h
    | some x => simp only; split <;> omega
theorem mxO_le {i w B : Nat} (hB : ∀ q, q < npl r s w → dl s n0 (PLc r s w q) ≤ B) : ∀ j p a, a ≤ B → mxO r s i w p j a ≤ B
  | 0, p, a, h => h
  | j + 1, p, a, h => by
    rw [mxO]
    exact mxO_le hB j (p + 1) _ (mxI_le hB _ _ _ (by omega) h)
theorem dl0_8 (hO : KO r s) {i p : Nat} (hi : i < r 6) (hp : p < npl r s i) (h8 : r (64 + i) ≤ 8) : dl s n0 (PLc r s i p) ≤ 8 := dl_8 hO hi (npl_at hp) h8 (cpt_n0 _)
theorem sav_8 (hO : KO r s) {i w : Nat} (hw : w < r 6) (h8 : r (64 + w) ≤ 8) : sav r s i w ≤ 8 := mxO_le (fun q hq => dl0_8 hO hw hq h8) _ _ _ (by omega)
theorem sav_ge (hO : KO r s) {i w p q : Nat} (hw : w < r 6) (hp : p < npl r s i) (hq : q < npl r s w) (hc : cpt (PLc r s i p) (PLc r s w q)) : dl s n0 (PLc r s w q) ≤ dl s (PLc r s i p) (PLc r s w q) + sav r s i w := by
  have := (mxO_ge (r := r) (s := s) (i := i) (w := w) (npl r s i) 0 0).2 p q _ (by omega) (by omega) hq (cso_c hO hw hq hc)
  unfold sav
  omega
/-- how much those from a depth on can save of a wish's cost -/
def ssm (r s : Nat → Nat) (is : List Nat) (w : Nat) : Nat → Nat → Nat
  | _, 0 => 0
  | i, j + 1 => sav r s (is.getD i 0) (is.getD w 0) + ssm r s is w (i + 1) j
def lbb (r s : Nat → Nat) (is : List Nat) (N : Nat → Option Nat) (d w : Nat) : Nat := if wmA r s N (is.getD w 0) = 33 then 33 else wmA r s N (is.getD w 0) - ssm r s is w d (w - d)
def lsm (r s : Nat → Nat) (is : List Nat) (N : Nat → Option Nat) (d : Nat) : Nat → Nat → Nat
  | _, 0 => 0
  | w, j + 1 => lbb r s is N d w + lsm r s is N d (w + 1) j
theorem ssm_snoc {is : List Nat} {w : Nat} : ∀ j i, ssm r s is w i (j + 1) = ssm r s is w i j + sav r s (is.getD (i + j) 0) (is.getD w 0)
  | 0, i => by rw [ssm, ssm, ssm]; simp
  | j + 1, i => by
    rw [ssm, ssm_snoc j (i + 1), ssm, show i + 1 + j = i + (j + 1) by omega]
    omega
theorem ssm_le (hO : KO r s) {is : List Nat} {w : Nat} (hw : is.getD w 0 < r 6) (h8 : r (64 + is.getD w 0) ≤ 8) : ∀ j i, ssm r s is w i j ≤ 8 * j
  | 0, i => by rw [ssm]; omega
  | j + 1, i => by
    have := ssm_le hO hw h8 j (i + 1)
    have := sav_8 hO (i := is.getD i 0) hw h8
    rw [ssm]
    omega
theorem wmA_33 {N : Nat → Option Nat} {i : Nat} : wmA r s N i ≤ 33 := (wmF_le _ _ _).1
theorem lbb_33 {is : List Nat} {N : Nat → Option Nat} {d w : Nat} : lbb r s is N d w ≤ 33 := by
  have := wmA_33 (r := r) (s := s) (N := N) (i := is.getD w 0)
  unfold lbb
  split <;> omega
theorem lsm_le {is : List Nat} {N : Nat → Option Nat} {d : Nat} : ∀ j w, lsm r s is N d w j ≤ 33 * j
  | 0, w => by rw [lsm]; omega
  | j + 1, w => by
    have := lsm_le (is := is) (N := N) (d := d) j (w + 1)
    have := lbb_33 (r := r) (s := s) (is := is) (N := N) (d := d) (w := w)
    rw [lsm]
    omega
/-- what stands behind the PLACES of those from d on before w -/
def Bh (r s : Nat → Nat) (is : List Nat) (N M : Nat → Option Nat) (d w : Nat) : Prop := (∀ c x, N c = some x → M c = some x) ∧ ∀ w' q, w ≤ w' → w' < is.length → q < npl r s (is.getD w' 0) → cpt M (PLc r s (is.getD w' 0) q) → dl s N (PLc r s (is.getD w' 0) q) ≤ dl s M (PLc r s (is.getD w' 0) q) + ssm r s is w' d (w - d)
theorem drop_cons {L : List Nat} {k : Nat} (h : k < L.length) : L.drop k = L.getD k 0 :: L.drop (k + 1) := by
  rw [List.drop_eq_getElem_cons h, List.getD_eq_getElem?_getD, List.getElem?_eq_getElem h]
  rfl
theorem Bh.step (hO : KO r s) {is : List Nat} (his : ∀ d, d < is.length → is.getD d 0 < r 6) {N M : Nat → Option Nat} {d w p : Nat} (h : Bh r s is N M d w) (hd : d ≤ w) (hp : p < npl r s (is.getD w 0)) (hc : cpt M (PLc r s (is.getD w 0) p)) : Bh r s is N (ovl M (PLc r s (is.getD w 0) p)) d (w + 1) := by
  refine ⟨fun c x z => ovl_s (h.1 c x z), fun w' q h1 h2 h3 h4 => ?_⟩
  obtain ⟨c1, c2, -⟩ := cpt_swap hc h4
  have c3 : cpt (PLc r s (is.getD w 0) p) (PLc r s (is.getD w' 0) q) := by
    intro c x y a b
    cases hM : M c with
    | none => exact h4 c x y (by rw [ovl_n hM]; exact a) b
    | some z =>
      have e1 := hc c z x hM a
      have e2 := c1 c z y hM b
      omega
  have g1 := h.2 w' q (by omega) h2 h3 c1
  have g2 := dl_step s M (PLc r s (is.getD w 0) p) (PLc r s (is.getD w' 0) q)
  have g3 := sav_ge hO (his w' h2) hp h3 c3
  rw [show w + 1 - d = (w - d) + 1 by omega, ssm_snoc, show d + (w - d) = w by omega]
  omega
theorem ch_lb (hO : KO r s) {is : List Nat} (his : ∀ d, d < is.length → is.getD d 0 < r 6) (h8 : ∀ d, d < is.length → r (64 + is.getD d 0) ≤ 8) {N : Nat → Option Nat} {d : Nat} : ∀ j w M N', w + j = is.length → d ≤ w → Bh r s is N M d w → Ch r s (is.drop w) M N' → tot s M + lsm r s is N d w j ≤ tot s N'
  | 0, w, M, N', hw, hd, h, hc => by
    rw [List.drop_eq_nil_of_le (by omega)] at hc
    rw [show N' = M from hc, lsm]
    omega
  | j + 1, w, M, N', hw, hd, h, hc => by
    rw [drop_cons (by omega)] at hc
    obtain ⟨p, a, b, c⟩ := hc
    have g := ch_lb hO his h8 (N := N) (d := d) j (w + 1) _ N' (by omega) (by omega) (h.step hO his hd a b) c
    have e := tot_ovl s M (PLc r s (is.getD w 0) p)
    have k := h.2 w p (Nat.le_refl _) (by omega) a b
    have cN : cpt N (PLc r s (is.getD w 0) p) := fun c x y z1 z2 => b c x y (h.1 c x z1) z2
    have k2 := (wmF_le (r := r) (s := s) (N := N) (i := is.getD w 0) (npl r s (is.getD w 0)) 0 33).2 p _ (by omega) (by omega) (cso_c hO (his w (by omega)) a cN)
    have k3 := dl_8 hO (his w (by omega)) (npl_at a) (h8 w (by omega)) cN
    rw [lsm]
    have : lbb r s is N d w ≤ dl s M (PLc r s (is.getD w 0) p) := by
      unfold lbb
      have k4 : wmA r s N (is.getD w 0) ≤ dl s N (PLc r s (is.getD w 0) p) := k2
      rw [if_neg (by omega)]
      omega
    omega
theorem Bh.rf {is : List Nat} {N : Nat → Option Nat} {d : Nat} : Bh r s is N N d d := ⟨fun _ _ h => h, fun w' q h1 h2 h3 h4 => by rw [Nat.sub_self, ssm]; omega⟩
/-! longest first -/
def gsl (r : Nat → Nat) (L : List Nat) : Nat → List Nat
  | 0 => []
  | l + 1 => L.filter (fun i => decide (r (64 + i) = l + 1)) ++ gsl r L l
theorem gsl_perm (L : List Nat) : ∀ n, (gsl r L n).Perm (L.filter (fun i => decide (1 ≤ r (64 + i) ∧ r (64 + i) ≤ n)))
  | 0 => by
    rw [gsl, List.filter_eq_nil_iff.mpr]
    intro a _
    simp
    omega
  | n + 1 => by
    rw [gsl]
    have h := List.filter_append_perm (fun i => decide (r (64 + i) = n + 1)) (L.filter (fun i => decide (1 ≤ r (64 + i) ∧ r (64 + i) ≤ n + 1)))
    rw [List.filter_filter, List.filter_filter] at h
    refine List.Perm.trans ?_ h
    have e1 : L.filter (fun a => decide (r (64 + a) = n + 1) && decide (1 ≤ r (64 + a) ∧ r (64 + a) ≤ n + 1)) = L.filter (fun i => decide (r (64 + i) = n + 1)) := by
      congr 1
      funext a
      by_cases q : r (64 + a) = n + 1
      · simp [q]
      · simp [q]
    have e2 : L.filter (fun a => (!decide (r (64 + a) = n + 1)) && decide (1 ≤ r (64 + a) ∧ r (64 + a) ≤ n + 1)) = L.filter (fun i => decide (1 ≤ r (64 + i) ∧ r (64 + i) ≤ n)) := by
      congr 1
      funext a
      by_cases q : r (64 + a) = n + 1
      · have : ¬ (1 ≤ r (64 + a) ∧ r (64 + a) ≤ n) := by omega
        simp [q]
      · have : (1 ≤ r (64 + a) ∧ r (64 + a) ≤ n + 1) ↔ (1 ≤ r (64 + a) ∧ r (64 + a) ≤ n) := by omega
        simp [q, this]
    rw [e1, e2]
    exact List.Perm.append_left _ (gsl_perm L n)
theorem gsl_all {L : List Nat} (h : ∀ i ∈ L, 1 ≤ r (64 + i) ∧ r (64 + i) ≤ 8) : (gsl r L 8).Perm L := by
  have := gsl_perm (r := r) L 8
  rw [List.filter_eq_self.mpr (fun a ha => by simp; exact h a ha)] at this
  exact this
end TH
