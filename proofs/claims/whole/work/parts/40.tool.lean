/-! Tools for the pure part: numbers, memory, lists written into rows. -/
theorem z_inb {j n : Nat} (hj : j < 2 ^ 31) : inb (nI j) n ↔ j < n := by
  constructor
  · intro h
    have := inb_lt h
    rw [nI_clamp hj] at this
    exact this
  · intro h
    exact vp_in_nI' hj h
where
  vp_in_nI' {j n : Nat} (hj : j < 2 ^ 31) (h : j < n) : inb (nI j) n := by
    rintro (q | q)
    · exact nI_pos hj q
    · rw [nI_clamp hj] at q
      omega
theorem z_inb' {x : Int32} {n : Nat} (hn : n < 2 ^ 31) (h : inb x n) : ∃ j, j < n ∧ x = nI j := vp_in_of h hn
theorem sI_1 (m : Me) (a j : Nat) (x : Int32) (b k : Nat) : (setI m a j x).1 b k = if b = a ∧ k = j then x else m.1 b k := rfl
theorem sI_2 (m : Me) (a j : Nat) (x : Int32) : (setI m a j x).2 = m.2 := rfl
theorem sR_1 (m : Me) (a j : Nat) (o : Option Nat) : (setR m a j o).1 = m.1 := rfl
theorem sI_eq (m : Me) (a j : Nat) (x : Int32) : (setI m a j x).1 a j = x := if_pos ⟨rfl, rfl⟩
theorem sI_na {m : Me} {a j : Nat} {x : Int32} {b k : Nat} (h : b ≠ a) : (setI m a j x).1 b k = m.1 b k := if_neg (fun e => h e.1)
theorem sI_nj {m : Me} {a j : Nat} {x : Int32} {b k : Nat} (h : k ≠ j) : (setI m a j x).1 b k = m.1 b k := if_neg (fun e => h e.2)
theorem me_ext {m m' : Me} (h1 : ∀ a j, m.1 a j = m'.1 a j) (h2 : ∀ a j, m.2 a j = m'.2 a j) : m = m' := Prod.ext (funext fun a => funext fun j => h1 a j) (funext fun a => funext fun j => h2 a j)
/-- a list of numbers in a row, from a place on -/
def wl (m : Me) (a p : Nat) (l : List Nat) : Me := (fun b k => if b = a ∧ p ≤ k ∧ k < p + l.length then nI (l.getD (k - p) 0) else m.1 b k, m.2)
theorem wl_1 (m : Me) (a p : Nat) (l : List Nat) (b k : Nat) : (wl m a p l).1 b k = if b = a ∧ p ≤ k ∧ k < p + l.length then nI (l.getD (k - p) 0) else m.1 b k := rfl
theorem wl_2 (m : Me) (a p : Nat) (l : List Nat) : (wl m a p l).2 = m.2 := rfl
theorem wl_nil (m : Me) (a p : Nat) : wl m a p [] = m := by
  refine me_ext (fun b k => ?_) (fun _ _ => rfl)
  rw [wl_1, if_neg (by rintro ⟨-, h1, h2⟩; simp at h2; omega)]
theorem wl_na {m : Me} {a p : Nat} {l : List Nat} {b k : Nat} (h : b ≠ a) : (wl m a p l).1 b k = m.1 b k := if_neg (fun e => h e.1)
theorem wl_at {m : Me} {a : Nat} {l : List Nat} {k : Nat} (h : k < l.length) : (wl m a 0 l).1 a k = nI (l.getD k 0) := by
  rw [wl_1, if_pos ⟨rfl, Nat.zero_le _, by omega⟩]
  rfl
theorem wl_cons (m : Me) (a p x : Nat) (l : List Nat) : wl (setI m a p (nI x)) a (p + 1) l = wl m a p (x :: l) := by
  refine me_ext (fun b k => ?_) (fun _ _ => rfl)
  rw [wl_1, wl_1, sI_1]
  by_cases hb : b = a
  · subst hb
    by_cases hk : k = p
    · subst hk
      rw [if_neg (by omega), if_pos ⟨rfl, rfl⟩, if_pos ⟨rfl, Nat.le_refl _, by simp⟩]
      simp
    · rw [if_neg (c := b = b ∧ k = p) (by omega)]
      by_cases h : p + 1 ≤ k ∧ k < p + 1 + l.length
      · rw [if_pos ⟨rfl, h⟩, if_pos ⟨rfl, by omega, by simp; omega⟩]
        have e : k - p = (k - (p + 1)) + 1 := by omega
        rw [e, List.getD_cons_succ]
      · rw [if_neg (fun e => h e.2), if_neg (fun e => h (by have := e.2; simp at this; omega))]
  · rw [if_neg (fun e => hb e.1), if_neg (fun e => hb e.1), if_neg (fun e => hb e.1)]
theorem wl_app (m : Me) (a p : Nat) (l1 l2 : List Nat) : wl (wl m a p l1) a (p + l1.length) l2 = wl m a p (l1 ++ l2) := by
  refine me_ext (fun b k => ?_) (fun _ _ => rfl)
  rw [wl_1, wl_1, wl_1]
  by_cases hb : b = a
  · subst hb
    by_cases h2 : p + l1.length ≤ k ∧ k < p + l1.length + l2.length
    · rw [if_pos ⟨rfl, h2⟩, if_pos ⟨rfl, by omega, by rw [List.length_append]; omega⟩]
      congr 1
      rw [List.getD_eq_getElem?_getD, List.getD_eq_getElem?_getD, List.getElem?_append_right (by omega)]
      congr 2
      omega
    · rw [if_neg (fun e => h2 e.2)]
      by_cases h1 : p ≤ k ∧ k < p + l1.length
      · rw [if_pos ⟨rfl, h1⟩, if_pos ⟨rfl, by omega, by rw [List.length_append]; omega⟩]
        congr 1
        rw [List.getD_eq_getElem?_getD, List.getD_eq_getElem?_getD, List.getElem?_append_left (by omega)]
      · rw [if_neg (fun e => h1 e.2), if_neg (fun e => by have := e.2; rw [List.length_append] at this; omega)]
  · rw [if_neg (fun e => hb e.1), if_neg (fun e => hb e.1), if_neg (fun e => hb e.1)]
/-- two writes into other cells change places -/
theorem wl_setI {m : Me} {a b p j : Nat} {l : List Nat} {x : Int32} (h : a ≠ b) : wl (setI m b j x) a p l = setI (wl m a p l) b j x := by
  refine me_ext (fun c k => ?_) (fun _ _ => rfl)
  rw [wl_1, sI_1, sI_1, wl_1]
  by_cases h1 : c = a ∧ p ≤ k ∧ k < p + l.length
  · rw [if_pos h1, if_neg (fun e => h (h1.1.symm.trans e.1)), if_pos h1]
  · rw [if_neg h1, if_neg h1]
theorem setI_setI (m : Me) (a j : Nat) (x y : Int32) : setI (setI m a j x) a j y = setI m a j y := by
  refine me_ext (fun c k => ?_) (fun _ _ => rfl)
  rw [sI_1, sI_1, sI_1]
  split <;> rfl
theorem setI_comm {m : Me} {a b j k : Nat} {x y : Int32} (h : a ≠ b ∨ j ≠ k) : setI (setI m a j x) b k y = setI (setI m b k y) a j x := by
  refine me_ext (fun c i => ?_) (fun _ _ => rfl)
  rw [sI_1, sI_1, sI_1, sI_1]
  by_cases h1 : c = a ∧ i = j
  · rw [if_pos h1, if_pos h1, if_neg (by omega)]
  · rw [if_neg h1, if_neg h1]
theorem cl2_e {α β : Type} {x : Option (α × Me)} {k : α → Me → Option β} {a : α} {m : Me} (h : x = some (a, m)) : cl2 x k = k a m := by rw [h]; rfl
theorem cl1_e {β : Type} {x : Option Me} {k : Me → Option β} {m : Me} (h : x = some m) : cl1 x k = k m := by rw [h]; rfl
theorem FU_pos {n : Nat} (h : n < 2000) : n < FU := h
