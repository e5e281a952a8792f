/-! the start -/
def m00 : Me := (fun _ _ => 0, fun _ _ => none)
def mA0 : Me := MX10_0 (zer m00 0)
def mB0 : Me := MX11_138 (zer mA0 138)
def mS0 : Me := zer mB0 158
def Zx (L : List (Nat × Nat)) (m : Me) : Prop := ∀ a j, (a, j) ∉ L → m.1 a j = 0
section ZX
variable {L : List (Nat × Nat)} {m : Me} {a : Nat}
theorem Zx.z (h : Zx L m) : Zx L (zer m a) := fun b j hb => by
  show (if b = a then 0 else m.1 b j) = 0
  split
  · rfl
  · exact h b j hb
theorem Zx.r {j : Nat} {o : Option Nat} (h : Zx L m) : Zx L (setR m a j o) := h
theorem Zx.i {j : Nat} {x : Int32} (hm : (a, j) ∈ L) (h : Zx L m) : Zx L (setI m a j x) := fun b k hb => by
  rw [sI_1, if_neg (fun q => hb (by rw [q.1, q.2]; exact hm))]
  exact h b k hb
theorem Zx.m8 (h : Zx L m) : Zx L (MX8 a m) := h.z.r
theorem Zx.m5 (h : Zx L m) : Zx L (MX5 a m) := h.z.r
theorem Zx.m7 (h : Zx L m) : Zx L (MX7 a m) := h.z.r.z.r
end ZX
abbrev ZL : List (Nat × Nat) := [(1, 9), (94, 1), (138, 10)]
theorem zx_X0 {m : Me} (h : Zx ZL m) : Zx ZL (MX0_84 m) := by unfold MX0_84; repeat (first | assumption | apply Zx.z | apply Zx.r | apply Zx.m8 | apply Zx.m5 | apply Zx.m7 | apply Zx.i (by decide))
theorem zx_X9 {m : Me} (h : Zx ZL m) : Zx ZL (MX9_94 m) := by unfold MX9_94; repeat (first | assumption | apply Zx.z | apply Zx.r | apply Zx.m8 | apply Zx.m5 | apply Zx.m7 | apply Zx.i (by decide))
theorem zx_X4 {m : Me} (h : Zx ZL m) : Zx ZL (MX4_123 m) := by unfold MX4_123; repeat (first | assumption | apply Zx.z | apply Zx.r | apply Zx.m8 | apply Zx.m5 | apply Zx.m7 | apply Zx.i (by decide))
theorem zx_X1 {m : Me} (h : Zx ZL m) : Zx ZL (MX1_127 m) := by unfold MX1_127; repeat (first | assumption | apply Zx.z | apply Zx.r | apply Zx.m8 | apply Zx.m5 | apply Zx.m7 | apply Zx.i (by decide))
theorem zx_X11 {m : Me} (h : Zx ZL m) : Zx ZL (MX11_138 m) := by unfold MX11_138; repeat (first | assumption | apply Zx.z | apply Zx.r | apply Zx.m8 | apply Zx.m5 | apply Zx.m7 | apply Zx.i (by decide))
theorem zx_X2a {m : Me} (h : Zx ZL m) : Zx ZL (MX2_3 m) := by unfold MX2_3; repeat (first | assumption | apply Zx.z | apply Zx.r | apply Zx.m8 | apply Zx.m5 | apply Zx.m7 | apply Zx.i (by decide))
theorem zx_X2b {m : Me} (h : Zx ZL m) : Zx ZL (MX2_42 m) := by unfold MX2_42; repeat (first | assumption | apply Zx.z | apply Zx.r | apply Zx.m8 | apply Zx.m5 | apply Zx.m7 | apply Zx.i (by decide))
theorem zx_X3 {m : Me} (h : Zx ZL m) : Zx ZL (MX3_96 m) := by unfold MX3_96; repeat (first | assumption | apply Zx.z | apply Zx.r | apply Zx.m8 | apply Zx.m5 | apply Zx.m7 | apply Zx.i (by decide))
theorem zx_X6 {m : Me} (h : Zx ZL m) : Zx ZL (MX6_1 m) := by
  unfold MX6_1
  repeat (first | assumption | apply Zx.z | apply Zx.r | apply Zx.i (by decide) | apply zx_X2a)
theorem zx_X10 {m : Me} (h : Zx ZL m) : Zx ZL (MX10_0 m) := by
  unfold MX10_0
  repeat (first | assumption | apply Zx.z | apply Zx.r | apply Zx.m8 | apply Zx.m5 | apply Zx.m7 | apply Zx.i (by decide) | apply zx_X2b | apply zx_X6 | apply zx_X3 | apply zx_X0 | apply zx_X9 | apply zx_X4 | apply zx_X1)
theorem zx_S : Zx ZL mS0 := Zx.z (zx_X11 (Zx.z (zx_X10 (Zx.z (fun _ _ _ => rfl)))))
theorem sI_n {a j : Nat} (h : (a, j) ∉ ZL) : mS0.1 a j = nI 0 := zx_S a j h
set_option maxRecDepth 20000 in
theorem S_ref : ∀ q ∈ RF, mS0.2 q.1 q.2.1 = some q.2.2 := by decide +kernel
theorem S_3 : mS0.2 0 3 = some 42 := by decide +kernel
theorem S_2 : mS0.2 1 2 = some 3 := by decide +kernel
theorem S_98 : ∀ i, i < 4 → mS0.2 98 i = some (106 + 5 * i) ∧ kd (106 + 5 * i) = 8 := by decide +kernel
theorem inv_S : Inv mS0 := ⟨S_ref, ⟨42, S_3, by decide +kernel⟩, ⟨3, S_2, by decide +kernel⟩, fun i hi => ⟨_, S_98 i hi⟩⟩
theorem wi_S : WI mS0 := by
  have e3 : rr mS0 0 3 = 42 := by
    unfold Jvm.Pilot.CFanPartsLaw_law_r1864_615eae.rr
    rw [S_3]
    rfl
  have e2 : rr mS0 1 2 = 3 := by
    unfold Jvm.Pilot.CFanPartsLaw_law_r1864_615eae.rr
    rw [S_2]
    rfl
  refine ⟨false, fun _ => 0, fun _ => 0, 0, 0, fun _ => 0, 0, fun _ _ => 0, 0, fun _ _ => 0, ⟨⟨sI_n (by decide), (fun h => by cases h)⟩, ⟨sI_n (by decide), (fun h => by cases h)⟩, (fun h => by cases h), (fun h => by cases h)⟩, ⟨by decide, sI_n (by decide), sI_n (by decide), ?_, (fun h => by cases h)⟩, ⟨by decide, sI_n (by decide), sI_n (by decide), fun k hk => absurd hk (Nat.not_lt_zero k)⟩, ⟨by decide, sI_n (by decide), sI_n (by decide), fun _ _ => rfl, fun i hi => absurd hi (Nat.not_lt_zero i)⟩, ⟨by decide, sI_n (by decide), sI_n (by decide), fun i hi => absurd hi (Nat.not_lt_zero i)⟩, fun _ => ⟨rfl, rfl, ?_, sI_n (by decide)⟩, ?_⟩
  · rw [sI_n (by decide), sI_n (by decide)]
  · intro j hj
    rw [e3]
    apply sI_n
    intro h
    simp at h
  · rw [e3, e2]
    decide
