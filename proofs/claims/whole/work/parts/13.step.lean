section STEP
variable {G : EV} {p : Program} {l : Launch} {e : Env} {R : Room} {s : State} {m : MethodId} {args : Array Value} {below : List Frame} {meth : Method} {c : Code} {H : Heap} {locs : List Loc} {cells slots : Nat} {Q : State → Prop} {μ : MI}
/-- what goes on behind an instruction that makes no cell -/
def KK (G : EV) (p : Program) (l : Launch) (e : Env) (R : Room) (s : State) (m : MethodId) (args : Array Value) (below : List Frame) (meth : Method) (c : Code) (cells slots : Nat) (Q : State → Prop) (S : Sh) (c' : Cf) : Prop :=
  ∀ (H1 : Heap) (locs1 : List Loc) (lsA1 : Array Slot), Rep G c'.2.2.2 H1 → va_S (A0 G) s.heap H1 locs1 → LocOK G lsA1 c.maxLocals c'.2.1 → W p l e R s m args below meth c H1 locs1 (cells + (c'.2.2.2.1.length - S.length)) (slots + (nS c'.2.2.2.1 - nS S)) Q (F0 m c'.1 lsA1 (cst G c'.2.2.1))
theorem KK.same {S : Sh} {mm : Me} {pc : Nat} {ls : Lo} {st : List Value} (k : KK G p l e R s m args below meth c cells slots Q S (pc, ls, st, S, mm)) {lsA : Array Slot} (hR : Rep G (S, mm) H) (hS : va_S (A0 G) s.heap H locs) (hl : LocOK G lsA c.maxLocals ls) : W p l e R s m args below meth c H locs cells slots Q (F0 m pc lsA (cst G st)) := by
  have h := k H locs lsA hR hS hl
  simp only [Nat.sub_self, Nat.add_zero] at h
  exact h
variable {pc : Nat} {ls : Lo} {st : List Value} {S : Sh} {mm : Me} {lsA : Array Slot}
theorem s_if (hx : p.tables.exec = Jvm.exec) {cc : ByteArray} (hb : c.code = cc) {op : ClassFile.Cond} {off : Int} {x : Int32} {rest : List Value} {tgt : Nat} (hd : decode cc pc = .ok (.ifCond op off, 3)) (ht : (pc : Int) + off = (tgt : Int)) (kt : cnd op x 0 → W p l e R s m args below meth c H locs cells slots Q (F0 m tgt lsA rest)) (kf : ¬ cnd op x 0 → W p l e R s m args below meth c H locs cells slots Q (F0 m (pc + 3) lsA rest)) : W p l e R s m args below meth c H locs cells slots Q (F0 m pc lsA (.int x :: rest)) := by
  cases op <;> simp only [cnd] at kt kf
  · exact lv_if_eq hx hb hd ht kt kf
  · exact lv_if_ne hx hb hd ht kt (fun q => kf (fun h => h q))
  · exact lv_if_lt hx hb hd ht kt kf
  · exact lv_if_ge hx hb hd ht kt kf
  · exact lv_if_gt hx hb hd ht kt kf
  · exact lv_if_le hx hb hd ht kt kf
theorem s_icmp (hx : p.tables.exec = Jvm.exec) {cc : ByteArray} (hb : c.code = cc) {op : ClassFile.Cond} {off : Int} {x y : Int32} {rest : List Value} {tgt : Nat} (hd : decode cc pc = .ok (.if_icmp op off, 3)) (ht : (pc : Int) + off = (tgt : Int)) (kt : cnd op x y → W p l e R s m args below meth c H locs cells slots Q (F0 m tgt lsA rest)) (kf : ¬ cnd op x y → W p l e R s m args below meth c H locs cells slots Q (F0 m (pc + 3) lsA rest)) : W p l e R s m args below meth c H locs cells slots Q (F0 m pc lsA (.int y :: .int x :: rest)) := by
  cases op <;> simp only [cnd] at kt kf
  · exact lv_icmp_eq hx hb hd ht kt kf
  · exact lv_icmp_ne hx hb hd ht kt (fun q => kf (fun h => h q))
  · exact lv_icmp_lt hx hb hd ht kt kf
  · exact lv_icmp_ge hx hb hd ht kt kf
  · exact lv_icmp_gt hx hb hd ht kt kf
  · exact lv_icmp_le hx hb hd ht kt kf
/-- a field is read -/
theorem s_get (F : FC G p s m args meth c μ) {ix a k n N j : Nat} {C : String} {T : u_T} {st' : List Value} (hd : decode μ.2.1 pc = .ok (.getfield ix, 3)) (ha : S[a]? = some (k, n)) (hv : vwCl[k]? = some (C, T, N)) (hj : j < N) (hC : (T j).1 = C) (hl : inT (.fieldLink μ.1.cls ix C (T j).2.1 (T j).2.2.1)) (hR : Rep G (S, mm) H) (k' : W p l e R s m args below meth c H locs cells slots Q (F0 m (pc + 3) lsA (cv G (fv mm a j (rt k j)) :: st'))) : W p l e R s m args below meth c H locs cells slots Q (F0 m pc lsA (cv G (.ref a) :: st')) := by
  obtain ⟨cf, fi, kf, kC, f, cell, h1, h2, h3, h4, h5, h6, h7, -⟩ := fld F hR ha hv hj hC
  rw [hR.ref (σ := (S, mm)) ha]
  exact W.getf F.1 F.2.1 F.2.2.2.1 (F.2.2.2.2.1 _ hl) h1 h2 h4 (by rw [h6]; exact fun h => by cases h) (v := cv G (fv mm a j (rt k j))) (by rw [h3]; exact h7 j hj) rfl rfl hd k'
/-- a field is written -/
theorem s_put (F : FC G p s m args meth c μ) {ix a k n N j : Nat} {C : String} {T : u_T} {ty : FieldType} {st' : List Value} {v : Value} {m1 : Me} (hd : decode μ.2.1 pc = .ok (.putfield ix, 3)) (ha : S[a]? = some (k, n)) (hv : vwCl[k]? = some (C, T, N)) (hj : j < N) (hC : (T j).1 = C) (hl : inT (.fieldLink μ.1.cls ix C (T j).2.1 (T j).2.2.1)) (hty : parseFieldDescriptor (T j).2.2.1 = some ty) (hfin : (T j).2.2.2 = false ∨ (μ.1.name = "<init>" ∧ μ.1.cls = C)) (hn : narrow ty (cv G v) = cv G v) (hfit : fits ty (cv G v) = true)
    (hm : ∀ b i, b ≠ a → m1.1 b i = mm.1 b i ∧ m1.2 b i = mm.2 b i) (hm2 : ∀ i, i < N → fv m1 a i (rt k i) = if i = j then v else fv mm a i (rt k i)) (hR : Rep G (S, mm) H) (hS : va_S (A0 G) s.heap H locs)
    (k' : ∀ (H1 : Heap) (locs1 : List Loc), Rep G (S, m1) H1 → va_S (A0 G) s.heap H1 locs1 → W p l e R s m args below meth c H1 locs1 cells slots Q (F0 m (pc + 3) lsA st')) : W p l e R s m args below meth c H locs cells slots Q (F0 m pc lsA (cv G v :: cv G (.ref a) :: st')) := by
  obtain ⟨cf, fi, kf, kC, f, cell, h1, h2, h3, h4, h5, h6, h7, h8, h9, h10, h11⟩ := fld F hR ha hv hj hC
  have hap := apart_ F hv
  have hk12 := vw_lt hv
  rw [hR.ref (σ := (S, mm)) ha]
  have fin : ∀ H1 : Heap, H1[gB G + a]? = some (cell.setSlot (gI G k j) (cv G v)) → H1.size = H.size → (∀ q, q ≠ gB G + a → H1[q]? = H[q]?) → W p l e R s m args below meth c H1 (locs ++ [⟨gB G + a, f.slot⟩]) cells slots Q (F0 m (pc + 3) lsA st') := by
    intro H1 e1 e2 e3
    refine k' H1 _ (hR.upd ha e2 e3 hm ⟨fun _ => ⟨(C, T, N), hv, h11, ⟨_, e1, h5, h6, ?_⟩⟩, fun hk => by omega, fun hk => by omega, fun hk => by omega⟩) (hS.put e2 e3 (Nat.le_add_right _ _))
    intro i hi
    have h12 := t_set h7 hap hj (cv G v) i hi
    rw [h12]
    congr 1
    show updV _ j (cv G v) i = cv G (fv m1 a i (rt k i))
    rw [hm2 i hi]
    unfold updV
    by_cases e : i = j
    · rw [if_pos e, if_pos e]
    · rw [if_neg e, if_neg e]
  have hlt : f.slot < cell.slots.size := by rw [h3]; exact k2_hasslot (h7 j hj)
  have hlay := F.tb _ (uws_tb hv _ (u_in_lay hj))
  by_cases hf : (T j).2.2.2 = false
  · have hl1 : (Cond.lays C (T j).1 (T j).2.1 (T j).2.2.1).before args s = true := by
      unfold u_lay at hlay
      rw [if_neg (by rw [hf]; decide)] at hlay
      exact hlay
    rw [hC] at hl1
    have h13 := u_store h8 h9 h10 hl1 h1 hty hn hfit
    refine W.putK F.1 F.2.1 (f := f) ⟨F.2.2.2.1, F.2.2.2.2.1 _ hl, ⟨_, _, _, h1⟩, h2⟩ (by rw [h5]; exact h13) h4 h6 hlt rfl rfl hd fun H1 e1 e2 e3 => ?_
    rw [h3] at e1
    exact fin H1 e1 e2 e3
  · have hf' : (T j).2.2.2 = true := by simpa using hf
    have hl1 : (Cond.laysFinal C (T j).1 (T j).2.1 (T j).2.2.1).before args s = true := by
      unfold u_lay at hlay
      rw [if_pos hf'] at hlay
      exact hlay
    rw [hC] at hl1
    obtain ⟨hi1, hi2⟩ := hfin.resolve_left hf
    have h13 := u_fits h8 h9 h10 (Or.inr hl1) h1 hty hn hfit
    have hcf : m.cls = cf := by
      obtain ⟨_, _, c', _, _, _, -, -, hf', -, -, -, hown2, -⟩ := Cond.laysFinal_spec hl1
      have e1 : c' = cf := by have := h1.symm.trans hf'; simp at this; exact this.1.symm
      have ho := F.2.2.2.1
      rw [hi2] at ho
      rw [← e1]
      exact Option.some.inj (ho.symm.trans hown2)
    refine W.putFinK F.1 F.2.1 F.2.2.2.1 (F.2.2.2.2.1 _ hl) h1 h2 hcf (by rw [F.2.2.2.2.2.2]; exact hi1) (by rw [h5]; exact h13) h4 h6 hlt rfl rfl hd fun H1 e1 e2 e3 => ?_
    rw [h3] at e1
    exact fin H1 e1 e2 e3

theorem arrK (F : FC G p s m args meth c μ) : (∀ n z, s.isArrayOf (arrV (gA G 12) n z) .byte) ∧ (∀ n z, s.isArrayOf (arrV (gA G 13) n z) .int) ∧ (∀ n z, s.isArrayOf (arrV (gA G 14) n z) .long) ∧ (∀ n z, s.isArrayOf (arrV (gA G 15) n z) (.object "FanParts$Painting")) ∧ (∀ n z, s.isArrayOf (arrV (gA G 16) n z) (.object "FanParts$Row")) ∧ (∀ n z, s.isArrayOf (arrV (gA G 17) n z) (.object "FanParts$Saying")) := by
  have hK := F.2.2.2.2.2.1.1.2
  exact ⟨(hK 0 _ rfl).1, (hK 1 _ rfl).1, (hK 2 _ rfl).1, (hK 3 _ rfl).1, (hK 4 _ rfl).1, (hK 5 _ rfl).1⟩
theorem arrAny (F : FC G p s m args meth c μ) (hR : Rep G (S, mm) H) {a k n : Nat} (ha : S[a]? = some (k, n)) (h1 : 12 ≤ k) (h2 : k ≤ 17) : ∃ (ty : FieldType) (z : Nat → Value), H[gB G + a]? = some (arrV (gA G k) n z) ∧ s.isArrayOf (arrV (gA G k) n z) ty := by
  obtain ⟨-, q2, q3, q4⟩ := hR.2.2 a k n ha
  obtain ⟨b1, b2, b3, b4, b5, b6⟩ := arrK F
  rcases (show k = 12 ∨ k = 13 ∨ k = 14 ∨ k = 15 ∨ k = 16 ∨ k = 17 by omega) with rfl | rfl | rfl | rfl | rfl | rfl
  · exact ⟨_, _, q2 (Or.inl rfl), b1 _ _⟩
  · exact ⟨_, _, q2 (Or.inr rfl), b2 _ _⟩
  · exact ⟨_, _, q3 rfl, b3 _ _⟩
  · exact ⟨_, _, q4 (by omega), b4 _ _⟩
  · exact ⟨_, _, q4 (by omega), b5 _ _⟩
  · exact ⟨_, _, q4 (by omega), b6 _ _⟩
theorem s_alen (F : FC G p s m args meth c μ) {a k n : Nat} {st' : List Value} (hd : decode μ.2.1 pc = .ok (.arraylength, 1)) (ha : S[a]? = some (k, n)) (h1 : 12 ≤ k) (h2 : k ≤ 17) (hR : Rep G (S, mm) H) (k' : W p l e R s m args below meth c H locs cells slots Q (F0 m (pc + 1) lsA (.int (Int32.ofNat n) :: st'))) : W p l e R s m args below meth c H locs cells slots Q (F0 m pc lsA (cv G (.ref a) :: st')) := by
  obtain ⟨ty, z, q1, q2⟩ := arrAny F hR ha h1 h2
  rw [hR.ref (σ := (S, mm)) ha]
  exact W.alen F.1 F.2.1 q1 q2 (by rw [arrV_size]) rfl rfl hd k'
theorem s_iald (F : FC G p s m args meth c μ) {a n : Nat} {i : Int32} {st' : List Value} (hd : decode μ.2.1 pc = .ok (.iaload, 1)) (ha : S[a]? = some (13, n)) (hin : vp_in i n) (hR : Rep G (S, mm) H) (k' : W p l e R s m args below meth c H locs cells slots Q (F0 m (pc + 1) lsA (.int (mm.1 a i.toNatClampNeg) :: st'))) : W p l e R s m args below meth c H locs cells slots Q (F0 m pc lsA (.int i :: cv G (.ref a) :: st')) := by
  rw [hR.ref (σ := (S, mm)) ha]
  have hlt : i.toNatClampNeg < n := Nat.not_le.mp fun q => hin (Or.inr q)
  exact W.iald (v := .int (mm.1 a i.toNatClampNeg)) F.1 F.2.1 ((hR.2.2 a 13 n ha).2.1 (Or.inr rfl)) ((arrK F).2.1 _ _) (fun q => by cases q) (by rw [arrV_size]; exact hin) (by rw [arrV_read _ _ hlt]) rfl rfl hd k'
theorem s_bald (F : FC G p s m args meth c μ) {a n : Nat} {i : Int32} {st' : List Value} (hd : decode μ.2.1 pc = .ok (.baload, 1)) (ha : S[a]? = some (12, n)) (hin : vp_in i n) (hR : Rep G (S, mm) H) (k' : W p l e R s m args below meth c H locs cells slots Q (F0 m (pc + 1) lsA (.int (mm.1 a i.toNatClampNeg) :: st'))) : W p l e R s m args below meth c H locs cells slots Q (F0 m pc lsA (.int i :: cv G (.ref a) :: st')) := by
  rw [hR.ref (σ := (S, mm)) ha]
  have hlt : i.toNatClampNeg < n := Nat.not_le.mp fun q => hin (Or.inr q)
  exact W.bald (v := .int (mm.1 a i.toNatClampNeg)) F.1 F.2.1 ((hR.2.2 a 12 n ha).2.1 (Or.inl rfl)) ((arrK F).1 _ _) (fun q => by cases q) (by rw [arrV_size]; exact hin) (by rw [arrV_read _ _ hlt]) rfl rfl hd k'
theorem s_aald (F : FC G p s m args meth c μ) {a k n : Nat} {i : Int32} {st' : List Value} (hd : decode μ.2.1 pc = .ok (.aaload, 1)) (ha : S[a]? = some (k, n)) (h1 : 15 ≤ k) (h2 : k ≤ 17) (hin : vp_in i n) (hR : Rep G (S, mm) H) (k' : W p l e R s m args below meth c H locs cells slots Q (F0 m (pc + 1) lsA (cv G (va_rf (mm.2 a i.toNatClampNeg)) :: st'))) : W p l e R s m args below meth c H locs cells slots Q (F0 m pc lsA (.int i :: cv G (.ref a) :: st')) := by
  rw [hR.ref (σ := (S, mm)) ha]
  have hlt : i.toNatClampNeg < n := Nat.not_le.mp fun q => hin (Or.inr q)
  have hc := (hR.2.2 a k n ha).2.2.2 ⟨h1, h2⟩
  have harr : ∃ C, s.isArrayOf (arrV (gA G k) n (fun j => cv G (va_rf (mm.2 a j)))) (.object C) := by
    obtain ⟨-, -, -, b4, b5, b6⟩ := arrK F
    rcases (show k = 15 ∨ k = 16 ∨ k = 17 by omega) with rfl | rfl | rfl
    · exact ⟨_, b4 _ _⟩
    · exact ⟨_, b5 _ _⟩
    · exact ⟨_, b6 _ _⟩
  obtain ⟨C, harr⟩ := harr
  exact W.aald (v := cv G (va_rf (mm.2 a i.toNatClampNeg))) F.1 F.2.1 hc harr rfl (fun q => by cases q) (by rw [arrV_size]; exact hin) (by rw [arrV_read _ _ hlt]) rfl rfl hd k'
theorem arrV_put {cI : ClassId} {n i : Nat} {f g : Nat → Value} {v : Value} (h : ∀ j, g j = if j = i then v else f j) : (arrV cI n f).setSlot i v = arrV cI n g := by
  rw [arrV_store]
  congr 1
  funext j
  rw [h]
  rfl
theorem s_iast (F : FC G p s m args meth c μ) {a n : Nat} {i x : Int32} {st' : List Value} (hd : decode μ.2.1 pc = .ok (.iastore, 1)) (ha : S[a]? = some (13, n)) (hin : vp_in i n) (hR : Rep G (S, mm) H) (hS : va_S (A0 G) s.heap H locs)
    (k' : ∀ (H1 : Heap) (locs1 : List Loc), Rep G (S, setI mm a i.toNatClampNeg x) H1 → va_S (A0 G) s.heap H1 locs1 → W p l e R s m args below meth c H1 locs1 cells slots Q (F0 m (pc + 1) lsA st')) : W p l e R s m args below meth c H locs cells slots Q (F0 m pc lsA (.int x :: .int i :: cv G (.ref a) :: st')) := by
  rw [hR.ref (σ := (S, mm)) ha]
  refine W.iast F.1 F.2.1 ((hR.2.2 a 13 n ha).2.1 (Or.inr rfl)) ((arrK F).2.1 _ _) (fun q => by cases q) (by rw [arrV_size]; exact hin) rfl rfl hd fun H1 e1 e2 e3 => ?_
  refine k' H1 _ (hR.upd ha e2 e3 (fun b j hb => ⟨if_neg (fun h => hb h.1), rfl⟩) ⟨fun h => by omega, fun _ => ?_, fun h => by omega, fun h => by omega⟩) (hS.put e2 e3 (Nat.le_add_right _ _))
  rw [e1]
  congr 1
  refine arrV_put fun j => ?_
  show Value.int (if a = a ∧ j = i.toNatClampNeg then x else mm.1 a j) = _
  by_cases h : j = i.toNatClampNeg <;> simp [h]
theorem s_bast (F : FC G p s m args meth c μ) {a n : Nat} {i x : Int32} {st' : List Value} (hd : decode μ.2.1 pc = .ok (.bastore, 1)) (ha : S[a]? = some (12, n)) (hin : vp_in i n) (hR : Rep G (S, mm) H) (hS : va_S (A0 G) s.heap H locs)
    (k' : ∀ (H1 : Heap) (locs1 : List Loc), Rep G (S, setI mm a i.toNatClampNeg x.toInt8.toInt32) H1 → va_S (A0 G) s.heap H1 locs1 → W p l e R s m args below meth c H1 locs1 cells slots Q (F0 m (pc + 1) lsA st')) : W p l e R s m args below meth c H locs cells slots Q (F0 m pc lsA (.int x :: .int i :: cv G (.ref a) :: st')) := by
  rw [hR.ref (σ := (S, mm)) ha]
  refine W.bast F.1 F.2.1 ((hR.2.2 a 12 n ha).2.1 (Or.inl rfl)) ((arrK F).1 _ _) (fun q => by cases q) (by rw [arrV_size]; exact hin) rfl rfl hd fun H1 e1 e2 e3 => ?_
  refine k' H1 _ (hR.upd ha e2 e3 (fun b j hb => ⟨if_neg (fun h => hb h.1), rfl⟩) ⟨fun h => by omega, fun _ => ?_, fun h => by omega, fun h => by omega⟩) (hS.put e2 e3 (Nat.le_add_right _ _))
  rw [e1]
  congr 1
  refine arrV_put fun j => ?_
  show Value.int (if a = a ∧ j = i.toNatClampNeg then x.toInt8.toInt32 else mm.1 a j) = if j = i.toNatClampNeg then narrow .byte (.int x) else _
  have e0 : narrow .byte (.int x) = .int x.toInt8.toInt32 := rfl
  rw [e0]
  by_cases h : j = i.toNatClampNeg <;> simp [h]
theorem aRow (F : FC G p s m args meth c μ) {k : Nat} (h1 : 15 ≤ k) (h2 : k ≤ 17) : ∃ q, vwCl[aCls k]? = some q ∧ va_RA s (gA G k) (.object q.1) ∧ va_AO q.1 s := by
  have hK := F.2.2.2.2.2.1.1.2
  obtain ⟨b1, b2, b3⟩ := F.2.2.2.2.2.1.2.2.1
  rcases (show k = 15 ∨ k = 16 ∨ k = 17 by omega) with rfl | rfl | rfl
  · exact ⟨_, rfl, (hK 3 _ rfl).2, b1⟩
  · exact ⟨_, rfl, (hK 4 _ rfl).2, b2⟩
  · exact ⟨_, rfl, (hK 5 _ rfl).2, b3⟩
theorem s_aast (F : FC G p s m args meth c μ) {a b k n nb : Nat} {i : Int32} {st' : List Value} (hd : decode μ.2.1 pc = .ok (.aastore, 1)) (ha : S[a]? = some (k, n)) (h1 : 15 ≤ k) (h2 : k ≤ 17) (hin : vp_in i n) (hbb : S[b]? = some (aCls k, nb)) (hR : Rep G (S, mm) H) (hS : va_S (A0 G) s.heap H locs)
    (k' : ∀ (H1 : Heap) (locs1 : List Loc), Rep G (S, setR mm a i.toNatClampNeg (some b)) H1 → va_S (A0 G) s.heap H1 locs1 → W p l e R s m args below meth c H1 locs1 cells slots Q (F0 m (pc + 1) lsA st')) : W p l e R s m args below meth c H locs cells slots Q (F0 m pc lsA (cv G (.ref b) :: .int i :: cv G (.ref a) :: st')) := by
  have hcb := hR.ref (σ := (S, mm)) hbb
  rw [hR.ref (σ := (S, mm)) ha, hcb]
  obtain ⟨q, hq, ⟨kA, comp, r1, r2, r3, r4⟩, -⟩ := aRow F h1 h2
  obtain ⟨-, hfc, kC, hkC, hkind⟩ := F.2.2.2.2.2.1.1.1 _ _ hq
  obtain ⟨q', hq', -, cell, o1, o2, o3, -⟩ := (hR.2.2 b _ nb hbb).1 (vw_lt hq)
  have hcm : comp = gC G (aCls k) := Option.some.inj (r3.symm.trans hfc)
  have hlt : i.toNatClampNeg < n := Nat.not_le.mp fun z => hin (Or.inr z)
  have h0 : ¬ i < 0 := fun z => hin (Or.inl z)
  refine W.aast F.1 F.2.1 ((hR.2.2 a k n ha).2.2.2 ⟨h1, h2⟩) (fun z h => by cases h) (fun h => by cases h) r1 r2 rfl (kcomp := kC) (by rw [hcm]; exact hkC) ⟨h0, by rw [arrV_size]; exact hlt⟩ o1 (fun z h => by rw [o3] at h; cases h) (kv := kC) (by rw [o2]; exact hkC) (by rw [o2, hcm]; exact va_assign ⟨hfc, kC, hkC, hkind⟩) rfl rfl hd fun H1 e1 e2 e3 => ?_
  refine k' H1 _ (hR.upd ha e2 e3 (fun b j hb => ⟨rfl, if_neg (fun h => hb h.1)⟩) ⟨fun h => by omega, fun h => by omega, fun h => by omega, fun _ => ?_⟩) (hS.put e2 e3 (Nat.le_add_right _ _))
  rw [e1]
  congr 1
  refine arrV_put fun j => ?_
  show cv G (va_rf (if a = a ∧ j = i.toNatClampNeg then some b else mm.2 a j)) = _
  by_cases h : j = i.toNatClampNeg
  · simp only [h, and_self, if_true]
    exact hcb
  · simp only [h, and_false, if_false]
end STEP
