theorem bp_m3 : (Int8.ofInt (-3)).toInt32 = (-3) := by decide
theorem bp_m2 : (Int8.ofInt (-2)).toInt32 = (-2) := by decide
theorem bp_6 : (Int8.ofInt 6).toInt32 = 6 := by decide
theorem bp_7 : (Int8.ofInt 7).toInt32 = 7 := by decide
theorem bp_8 : (Int8.ofInt 8).toInt32 = 8 := by decide
theorem bp_9 : (Int8.ofInt 9).toInt32 = 9 := by decide
theorem bp_10 : (Int8.ofInt 10).toInt32 = 10 := by decide
theorem bp_11 : (Int8.ofInt 11).toInt32 = 11 := by decide
theorem bp_12 : (Int8.ofInt 12).toInt32 = 12 := by decide
theorem bp_15 : (Int8.ofInt 15).toInt32 = 15 := by decide
theorem bp_16 : (Int8.ofInt 16).toInt32 = 16 := by decide
theorem bp_20 : (Int8.ofInt 20).toInt32 = 20 := by decide
theorem bp_24 : (Int8.ofInt 24).toInt32 = 24 := by decide
theorem bp_25 : (Int8.ofInt 25).toInt32 = 25 := by decide
theorem bp_30 : (Int8.ofInt 30).toInt32 = 30 := by decide
theorem bp_32 : (Int8.ofInt 32).toInt32 = 32 := by decide
theorem bp_33 : (Int8.ofInt 33).toInt32 = 33 := by decide
theorem bp_44 : (Int8.ofInt 44).toInt32 = 44 := by decide
theorem bp_48 : (Int8.ofInt 48).toInt32 = 48 := by decide
theorem bp_50 : (Int8.ofInt 50).toInt32 = 50 := by decide
theorem bp_57 : (Int8.ofInt 57).toInt32 = 57 := by decide
theorem bp_59 : (Int8.ofInt 59).toInt32 = 59 := by decide
theorem bp_60 : (Int8.ofInt 60).toInt32 = 60 := by decide
theorem bp_61 : (Int8.ofInt 61).toInt32 = 61 := by decide
theorem bp_62 : (Int8.ofInt 62).toInt32 = 62 := by decide
theorem bp_63 : (Int8.ofInt 63).toInt32 = 63 := by decide
theorem bp_64 : (Int8.ofInt 64).toInt32 = 64 := by decide
theorem bp_68 : (Int8.ofInt 68).toInt32 = 68 := by decide
theorem bp_97 : (Int8.ofInt 97).toInt32 = 97 := by decide
theorem bp_99 : (Int8.ofInt 99).toInt32 = 99 := by decide
theorem bp_100 : (Int8.ofInt 100).toInt32 = 100 := by decide
theorem bp_104 : (Int8.ofInt 104).toInt32 = 104 := by decide
theorem bp_108 : (Int8.ofInt 108).toInt32 = 108 := by decide
theorem bp_114 : (Int8.ofInt 114).toInt32 = 114 := by decide
theorem bp_120 : (Int8.ofInt 120).toInt32 = 120 := by decide
theorem bp_122 : (Int8.ofInt 122).toInt32 = 122 := by decide
theorem bp_126 : (Int8.ofInt 126).toInt32 = 126 := by decide
theorem ic_m8 : Int32.ofInt (-8) = (-8) := by decide
theorem ic_m1 : Int32.ofInt (-1) = (-1) := by decide
theorem ic_0 : Int32.ofInt 0 = 0 := by decide
theorem ic_1 : Int32.ofInt 1 = 1 := by decide
theorem ic_2 : Int32.ofInt 2 = 2 := by decide
theorem ic_3 : Int32.ofInt 3 = 3 := by decide
theorem ic_4 : Int32.ofInt 4 = 4 := by decide
theorem ic_5 : Int32.ofInt 5 = 5 := by decide
theorem on_3 : Int32.ofNat 3 = 3 := by decide
theorem on_4 : Int32.ofNat 4 = 4 := by decide
theorem on_6 : Int32.ofNat 6 = 6 := by decide
theorem on_8 : Int32.ofNat 8 = 8 := by decide
theorem on_30 : Int32.ofNat 30 = 30 := by decide
theorem on_60 : Int32.ofNat 60 = 60 := by decide
theorem on_900 : Int32.ofNat 900 = 900 := by decide
theorem sp_132 : (Int16.ofInt 132).toInt32 = 132 := by decide
theorem sp_180 : (Int16.ofInt 180).toInt32 = 180 := by decide
theorem sp_181 : (Int16.ofInt 181).toInt32 = 181 := by decide
theorem sp_186 : (Int16.ofInt 186).toInt32 = 186 := by decide
theorem sp_255 : (Int16.ofInt 255).toInt32 = 255 := by decide
theorem sp_900 : (Int16.ofInt 900).toInt32 = 900 := by decide
theorem sp_930 : (Int16.ofInt 930).toInt32 = 930 := by decide
theorem sp_1000 : (Int16.ofInt 1000).toInt32 = 1000 := by decide
theorem tn_0 : (0 : Int32).toNatClampNeg = 0 := by decide
theorem tn_1 : (1 : Int32).toNatClampNeg = 1 := by decide
theorem tn_2 : (2 : Int32).toNatClampNeg = 2 := by decide
theorem tn_3 : (3 : Int32).toNatClampNeg = 3 := by decide
theorem tn_4 : (4 : Int32).toNatClampNeg = 4 := by decide
theorem tn_5 : (5 : Int32).toNatClampNeg = 5 := by decide
theorem tn_6 : (6 : Int32).toNatClampNeg = 6 := by decide
theorem tn_7 : (7 : Int32).toNatClampNeg = 7 := by decide
theorem tn_8 : (8 : Int32).toNatClampNeg = 8 := by decide
theorem tn_9 : (9 : Int32).toNatClampNeg = 9 := by decide
theorem tn_60 : (60 : Int32).toNatClampNeg = 60 := by decide
theorem tn_61 : (61 : Int32).toNatClampNeg = 61 := by decide
theorem tn_180 : (180 : Int32).toNatClampNeg = 180 := by decide
section RULES3
variable {P : Sm → Prop} {call : MI → List Value → Sm → Option Value → Sm → Prop} {μ : MI} {pc q : Nat} {ls ls' : Lo} {st : List Value} {S : Sh} {m : Me} {r : Option Value} {σ' : Sm}
theorem to_iaj {a n j : Nat} {i : Int32} (ha : S[a]? = some (13, n)) (hi : inb i n) (hj : i.toNatClampNeg = j) (hd : decode μ.2.1 pc = .ok (.iaload, 1)) (hq : pc + 1 = q) (k : TT P call μ (q, ls, .int (m.1 a j) :: st, S, m) r σ') : TT P call μ (pc, ls, .int i :: .ref a :: st, S, m) r σ' := by
  subst hj
  exact to_iald ha hi hd hq k
theorem to_baj {a n j : Nat} {i : Int32} (ha : S[a]? = some (12, n)) (hi : inb i n) (hj : i.toNatClampNeg = j) (hd : decode μ.2.1 pc = .ok (.baload, 1)) (hq : pc + 1 = q) (k : TT P call μ (q, ls, .int (m.1 a j) :: st, S, m) r σ') : TT P call μ (pc, ls, .int i :: .ref a :: st, S, m) r σ' := by
  subst hj
  exact to_bald ha hi hd hq k
theorem to_iasj {a n j : Nat} {i x : Int32} (ha : S[a]? = some (13, n)) (hi : inb i n) (hj : i.toNatClampNeg = j) (hd : decode μ.2.1 pc = .ok (.iastore, 1)) (hq : pc + 1 = q) (k : TT P call μ (q, ls, st, S, setI m a j x) r σ') : TT P call μ (pc, ls, .int x :: .int i :: .ref a :: st, S, m) r σ' := by
  subst hj
  exact to_iast ha hi hd hq k
theorem to_basj {a n j : Nat} {i x : Int32} (ha : S[a]? = some (12, n)) (hi : inb i n) (hj : i.toNatClampNeg = j) (hd : decode μ.2.1 pc = .ok (.bastore, 1)) (hq : pc + 1 = q) (k : TT P call μ (q, ls, st, S, setI m a j x.toInt8.toInt32) r σ') : TT P call μ (pc, ls, .int x :: .int i :: .ref a :: st, S, m) r σ' := by
  subst hj
  exact to_bast ha hi hd hq k
theorem to_cpj {ix a0 a1 n0 n1 p0 p1 p2 : Nat} {sp dp x : Int32} (hd : decode μ.2.1 pc = .ok (.invokestatic ix, 3)) (hq : pc + 3 = q) (hlen : cats st ≤ 8) (h : inT (.methodLink μ.1.cls ix arraycopyName) ∧ inT (.native arraycopyName) ∧ inT (.static arraycopyName) ∧ inT (.initialized "java/lang/System")) (ha0 : S[a0]? = some (13, n0)) (ha1 : S[a1]? = some (13, n1)) (h1 : ¬ sp < 0) (h2 : ¬ dp < 0) (h3 : ¬ x < 0) (e0 : sp.toNatClampNeg = p0) (e1 : dp.toNatClampNeg = p1) (e2 : x.toNatClampNeg = p2) (h4 : p0 + p2 ≤ n0) (h5 : p1 + p2 ≤ n1) (k : TT P call μ (q, ls, st, S, cpyI m a0 a1 p0 p1 p2) r σ') : TT P call μ (pc, ls, .int x :: .int dp :: .ref a1 :: .int sp :: .ref a0 :: st, S, m) r σ' := by
  subst e0; subst e1; subst e2
  exact to_copy hd hq hlen h ha0 ha1 h1 h2 h3 h4 h5 k
theorem to_virtI {ix a : Nat} (μ' : MI) (vs : List Value) {x : Int32} {S1 : Sh} {m1 : Me} {st0 : List Value} (hd : decode μ.2.1 pc = .ok (.invokevirtual ix, 3)) (hq : pc + 3 = q) (hst : st0 = vs.reverse ++ .ref a :: st) (hlen : cats st ≤ 8) (hm : mOk μ' vs.length) (h1 : inT (.methodLink μ.1.cls ix μ'.1) ∧ inT (.instanceMethod μ'.1) ∧ inT (.selects μ'.1.cls μ'.1 μ'.1)) (hr : (∃ k n w, S[a]? = some (k, n) ∧ vwCl[k]? = some w ∧ w.1 = μ'.1.cls) ∨ (∃ i, a = 1000000 + i ∧ i < 32 ∧ μ'.1.cls = "java/lang/String")) (hc : call μ' (.ref a :: vs) (S, m) (some (.int x)) (S1, m1)) (k : TT P call μ (q, ls, .int x :: st, S1, m1) r σ') : TT P call μ (pc, ls, st0, S, m) r σ' := to_virt μ' vs hd hq hst hlen hm h1 hr hc k
theorem to_virtV {ix a : Nat} (μ' : MI) (vs : List Value) {S1 : Sh} {m1 : Me} {st0 : List Value} (hd : decode μ.2.1 pc = .ok (.invokevirtual ix, 3)) (hq : pc + 3 = q) (hst : st0 = vs.reverse ++ .ref a :: st) (hlen : cats st ≤ 8) (hm : mOk μ' vs.length) (h1 : inT (.methodLink μ.1.cls ix μ'.1) ∧ inT (.instanceMethod μ'.1) ∧ inT (.selects μ'.1.cls μ'.1 μ'.1)) (hr : (∃ k n w, S[a]? = some (k, n) ∧ vwCl[k]? = some w ∧ w.1 = μ'.1.cls) ∨ (∃ i, a = 1000000 + i ∧ i < 32 ∧ μ'.1.cls = "java/lang/String")) (hc : call μ' (.ref a :: vs) (S, m) none (S1, m1)) (k : TT P call μ (q, ls, st, S1, m1) r σ') : TT P call μ (pc, ls, st0, S, m) r σ' := to_virt μ' vs hd hq hst hlen hm h1 hr hc k
theorem to_virtR {ix a b : Nat} (μ' : MI) (vs : List Value) {S1 : Sh} {m1 : Me} {st0 : List Value} (hd : decode μ.2.1 pc = .ok (.invokevirtual ix, 3)) (hq : pc + 3 = q) (hst : st0 = vs.reverse ++ .ref a :: st) (hlen : cats st ≤ 8) (hm : mOk μ' vs.length) (h1 : inT (.methodLink μ.1.cls ix μ'.1) ∧ inT (.instanceMethod μ'.1) ∧ inT (.selects μ'.1.cls μ'.1 μ'.1)) (hr : (∃ k n w, S[a]? = some (k, n) ∧ vwCl[k]? = some w ∧ w.1 = μ'.1.cls) ∨ (∃ i, a = 1000000 + i ∧ i < 32 ∧ μ'.1.cls = "java/lang/String")) (hc : call μ' (.ref a :: vs) (S, m) (some (.ref b)) (S1, m1)) (k : TT P call μ (q, ls, .ref b :: st, S1, m1) r σ') : TT P call μ (pc, ls, st0, S, m) r σ' := to_virt μ' vs hd hq hst hlen hm h1 hr hc k
theorem to_statI {ix : Nat} (μ' : MI) (vs : List Value) {x : Int32} {S1 : Sh} {m1 : Me} {st0 : List Value} (hd : decode μ.2.1 pc = .ok (.invokestatic ix, 3)) (hq : pc + 3 = q) (hst : st0 = vs.reverse ++ st) (hlen : cats st ≤ 8) (hm : mOk μ' vs.length) (h1 : inT (.methodLink μ.1.cls ix μ'.1) ∨ .methodLinkNest μ.1.cls ix μ'.1 "FanParts" ∈ nestW) (h2 : inT (.static μ'.1)) (hc : call μ' vs (S, m) (some (.int x)) (S1, m1)) (k : TT P call μ (q, ls, .int x :: st, S1, m1) r σ') : TT P call μ (pc, ls, st0, S, m) r σ' := to_stat μ' vs hd hq hst hlen hm h1 h2 hc k
theorem to_statV {ix : Nat} (μ' : MI) (vs : List Value) {S1 : Sh} {m1 : Me} {st0 : List Value} (hd : decode μ.2.1 pc = .ok (.invokestatic ix, 3)) (hq : pc + 3 = q) (hst : st0 = vs.reverse ++ st) (hlen : cats st ≤ 8) (hm : mOk μ' vs.length) (h1 : inT (.methodLink μ.1.cls ix μ'.1) ∨ .methodLinkNest μ.1.cls ix μ'.1 "FanParts" ∈ nestW) (h2 : inT (.static μ'.1)) (hc : call μ' vs (S, m) none (S1, m1)) (k : TT P call μ (q, ls, st, S1, m1) r σ') : TT P call μ (pc, ls, st0, S, m) r σ' := to_stat μ' vs hd hq hst hlen hm h1 h2 hc k
end RULES3
theorem str_4 {i : Nat} (h : i < 32) : 1000000 + i < 4000000 := by omega
theorem pD_Fan : parseFieldDescriptor "LFanParts$Fan;" = some (.object "FanParts$Fan") := by decide +kernel
theorem ts_i (x : Int32) (c : Nat) (hc : c < 100) (h : ¬ x = Int32.ofNat c) : x.toInt ≠ c := by
  intro e
  apply h
  apply Int32.toInt_inj.mp
  rw [e]
  show (c : Int) = (nI c).toInt
  rw [nI_toInt (by omega)]
theorem ts_out11 {x : Int32} (h0 : ¬ x = 0) (h1 : ¬ x = 1) (h2 : ¬ x = 2) (h3 : ¬ x = 3) (h4 : ¬ x = 4) (h5 : ¬ x = 5) (h6 : ¬ x = 6) (h7 : ¬ x = 7) (h8 : ¬ x = 8) (h9 : ¬ x = 9) (h10 : ¬ x = 10) : x.toInt < 0 ∨ 10 < x.toInt := by
  have e0 := ts_i x 0 (by decide) h0
  have e1 := ts_i x 1 (by decide) h1
  have e2 := ts_i x 2 (by decide) h2
  have e3 := ts_i x 3 (by decide) h3
  have e4 := ts_i x 4 (by decide) h4
  have e5 := ts_i x 5 (by decide) h5
  have e6 := ts_i x 6 (by decide) h6
  have e7 := ts_i x 7 (by decide) h7
  have e8 := ts_i x 8 (by decide) h8
  have e9 := ts_i x 9 (by decide) h9
  have e10 := ts_i x 10 (by decide) h10
  omega
theorem ts_out10 {x : Int32} (h0 : ¬ x = 0) (h1 : ¬ x = 1) (h2 : ¬ x = 2) (h3 : ¬ x = 3) (h4 : ¬ x = 4) (h5 : ¬ x = 5) (h6 : ¬ x = 6) (h7 : ¬ x = 7) (h8 : ¬ x = 8) (h9 : ¬ x = 9) : x.toInt < 0 ∨ 9 < x.toInt := by
  have e0 := ts_i x 0 (by decide) h0
  have e1 := ts_i x 1 (by decide) h1
  have e2 := ts_i x 2 (by decide) h2
  have e3 := ts_i x 3 (by decide) h3
  have e4 := ts_i x 4 (by decide) h4
  have e5 := ts_i x 5 (by decide) h5
  have e6 := ts_i x 6 (by decide) h6
  have e7 := ts_i x 7 (by decide) h7
  have e8 := ts_i x 8 (by decide) h8
  have e9 := ts_i x 9 (by decide) h9
  omega
