theorem sp_isShelf {X : mj_X} {d : Nat} {x : Int32} {σ : mj_St} : mj_ev X (d + 1) 2 [.int x] σ = some (some (.int (mj_z (mj_inb x 8))), σ) := by
  refine st2 ?_
  rw [mj_rng (n := 8) (k := 8) rfl]
  simp only [u2_0, u2_1, u2_4, u2_5, u2_7, u2_10, u2_11, u2_14, u2_15]
  (repeat' split) <;> simp [mj_z, *]
theorem sp_isHour {X : mj_X} {d : Nat} {x : Int32} {σ : mj_St} : mj_ev X (d + 1) 45 [.int x] σ = some (some (.int (mj_z (mj_inb x 12))), σ) := by
  refine st45 ?_
  rw [mj_rng (n := 12) (k := 12) rfl]
  simp only [u45_0, u45_1, u45_4, u45_5, u45_7, u45_10, u45_11, u45_14, u45_15]
  (repeat' split) <;> simp [mj_z, *]
theorem sp_isFork {X : mj_X} {d : Nat} {x : Int32} {σ : mj_St} : mj_ev X (d + 1) 47 [.int x] σ = some (some (.int (mj_z (mj_inb x 3))), σ) := by
  refine st47 ?_
  rw [mj_rng (n := 3) (k := 3) rfl]
  simp only [u47_0, u47_1, u47_4, u47_5, u47_6, u47_9, u47_10, u47_13, u47_14]
  (repeat' split) <;> simp [mj_z, *]
theorem sp_isOutcome {X : mj_X} {d : Nat} {x : Int32} {σ : mj_St} : mj_ev X (d + 1) 52 [.int x] σ = some (some (.int (mj_z (mj_inb x 8))), σ) := by
  refine st52 ?_
  rw [mj_rng (n := 8) (k := 8) rfl]
  simp only [u52_0, u52_1, u52_4, u52_5, u52_7, u52_10, u52_11, u52_14, u52_15]
  (repeat' split) <;> simp [mj_z, *]
theorem sp_isPerson {X : mj_X} {d : Nat} {x : Int32} {σ : mj_St} : mj_ev X (d + 1) 128 [.int x] σ = some (some (.int (mj_z (mj_inb x 6))), σ) := by
  refine st128 ?_
  rw [mj_rng (n := 6) (k := 6) rfl]
  simp only [u128_0, u128_1, u128_4, u128_5, u128_7, u128_10, u128_11, u128_14, u128_15]
  (repeat' split) <;> simp [mj_z, *]
theorem sp_M_isShelf {X : mj_X} {d : Nat} {x : Int32} {σ : mj_St} : mj_ev X (d + 1) 157 [.ref 61, .int x] σ = some (some (.int (mj_z (mj_inb x 8))), σ) := by
  refine st157 ?_
  rw [mj_rng (n := 8) (k := 8) rfl]
  simp only [u157_0, u157_1, u157_4, u157_5, u157_7, u157_10, u157_11, u157_14, u157_15]
  (repeat' split) <;> simp [mj_z, *]
theorem sp_M_isOutcome {X : mj_X} {d : Nat} {x : Int32} {σ : mj_St} : mj_ev X (d + 1) 191 [.ref 61, .int x] σ = some (some (.int (mj_z (mj_inb x 8))), σ) := by
  refine st191 ?_
  rw [mj_rng (n := 8) (k := 8) rfl]
  simp only [u191_0, u191_1, u191_4, u191_5, u191_7, u191_10, u191_11, u191_14, u191_15]
  (repeat' split) <;> simp [mj_z, *]
/-- below n, and no less than 0 -/
def mj_lt0 (i n : Int32) : Bool := !(decide (i < 0)) && decide (i < n)
theorem mj_lt0_in {i n : Int32} {k : Nat} (h : mj_lt0 i n = true) (hn : n.toInt ≤ k) : mj_inb i k = true := by
  simp only [mj_lt0, Bool.and_eq_true, Bool.not_eq_true', decide_eq_false_iff_not, decide_eq_true_eq] at h
  rw [mj_in_iff]
  rintro (q | q)
  · exact h.1 q
  · have h1 := mj_clamp h.1
    have h2 := Int32.lt_iff_toInt_lt.mp h.2
    omega
theorem mj_lt0_eq {i n : Int32} (h : mj_lt0 i n = true) : ¬ i < 0 ∧ i < n := by
  simpa only [mj_lt0, Bool.and_eq_true, Bool.not_eq_true', decide_eq_false_iff_not, decide_eq_true_eq] using h
def mj_wk (k : Int32) : Bool := !(decide (k < 1)) && !(decide (4 < k))
theorem sp_has {X : mj_X} {d : Nat} {x : Int32} {σ : mj_St} : mj_ev X (d + 1) 13 [.ref 14, .int x] σ = some (some (.int (mj_z (mj_lt0 x (σ.1 14 14)))), σ) := by
  refine st13 ?_
  simp only [u13_0, u13_1, u13_4, u13_5, u13_6, u13_9, u13_12, u13_13, u13_16, u13_17]
  (repeat' split) <;> simp [mj_z, mj_lt0, *]
theorem sp_isWorkKind {X : mj_X} {d : Nat} {x : Int32} {σ : mj_St} : mj_ev X (d + 1) 38 [.int x] σ = some (some (.int (mj_z (mj_wk x))), σ) := by
  refine st38 ?_
  simp only [u38_0, u38_1, u38_2, u38_5, u38_6, u38_7, u38_10, u38_11, u38_14, u38_15]
  (repeat' split) <;> simp [mj_z, mj_wk, *]
theorem sp_isWork {X : mj_X} {d : Nat} {x : Int32} {σ : mj_St} (hn : (σ.1 14 14).toInt ≤ 9) : mj_ev X (d + 2) 37 [.ref 14, .int x] σ = some (some (.int (mj_z (mj_lt0 x (σ.1 14 14) && mj_wk (σ.1 15 x.toNatClampNeg)))), σ) := by
  refine st37 ?_
  simp only [u37_0, u37_1, u37_2, u37_5, u37_8, u37_9, u37_12, u37_13, u37_14, u37_17, u37_20, u37_21, u37_24, u37_25, sp_has, sp_isWorkKind, mj_cc_v, mj_cc_n, List.all_cons, List.all_nil, mj_noMk_int, mj_noMk_long, mj_noMk_ref, mj_noMk_junk, List.length_nil, List.length_cons, Nat.zero_le, Nat.reduceLeDiff, Nat.reduceAdd, Bool.and_true, Bool.true_and, Bool.and_self, Nat.reduceBNe, true_or, true_and, and_true, mj_z0, mj_z1, mj_z01]
  cases h : mj_lt0 x (σ.1 14 14)
  · simp [mj_z, u37_0, u37_1, u37_2, u37_5, u37_8, u37_9, u37_12, u37_13, u37_14, u37_17, u37_20, u37_21, u37_24, u37_25]
  · have hi := mj_lt0_in h hn
    simp only [hi, if_false, Bool.true_eq_false, u37_0, u37_1, u37_2, u37_5, u37_8, u37_9, u37_12, u37_13, u37_14, u37_17, u37_20, u37_21, u37_24, u37_25, mj_cc_v, mj_cc_n, List.all_cons, List.all_nil, mj_noMk_int, mj_noMk_long, mj_noMk_ref, mj_noMk_junk, List.length_nil, List.length_cons, Nat.zero_le, Nat.reduceLeDiff, Nat.reduceAdd, Bool.and_true, Bool.true_and, Bool.and_self, Nat.reduceBNe, true_or, true_and, and_true, mj_z0, mj_z1, mj_z01, sp_isWorkKind]
    cases hk : mj_wk (σ.1 15 x.toNatClampNeg) <;> simp [mj_z, u37_0, u37_1, u37_2, u37_5, u37_8, u37_9, u37_12, u37_13, u37_14, u37_17, u37_20, u37_21, u37_24, u37_25, hk]
theorem sp_refuse {X : mj_X} {d : Nat} {w : Int32} {σ : mj_St} (h1 : 0 < -w) (h2 : mj_inb (-w) 8 = true) : mj_ev X (d + 1) 3 [.ref 0, .int w] σ = some (some (.int w), mj_setI σ 12 (-w).toNatClampNeg (σ.1 12 (-w).toNatClampNeg + 1)) := by
  have h3 : -w < 8 := by
    have := mj_rng (x := -w) (n := 8) (k := 8) rfl
    rw [h2] at this
    simp at this
    exact this.2
  refine st3 ?_
  simp only [u3_0, u3_1, u3_2, u3_3, u3_4, u3_7, u3_8, u3_9, u3_12, u3_13, u3_16, u3_17, u3_20, u3_21, u3_22, u3_23, u3_24, u3_25, u3_26, u3_27, h1, h2, h3, if_true, true_and]
def mj_rr (σ : mj_St) (s : Int32) : Int32 := if mj_inb s 8 = true then (if σ.1 1 s.toNatClampNeg < 100 then (if σ.1 1 s.toNatClampNeg = -1 then -3 else -2) else 0) else -1
theorem sp_rowRefusal {X : mj_X} {d : Nat} {s : Int32} {σ : mj_St} : mj_ev X (d + 2) 6 [.ref 0, .int s] σ = some (some (.int (mj_rr σ s)), σ) := by
  refine st6 ?_
  simp only [u6_0, u6_1, u6_4, u6_7, u6_8, u6_9, u6_10, u6_13, u6_14, u6_15, u6_17, u6_20, u6_21, u6_22, u6_23, u6_26, u6_27, u6_28, u6_29, u6_32, u6_34, u6_37, u6_39, sp_isShelf, mj_cc_v, mj_cc_n, List.all_cons, List.all_nil, mj_noMk_int, mj_noMk_long, mj_noMk_ref, mj_noMk_junk, List.length_nil, List.length_cons, Nat.zero_le, Nat.reduceLeDiff, Nat.reduceAdd, Bool.and_true, Bool.true_and, Bool.and_self, Nat.reduceBNe, true_or, true_and, and_true, mj_z0, mj_z1, mj_z01, mj_rr]
  cases h : mj_inb s 8
  · simp [u6_0, u6_1, u6_4, u6_7, u6_8, u6_9, u6_10, u6_13, u6_14, u6_15, u6_17, u6_20, u6_21, u6_22, u6_23, u6_26, u6_27, u6_28, u6_29, u6_32, u6_34, u6_37, u6_39]
  · simp [u6_0, u6_1, u6_4, u6_7, u6_8, u6_9, u6_10, u6_13, u6_14, u6_15, u6_17, u6_20, u6_21, u6_22, u6_23, u6_26, u6_27, u6_28, u6_29, u6_32, u6_34, u6_37, u6_39, h]
    (repeat' split) <;> simp_all
theorem sp_M_no {X : mj_X} {d : Nat} {w : Int32} {σ : mj_St} (h2 : mj_inb (-w) 8 = true) : mj_ev X (d + 1) 158 [.ref 61, .int w] σ = some (some (.int w), mj_setI σ 62 (-w).toNatClampNeg (σ.1 62 (-w).toNatClampNeg + 1)) := by
  refine st158 ?_
  simp only [u158_0, u158_1, u158_4, u158_5, u158_6, u158_7, u158_8, u158_9, u158_10, u158_11, u158_12, h2, true_and]
theorem sp_M_noTen {X : mj_X} {d : Nat} {w : Int32} {σ : mj_St} (h2 : mj_inb (-w) 8 = true) : mj_ev X (d + 1) 189 [.ref 61, .int w] σ = some (some (.int (w - 10)), mj_setI σ 62 (-w).toNatClampNeg (σ.1 62 (-w).toNatClampNeg + 1)) := by
  refine st189 ?_
  simp only [u189_0, u189_1, u189_4, u189_5, u189_6, u189_7, u189_8, u189_9, u189_10, u189_11, u189_12, u189_14, u189_15, h2, true_and]
theorem sp_M_isPromise {X : mj_X} {d : Nat} {x : Int32} {σ : mj_St} : mj_ev X (d + 1) 163 [.ref 61, .int x] σ = some (some (.int (mj_z (mj_lt0 x (σ.1 61 0)))), σ) := by
  refine st163 ?_
  simp only [u163_0, u163_1, u163_4, u163_5, u163_6, u163_9, u163_12, u163_13, u163_16, u163_17]
  (repeat' split) <;> simp [mj_z, mj_lt0, *]
theorem sp_M_isWork {X : mj_X} {d : Nat} {x : Int32} {σ : mj_St} (hn : (σ.1 61 0).toInt ≤ 9) : mj_ev X (d + 1) 179 [.ref 61, .int x] σ = some (some (.int (mj_z (mj_lt0 x (σ.1 61 0) && decide (σ.1 65 x.toNatClampNeg < 5)))), σ) := by
  refine st179 ?_
  cases h : mj_lt0 x (σ.1 61 0)
  · simp only [u179_0, u179_1, u179_4, u179_5, u179_6, u179_9, u179_12, u179_13, u179_16, u179_17, u179_18, u179_19, u179_22, u179_23, u179_26, u179_27]
    simp only [mj_lt0] at h
    (repeat' split) <;> simp_all [mj_z]
  · have hi := mj_lt0_in h hn
    obtain ⟨h1, h2⟩ := mj_lt0_eq h
    simp only [u179_0, u179_1, u179_4, u179_5, u179_6, u179_9, u179_12, u179_13, u179_16, u179_17, u179_18, u179_19, u179_22, u179_23, u179_26, u179_27, h1, h2, hi, if_true, if_false, true_and]
    split <;> simp_all [mj_z]
def mj_Mw (σ : mj_St) (s : Int32) : Int32 := if mj_inb s 8 = true then (if σ.1 78 s.toNatClampNeg = 2 then -2 else if σ.1 78 s.toNatClampNeg = 0 then -3 else 0) else -1
theorem sp_M_wants {X : mj_X} {d : Nat} {s : Int32} {σ : mj_St} : mj_ev X (d + 2) 168 [.ref 61, .int s] σ = some (some (.int (mj_Mw σ s)), σ) := by
  refine st168 ?_
  simp only [u168_0, u168_1, u168_2, u168_5, u168_8, u168_9, u168_12, u168_13, u168_16, u168_17, u168_18, u168_19, u168_22, u168_24, u168_27, u168_28, u168_31, u168_32, u168_33, u168_36, u168_38, u168_41, u168_42, sp_M_isShelf, mj_cc_v, mj_cc_n, List.all_cons, List.all_nil, mj_noMk_int, mj_noMk_long, mj_noMk_ref, mj_noMk_junk, List.length_nil, List.length_cons, Nat.zero_le, Nat.reduceLeDiff, Nat.reduceAdd, Bool.and_true, Bool.true_and, Bool.and_self, Nat.reduceBNe, true_or, true_and, and_true, mj_z0, mj_z1, mj_z01, mj_Mw]
  cases h : mj_inb s 8
  · simp [u168_0, u168_1, u168_2, u168_5, u168_8, u168_9, u168_12, u168_13, u168_16, u168_17, u168_18, u168_19, u168_22, u168_24, u168_27, u168_28, u168_31, u168_32, u168_33, u168_36, u168_38, u168_41, u168_42]
  · simp [u168_0, u168_1, u168_2, u168_5, u168_8, u168_9, u168_12, u168_13, u168_16, u168_17, u168_18, u168_19, u168_22, u168_24, u168_27, u168_28, u168_31, u168_32, u168_33, u168_36, u168_38, u168_41, u168_42, h]
    (repeat' split) <;> simp_all
/-- a loop that counts -/
theorem mj_count {X : mj_X} {call : mj_Call} {oc : Nat} {ret : Option FieldType} {cc : ByteArray} {r : mj_Rs} {S : Nat → mj_Cf} {N : Nat} (step : ∀ k, k < N → mj_Runs X call oc ret cc (S (k + 1)) r → mj_Runs X call oc ret cc (S k) r) (h : mj_Runs X call oc ret cc (S N) r) : ∀ k, k ≤ N → mj_Runs X call oc ret cc (S k) r := by
  intro k hk
  obtain ⟨j, rfl⟩ := Nat.exists_eq_add_of_le hk
  induction j generalizing k with
  | zero => exact h
  | succ j ih => exact step k (by omega) (by have := ih (k + 1) (fun i hi => step i (by omega)) (by rw [show k + 1 + j = k + (j + 1) by omega]; exact h) (by omega); exact this)
