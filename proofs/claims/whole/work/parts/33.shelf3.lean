section
variable {X : mj_X} {d : Nat} {σ : mj_St}
theorem mj_Mw_0 {s : Int32} (h : mj_Mw σ s = 0) : mj_inb s 8 = true ∧ ¬ σ.1 78 s.toNatClampNeg = 2 ∧ ¬ σ.1 78 s.toNatClampNeg = 0 := by
  unfold mj_Mw at h
  split at h
  · split at h
    · cases h
    · split at h
      · cases h
      · exact ⟨by assumption, by assumption, by assumption⟩
  · cases h
theorem mj_Mw_ne {s : Int32} (h : ¬ mj_Mw σ s = 0) : mj_Mw σ s = -1 ∨ mj_Mw σ s = -2 ∨ mj_Mw σ s = -3 := by
  unfold mj_Mw at h ⊢
  split
  · rename_i h1
    rw [if_pos h1] at h
    split
    · simp
    · rename_i h2
      rw [if_neg h2] at h
      split
      · simp
      · rename_i h3
        rw [if_neg h3] at h
        exact absurd rfl h
  · simp
theorem sp_now {s : Int32} (h : ¬ mj_Mw σ s = 0) {τ : mj_St} : mj_ev X (d + 1) 158 [.ref 61, .int (mj_Mw σ s)] τ = some (some (.int (mj_Mw σ s)), mj_rfM τ (mj_Mw σ s)) := by
  rcases mj_Mw_ne h with e | e | e <;> rw [e]
  · exact sp_no1
  · exact sp_no2
  · exact sp_no3
def mj_setM (σ : mj_St) (s i : Int32) (v : Int64) : mj_St := mj_setL σ 82 (60 * s.toNatClampNeg + i.toNatClampNeg) (mj_low (σ.1 79 s.toNatClampNeg) v)
theorem sp_M_set {s i : Int32} {v : Int64} (h60 : mj_Mw σ s = 0 → (σ.1 80 s.toNatClampNeg).toInt ≤ 60) : mj_ev X (d + 2) 159 [.ref 61, .int s, .int i, .long v] σ = some (if mj_Mw σ s = 0 then (if mj_lt0 i (σ.1 80 s.toNatClampNeg) = true then (some (.int 1), mj_setM σ s i v) else (some (.int (-5)), mj_rfM σ (-5))) else (some (.int (mj_Mw σ s)), mj_rfM σ (mj_Mw σ s))) := by
  refine st159 ?_
  simp only [u159_0, u159_1, u159_2, u159_5, u159_8, u159_9, u159_10, u159_13, u159_14, u159_15, u159_18, u159_19, u159_20, u159_21, u159_24, u159_25, u159_27, u159_30, u159_31, u159_32, u159_35, u159_36, u159_37, u159_40, u159_41, u159_43, u159_46, u159_47, u159_48, u159_51, u159_52, u159_53, u159_56, u159_57, u159_58, u159_61, u159_62, u159_64, u159_67, u159_68, u159_69, u159_72, u159_74, u159_75, u159_76, u159_77, u159_78, u159_79, u159_82, u159_83, u159_84, u159_87, u159_88, u159_89, u159_90, u159_91, u159_94, u159_95, u159_98, u159_99, u159_100, u159_101, u159_104, u159_105, u159_106, u159_107, u159_108, u159_111, u159_112, u159_115, u159_116, u159_117, u159_118, u159_121, u159_122, u159_123, u159_124, u159_127, u159_128, u159_129, u159_130, sp_M_isShelf, mj_cc_v, mj_cc_n, List.all_cons, List.all_nil, mj_noMk_int, mj_noMk_long, mj_noMk_ref, mj_noMk_junk, List.length_nil, List.length_cons, Nat.zero_le, Nat.reduceLeDiff, Nat.reduceAdd, Bool.and_true, Bool.true_and, Bool.and_self, Nat.reduceBNe, true_or, true_and, and_true, mj_z0, mj_z1, mj_z01, sp_no1, sp_no2, sp_no3, sp_no5]
  by_cases h : mj_Mw σ s = 0
  · obtain ⟨hs, h2, h0⟩ := mj_Mw_0 h
    simp only [h, if_true, hs, h2, h0, if_false, Bool.true_eq_false]
    cases hi : mj_lt0 i (σ.1 80 s.toNatClampNeg)
    · simp only [mj_lt0] at hi
      (repeat' split) <;> simp_all
    · have hi60 := mj_lt0_in hi (h60 h)
      obtain ⟨h1, h2⟩ := mj_lt0_eq hi
      obtain ⟨h3, h4⟩ := mj_i60' hs hi60
      simp only [h1, h2, h3, h4, if_true, if_false, true_and, mj_setM, mj_low]
      (repeat' split) <;> simp_all
  · unfold mj_Mw at h ⊢
    cases hs : mj_inb s 8
    · simp
    · simp only [hs, if_true] at h ⊢
      by_cases h2 : σ.1 78 s.toNatClampNeg = 2
      · simp [h2]
      · by_cases h0 : σ.1 78 s.toNatClampNeg = 0
        · simp [h0]
        · simp [h2, h0] at h
theorem sp_M_element {s i : Int32} (h60 : mj_inb s 8 = true → σ.1 78 s.toNatClampNeg = 1 → (σ.1 80 s.toNatClampNeg).toInt ≤ 60) : mj_ev X (d + 2) 161 [.ref 61, .int s, .int i] σ = some (some (.long (if mj_inb s 8 = true ∧ σ.1 78 s.toNatClampNeg = 1 ∧ mj_lt0 i (σ.1 80 s.toNatClampNeg) = true then σ.2.1 82 (60 * s.toNatClampNeg + i.toNatClampNeg) else 0)), σ) := by
  refine st161 ?_
  simp only [u161_0, u161_1, u161_2, u161_5, u161_8, u161_9, u161_12, u161_13, u161_14, u161_15, u161_18, u161_19, u161_22, u161_23, u161_24, u161_27, u161_28, u161_29, u161_32, u161_33, u161_36, u161_38, u161_39, u161_40, u161_41, u161_42, u161_43, u161_46, u161_47, sp_M_isShelf, mj_cc_v, mj_cc_n, List.all_cons, List.all_nil, mj_noMk_int, mj_noMk_long, mj_noMk_ref, mj_noMk_junk, List.length_nil, List.length_cons, Nat.zero_le, Nat.reduceLeDiff, Nat.reduceAdd, Bool.and_true, Bool.true_and, Bool.and_self, Nat.reduceBNe, true_or, true_and, and_true, mj_z0, mj_z1, mj_z01]
  cases hs : mj_inb s 8
  · simp
  · by_cases h1 : σ.1 78 s.toNatClampNeg = 1
    · cases hi : mj_lt0 i (σ.1 80 s.toNatClampNeg)
      · simp only [mj_lt0] at hi
        simp only [h1, if_true, if_false, Bool.true_eq_false]
        (repeat' split) <;> simp_all
      · have hi60 := mj_lt0_in hi (h60 hs h1)
        obtain ⟨q1, q2⟩ := mj_lt0_eq hi
        obtain ⟨h3, h4⟩ := mj_i60' hs hi60
        simp [h1, q1, q2, h3, h4]
    · simp [h1]
theorem sp_M_put {s i : Int32} : mj_ev X (d + 2) 162 [.ref 61, .int s, .int i] σ = some (if mj_inb s 8 = true ∧ (i = -1 ∨ mj_lt0 i (σ.1 61 0) = true) then (some (.int (if i = -1 then 0 else 1)), mj_setI (mj_setI σ 78 s.toNatClampNeg (if i = -1 then 0 else 2)) 81 s.toNatClampNeg i) else (some (.int (-1)), mj_rfM σ (-1))) := by
  refine st162 ?_
  simp only [u162_0, u162_1, u162_2, u162_5, u162_8, u162_9, u162_10, u162_13, u162_14, u162_15, u162_18, u162_21, u162_22, u162_23, u162_26, u162_27, u162_28, u162_31, u162_32, u162_33, u162_34, u162_37, u162_38, u162_41, u162_42, u162_43, u162_44, u162_47, u162_48, u162_49, u162_50, u162_51, u162_52, u162_55, u162_56, u162_59, u162_60, sp_M_isShelf, sp_M_isPromise, mj_cc_v, mj_cc_n, List.all_cons, List.all_nil, mj_noMk_int, mj_noMk_long, mj_noMk_ref, mj_noMk_junk, List.length_nil, List.length_cons, Nat.zero_le, Nat.reduceLeDiff, Nat.reduceAdd, Bool.and_true, Bool.true_and, Bool.and_self, Nat.reduceBNe, true_or, true_and, and_true, mj_z0, mj_z1, mj_z01, sp_no1]
  cases hs : mj_inb s 8
  · simp
  · by_cases hi : i = -1
    · simp [hi]
    · cases hh : mj_lt0 i (σ.1 61 0) <;> simp [hi]
theorem sp_M_holds {s : Int32} : mj_ev X (d + 2) 164 [.ref 61, .int s] σ = some (some (.int (if mj_inb s 8 = true ∧ ¬ σ.1 78 s.toNatClampNeg = 0 then (if σ.1 78 s.toNatClampNeg = 1 then 100 + σ.1 79 s.toNatClampNeg else σ.1 81 s.toNatClampNeg) else -1)), σ) := by
  refine st164 ?_
  simp only [u164_0, u164_1, u164_2, u164_5, u164_8, u164_9, u164_12, u164_13, u164_14, u164_17, u164_18, u164_19, u164_20, u164_23, u164_24, u164_25, u164_26, u164_29, u164_31, u164_32, u164_35, u164_36, u164_37, u164_38, u164_41, u164_42, u164_45, u164_46, u164_47, sp_M_isShelf, mj_cc_v, mj_cc_n, List.all_cons, List.all_nil, mj_noMk_int, mj_noMk_long, mj_noMk_ref, mj_noMk_junk, List.length_nil, List.length_cons, Nat.zero_le, Nat.reduceLeDiff, Nat.reduceAdd, Bool.and_true, Bool.true_and, Bool.and_self, Nat.reduceBNe, true_or, true_and, and_true, mj_z0, mj_z1, mj_z01]
  cases hs : mj_inb s 8
  · simp
  · by_cases h0 : σ.1 78 s.toNatClampNeg = 0
    · simp [h0]
    · by_cases h1 : σ.1 78 s.toNatClampNeg = 1 <;> simp [h0, h1]
theorem sp_fault : mj_ev X (d + 1) 42 [.ref 0] σ = some (some (.int (σ.1 0 12)), σ) := by
  refine st42 ?_
  simp only [u42_0, u42_1, u42_4]
theorem sp_M_fault : mj_ev X (d + 1) 183 [.ref 61] σ = some (some (.int (σ.1 61 3)), σ) := by
  refine st183 ?_
  simp only [u183_0, u183_1, u183_4]
theorem sp_hands {h n : Int32} : mj_ev X (d + 2) 44 [.ref 0, .int h, .int n] σ = some (if mj_inb h 12 = true then (if n < 0 ∨ 2 < n then (some (.int (-6)), mj_rfC σ (-6)) else (some (.int (σ.1 27 h.toNatClampNeg)), mj_setI σ 27 h.toNatClampNeg n)) else (some (.int (-1)), mj_rfC σ (-1))) := by
  refine st44 ?_
  simp only [u44_0, u44_1, u44_4, u44_7, u44_8, u44_9, u44_12, u44_13, u44_14, u44_17, u44_18, u44_19, u44_22, u44_23, u44_25, u44_28, u44_29, u44_30, u44_33, u44_36, u44_37, u44_38, u44_39, u44_40, u44_43, u44_46, u44_47, u44_48, u44_49, u44_50, sp_isHour, mj_cc_v, mj_cc_n, List.all_cons, List.all_nil, mj_noMk_int, mj_noMk_long, mj_noMk_ref, mj_noMk_junk, List.length_nil, List.length_cons, Nat.zero_le, Nat.reduceLeDiff, Nat.reduceAdd, Bool.and_true, Bool.true_and, Bool.and_self, Nat.reduceBNe, true_or, true_and, and_true, mj_z0, mj_z1, mj_z01, sp_rf1, sp_rf6]
  cases hs : mj_inb h 12
  · simp
  · by_cases h1 : n < 0
    · simp [h1]
    · by_cases h2 : 2 < n <;> simp [h1, h2]
theorem sp_M_hands {h n : Int32} : mj_ev X (d + 2) 185 [.ref 61, .int h, .int n] σ = some (if mj_inb h 12 = true then (if n < 0 ∨ 2 < n then (some (.int (-6)), mj_rfM σ (-6)) else (some (.int (σ.1 63 h.toNatClampNeg)), mj_setI σ 63 h.toNatClampNeg n)) else (some (.int (-1)), mj_rfM σ (-1))) := by
  refine st185 ?_
  have e := mj_rng (x := h) (n := 12) (k := 12) rfl
  have e2 : (11 < h) = ¬ (h < 12) := by
    rw [Int32.lt_iff_toInt_lt, Int32.lt_iff_toInt_lt]
    show ((11 : Int) < h.toInt) = ¬ (h.toInt < 12)
    simp
    omega
  simp only [u185_0, u185_1, u185_4, u185_5, u185_7, u185_10, u185_11, u185_12, u185_15, u185_16, u185_17, u185_20, u185_21, u185_22, u185_25, u185_26, u185_28, u185_31, u185_32, u185_33, u185_36, u185_37, u185_38, u185_39, u185_40, u185_43, u185_44, u185_45, u185_46, u185_47, mj_cc_v, mj_cc_n, List.all_cons, List.all_nil, mj_noMk_int, mj_noMk_long, mj_noMk_ref, mj_noMk_junk, List.length_nil, List.length_cons, Nat.zero_le, Nat.reduceLeDiff, Nat.reduceAdd, Bool.and_true, Bool.true_and, Bool.and_self, Nat.reduceBNe, true_or, true_and, and_true, mj_z0, mj_z1, mj_z01, sp_no1, sp_no6, e2]
  cases hs : mj_inb h 12
  · rw [hs] at e
    (repeat' split) <;> simp_all
  · rw [hs] at e
    simp only [Bool.true_eq, Bool.and_eq_true, Bool.not_eq_true', decide_eq_false_iff_not, decide_eq_true_eq] at e
    by_cases h1 : n < 0
    · simp [h1, e]
    · by_cases h2 : 2 < n <;> simp [h1, h2, e]
theorem sp_known {f h : Int32} : mj_ev X (d + 2) 46 [.ref 0, .int f, .int h] σ = some (if mj_inb f 3 = true ∧ mj_inb h 12 = true then (some (.int (σ.1 28 f.toNatClampNeg)), mj_setI σ 28 f.toNatClampNeg h) else (some (.int (-1)), mj_rfC σ (-1))) := by
  refine st46 ?_
  simp only [u46_0, u46_1, u46_4, u46_7, u46_8, u46_11, u46_14, u46_15, u46_16, u46_19, u46_20, u46_21, u46_24, u46_27, u46_28, u46_29, u46_30, u46_31, u46_34, u46_37, u46_38, u46_39, u46_40, u46_41, sp_isHour, sp_isFork, mj_cc_v, mj_cc_n, List.all_cons, List.all_nil, mj_noMk_int, mj_noMk_long, mj_noMk_ref, mj_noMk_junk, List.length_nil, List.length_cons, Nat.zero_le, Nat.reduceLeDiff, Nat.reduceAdd, Bool.and_true, Bool.true_and, Bool.and_self, Nat.reduceBNe, true_or, true_and, and_true, mj_z0, mj_z1, mj_z01, sp_rf1]
  cases hf : mj_inb f 3
  · simp
  · cases hh : mj_inb h 12 <;> simp
theorem sp_M_known {f h : Int32} : mj_ev X (d + 2) 186 [.ref 61, .int f, .int h] σ = some (if mj_inb f 3 = true ∧ mj_inb h 12 = true then (some (.int (σ.1 64 f.toNatClampNeg)), mj_setI σ 64 f.toNatClampNeg h) else (some (.int (-1)), mj_rfM σ (-1))) := by
  refine st186 ?_
  have e := mj_rng (x := h) (n := 12) (k := 12) rfl
  have e1 := mj_rng (x := f) (n := 3) (k := 3) rfl
  have e2 : (11 < h) = ¬ (h < 12) := by
    rw [Int32.lt_iff_toInt_lt, Int32.lt_iff_toInt_lt]
    show ((11 : Int) < h.toInt) = ¬ (h.toInt < 12)
    simp
    omega
  have e3 : (2 < f) = ¬ (f < 3) := by
    rw [Int32.lt_iff_toInt_lt, Int32.lt_iff_toInt_lt]
    show ((2 : Int) < f.toInt) = ¬ (f.toInt < 3)
    simp
    omega
  simp only [u186_0, u186_1, u186_4, u186_5, u186_6, u186_9, u186_10, u186_13, u186_14, u186_16, u186_19, u186_20, u186_21, u186_24, u186_25, u186_26, u186_29, u186_30, u186_31, u186_32, u186_33, u186_36, u186_37, u186_38, u186_39, u186_40, mj_cc_v, mj_cc_n, List.all_cons, List.all_nil, mj_noMk_int, mj_noMk_long, mj_noMk_ref, mj_noMk_junk, List.length_nil, List.length_cons, Nat.zero_le, Nat.reduceLeDiff, Nat.reduceAdd, Bool.and_true, Bool.true_and, Bool.and_self, Nat.reduceBNe, true_or, true_and, and_true, mj_z0, mj_z1, mj_z01, sp_no1, e2, e3]
  by_cases a : f < 0
  · simp [a, e1]
  · by_cases b : f < 3
    · by_cases c : h < 0
      · simp [a, b, c, e, e1]
      · by_cases g : h < 12 <;> simp [a, b, c, g, e, e1]
    · simp [a, b, e1]
theorem sp_trace {i : Int32} : mj_ev X (d + 1) 150 [.ref 0, .int i] σ = some (some (.int (if ¬ i < 0 ∧ i < σ.1 0 13 ∧ i < 20 then σ.1 13 i.toNatClampNeg else -1)), σ) := by
  refine st150 ?_
  have e := mj_rng (x := i) (n := 20) (k := 20) rfl
  simp only [u150_0, u150_1, u150_4, u150_5, u150_6, u150_9, u150_12, u150_13, u150_15, u150_18, u150_19, u150_22, u150_23, u150_24, u150_27, u150_28, mj_cc_v, mj_cc_n, List.all_cons, List.all_nil, mj_noMk_int, mj_noMk_long, mj_noMk_ref, mj_noMk_junk, List.length_nil, List.length_cons, Nat.zero_le, Nat.reduceLeDiff, Nat.reduceAdd, Bool.and_true, Bool.true_and, Bool.and_self, Nat.reduceBNe, true_or, true_and, and_true, mj_z0, mj_z1, mj_z01]
  by_cases h0 : i < 0
  · simp [h0]
  · by_cases h1 : i < σ.1 0 13
    · by_cases h2 : i < 20
      · simp [h0, h2] at e
        simp [h0, h1, h2, e]
      · simp [h0, h1, h2]
    · simp [h0, h1]
theorem sp_M_trace {i : Int32} : mj_ev X (d + 1) 247 [.ref 61, .int i] σ = some (some (.int (if ¬ i < 0 ∧ i < 20 ∧ i < σ.1 61 59 then σ.1 89 i.toNatClampNeg else -1)), σ) := by
  refine st247 ?_
  have e := mj_rng (x := i) (n := 20) (k := 20) rfl
  simp only [u247_0, u247_1, u247_4, u247_5, u247_7, u247_10, u247_11, u247_12, u247_15, u247_18, u247_19, u247_22, u247_23, u247_24, u247_27, u247_28, mj_cc_v, mj_cc_n, List.all_cons, List.all_nil, mj_noMk_int, mj_noMk_long, mj_noMk_ref, mj_noMk_junk, List.length_nil, List.length_cons, Nat.zero_le, Nat.reduceLeDiff, Nat.reduceAdd, Bool.and_true, Bool.true_and, Bool.and_self, Nat.reduceBNe, true_or, true_and, and_true, mj_z0, mj_z1, mj_z01]
  by_cases h0 : i < 0
  · simp [h0]
  · by_cases h2 : i < 20
    · simp [h0, h2] at e
      by_cases h1 : i < σ.1 61 59 <;> simp [h0, h1, h2, e]
    · simp [h0, h2]
end
