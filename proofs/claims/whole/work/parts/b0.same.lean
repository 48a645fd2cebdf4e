section
variable {X : mj_X} {d : Nat} {σ τ ρ : mj_St}
def mj_us (x s : Int32) : Int32 := (x.toUInt32 >>> (s.toUInt32 &&& Int32.toUInt32 31)).toInt32
def mj_tzs (K s a : Int32) (q : Int32 × Int32) : Int32 × Int32 := if K < q.1 then (mj_us q.1 s, q.2 + a) else q
def mj_tz (x : Int32) : Int32 := if 0 < (x ^^^ -1) &&& (x - 1) then (mj_tzs 4 2 2 (mj_tzs 16 4 4 (mj_tzs 256 8 8 (mj_tzs 65536 16 16 ((x ^^^ -1) &&& (x - 1), 1))))).2 + mj_us (mj_tzs 4 2 2 (mj_tzs 16 4 4 (mj_tzs 256 8 8 (mj_tzs 65536 16 16 ((x ^^^ -1) &&& (x - 1), 1))))).1 1 else ((x ^^^ -1) &&& (x - 1)) &&& 32
theorem sp_nTZ {x : Int32} : mj_ev X (d + 1) 69 [.int x] σ = some (some (.int (mj_tz x)), σ) := by
  have b4 : ∀ q : Int32 × Int32, mj_Runs X (mj_ev X d) 9 (some .int) prog_9_method_48_code (74, [.int q.1, .int q.2], [], σ) (some (.int (q.2 + mj_us q.1 1)), σ) := by
    intro q
    refine u69_74.mpr ?_
    simp only [u69_0, u69_1, u69_2, u69_3, u69_4, u69_5, u69_6, u69_7, u69_8, u69_9, u69_12, u69_13, u69_15, u69_16, u69_17, u69_18, u69_19, u69_20, u69_23, u69_26, u69_29, u69_30, u69_32, u69_33, u69_35, u69_38, u69_41, u69_44, u69_45, u69_47, u69_48, u69_50, u69_52, u69_55, u69_58, u69_59, u69_60, u69_61, u69_63, u69_64, u69_67, u69_70, u69_71, u69_72, u69_73, u69_75, u69_76, u69_77, u69_78, u69_79, mj_us, mj_cc_v, mj_cc_n, List.all_cons, List.all_nil, mj_noMk_int, mj_noMk_long, mj_noMk_ref, mj_noMk_junk, List.length_nil, List.length_cons, Nat.zero_le, Nat.reduceLeDiff, Nat.reduceAdd, Bool.and_true, Bool.true_and, Bool.and_self, Nat.reduceBNe, true_or, or_true, true_and, and_true, mj_z0, mj_z1, mj_z01, decide_true, decide_false, Bool.true_and, Bool.false_and, Bool.and_true, Bool.and_false, Bool.true_or, Bool.false_or, Bool.or_false, Bool.or_true, Bool.not_true, Bool.not_false, Bool.and_self, Bool.or_self, if_true, if_false, Bool.true_eq_false, Bool.false_eq_true, not_true, not_false_eq_true]
  have b3 : ∀ q : Int32 × Int32, mj_Runs X (mj_ev X d) 9 (some .int) prog_9_method_48_code (62, [.int q.1, .int q.2], [], σ) (some (.int ((mj_tzs 4 2 2 q).2 + mj_us (mj_tzs 4 2 2 q).1 1)), σ) := by
    intro q
    have h := b4 (mj_tzs 4 2 2 q)
    refine u69_62.mpr ?_
    unfold mj_tzs at h ⊢
    by_cases c : 4 < q.1
    · rw [if_pos c] at h ⊢
      simp only [u69_0, u69_1, u69_2, u69_3, u69_4, u69_5, u69_6, u69_7, u69_8, u69_9, u69_12, u69_13, u69_15, u69_16, u69_17, u69_18, u69_19, u69_20, u69_23, u69_26, u69_29, u69_30, u69_32, u69_33, u69_35, u69_38, u69_41, u69_44, u69_45, u69_47, u69_48, u69_50, u69_52, u69_55, u69_58, u69_59, u69_60, u69_61, u69_63, u69_64, u69_67, u69_70, u69_71, u69_72, u69_73, u69_75, u69_76, u69_77, u69_78, u69_79, eq_true c, mj_cc_v, mj_cc_n, List.all_cons, List.all_nil, mj_noMk_int, mj_noMk_long, mj_noMk_ref, mj_noMk_junk, List.length_nil, List.length_cons, Nat.zero_le, Nat.reduceLeDiff, Nat.reduceAdd, Bool.and_true, Bool.true_and, Bool.and_self, Nat.reduceBNe, true_or, or_true, true_and, and_true, mj_z0, mj_z1, mj_z01, decide_true, decide_false, Bool.true_and, Bool.false_and, Bool.and_true, Bool.and_false, Bool.true_or, Bool.false_or, Bool.or_false, Bool.or_true, Bool.not_true, Bool.not_false, Bool.and_self, Bool.or_self, if_true, if_false, Bool.true_eq_false, Bool.false_eq_true, not_true, not_false_eq_true]
      exact h
    · rw [if_neg c] at h ⊢
      simp only [u69_0, u69_1, u69_2, u69_3, u69_4, u69_5, u69_6, u69_7, u69_8, u69_9, u69_12, u69_13, u69_15, u69_16, u69_17, u69_18, u69_19, u69_20, u69_23, u69_26, u69_29, u69_30, u69_32, u69_33, u69_35, u69_38, u69_41, u69_44, u69_45, u69_47, u69_48, u69_50, u69_52, u69_55, u69_58, u69_59, u69_60, u69_61, u69_63, u69_64, u69_67, u69_70, u69_71, u69_72, u69_73, u69_75, u69_76, u69_77, u69_78, u69_79, eq_false c, mj_cc_v, mj_cc_n, List.all_cons, List.all_nil, mj_noMk_int, mj_noMk_long, mj_noMk_ref, mj_noMk_junk, List.length_nil, List.length_cons, Nat.zero_le, Nat.reduceLeDiff, Nat.reduceAdd, Bool.and_true, Bool.true_and, Bool.and_self, Nat.reduceBNe, true_or, or_true, true_and, and_true, mj_z0, mj_z1, mj_z01, decide_true, decide_false, Bool.true_and, Bool.false_and, Bool.and_true, Bool.and_false, Bool.true_or, Bool.false_or, Bool.or_false, Bool.or_true, Bool.not_true, Bool.not_false, Bool.and_self, Bool.or_self, if_true, if_false, Bool.true_eq_false, Bool.false_eq_true, not_true, not_false_eq_true]
      exact h
  have b2 : ∀ q : Int32 × Int32, mj_Runs X (mj_ev X d) 9 (some .int) prog_9_method_48_code (49, [.int q.1, .int q.2], [], σ) (some (.int ((mj_tzs 4 2 2 (mj_tzs 16 4 4 q)).2 + mj_us (mj_tzs 4 2 2 (mj_tzs 16 4 4 q)).1 1)), σ) := by
    intro q
    have h := b3 (mj_tzs 16 4 4 q)
    generalize mj_tzs 4 2 2 (mj_tzs 16 4 4 q) = z at *
    refine u69_49.mpr ?_
    unfold mj_tzs at h
    by_cases c : 16 < q.1
    · rw [if_pos c] at h
      simp only [u69_0, u69_1, u69_2, u69_3, u69_4, u69_5, u69_6, u69_7, u69_8, u69_9, u69_12, u69_13, u69_15, u69_16, u69_17, u69_18, u69_19, u69_20, u69_23, u69_26, u69_29, u69_30, u69_32, u69_33, u69_35, u69_38, u69_41, u69_44, u69_45, u69_47, u69_48, u69_50, u69_52, u69_55, u69_58, u69_59, u69_60, u69_61, u69_63, u69_64, u69_67, u69_70, u69_71, u69_72, u69_73, u69_75, u69_76, u69_77, u69_78, u69_79, eq_true c, mj_cc_v, mj_cc_n, List.all_cons, List.all_nil, mj_noMk_int, mj_noMk_long, mj_noMk_ref, mj_noMk_junk, List.length_nil, List.length_cons, Nat.zero_le, Nat.reduceLeDiff, Nat.reduceAdd, Bool.and_true, Bool.true_and, Bool.and_self, Nat.reduceBNe, true_or, or_true, true_and, and_true, mj_z0, mj_z1, mj_z01, decide_true, decide_false, Bool.true_and, Bool.false_and, Bool.and_true, Bool.and_false, Bool.true_or, Bool.false_or, Bool.or_false, Bool.or_true, Bool.not_true, Bool.not_false, Bool.and_self, Bool.or_self, if_true, if_false, Bool.true_eq_false, Bool.false_eq_true, not_true, not_false_eq_true]
      exact h
    · rw [if_neg c] at h
      simp only [u69_0, u69_1, u69_2, u69_3, u69_4, u69_5, u69_6, u69_7, u69_8, u69_9, u69_12, u69_13, u69_15, u69_16, u69_17, u69_18, u69_19, u69_20, u69_23, u69_26, u69_29, u69_30, u69_32, u69_33, u69_35, u69_38, u69_41, u69_44, u69_45, u69_47, u69_48, u69_50, u69_52, u69_55, u69_58, u69_59, u69_60, u69_61, u69_63, u69_64, u69_67, u69_70, u69_71, u69_72, u69_73, u69_75, u69_76, u69_77, u69_78, u69_79, eq_false c, mj_cc_v, mj_cc_n, List.all_cons, List.all_nil, mj_noMk_int, mj_noMk_long, mj_noMk_ref, mj_noMk_junk, List.length_nil, List.length_cons, Nat.zero_le, Nat.reduceLeDiff, Nat.reduceAdd, Bool.and_true, Bool.true_and, Bool.and_self, Nat.reduceBNe, true_or, or_true, true_and, and_true, mj_z0, mj_z1, mj_z01, decide_true, decide_false, Bool.true_and, Bool.false_and, Bool.and_true, Bool.and_false, Bool.true_or, Bool.false_or, Bool.or_false, Bool.or_true, Bool.not_true, Bool.not_false, Bool.and_self, Bool.or_self, if_true, if_false, Bool.true_eq_false, Bool.false_eq_true, not_true, not_false_eq_true]
      exact h
  have b1 : ∀ q : Int32 × Int32, mj_Runs X (mj_ev X d) 9 (some .int) prog_9_method_48_code (34, [.int q.1, .int q.2], [], σ) (some (.int ((mj_tzs 4 2 2 (mj_tzs 16 4 4 (mj_tzs 256 8 8 q))).2 + mj_us (mj_tzs 4 2 2 (mj_tzs 16 4 4 (mj_tzs 256 8 8 q))).1 1)), σ) := by
    intro q
    have h := b2 (mj_tzs 256 8 8 q)
    generalize mj_tzs 4 2 2 (mj_tzs 16 4 4 (mj_tzs 256 8 8 q)) = z at *
    refine u69_34.mpr ?_
    unfold mj_tzs at h
    by_cases c : 256 < q.1
    · rw [if_pos c] at h
      simp only [u69_0, u69_1, u69_2, u69_3, u69_4, u69_5, u69_6, u69_7, u69_8, u69_9, u69_12, u69_13, u69_15, u69_16, u69_17, u69_18, u69_19, u69_20, u69_23, u69_26, u69_29, u69_30, u69_32, u69_33, u69_35, u69_38, u69_41, u69_44, u69_45, u69_47, u69_48, u69_50, u69_52, u69_55, u69_58, u69_59, u69_60, u69_61, u69_63, u69_64, u69_67, u69_70, u69_71, u69_72, u69_73, u69_75, u69_76, u69_77, u69_78, u69_79, eq_true c, mj_cc_v, mj_cc_n, List.all_cons, List.all_nil, mj_noMk_int, mj_noMk_long, mj_noMk_ref, mj_noMk_junk, List.length_nil, List.length_cons, Nat.zero_le, Nat.reduceLeDiff, Nat.reduceAdd, Bool.and_true, Bool.true_and, Bool.and_self, Nat.reduceBNe, true_or, or_true, true_and, and_true, mj_z0, mj_z1, mj_z01, decide_true, decide_false, Bool.true_and, Bool.false_and, Bool.and_true, Bool.and_false, Bool.true_or, Bool.false_or, Bool.or_false, Bool.or_true, Bool.not_true, Bool.not_false, Bool.and_self, Bool.or_self, if_true, if_false, Bool.true_eq_false, Bool.false_eq_true, not_true, not_false_eq_true]
      exact h
    · rw [if_neg c] at h
      simp only [u69_0, u69_1, u69_2, u69_3, u69_4, u69_5, u69_6, u69_7, u69_8, u69_9, u69_12, u69_13, u69_15, u69_16, u69_17, u69_18, u69_19, u69_20, u69_23, u69_26, u69_29, u69_30, u69_32, u69_33, u69_35, u69_38, u69_41, u69_44, u69_45, u69_47, u69_48, u69_50, u69_52, u69_55, u69_58, u69_59, u69_60, u69_61, u69_63, u69_64, u69_67, u69_70, u69_71, u69_72, u69_73, u69_75, u69_76, u69_77, u69_78, u69_79, eq_false c, mj_cc_v, mj_cc_n, List.all_cons, List.all_nil, mj_noMk_int, mj_noMk_long, mj_noMk_ref, mj_noMk_junk, List.length_nil, List.length_cons, Nat.zero_le, Nat.reduceLeDiff, Nat.reduceAdd, Bool.and_true, Bool.true_and, Bool.and_self, Nat.reduceBNe, true_or, or_true, true_and, and_true, mj_z0, mj_z1, mj_z01, decide_true, decide_false, Bool.true_and, Bool.false_and, Bool.and_true, Bool.and_false, Bool.true_or, Bool.false_or, Bool.or_false, Bool.or_true, Bool.not_true, Bool.not_false, Bool.and_self, Bool.or_self, if_true, if_false, Bool.true_eq_false, Bool.false_eq_true, not_true, not_false_eq_true]
      exact h
  refine st69 ?_
  unfold mj_tz
  by_cases c : 0 < (x ^^^ -1) &&& (x - 1)
  · rw [if_pos c]
    generalize hi : (x ^^^ -1) &&& (x - 1) = i at *
    have h := b1 (mj_tzs 65536 16 16 (i, 1))
    generalize mj_tzs 4 2 2 (mj_tzs 16 4 4 (mj_tzs 256 8 8 (mj_tzs 65536 16 16 (i, 1)))) = z at *
    unfold mj_tzs at h
    by_cases c2 : 65536 < i
    · rw [if_pos c2] at h
      simp only [u69_0, u69_1, u69_2, u69_3, u69_4, u69_5, u69_6, u69_7, u69_8, u69_9, u69_12, u69_13, u69_15, u69_16, u69_17, u69_18, u69_19, u69_20, u69_23, u69_26, u69_29, u69_30, u69_32, u69_33, u69_35, u69_38, u69_41, u69_44, u69_45, u69_47, u69_48, u69_50, u69_52, u69_55, u69_58, u69_59, u69_60, u69_61, u69_63, u69_64, u69_67, u69_70, u69_71, u69_72, u69_73, u69_75, u69_76, u69_77, u69_78, u69_79, hi, eq_true c, eq_true c2, mj_cc_v, mj_cc_n, List.all_cons, List.all_nil, mj_noMk_int, mj_noMk_long, mj_noMk_ref, mj_noMk_junk, List.length_nil, List.length_cons, Nat.zero_le, Nat.reduceLeDiff, Nat.reduceAdd, Bool.and_true, Bool.true_and, Bool.and_self, Nat.reduceBNe, true_or, or_true, true_and, and_true, mj_z0, mj_z1, mj_z01, decide_true, decide_false, Bool.true_and, Bool.false_and, Bool.and_true, Bool.and_false, Bool.true_or, Bool.false_or, Bool.or_false, Bool.or_true, Bool.not_true, Bool.not_false, Bool.and_self, Bool.or_self, if_true, if_false, Bool.true_eq_false, Bool.false_eq_true, not_true, not_false_eq_true]
      exact h
    · rw [if_neg c2] at h
      simp only [u69_0, u69_1, u69_2, u69_3, u69_4, u69_5, u69_6, u69_7, u69_8, u69_9, u69_12, u69_13, u69_15, u69_16, u69_17, u69_18, u69_19, u69_20, u69_23, u69_26, u69_29, u69_30, u69_32, u69_33, u69_35, u69_38, u69_41, u69_44, u69_45, u69_47, u69_48, u69_50, u69_52, u69_55, u69_58, u69_59, u69_60, u69_61, u69_63, u69_64, u69_67, u69_70, u69_71, u69_72, u69_73, u69_75, u69_76, u69_77, u69_78, u69_79, hi, eq_true c, eq_false c2, mj_cc_v, mj_cc_n, List.all_cons, List.all_nil, mj_noMk_int, mj_noMk_long, mj_noMk_ref, mj_noMk_junk, List.length_nil, List.length_cons, Nat.zero_le, Nat.reduceLeDiff, Nat.reduceAdd, Bool.and_true, Bool.true_and, Bool.and_self, Nat.reduceBNe, true_or, or_true, true_and, and_true, mj_z0, mj_z1, mj_z01, decide_true, decide_false, Bool.true_and, Bool.false_and, Bool.and_true, Bool.and_false, Bool.true_or, Bool.false_or, Bool.or_false, Bool.or_true, Bool.not_true, Bool.not_false, Bool.and_self, Bool.or_self, if_true, if_false, Bool.true_eq_false, Bool.false_eq_true, not_true, not_false_eq_true]
      exact h
  · rw [if_neg c]
    simp only [u69_0, u69_1, u69_2, u69_3, u69_4, u69_5, u69_6, u69_7, u69_8, u69_9, u69_12, u69_13, u69_15, u69_16, u69_17, u69_18, u69_19, u69_20, u69_23, u69_26, u69_29, u69_30, u69_32, u69_33, u69_35, u69_38, u69_41, u69_44, u69_45, u69_47, u69_48, u69_50, u69_52, u69_55, u69_58, u69_59, u69_60, u69_61, u69_63, u69_64, u69_67, u69_70, u69_71, u69_72, u69_73, u69_75, u69_76, u69_77, u69_78, u69_79, eq_false c, mj_cc_v, mj_cc_n, List.all_cons, List.all_nil, mj_noMk_int, mj_noMk_long, mj_noMk_ref, mj_noMk_junk, List.length_nil, List.length_cons, Nat.zero_le, Nat.reduceLeDiff, Nat.reduceAdd, Bool.and_true, Bool.true_and, Bool.and_self, Nat.reduceBNe, true_or, or_true, true_and, and_true, mj_z0, mj_z1, mj_z01, decide_true, decide_false, Bool.true_and, Bool.false_and, Bool.and_true, Bool.and_false, Bool.true_or, Bool.false_or, Bool.or_false, Bool.or_true, Bool.not_true, Bool.not_false, Bool.and_self, Bool.or_self, if_true, if_false, Bool.true_eq_false, Bool.false_eq_true, not_true, not_false_eq_true]
def mj_lzs (K s a : Int32) (q : Int32 × Int32) : Int32 × Int32 := if q.1 < K then q else (mj_us q.1 s, q.2 + a)
def mj_lz (x : Int32) : Int32 := (mj_lzs 4 2 (Int32.ofInt (-2)) (mj_lzs 16 4 (Int32.ofInt (-4)) (mj_lzs 256 8 (Int32.ofInt (-8)) (mj_lzs 65536 16 (Int32.ofInt (-16)) (x, 31))))).2 - mj_us (mj_lzs 4 2 (Int32.ofInt (-2)) (mj_lzs 16 4 (Int32.ofInt (-4)) (mj_lzs 256 8 (Int32.ofInt (-8)) (mj_lzs 65536 16 (Int32.ofInt (-16)) (x, 31))))).1 1
theorem sp_nLZ {x : Int32} (hx : 0 < x) : mj_ev X (d + 1) 70 [.int x] σ = some (some (.int (mj_lz x)), σ) := by
  have b4 : ∀ q : Int32 × Int32, mj_Runs X (mj_ev X d) 9 (some .int) prog_9_method_47_code (73, [.int q.1, .int q.2], [], σ) (some (.int (q.2 - mj_us q.1 1)), σ) := by
    intro q
    refine u70_73.mpr ?_
    simp only [u70_0, u70_1, u70_4, u70_5, u70_8, u70_10, u70_13, u70_14, u70_15, u70_17, u70_18, u70_19, u70_22, u70_25, u70_28, u70_29, u70_31, u70_32, u70_34, u70_37, u70_40, u70_43, u70_44, u70_46, u70_47, u70_49, u70_51, u70_54, u70_57, u70_58, u70_59, u70_60, u70_62, u70_63, u70_66, u70_69, u70_70, u70_71, u70_72, u70_74, u70_75, u70_76, u70_77, u70_78, mj_us, mj_cc_v, mj_cc_n, List.all_cons, List.all_nil, mj_noMk_int, mj_noMk_long, mj_noMk_ref, mj_noMk_junk, List.length_nil, List.length_cons, Nat.zero_le, Nat.reduceLeDiff, Nat.reduceAdd, Bool.and_true, Bool.true_and, Bool.and_self, Nat.reduceBNe, true_or, or_true, true_and, and_true, mj_z0, mj_z1, mj_z01, decide_true, decide_false, Bool.true_and, Bool.false_and, Bool.and_true, Bool.and_false, Bool.true_or, Bool.false_or, Bool.or_false, Bool.or_true, Bool.not_true, Bool.not_false, Bool.and_self, Bool.or_self, if_true, if_false, Bool.true_eq_false, Bool.false_eq_true, not_true, not_false_eq_true]
  have b3 : ∀ q : Int32 × Int32, mj_Runs X (mj_ev X d) 9 (some .int) prog_9_method_47_code (61, [.int q.1, .int q.2], [], σ) (some (.int ((mj_lzs 4 2 (Int32.ofInt (-2)) q).2 - mj_us (mj_lzs 4 2 (Int32.ofInt (-2)) q).1 1)), σ) := by
    intro q
    have h := b4 (mj_lzs 4 2 (Int32.ofInt (-2)) q)
    refine u70_61.mpr ?_
    unfold mj_lzs at h ⊢
    by_cases c : q.1 < 4
    · rw [if_pos c] at h ⊢
      simp only [u70_0, u70_1, u70_4, u70_5, u70_8, u70_10, u70_13, u70_14, u70_15, u70_17, u70_18, u70_19, u70_22, u70_25, u70_28, u70_29, u70_31, u70_32, u70_34, u70_37, u70_40, u70_43, u70_44, u70_46, u70_47, u70_49, u70_51, u70_54, u70_57, u70_58, u70_59, u70_60, u70_62, u70_63, u70_66, u70_69, u70_70, u70_71, u70_72, u70_74, u70_75, u70_76, u70_77, u70_78, eq_true c, mj_cc_v, mj_cc_n, List.all_cons, List.all_nil, mj_noMk_int, mj_noMk_long, mj_noMk_ref, mj_noMk_junk, List.length_nil, List.length_cons, Nat.zero_le, Nat.reduceLeDiff, Nat.reduceAdd, Bool.and_true, Bool.true_and, Bool.and_self, Nat.reduceBNe, true_or, or_true, true_and, and_true, mj_z0, mj_z1, mj_z01, decide_true, decide_false, Bool.true_and, Bool.false_and, Bool.and_true, Bool.and_false, Bool.true_or, Bool.false_or, Bool.or_false, Bool.or_true, Bool.not_true, Bool.not_false, Bool.and_self, Bool.or_self, if_true, if_false, Bool.true_eq_false, Bool.false_eq_true, not_true, not_false_eq_true]
      exact h
    · rw [if_neg c] at h ⊢
      simp only [u70_0, u70_1, u70_4, u70_5, u70_8, u70_10, u70_13, u70_14, u70_15, u70_17, u70_18, u70_19, u70_22, u70_25, u70_28, u70_29, u70_31, u70_32, u70_34, u70_37, u70_40, u70_43, u70_44, u70_46, u70_47, u70_49, u70_51, u70_54, u70_57, u70_58, u70_59, u70_60, u70_62, u70_63, u70_66, u70_69, u70_70, u70_71, u70_72, u70_74, u70_75, u70_76, u70_77, u70_78, eq_false c, mj_cc_v, mj_cc_n, List.all_cons, List.all_nil, mj_noMk_int, mj_noMk_long, mj_noMk_ref, mj_noMk_junk, List.length_nil, List.length_cons, Nat.zero_le, Nat.reduceLeDiff, Nat.reduceAdd, Bool.and_true, Bool.true_and, Bool.and_self, Nat.reduceBNe, true_or, or_true, true_and, and_true, mj_z0, mj_z1, mj_z01, decide_true, decide_false, Bool.true_and, Bool.false_and, Bool.and_true, Bool.and_false, Bool.true_or, Bool.false_or, Bool.or_false, Bool.or_true, Bool.not_true, Bool.not_false, Bool.and_self, Bool.or_self, if_true, if_false, Bool.true_eq_false, Bool.false_eq_true, not_true, not_false_eq_true]
      exact h
  have b2 : ∀ q : Int32 × Int32, mj_Runs X (mj_ev X d) 9 (some .int) prog_9_method_47_code (48, [.int q.1, .int q.2], [], σ) (some (.int ((mj_lzs 4 2 (Int32.ofInt (-2)) (mj_lzs 16 4 (Int32.ofInt (-4)) q)).2 - mj_us (mj_lzs 4 2 (Int32.ofInt (-2)) (mj_lzs 16 4 (Int32.ofInt (-4)) q)).1 1)), σ) := by
    intro q
    have h := b3 (mj_lzs 16 4 (Int32.ofInt (-4)) q)
    generalize mj_lzs 4 2 (Int32.ofInt (-2)) (mj_lzs 16 4 (Int32.ofInt (-4)) q) = z at *
    refine u70_48.mpr ?_
    unfold mj_lzs at h
    by_cases c : q.1 < 16
    · rw [if_pos c] at h
      simp only [u70_0, u70_1, u70_4, u70_5, u70_8, u70_10, u70_13, u70_14, u70_15, u70_17, u70_18, u70_19, u70_22, u70_25, u70_28, u70_29, u70_31, u70_32, u70_34, u70_37, u70_40, u70_43, u70_44, u70_46, u70_47, u70_49, u70_51, u70_54, u70_57, u70_58, u70_59, u70_60, u70_62, u70_63, u70_66, u70_69, u70_70, u70_71, u70_72, u70_74, u70_75, u70_76, u70_77, u70_78, eq_true c, mj_cc_v, mj_cc_n, List.all_cons, List.all_nil, mj_noMk_int, mj_noMk_long, mj_noMk_ref, mj_noMk_junk, List.length_nil, List.length_cons, Nat.zero_le, Nat.reduceLeDiff, Nat.reduceAdd, Bool.and_true, Bool.true_and, Bool.and_self, Nat.reduceBNe, true_or, or_true, true_and, and_true, mj_z0, mj_z1, mj_z01, decide_true, decide_false, Bool.true_and, Bool.false_and, Bool.and_true, Bool.and_false, Bool.true_or, Bool.false_or, Bool.or_false, Bool.or_true, Bool.not_true, Bool.not_false, Bool.and_self, Bool.or_self, if_true, if_false, Bool.true_eq_false, Bool.false_eq_true, not_true, not_false_eq_true]
      exact h
    · rw [if_neg c] at h
      simp only [u70_0, u70_1, u70_4, u70_5, u70_8, u70_10, u70_13, u70_14, u70_15, u70_17, u70_18, u70_19, u70_22, u70_25, u70_28, u70_29, u70_31, u70_32, u70_34, u70_37, u70_40, u70_43, u70_44, u70_46, u70_47, u70_49, u70_51, u70_54, u70_57, u70_58, u70_59, u70_60, u70_62, u70_63, u70_66, u70_69, u70_70, u70_71, u70_72, u70_74, u70_75, u70_76, u70_77, u70_78, eq_false c, mj_cc_v, mj_cc_n, List.all_cons, List.all_nil, mj_noMk_int, mj_noMk_long, mj_noMk_ref, mj_noMk_junk, List.length_nil, List.length_cons, Nat.zero_le, Nat.reduceLeDiff, Nat.reduceAdd, Bool.and_true, Bool.true_and, Bool.and_self, Nat.reduceBNe, true_or, or_true, true_and, and_true, mj_z0, mj_z1, mj_z01, decide_true, decide_false, Bool.true_and, Bool.false_and, Bool.and_true, Bool.and_false, Bool.true_or, Bool.false_or, Bool.or_false, Bool.or_true, Bool.not_true, Bool.not_false, Bool.and_self, Bool.or_self, if_true, if_false, Bool.true_eq_false, Bool.false_eq_true, not_true, not_false_eq_true]
      exact h
  have b1 : ∀ q : Int32 × Int32, mj_Runs X (mj_ev X d) 9 (some .int) prog_9_method_47_code (33, [.int q.1, .int q.2], [], σ) (some (.int ((mj_lzs 4 2 (Int32.ofInt (-2)) (mj_lzs 16 4 (Int32.ofInt (-4)) (mj_lzs 256 8 (Int32.ofInt (-8)) q))).2 - mj_us (mj_lzs 4 2 (Int32.ofInt (-2)) (mj_lzs 16 4 (Int32.ofInt (-4)) (mj_lzs 256 8 (Int32.ofInt (-8)) q))).1 1)), σ) := by
    intro q
    have h := b2 (mj_lzs 256 8 (Int32.ofInt (-8)) q)
    generalize mj_lzs 4 2 (Int32.ofInt (-2)) (mj_lzs 16 4 (Int32.ofInt (-4)) (mj_lzs 256 8 (Int32.ofInt (-8)) q)) = z at *
    refine u70_33.mpr ?_
    unfold mj_lzs at h
    by_cases c : q.1 < 256
    · rw [if_pos c] at h
      simp only [u70_0, u70_1, u70_4, u70_5, u70_8, u70_10, u70_13, u70_14, u70_15, u70_17, u70_18, u70_19, u70_22, u70_25, u70_28, u70_29, u70_31, u70_32, u70_34, u70_37, u70_40, u70_43, u70_44, u70_46, u70_47, u70_49, u70_51, u70_54, u70_57, u70_58, u70_59, u70_60, u70_62, u70_63, u70_66, u70_69, u70_70, u70_71, u70_72, u70_74, u70_75, u70_76, u70_77, u70_78, eq_true c, mj_cc_v, mj_cc_n, List.all_cons, List.all_nil, mj_noMk_int, mj_noMk_long, mj_noMk_ref, mj_noMk_junk, List.length_nil, List.length_cons, Nat.zero_le, Nat.reduceLeDiff, Nat.reduceAdd, Bool.and_true, Bool.true_and, Bool.and_self, Nat.reduceBNe, true_or, or_true, true_and, and_true, mj_z0, mj_z1, mj_z01, decide_true, decide_false, Bool.true_and, Bool.false_and, Bool.and_true, Bool.and_false, Bool.true_or, Bool.false_or, Bool.or_false, Bool.or_true, Bool.not_true, Bool.not_false, Bool.and_self, Bool.or_self, if_true, if_false, Bool.true_eq_false, Bool.false_eq_true, not_true, not_false_eq_true]
      exact h
    · rw [if_neg c] at h
      simp only [u70_0, u70_1, u70_4, u70_5, u70_8, u70_10, u70_13, u70_14, u70_15, u70_17, u70_18, u70_19, u70_22, u70_25, u70_28, u70_29, u70_31, u70_32, u70_34, u70_37, u70_40, u70_43, u70_44, u70_46, u70_47, u70_49, u70_51, u70_54, u70_57, u70_58, u70_59, u70_60, u70_62, u70_63, u70_66, u70_69, u70_70, u70_71, u70_72, u70_74, u70_75, u70_76, u70_77, u70_78, eq_false c, mj_cc_v, mj_cc_n, List.all_cons, List.all_nil, mj_noMk_int, mj_noMk_long, mj_noMk_ref, mj_noMk_junk, List.length_nil, List.length_cons, Nat.zero_le, Nat.reduceLeDiff, Nat.reduceAdd, Bool.and_true, Bool.true_and, Bool.and_self, Nat.reduceBNe, true_or, or_true, true_and, and_true, mj_z0, mj_z1, mj_z01, decide_true, decide_false, Bool.true_and, Bool.false_and, Bool.and_true, Bool.and_false, Bool.true_or, Bool.false_or, Bool.or_false, Bool.or_true, Bool.not_true, Bool.not_false, Bool.and_self, Bool.or_self, if_true, if_false, Bool.true_eq_false, Bool.false_eq_true, not_true, not_false_eq_true]
      exact h
  refine st70 ?_
  have h := b1 (mj_lzs 65536 16 (Int32.ofInt (-16)) (x, 31))
  unfold mj_lz
  generalize mj_lzs 4 2 (Int32.ofInt (-2)) (mj_lzs 16 4 (Int32.ofInt (-4)) (mj_lzs 256 8 (Int32.ofInt (-8)) (mj_lzs 65536 16 (Int32.ofInt (-16)) (x, 31)))) = z at *
  unfold mj_lzs at h
  by_cases c2 : x < 65536
  · rw [if_pos c2] at h
    simp only [u70_0, u70_1, u70_4, u70_5, u70_8, u70_10, u70_13, u70_14, u70_15, u70_17, u70_18, u70_19, u70_22, u70_25, u70_28, u70_29, u70_31, u70_32, u70_34, u70_37, u70_40, u70_43, u70_44, u70_46, u70_47, u70_49, u70_51, u70_54, u70_57, u70_58, u70_59, u70_60, u70_62, u70_63, u70_66, u70_69, u70_70, u70_71, u70_72, u70_74, u70_75, u70_76, u70_77, u70_78, eq_true hx, eq_true c2, mj_cc_v, mj_cc_n, List.all_cons, List.all_nil, mj_noMk_int, mj_noMk_long, mj_noMk_ref, mj_noMk_junk, List.length_nil, List.length_cons, Nat.zero_le, Nat.reduceLeDiff, Nat.reduceAdd, Bool.and_true, Bool.true_and, Bool.and_self, Nat.reduceBNe, true_or, or_true, true_and, and_true, mj_z0, mj_z1, mj_z01, decide_true, decide_false, Bool.true_and, Bool.false_and, Bool.and_true, Bool.and_false, Bool.true_or, Bool.false_or, Bool.or_false, Bool.or_true, Bool.not_true, Bool.not_false, Bool.and_self, Bool.or_self, if_true, if_false, Bool.true_eq_false, Bool.false_eq_true, not_true, not_false_eq_true]
    exact h
  · rw [if_neg c2] at h
    simp only [u70_0, u70_1, u70_4, u70_5, u70_8, u70_10, u70_13, u70_14, u70_15, u70_17, u70_18, u70_19, u70_22, u70_25, u70_28, u70_29, u70_31, u70_32, u70_34, u70_37, u70_40, u70_43, u70_44, u70_46, u70_47, u70_49, u70_51, u70_54, u70_57, u70_58, u70_59, u70_60, u70_62, u70_63, u70_66, u70_69, u70_70, u70_71, u70_72, u70_74, u70_75, u70_76, u70_77, u70_78, eq_true hx, eq_false c2, mj_cc_v, mj_cc_n, List.all_cons, List.all_nil, mj_noMk_int, mj_noMk_long, mj_noMk_ref, mj_noMk_junk, List.length_nil, List.length_cons, Nat.zero_le, Nat.reduceLeDiff, Nat.reduceAdd, Bool.and_true, Bool.true_and, Bool.and_self, Nat.reduceBNe, true_or, or_true, true_and, and_true, mj_z0, mj_z1, mj_z01, decide_true, decide_false, Bool.true_and, Bool.false_and, Bool.and_true, Bool.and_false, Bool.true_or, Bool.false_or, Bool.or_false, Bool.or_true, Bool.not_true, Bool.not_false, Bool.and_self, Bool.or_self, if_true, if_false, Bool.true_eq_false, Bool.false_eq_true, not_true, not_false_eq_true]
    exact h
-- the sets of two
def mj_slo (k : Nat) : Nat := ([0, 0, 0, 0, 0, 0, 1, 0, 0, 1, 2, 0, 0, 1, 2, 3, 0, 0, 1, 2, 3, 4] : List Nat).getD k 0
def mj_shi (k : Nat) : Nat := ([0, 0, 0, 1, 0, 2, 2, 0, 3, 3, 3, 0, 4, 4, 4, 4, 0, 5, 5, 5, 5, 5] : List Nat).getD k 0
theorem mj_ST : ∀ k, k < 22 → mj_pop (nI (mj_sK k)) = 2 → mj_tz (nI (mj_sK k)) = nI (mj_slo k) ∧ 31 - mj_lz (nI (mj_sK k)) = nI (mj_shi k) ∧ 0 < nI (mj_sK k) ∧ mj_slo k < mj_shi k ∧ mj_sK k = 2 ^ mj_slo k + 2 ^ mj_shi k := by decide +kernel
theorem mj_ST2 : ∀ n, n < 7 → ∀ k, k < 22 → mj_pop (nI (mj_sK k)) = 2 → mj_sK k < 2 ^ n → mj_shi k < n := by decide +kernel
theorem mj_sK64 : ∀ k, k < 22 → mj_sK k < 64 := by decide +kernel
def mj_smt (σ : mj_St) (n i : Nat) : Bool := decide (mj_pop (nI (mj_sK i)) = 2) && (decide (mj_sK i < 2 ^ n) && (decide (¬ σ.1 18 (σ.1 47 (mj_slo i)).toNatClampNeg = -1) && decide (σ.1 18 (σ.1 47 (mj_slo i)).toNatClampNeg = σ.1 18 (σ.1 47 (mj_shi i)).toNatClampNeg)))
def mj_sam (σ : mj_St) (n k : Nat) : Int32 := mj_it (fun i u => if mj_smt σ n i = true then u ||| 1 <<< (nI i &&& 31) else u) 0 k
theorem sp_findSameThings {N w gr n : Nat} (hX : mj_XS X) (hd : mj_pd σ N w gr) (hn : mj_pn σ n) : mj_ev X (d + 2) 67 [.ref 46] σ = some (none, mj_setI σ 46 8 (mj_sam σ n 22)) := by
  obtain ⟨d1, d2, d3, d4, d5, d6, d7, d8⟩ := hd
  obtain ⟨n1, n2, n3⟩ := hn
  have hlen : ∀ τ : mj_St, mj_lenA X τ 1001 = some (nI 22) := by
    intro τ
    obtain ⟨⟨f, hf, -⟩, -⟩ := hX
    unfold mj_lenA
    rw [if_neg (by decide), if_pos (by decide), show 1001 - 1000 = 1 from rfl, hf]
    rfl
  have hb := fun (S : mj_St) (x : Int32) => sp_bitCount (X := X) (d := d) (σ := S) (x := x)
  have ht := fun (S : mj_St) (x : Int32) => sp_nTZ (X := X) (d := d) (σ := S) (x := x)
  have loop : ∀ (j k : Nat) (v2 v3 v4 : Value), mj_noMk v3 = true → mj_noMk v4 = true → k + j = 22 → mj_Runs X (mj_ev X (d + 1)) 3 none prog_5_method_9_code (7, [.ref 46, .int (nI k), v2, v3, v4], [], mj_setI σ 46 8 (mj_sam σ n k)) (none, mj_setI σ 46 8 (mj_sam σ n 22)) := by
    intro j
    induction j with
    | zero =>
      intro k v2 v3 v4 m3 m4 hk
      have hk' : k = 22 := by omega
      subst hk'
      have q : ¬ nI 22 < nI 22 := by decide
      refine u67_7.mpr ?_
      simp only [u67_0, u67_1, u67_2, u67_5, u67_6, u67_8, u67_11, u67_12, u67_15, u67_18, u67_19, u67_20, u67_21, u67_22, u67_25, u67_26, u67_29, u67_30, u67_31, u67_32, u67_35, u67_36, u67_39, u67_40, u67_43, u67_46, u67_47, u67_50, u67_51, u67_54, u67_55, u67_56, u67_57, u67_58, u67_61, u67_64, u67_65, u67_68, u67_70, u67_71, u67_74, u67_75, u67_76, u67_77, u67_79, u67_80, u67_81, u67_84, u67_85, u67_86, u67_89, u67_90, u67_92, u67_95, u67_96, u67_97, u67_98, u67_101, u67_102, u67_103, u67_106, u67_109, u67_112, hlen, mj_kN, q, mj_cc_v, mj_cc_n, List.all_cons, List.all_nil, mj_noMk_int, mj_noMk_long, mj_noMk_ref, mj_noMk_junk, List.length_nil, List.length_cons, Nat.zero_le, Nat.reduceLeDiff, Nat.reduceAdd, Bool.and_true, Bool.true_and, Bool.and_self, Nat.reduceBNe, true_or, or_true, true_and, and_true, mj_z0, mj_z1, mj_z01, decide_true, decide_false, Bool.true_and, Bool.false_and, Bool.and_true, Bool.and_false, Bool.true_or, Bool.false_or, Bool.or_false, Bool.or_true, Bool.not_true, Bool.not_false, Bool.and_self, Bool.or_self, if_true, if_false, Bool.true_eq_false, Bool.false_eq_true, not_true, not_false_eq_true]
    | succ j ih =>
      intro k v2 v3 v4 m3 m4 hk
      have hk22 : k < 22 := by omega
      have q : nI k < nI 22 := nI_lt (by omega) (by omega)
      have e1 : mj_sam σ n (k + 1) = if mj_smt σ n k = true then mj_sam σ n k ||| 1 <<< (nI k &&& 31) else mj_sam σ n k := rfl
      have hi := ih (k + 1)
      rw [e1] at hi
      generalize mj_sam σ n k = va at *
      unfold mj_smt at hi
      have o : ∀ c, c ≠ 46 → (mj_setI σ 46 8 va).1 c = σ.1 c := fun c hc => mj_setI_ne σ 8 va hc
      have o5 : (mj_setI σ 46 8 va).1 46 5 = nI n := by rw [mj_setI_i (by decide)]; exact n1
      have o8 : (mj_setI σ 46 8 va).1 46 8 = va := mj_setI_eq
      have oo : (mj_setI σ 46 8 va).2 = σ.2 := rfl
      have sh : (1 : Int32) <<< (nI n &&& 31) = nI (2 ^ n) := by
        have h6 : 2 ^ n ≤ 2 ^ 6 := Nat.pow_le_pow_right (by decide) n2
        have h := mj_nI_shl (a := 1) (j := n) (by omega) (by omega)
        rw [Nat.one_mul] at h
        exact h
      refine u67_7.mpr ?_
      by_cases c1 : mj_pop (nI (mj_sK k)) = 2
      · by_cases c2 : mj_sK k < 2 ^ n
        · obtain ⟨f1, f2, f3, f4, f5⟩ := mj_ST k hk22 c1
          have f6 := mj_ST2 n (by omega) k hk22 c1 c2
          have hz := sp_nLZ (X := X) (d := d) (σ := mj_setI σ 46 8 va) f3
          have qs : nI (mj_sK k) < nI (2 ^ n) := by
            have h6 : 2 ^ n ≤ 2 ^ 6 := Nat.pow_le_pow_right (by decide) n2
            exact nI_lt c2 (by omega)
          obtain ⟨a, ha, ea⟩ := mj_nI_of (n3 (mj_slo k) (by omega)) (by decide)
          obtain ⟨b, hb', eb⟩ := mj_nI_of (n3 (mj_shi k) f6) (by decide)
          have ea' : (σ.1 47 (mj_slo k)).toNatClampNeg = a := by rw [ea]; exact nI_clamp (by omega)
          have eb' : (σ.1 47 (mj_shi k)).toNatClampNeg = b := by rw [eb]; exact nI_clamp (by omega)
          rw [decide_eq_true c1, decide_eq_true c2, ea', eb'] at hi
          by_cases c3 : σ.1 18 a = -1
          · rw [if_neg (by rw [decide_eq_false (fun z => z c3), Bool.false_and]; decide)] at hi
            simp only [u67_0, u67_1, u67_2, u67_5, u67_6, u67_8, u67_11, u67_12, u67_15, u67_18, u67_19, u67_20, u67_21, u67_22, u67_25, u67_26, u67_29, u67_30, u67_31, u67_32, u67_35, u67_36, u67_39, u67_40, u67_43, u67_46, u67_47, u67_50, u67_51, u67_54, u67_55, u67_56, u67_57, u67_58, u67_61, u67_64, u67_65, u67_68, u67_70, u67_71, u67_74, u67_75, u67_76, u67_77, u67_79, u67_80, u67_81, u67_84, u67_85, u67_86, u67_89, u67_90, u67_92, u67_95, u67_96, u67_97, u67_98, u67_101, u67_102, u67_103, u67_106, u67_109, u67_112, hlen, mj_kN, q, mj_kI_S hX hk22, hb, ht, hz, eq_true c1, f1, f2, o5, sh, qs, o 47 (by decide), o 18 (by decide), o8, oo, d1, mj_rf_some, mj_rf14, mj_in_nI (show mj_slo k < 6 by omega) (by decide), mj_nz9 (show mj_slo k < 6 by omega) (by decide), mj_in_nI (show mj_shi k < 6 by omega) (by decide), mj_nz9 (show mj_shi k < 6 by omega) (by decide), ea, eb, mj_in_nI ha (by decide), mj_nz9 ha (by decide), mj_in_nI hb' (by decide), mj_nz9 hb' (by decide), eq_true c3, m3, m4, mj_setI_2, Int32.or_zero, nI_1, mj_cc_v, mj_cc_n, List.all_cons, List.all_nil, mj_noMk_int, mj_noMk_long, mj_noMk_ref, mj_noMk_junk, List.length_nil, List.length_cons, Nat.zero_le, Nat.reduceLeDiff, Nat.reduceAdd, Bool.and_true, Bool.true_and, Bool.and_self, Nat.reduceBNe, true_or, or_true, true_and, and_true, mj_z0, mj_z1, mj_z01, decide_true, decide_false, Bool.true_and, Bool.false_and, Bool.and_true, Bool.and_false, Bool.true_or, Bool.false_or, Bool.or_false, Bool.or_true, Bool.not_true, Bool.not_false, Bool.and_self, Bool.or_self, if_true, if_false, Bool.true_eq_false, Bool.false_eq_true, not_true, not_false_eq_true]
            exact hi _ _ _ rfl rfl (by omega)
          · by_cases c4 : σ.1 18 a = σ.1 18 b
            · rw [if_pos (by rw [decide_eq_true c3, decide_eq_true c4]; rfl)] at hi
              simp only [u67_0, u67_1, u67_2, u67_5, u67_6, u67_8, u67_11, u67_12, u67_15, u67_18, u67_19, u67_20, u67_21, u67_22, u67_25, u67_26, u67_29, u67_30, u67_31, u67_32, u67_35, u67_36, u67_39, u67_40, u67_43, u67_46, u67_47, u67_50, u67_51, u67_54, u67_55, u67_56, u67_57, u67_58, u67_61, u67_64, u67_65, u67_68, u67_70, u67_71, u67_74, u67_75, u67_76, u67_77, u67_79, u67_80, u67_81, u67_84, u67_85, u67_86, u67_89, u67_90, u67_92, u67_95, u67_96, u67_97, u67_98, u67_101, u67_102, u67_103, u67_106, u67_109, u67_112, hlen, mj_kN, q, mj_kI_S hX hk22, hb, ht, hz, eq_true c1, f1, f2, o5, sh, qs, o 47 (by decide), o 18 (by decide), o8, oo, d1, mj_rf_some, mj_rf14, mj_in_nI (show mj_slo k < 6 by omega) (by decide), mj_nz9 (show mj_slo k < 6 by omega) (by decide), mj_in_nI (show mj_shi k < 6 by omega) (by decide), mj_nz9 (show mj_shi k < 6 by omega) (by decide), ea, eb, mj_in_nI ha (by decide), mj_nz9 ha (by decide), mj_in_nI hb' (by decide), mj_nz9 hb' (by decide), eq_false c3, eq_true c4, m3, m4, mj_setI_2, Int32.or_zero, nI_1, mj_cc_v, mj_cc_n, List.all_cons, List.all_nil, mj_noMk_int, mj_noMk_long, mj_noMk_ref, mj_noMk_junk, List.length_nil, List.length_cons, Nat.zero_le, Nat.reduceLeDiff, Nat.reduceAdd, Bool.and_true, Bool.true_and, Bool.and_self, Nat.reduceBNe, true_or, or_true, true_and, and_true, mj_z0, mj_z1, mj_z01, decide_true, decide_false, Bool.true_and, Bool.false_and, Bool.and_true, Bool.and_false, Bool.true_or, Bool.false_or, Bool.or_false, Bool.or_true, Bool.not_true, Bool.not_false, Bool.and_self, Bool.or_self, if_true, if_false, Bool.true_eq_false, Bool.false_eq_true, not_true, not_false_eq_true]
              exact hi _ _ _ rfl rfl (by omega)
            · rw [if_neg (by rw [decide_eq_true c3, decide_eq_false c4]; decide)] at hi
              simp only [u67_0, u67_1, u67_2, u67_5, u67_6, u67_8, u67_11, u67_12, u67_15, u67_18, u67_19, u67_20, u67_21, u67_22, u67_25, u67_26, u67_29, u67_30, u67_31, u67_32, u67_35, u67_36, u67_39, u67_40, u67_43, u67_46, u67_47, u67_50, u67_51, u67_54, u67_55, u67_56, u67_57, u67_58, u67_61, u67_64, u67_65, u67_68, u67_70, u67_71, u67_74, u67_75, u67_76, u67_77, u67_79, u67_80, u67_81, u67_84, u67_85, u67_86, u67_89, u67_90, u67_92, u67_95, u67_96, u67_97, u67_98, u67_101, u67_102, u67_103, u67_106, u67_109, u67_112, hlen, mj_kN, q, mj_kI_S hX hk22, hb, ht, hz, eq_true c1, f1, f2, o5, sh, qs, o 47 (by decide), o 18 (by decide), o8, oo, d1, mj_rf_some, mj_rf14, mj_in_nI (show mj_slo k < 6 by omega) (by decide), mj_nz9 (show mj_slo k < 6 by omega) (by decide), mj_in_nI (show mj_shi k < 6 by omega) (by decide), mj_nz9 (show mj_shi k < 6 by omega) (by decide), ea, eb, mj_in_nI ha (by decide), mj_nz9 ha (by decide), mj_in_nI hb' (by decide), mj_nz9 hb' (by decide), eq_false c3, eq_false c4, m3, m4, mj_setI_2, Int32.or_zero, nI_1, mj_cc_v, mj_cc_n, List.all_cons, List.all_nil, mj_noMk_int, mj_noMk_long, mj_noMk_ref, mj_noMk_junk, List.length_nil, List.length_cons, Nat.zero_le, Nat.reduceLeDiff, Nat.reduceAdd, Bool.and_true, Bool.true_and, Bool.and_self, Nat.reduceBNe, true_or, or_true, true_and, and_true, mj_z0, mj_z1, mj_z01, decide_true, decide_false, Bool.true_and, Bool.false_and, Bool.and_true, Bool.and_false, Bool.true_or, Bool.false_or, Bool.or_false, Bool.or_true, Bool.not_true, Bool.not_false, Bool.and_self, Bool.or_self, if_true, if_false, Bool.true_eq_false, Bool.false_eq_true, not_true, not_false_eq_true]
              exact hi _ _ _ rfl rfl (by omega)
        · have qs : ¬ nI (mj_sK k) < nI (2 ^ n) := by
            have h6 := mj_sK64 k hk22
            exact nI_nlt (by omega) (by omega)
          rw [if_neg (by rw [decide_eq_false c2, Bool.false_and, Bool.and_false]; decide)] at hi
          simp only [u67_0, u67_1, u67_2, u67_5, u67_6, u67_8, u67_11, u67_12, u67_15, u67_18, u67_19, u67_20, u67_21, u67_22, u67_25, u67_26, u67_29, u67_30, u67_31, u67_32, u67_35, u67_36, u67_39, u67_40, u67_43, u67_46, u67_47, u67_50, u67_51, u67_54, u67_55, u67_56, u67_57, u67_58, u67_61, u67_64, u67_65, u67_68, u67_70, u67_71, u67_74, u67_75, u67_76, u67_77, u67_79, u67_80, u67_81, u67_84, u67_85, u67_86, u67_89, u67_90, u67_92, u67_95, u67_96, u67_97, u67_98, u67_101, u67_102, u67_103, u67_106, u67_109, u67_112, hlen, mj_kN, q, mj_kI_S hX hk22, hb, eq_true c1, o5, sh, qs, oo, m3, m4, nI_1, mj_cc_v, mj_cc_n, List.all_cons, List.all_nil, mj_noMk_int, mj_noMk_long, mj_noMk_ref, mj_noMk_junk, List.length_nil, List.length_cons, Nat.zero_le, Nat.reduceLeDiff, Nat.reduceAdd, Bool.and_true, Bool.true_and, Bool.and_self, Nat.reduceBNe, true_or, or_true, true_and, and_true, mj_z0, mj_z1, mj_z01, decide_true, decide_false, Bool.true_and, Bool.false_and, Bool.and_true, Bool.and_false, Bool.true_or, Bool.false_or, Bool.or_false, Bool.or_true, Bool.not_true, Bool.not_false, Bool.and_self, Bool.or_self, if_true, if_false, Bool.true_eq_false, Bool.false_eq_true, not_true, not_false_eq_true]
          exact hi _ _ _ m3 m4 (by omega)
      · rw [if_neg (by rw [decide_eq_false c1, Bool.false_and]; decide)] at hi
        simp only [u67_0, u67_1, u67_2, u67_5, u67_6, u67_8, u67_11, u67_12, u67_15, u67_18, u67_19, u67_20, u67_21, u67_22, u67_25, u67_26, u67_29, u67_30, u67_31, u67_32, u67_35, u67_36, u67_39, u67_40, u67_43, u67_46, u67_47, u67_50, u67_51, u67_54, u67_55, u67_56, u67_57, u67_58, u67_61, u67_64, u67_65, u67_68, u67_70, u67_71, u67_74, u67_75, u67_76, u67_77, u67_79, u67_80, u67_81, u67_84, u67_85, u67_86, u67_89, u67_90, u67_92, u67_95, u67_96, u67_97, u67_98, u67_101, u67_102, u67_103, u67_106, u67_109, u67_112, hlen, mj_kN, q, mj_kI_S hX hk22, hb, eq_false c1, oo, m3, m4, nI_1, mj_cc_v, mj_cc_n, List.all_cons, List.all_nil, mj_noMk_int, mj_noMk_long, mj_noMk_ref, mj_noMk_junk, List.length_nil, List.length_cons, Nat.zero_le, Nat.reduceLeDiff, Nat.reduceAdd, Bool.and_true, Bool.true_and, Bool.and_self, Nat.reduceBNe, true_or, or_true, true_and, and_true, mj_z0, mj_z1, mj_z01, decide_true, decide_false, Bool.true_and, Bool.false_and, Bool.and_true, Bool.and_false, Bool.true_or, Bool.false_or, Bool.or_false, Bool.or_true, Bool.not_true, Bool.not_false, Bool.and_self, Bool.or_self, if_true, if_false, Bool.true_eq_false, Bool.false_eq_true, not_true, not_false_eq_true]
        exact hi _ _ _ m3 m4 (by omega)
  refine st67 ?_
  have h0 := loop 22 0 mj_junk mj_junk mj_junk rfl rfl (by omega)
  simp only [u67_0, u67_1, u67_2, u67_5, u67_6, u67_8, u67_11, u67_12, u67_15, u67_18, u67_19, u67_20, u67_21, u67_22, u67_25, u67_26, u67_29, u67_30, u67_31, u67_32, u67_35, u67_36, u67_39, u67_40, u67_43, u67_46, u67_47, u67_50, u67_51, u67_54, u67_55, u67_56, u67_57, u67_58, u67_61, u67_64, u67_65, u67_68, u67_70, u67_71, u67_74, u67_75, u67_76, u67_77, u67_79, u67_80, u67_81, u67_84, u67_85, u67_86, u67_89, u67_90, u67_92, u67_95, u67_96, u67_97, u67_98, u67_101, u67_102, u67_103, u67_106, u67_109, u67_112, mj_cc_v, mj_cc_n, List.all_cons, List.all_nil, mj_noMk_int, mj_noMk_long, mj_noMk_ref, mj_noMk_junk, List.length_nil, List.length_cons, Nat.zero_le, Nat.reduceLeDiff, Nat.reduceAdd, Bool.and_true, Bool.true_and, Bool.and_self, Nat.reduceBNe, true_or, or_true, true_and, and_true, mj_z0, mj_z1, mj_z01, decide_true, decide_false, Bool.true_and, Bool.false_and, Bool.and_true, Bool.and_false, Bool.true_or, Bool.false_or, Bool.or_false, Bool.or_true, Bool.not_true, Bool.not_false, Bool.and_self, Bool.or_self, if_true, if_false, Bool.true_eq_false, Bool.false_eq_true, not_true, not_false_eq_true]
  exact h0
end
