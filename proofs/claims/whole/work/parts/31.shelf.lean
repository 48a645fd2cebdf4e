def mj_rfC (σ : mj_St) (w : Int32) : mj_St := mj_setI σ 12 (-w).toNatClampNeg (σ.1 12 (-w).toNatClampNeg + 1)
def mj_rfM (σ : mj_St) (w : Int32) : mj_St := mj_setI σ 62 (-w).toNatClampNeg (σ.1 62 (-w).toNatClampNeg + 1)
def mj_ans (v : Int32) (σ : mj_St) : Option mj_Rs := some (some (.int v), σ)
theorem mj_rfC_u {σ : mj_St} {w : Int32} : (mj_rfC σ w).2 = σ.2 := rfl
theorem mj_rfM_u {σ : mj_St} {w : Int32} : (mj_rfM σ w).2 = σ.2 := rfl
section
variable {X : mj_X} {d : Nat} {σ : mj_St}
theorem sp_rf1 : mj_ev X (d + 1) 3 [.ref 0, .int (-1)] σ = some (some (.int (-1)), mj_rfC σ (-1)) := sp_refuse (by decide) (by decide)
theorem sp_rf2 : mj_ev X (d + 1) 3 [.ref 0, .int (-2)] σ = some (some (.int (-2)), mj_rfC σ (-2)) := sp_refuse (by decide) (by decide)
theorem sp_rf3 : mj_ev X (d + 1) 3 [.ref 0, .int (-3)] σ = some (some (.int (-3)), mj_rfC σ (-3)) := sp_refuse (by decide) (by decide)
theorem sp_rf4 : mj_ev X (d + 1) 3 [.ref 0, .int (-4)] σ = some (some (.int (-4)), mj_rfC σ (-4)) := sp_refuse (by decide) (by decide)
theorem sp_rf5 : mj_ev X (d + 1) 3 [.ref 0, .int (-5)] σ = some (some (.int (-5)), mj_rfC σ (-5)) := sp_refuse (by decide) (by decide)
theorem sp_rf6 : mj_ev X (d + 1) 3 [.ref 0, .int (-6)] σ = some (some (.int (-6)), mj_rfC σ (-6)) := sp_refuse (by decide) (by decide)
theorem sp_rf7 : mj_ev X (d + 1) 3 [.ref 0, .int (-7)] σ = some (some (.int (-7)), mj_rfC σ (-7)) := sp_refuse (by decide) (by decide)
theorem sp_no1 : mj_ev X (d + 1) 158 [.ref 61, .int (-1)] σ = some (some (.int (-1)), mj_rfM σ (-1)) := sp_M_no (by decide)
theorem sp_no2 : mj_ev X (d + 1) 158 [.ref 61, .int (-2)] σ = some (some (.int (-2)), mj_rfM σ (-2)) := sp_M_no (by decide)
theorem sp_no3 : mj_ev X (d + 1) 158 [.ref 61, .int (-3)] σ = some (some (.int (-3)), mj_rfM σ (-3)) := sp_M_no (by decide)
theorem sp_no4 : mj_ev X (d + 1) 158 [.ref 61, .int (-4)] σ = some (some (.int (-4)), mj_rfM σ (-4)) := sp_M_no (by decide)
theorem sp_no5 : mj_ev X (d + 1) 158 [.ref 61, .int (-5)] σ = some (some (.int (-5)), mj_rfM σ (-5)) := sp_M_no (by decide)
theorem sp_no6 : mj_ev X (d + 1) 158 [.ref 61, .int (-6)] σ = some (some (.int (-6)), mj_rfM σ (-6)) := sp_M_no (by decide)
theorem sp_no7 : mj_ev X (d + 1) 158 [.ref 61, .int (-7)] σ = some (some (.int (-7)), mj_rfM σ (-7)) := sp_M_no (by decide)
-- rows of longs filled
def mj_fillL (σ : mj_St) (a n : Nat) (v : Int64) : mj_St := (σ.1, fun c i => if c = a ∧ i < n then v else σ.2.1 c i, σ.2.2)
theorem mj_fillL_0 {a : Nat} {v : Int64} : mj_fillL σ a 0 v = σ := by
  unfold mj_fillL
  simp
theorem mj_fillL_s {a n : Nat} {v : Int64} : mj_setL (mj_fillL σ a n v) a n v = mj_fillL σ a (n + 1) v := by
  unfold mj_setL mj_fillL
  refine Prod.ext rfl (Prod.ext ?_ rfl)
  funext c i
  simp only
  by_cases h1 : c = a
  · by_cases h2 : i = n
    · simp [h1, h2]
    · have : (i < n) = (i < n + 1) := by simp; omega
      simp [h1, h2, this]
  · simp [h1]
theorem mj_fillL_len {a n k : Nat} {v : Int64} : mj_lenL (mj_fillL σ a n v) k = mj_lenL σ k := rfl
theorem mj_lenA_L {a n : Nat} (h : mj_lenL σ a = some n) (ha : a < 999) : mj_lenA X σ a = some (nI n) := by
  unfold mj_lenL at h
  unfold mj_lenA
  rw [if_neg (by omega)] at h
  rw [if_neg (by omega), if_neg (by omega)]
  split at h
  · rename_i m fl hs
    cases h
    rw [hs]
    rfl
  · cases h
theorem sp_fillJ {a n : Nat} {v : Int64} (h : mj_lenL σ a = some n) (ha : a < 999) (hn : n < 2147483648) : mj_ev X (d + 1) 4 [.ref a, .long v] σ = some (none, mj_fillL σ a n v) := by
  refine st4 ?_
  simp only [u4_0, u4_1, u4_2, u4_3, u4_4, u4_7, u4_9, u4_12, u4_13, u4_14, u4_15, u4_16, u4_19, u4_22, mj_kN, mj_lenA_L (X := X) h ha]
  have key := mj_count (X := X) (call := mj_ev X d) (oc := 8) (ret := none) (cc := prog_15_method_101_code) (r := (none, mj_fillL σ a n v)) (N := n) (S := fun k => (6, [.ref a, .long v, mj_junk, .int (nI k), .int (nI n)], [], mj_fillL σ a k v)) (fun k hk hr => by
    have hlt : nI k < nI n := nI_lt hk hn
    have hc : (nI k).toNatClampNeg = k := nI_clamp (by omega)
    show q4 X (mj_ev X d) (6, [.ref a, .long v, mj_junk, .int (nI k), .int (nI n)], [], mj_fillL σ a k v) _
    refine u4_6.mpr ?_
    simp only [u4_0, u4_1, u4_2, u4_3, u4_4, u4_7, u4_9, u4_12, u4_13, u4_14, u4_15, u4_16, u4_19, u4_22, hlt, if_true, mj_kT, mj_fillL_len, h, mj_in_nI hk hn, true_and, hc, mj_fillL_s, nI_1]
    exact hr) (by
    have hge : ¬ nI n < nI n := nI_nlt (Nat.le_refl _) hn
    show q4 X (mj_ev X d) (6, [.ref a, .long v, mj_junk, .int (nI n), .int (nI n)], [], mj_fillL σ a n v) _
    refine u4_6.mpr ?_
    simp only [u4_0, u4_1, u4_2, u4_3, u4_4, u4_7, u4_9, u4_12, u4_13, u4_14, u4_15, u4_16, u4_19, u4_22, hge, if_false]) 0 (Nat.zero_le _)
  rw [mj_fillL_0] at key
  exact key
theorem mj_len_row {k : Nat} (h : k < 8) : mj_lenL σ (4 + k) = some 60 := by
  unfold mj_lenL
  rw [if_neg (by omega)]
  have : mj_shp (4 + k) = (3, 60, []) := by
    rcases (show k = 0 ∨ k = 1 ∨ k = 2 ∨ k = 3 ∨ k = 4 ∨ k = 5 ∨ k = 6 ∨ k = 7 by omega) with rfl | rfl | rfl | rfl | rfl | rfl | rfl | rfl <;> decide +kernel
  rw [this]
  rfl
-- row
def mj_rowV (s so n : Int32) : Int32 := if mj_inb s 8 = true then (if n < 0 then -4 else if so < 0 then -6 else if so < 4 then (if 60 < n then -7 else 1) else -6) else -1
def mj_rowC (σ : mj_St) (s so n : Int32) : mj_St := mj_fillL (mj_setI (mj_setI σ 1 s.toNatClampNeg (100 + so)) 2 s.toNatClampNeg n) (4 + s.toNatClampNeg) 60 0
theorem sp_row {s so n : Int32} : mj_ev X (d + 3) 1 [.ref 0, .int s, .int so, .int n] σ = some (some (.int (mj_rowV s so n)), if mj_rowV s so n = 1 then mj_rowC σ s so n else mj_rfC σ (mj_rowV s so n)) := by
  refine st1 ?_
  simp only [u1_0, u1_1, u1_4, u1_7, u1_8, u1_9, u1_12, u1_13, u1_14, u1_17, u1_18, u1_20, u1_23, u1_24, u1_25, u1_28, u1_29, u1_30, u1_33, u1_34, u1_36, u1_39, u1_40, u1_41, u1_43, u1_46, u1_47, u1_49, u1_52, u1_53, u1_54, u1_57, u1_58, u1_60, u1_61, u1_62, u1_63, u1_64, u1_67, u1_68, u1_69, u1_70, u1_71, u1_74, u1_75, u1_76, u1_77, u1_80, u1_81, sp_isShelf, mj_cc_v, mj_cc_n, List.all_cons, List.all_nil, mj_noMk_int, mj_noMk_long, mj_noMk_ref, mj_noMk_junk, List.length_nil, List.length_cons, Nat.zero_le, Nat.reduceLeDiff, Nat.reduceAdd, Bool.and_true, Bool.true_and, Bool.and_self, Nat.reduceBNe, true_or, true_and, and_true, mj_z0, mj_z1, mj_z01]
  unfold mj_rowV
  cases h1 : mj_inb s 8
  · simp [u1_0, u1_1, u1_4, u1_7, u1_8, u1_9, u1_12, u1_13, u1_14, u1_17, u1_18, u1_20, u1_23, u1_24, u1_25, u1_28, u1_29, u1_30, u1_33, u1_34, u1_36, u1_39, u1_40, u1_41, u1_43, u1_46, u1_47, u1_49, u1_52, u1_53, u1_54, u1_57, u1_58, u1_60, u1_61, u1_62, u1_63, u1_64, u1_67, u1_68, u1_69, u1_70, u1_71, u1_74, u1_75, u1_76, u1_77, u1_80, u1_81, mj_cc_v, mj_cc_n, List.all_cons, List.all_nil, mj_noMk_int, mj_noMk_long, mj_noMk_ref, mj_noMk_junk, List.length_nil, List.length_cons, Nat.zero_le, Nat.reduceLeDiff, Nat.reduceAdd, Bool.and_true, Bool.true_and, Bool.and_self, Nat.reduceBNe, true_or, true_and, and_true, mj_z0, mj_z1, mj_z01, sp_rf1]
  · have hk := mj_in_lt h1
    have hfill := sp_fillJ (X := X) (d := d + 1) (v := 0) (σ := mj_setI (mj_setI σ 1 s.toNatClampNeg (100 + so)) 2 s.toNatClampNeg n) (mj_len_row hk) (by omega) (by decide)
    by_cases h2 : n < 0
    · simp [u1_0, u1_1, u1_4, u1_7, u1_8, u1_9, u1_12, u1_13, u1_14, u1_17, u1_18, u1_20, u1_23, u1_24, u1_25, u1_28, u1_29, u1_30, u1_33, u1_34, u1_36, u1_39, u1_40, u1_41, u1_43, u1_46, u1_47, u1_49, u1_52, u1_53, u1_54, u1_57, u1_58, u1_60, u1_61, u1_62, u1_63, u1_64, u1_67, u1_68, u1_69, u1_70, u1_71, u1_74, u1_75, u1_76, u1_77, u1_80, u1_81, mj_cc_v, mj_cc_n, List.all_cons, List.all_nil, mj_noMk_int, mj_noMk_long, mj_noMk_ref, mj_noMk_junk, List.length_nil, List.length_cons, Nat.zero_le, Nat.reduceLeDiff, Nat.reduceAdd, Bool.and_true, Bool.true_and, Bool.and_self, Nat.reduceBNe, true_or, true_and, and_true, mj_z0, mj_z1, mj_z01, h2, sp_rf4]
    · by_cases h3 : so < 0
      · simp [u1_0, u1_1, u1_4, u1_7, u1_8, u1_9, u1_12, u1_13, u1_14, u1_17, u1_18, u1_20, u1_23, u1_24, u1_25, u1_28, u1_29, u1_30, u1_33, u1_34, u1_36, u1_39, u1_40, u1_41, u1_43, u1_46, u1_47, u1_49, u1_52, u1_53, u1_54, u1_57, u1_58, u1_60, u1_61, u1_62, u1_63, u1_64, u1_67, u1_68, u1_69, u1_70, u1_71, u1_74, u1_75, u1_76, u1_77, u1_80, u1_81, mj_cc_v, mj_cc_n, List.all_cons, List.all_nil, mj_noMk_int, mj_noMk_long, mj_noMk_ref, mj_noMk_junk, List.length_nil, List.length_cons, Nat.zero_le, Nat.reduceLeDiff, Nat.reduceAdd, Bool.and_true, Bool.true_and, Bool.and_self, Nat.reduceBNe, true_or, true_and, and_true, mj_z0, mj_z1, mj_z01, h2, h3, sp_rf6]
      · by_cases h4 : so < 4
        · by_cases h5 : 60 < n
          · simp [u1_0, u1_1, u1_4, u1_7, u1_8, u1_9, u1_12, u1_13, u1_14, u1_17, u1_18, u1_20, u1_23, u1_24, u1_25, u1_28, u1_29, u1_30, u1_33, u1_34, u1_36, u1_39, u1_40, u1_41, u1_43, u1_46, u1_47, u1_49, u1_52, u1_53, u1_54, u1_57, u1_58, u1_60, u1_61, u1_62, u1_63, u1_64, u1_67, u1_68, u1_69, u1_70, u1_71, u1_74, u1_75, u1_76, u1_77, u1_80, u1_81, mj_cc_v, mj_cc_n, List.all_cons, List.all_nil, mj_noMk_int, mj_noMk_long, mj_noMk_ref, mj_noMk_junk, List.length_nil, List.length_cons, Nat.zero_le, Nat.reduceLeDiff, Nat.reduceAdd, Bool.and_true, Bool.true_and, Bool.and_self, Nat.reduceBNe, true_or, true_and, and_true, mj_z0, mj_z1, mj_z01, h2, h3, h4, h5, sp_rf7]
          · simp [u1_0, u1_1, u1_4, u1_7, u1_8, u1_9, u1_12, u1_13, u1_14, u1_17, u1_18, u1_20, u1_23, u1_24, u1_25, u1_28, u1_29, u1_30, u1_33, u1_34, u1_36, u1_39, u1_40, u1_41, u1_43, u1_46, u1_47, u1_49, u1_52, u1_53, u1_54, u1_57, u1_58, u1_60, u1_61, u1_62, u1_63, u1_64, u1_67, u1_68, u1_69, u1_70, u1_71, u1_74, u1_75, u1_76, u1_77, u1_80, u1_81, mj_cc_v, mj_cc_n, List.all_cons, List.all_nil, mj_noMk_int, mj_noMk_long, mj_noMk_ref, mj_noMk_junk, List.length_nil, List.length_cons, Nat.zero_le, Nat.reduceLeDiff, Nat.reduceAdd, Bool.and_true, Bool.true_and, Bool.and_self, Nat.reduceBNe, true_or, true_and, and_true, mj_z0, mj_z1, mj_z01, h1, h2, h3, h4, h5, hfill, mj_rowC]
            exact Or.inr rfl
        · simp [u1_0, u1_1, u1_4, u1_7, u1_8, u1_9, u1_12, u1_13, u1_14, u1_17, u1_18, u1_20, u1_23, u1_24, u1_25, u1_28, u1_29, u1_30, u1_33, u1_34, u1_36, u1_39, u1_40, u1_41, u1_43, u1_46, u1_47, u1_49, u1_52, u1_53, u1_54, u1_57, u1_58, u1_60, u1_61, u1_62, u1_63, u1_64, u1_67, u1_68, u1_69, u1_70, u1_71, u1_74, u1_75, u1_76, u1_77, u1_80, u1_81, mj_cc_v, mj_cc_n, List.all_cons, List.all_nil, mj_noMk_int, mj_noMk_long, mj_noMk_ref, mj_noMk_junk, List.length_nil, List.length_cons, Nat.zero_le, Nat.reduceLeDiff, Nat.reduceAdd, Bool.and_true, Bool.true_and, Bool.and_self, Nat.reduceBNe, true_or, true_and, and_true, mj_z0, mj_z1, mj_z01, h2, h3, h4, sp_rf6]
end
