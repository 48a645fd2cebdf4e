section
variable {X : mj_X} {d : Nat} {σ : mj_St}
theorem mj_i60 {s : Int32} {k : Nat} (h : mj_inb s 8 = true) : 60 * s + nI k = nI (60 * s.toNatClampNeg + k) := by
  have e := mj_in_eq h (by decide)
  generalize s.toNatClampNeg = m at e
  subst e
  unfold nI
  rw [Int32.ofNat_add, Int32.ofNat_mul]
  rfl
theorem mj_i60' {s i : Int32} (h : mj_inb s 8 = true) (hi : mj_inb i 60 = true) : mj_inb (60 * s + i) 480 = true ∧ (60 * s + i).toNatClampNeg = 60 * s.toNatClampNeg + i.toNatClampNeg := by
  have e := mj_in_eq hi (by decide)
  have h1 := mj_in_lt h
  have h2 := mj_in_lt hi
  have e2 := mj_i60 (k := i.toNatClampNeg) h
  rw [← e] at e2
  rw [e2]
  exact ⟨mj_in_nI (by omega) (by decide), nI_clamp (by omega)⟩
-- what a row's sort leaves of a number
def mj_low (so : Int32) (v : Int64) : Int64 := if so = 0 then v.toInt32.toInt8.toInt32.toInt64 else if so = 1 then v.toInt32.toInt16.toInt32.toInt64 else if so = 2 then v.toInt32.toInt64 else v
theorem sp_lowest {so : Int32} {v : Int64} : mj_ev X (d + 1) 7 [.int so, .long v] σ = some (some (.long (mj_low so v)), σ) := by
  refine st7 ?_
  simp only [u7_0, u7_1, u7_28, u7_29, u7_30, u7_31, u7_32, u7_33, u7_34, u7_35, u7_36, u7_37, u7_38, u7_39, u7_40, u7_41, u7_42, u7_43]
  unfold mj_low
  (repeat' split) <;> simp_all
theorem mj_low_id {so : Int32} {v : Int64} (h0 : ¬ so = 0) (h1 : ¬ so = 1) (h2 : ¬ so = 2) : mj_low so v = v := by
  unfold mj_low
  rw [if_neg h0, if_neg h1, if_neg h2]
-- set
def mj_setC (σ : mj_St) (s i : Int32) (v : Int64) : mj_St := mj_setL σ (4 + s.toNatClampNeg) i.toNatClampNeg (mj_low (σ.1 1 s.toNatClampNeg - 100) v)
theorem mj_rr_0 {s : Int32} (h : mj_rr σ s = 0) : mj_inb s 8 = true ∧ ¬ σ.1 1 s.toNatClampNeg < 100 := by
  unfold mj_rr at h
  split at h
  · split at h
    · split at h <;> cases h
    · exact ⟨by assumption, by assumption⟩
  · cases h
theorem mj_rr_ne {s : Int32} (h : ¬ mj_rr σ s = 0) : mj_rr σ s = -1 ∨ mj_rr σ s = -2 ∨ mj_rr σ s = -3 := by
  unfold mj_rr at h ⊢
  split
  · rename_i h1
    rw [if_pos h1] at h
    split
    · split <;> simp
    · rename_i h2
      rw [if_neg h2] at h
      exact absurd rfl h
  · simp
theorem sp_rfr {s : Int32} (h : ¬ mj_rr σ s = 0) {τ : mj_St} : mj_ev X (d + 1) 3 [.ref 0, .int (mj_rr σ s)] τ = some (some (.int (mj_rr σ s)), mj_rfC τ (mj_rr σ s)) := by
  rcases mj_rr_ne h with e | e | e <;> rw [e]
  · exact sp_rf1
  · exact sp_rf2
  · exact sp_rf3
theorem sp_set {s i : Int32} {v : Int64} (h60 : mj_rr σ s = 0 → (σ.1 2 s.toNatClampNeg).toInt ≤ 60) : mj_ev X (d + 3) 5 [.ref 0, .int s, .int i, .long v] σ = some (if mj_rr σ s = 0 then (if mj_lt0 i (σ.1 2 s.toNatClampNeg) = true then (some (.int 1), mj_setC σ s i v) else (some (.int (-5)), mj_rfC σ (-5))) else (some (.int (mj_rr σ s)), mj_rfC σ (mj_rr σ s))) := by
  refine st5 ?_
  simp only [u5_0, u5_1, u5_2, u5_5, u5_7, u5_9, u5_12, u5_13, u5_15, u5_18, u5_19, u5_20, u5_23, u5_24, u5_25, u5_28, u5_29, u5_30, u5_33, u5_34, u5_36, u5_39, u5_40, u5_41, u5_44, u5_45, u5_46, u5_47, u5_48, u5_51, u5_52, u5_53, u5_55, u5_56, u5_57, u5_60, u5_61, u5_62, sp_rowRefusal, mj_cc_v, mj_cc_n, List.all_cons, List.all_nil, mj_noMk_int, mj_noMk_long, mj_noMk_ref, mj_noMk_junk, List.length_nil, List.length_cons, Nat.zero_le, Nat.reduceLeDiff, Nat.reduceAdd, Bool.and_true, Bool.true_and, Bool.and_self, Nat.reduceBNe, true_or, true_and, and_true, mj_z0, mj_z1, mj_z01]
  by_cases h : mj_rr σ s = 0
  · obtain ⟨hs, -⟩ := mj_rr_0 h
    have hr := mj_len_row (σ := σ) (mj_in_lt hs)
    simp only [h, if_true, u5_0, u5_1, u5_2, u5_5, u5_7, u5_9, u5_12, u5_13, u5_15, u5_18, u5_19, u5_20, u5_23, u5_24, u5_25, u5_28, u5_29, u5_30, u5_33, u5_34, u5_36, u5_39, u5_40, u5_41, u5_44, u5_45, u5_46, u5_47, u5_48, u5_51, u5_52, u5_53, u5_55, u5_56, u5_57, u5_60, u5_61, u5_62, mj_cc_v, mj_cc_n, List.all_cons, List.all_nil, mj_noMk_int, mj_noMk_long, mj_noMk_ref, mj_noMk_junk, List.length_nil, List.length_cons, Nat.zero_le, Nat.reduceLeDiff, Nat.reduceAdd, Bool.and_true, Bool.true_and, Bool.and_self, Nat.reduceBNe, true_or, true_and, and_true, mj_z0, mj_z1, mj_z01, hs, sp_lowest, sp_rf5]
    cases hi : mj_lt0 i (σ.1 2 s.toNatClampNeg)
    · simp only [mj_lt0] at hi
      (repeat' split) <;> simp_all
    · have hi60 := mj_lt0_in hi (h60 h)
      obtain ⟨h1, h2⟩ := mj_lt0_eq hi
      simp [h1, h2, mj_kT, hr, hi60, u5_0, u5_1, u5_2, u5_5, u5_7, u5_9, u5_12, u5_13, u5_15, u5_18, u5_19, u5_20, u5_23, u5_24, u5_25, u5_28, u5_29, u5_30, u5_33, u5_34, u5_36, u5_39, u5_40, u5_41, u5_44, u5_45, u5_46, u5_47, u5_48, u5_51, u5_52, u5_53, u5_55, u5_56, u5_57, u5_60, u5_61, u5_62, mj_setC]
  · simp [h, u5_0, u5_1, u5_2, u5_5, u5_7, u5_9, u5_12, u5_13, u5_15, u5_18, u5_19, u5_20, u5_23, u5_24, u5_25, u5_28, u5_29, u5_30, u5_33, u5_34, u5_36, u5_39, u5_40, u5_41, u5_44, u5_45, u5_46, u5_47, u5_48, u5_51, u5_52, u5_53, u5_55, u5_56, u5_57, u5_60, u5_61, u5_62, mj_cc_v, mj_cc_n, List.all_cons, List.all_nil, mj_noMk_int, mj_noMk_long, mj_noMk_ref, mj_noMk_junk, List.length_nil, List.length_cons, Nat.zero_le, Nat.reduceLeDiff, Nat.reduceAdd, Bool.and_true, Bool.true_and, Bool.and_self, Nat.reduceBNe, true_or, true_and, and_true, mj_z0, mj_z1, mj_z01, sp_rfr h]
theorem sp_element {s i : Int32} (h60 : mj_rr σ s = 0 → (σ.1 2 s.toNatClampNeg).toInt ≤ 60) : mj_ev X (d + 2) 11 [.ref 0, .int s, .int i] σ = some (some (.long (if mj_rr σ s = 0 ∧ mj_lt0 i (σ.1 2 s.toNatClampNeg) = true then σ.2.1 (4 + s.toNatClampNeg) i.toNatClampNeg else 0)), σ) := by
  refine st11 ?_
  simp only [u11_0, u11_1, u11_4, u11_7, u11_8, u11_11, u11_12, u11_13, u11_15, u11_18, u11_19, u11_22, u11_23, u11_24, u11_27, u11_28, u11_29, u11_32, u11_33, u11_34, u11_35, u11_38, u11_39, u11_40, u11_41, u11_42, sp_isShelf, mj_cc_v, mj_cc_n, List.all_cons, List.all_nil, mj_noMk_int, mj_noMk_long, mj_noMk_ref, mj_noMk_junk, List.length_nil, List.length_cons, Nat.zero_le, Nat.reduceLeDiff, Nat.reduceAdd, Bool.and_true, Bool.true_and, Bool.and_self, Nat.reduceBNe, true_or, true_and, and_true, mj_z0, mj_z1, mj_z01]
  by_cases h : mj_rr σ s = 0
  · obtain ⟨hs, hc⟩ := mj_rr_0 h
    have hr := mj_len_row (σ := σ) (mj_in_lt hs)
    cases hi : mj_lt0 i (σ.1 2 s.toNatClampNeg)
    · simp only [mj_lt0] at hi
      simp only [hs, hc, if_false, Bool.true_eq_false]
      (repeat' split) <;> simp_all
    · have hi60 := mj_lt0_in hi (h60 h)
      obtain ⟨h1, h2⟩ := mj_lt0_eq hi
      simp [h1, h2, hs, hc, mj_kL, hr, hi60, h]
  · cases hs : mj_inb s 8
    · simp [h]
    · have hc : σ.1 1 s.toNatClampNeg < 100 := by
        by_cases q : σ.1 1 s.toNatClampNeg < 100
        · exact q
        · exact absurd (by unfold mj_rr; rw [if_pos hs, if_neg q]) h
      simp [h, hc]
theorem sp_put {s i : Int32} : mj_ev X (d + 2) 12 [.ref 0, .int s, .int i] σ = some (if mj_inb s 8 = true ∧ (i = -1 ∨ mj_lt0 i (σ.1 14 14) = true) then (some (.int (if i = -1 then 0 else 1)), mj_setI σ 1 s.toNatClampNeg i) else (some (.int (-1)), mj_rfC σ (-1))) := by
  refine st12 ?_
  simp only [u12_0, u12_1, u12_4, u12_7, u12_8, u12_9, u12_12, u12_13, u12_16, u12_17, u12_20, u12_23, u12_24, u12_25, u12_28, u12_29, u12_30, u12_33, u12_34, u12_35, u12_36, u12_37, u12_38, u12_41, u12_42, u12_45, u12_46, sp_isShelf, sp_has, mj_cc_v, mj_cc_n, List.all_cons, List.all_nil, mj_noMk_int, mj_noMk_long, mj_noMk_ref, mj_noMk_junk, List.length_nil, List.length_cons, Nat.zero_le, Nat.reduceLeDiff, Nat.reduceAdd, Bool.and_true, Bool.true_and, Bool.and_self, Nat.reduceBNe, true_or, true_and, and_true, mj_z0, mj_z1, mj_z01, sp_rf1]
  cases hs : mj_inb s 8
  · simp
  · by_cases hi : i = -1
    · simp [hi]
    · cases hh : mj_lt0 i (σ.1 14 14) <;> simp [hi]
theorem sp_holds {s : Int32} : mj_ev X (d + 2) 14 [.ref 0, .int s] σ = some (some (.int (if mj_inb s 8 = true then σ.1 1 s.toNatClampNeg else -1)), σ) := by
  refine st14 ?_
  simp only [u14_0, u14_1, u14_4, u14_7, u14_8, u14_11, u14_12, u14_13, u14_16, u14_17, sp_isShelf, mj_cc_v, mj_cc_n, List.all_cons, List.all_nil, mj_noMk_int, mj_noMk_long, mj_noMk_ref, mj_noMk_junk, List.length_nil, List.length_cons, Nat.zero_le, Nat.reduceLeDiff, Nat.reduceAdd, Bool.and_true, Bool.true_and, Bool.and_self, Nat.reduceBNe, true_or, true_and, and_true, mj_z0, mj_z1, mj_z01]
  cases h : mj_inb s 8 <;> simp
-- the reference's
def mj_fillR (σ : mj_St) (a b n : Nat) (v : Int64) : mj_St := (σ.1, fun c i => if c = a ∧ b ≤ i ∧ i < b + n then v else σ.2.1 c i, σ.2.2)
theorem mj_fillR_0 {a b : Nat} {v : Int64} : mj_fillR σ a b 0 v = σ := by
  refine Prod.ext rfl (Prod.ext ?_ rfl)
  funext c i
  simp only [mj_fillR]
  rw [if_neg (by omega)]
theorem mj_fillR_s {a b n : Nat} {v : Int64} : mj_setL (mj_fillR σ a b n v) a (b + n) v = mj_fillR σ a b (n + 1) v := by
  refine Prod.ext rfl (Prod.ext ?_ rfl)
  funext c i
  simp only [mj_setL, mj_fillR]
  by_cases h1 : c = a
  · by_cases h2 : i = b + n
    · simp [h1, h2]
    · have : (b ≤ i ∧ i < b + n) = (b ≤ i ∧ i < b + (n + 1)) := by simp; omega
      simp [h1, h2, this]
  · simp [h1]
def mj_rowM (σ : mj_St) (s so n : Int32) : mj_St := mj_fillR (mj_setI (mj_setI (mj_setI σ 78 s.toNatClampNeg 1) 79 s.toNatClampNeg so) 80 s.toNatClampNeg n) 82 (60 * s.toNatClampNeg) 60 0
theorem mj_le3 {x : Int32} : (3 < x) = ¬ (x < 4) := by
  rw [Int32.lt_iff_toInt_lt, Int32.lt_iff_toInt_lt]
  show ((3 : Int) < x.toInt) = ¬ (x.toInt < 4)
  simp
  omega
theorem sp_M_row {s so n : Int32} : mj_ev X (d + 2) 156 [.ref 61, .int s, .int so, .int n] σ = some (some (.int (mj_rowV s so n)), if mj_rowV s so n = 1 then mj_rowM σ s so n else mj_rfM σ (mj_rowV s so n)) := by
  refine st156 ?_
  simp only [u156_0, u156_1, u156_2, u156_5, u156_8, u156_9, u156_10, u156_13, u156_14, u156_15, u156_18, u156_19, u156_21, u156_24, u156_25, u156_26, u156_29, u156_30, u156_31, u156_34, u156_35, u156_37, u156_40, u156_41, u156_42, u156_44, u156_47, u156_48, u156_50, u156_53, u156_54, u156_55, u156_58, u156_59, u156_60, u156_61, u156_62, u156_65, u156_66, u156_67, u156_68, u156_69, u156_72, u156_73, u156_74, u156_75, u156_76, u156_80, u156_82, u156_85, u156_86, u156_89, u156_91, u156_92, u156_93, u156_95, u156_96, u156_97, u156_98, u156_101, u156_104, u156_105, sp_M_isShelf, mj_cc_v, mj_cc_n, List.all_cons, List.all_nil, mj_noMk_int, mj_noMk_long, mj_noMk_ref, mj_noMk_junk, List.length_nil, List.length_cons, Nat.zero_le, Nat.reduceLeDiff, Nat.reduceAdd, Bool.and_true, Bool.true_and, Bool.and_self, Nat.reduceBNe, true_or, true_and, and_true, mj_z0, mj_z1, mj_z01, sp_no1, sp_no4, sp_no6, sp_no7, mj_le3]
  unfold mj_rowV
  cases h1 : mj_inb s 8
  · simp
  · by_cases h2 : n < 0
    · simp [h2]
    · by_cases h3 : so < 0
      · simp [h2, h3]
      · by_cases h4 : so < 4
        · by_cases h5 : 60 < n
          · simp [h2, h3, h4, h5]
          · simp only [h2, h3, h4, h5, if_true, if_false, not_true, Bool.true_eq_false]
            have hs8 := mj_in_lt h1
            have key := mj_count (X := X) (call := mj_ev X (d + 1)) (oc := 6) (ret := (some .int)) (cc := prog_8_method_8_code) (r := (some (.int 1), mj_rowM σ s so n)) (N := 60) (S := fun k => (78, [.ref 61, .int s, .int so, .int n, .int (nI k)], [], mj_fillR (mj_setI (mj_setI (mj_setI σ 78 s.toNatClampNeg 1) 79 s.toNatClampNeg so) 80 s.toNatClampNeg n) 82 (60 * s.toNatClampNeg) k 0)) (fun k hk hr => by
              have hlt : nI k < 60 := nI_lt (b := 60) hk (by decide)
              refine u156_78.mpr ?_
              have hin : mj_inb (nI (60 * s.toNatClampNeg + k)) 480 = true := mj_in_nI (by omega) (by decide)
              have hcl : (nI (60 * s.toNatClampNeg + k)).toNatClampNeg = 60 * s.toNatClampNeg + k := nI_clamp (by omega)
              simp only [u156_0, u156_1, u156_2, u156_5, u156_8, u156_9, u156_10, u156_13, u156_14, u156_15, u156_18, u156_19, u156_21, u156_24, u156_25, u156_26, u156_29, u156_30, u156_31, u156_34, u156_35, u156_37, u156_40, u156_41, u156_42, u156_44, u156_47, u156_48, u156_50, u156_53, u156_54, u156_55, u156_58, u156_59, u156_60, u156_61, u156_62, u156_65, u156_66, u156_67, u156_68, u156_69, u156_72, u156_73, u156_74, u156_75, u156_76, u156_80, u156_82, u156_85, u156_86, u156_89, u156_91, u156_92, u156_93, u156_95, u156_96, u156_97, u156_98, u156_101, u156_104, u156_105, hlt, if_true, mj_i60 h1, hin, hcl, true_and, mj_fillR_s, nI_1]
              exact hr) (by
              refine u156_78.mpr ?_
              have hge : ¬ nI 60 < 60 := by decide
              simp only [u156_0, u156_1, u156_2, u156_5, u156_8, u156_9, u156_10, u156_13, u156_14, u156_15, u156_18, u156_19, u156_21, u156_24, u156_25, u156_26, u156_29, u156_30, u156_31, u156_34, u156_35, u156_37, u156_40, u156_41, u156_42, u156_44, u156_47, u156_48, u156_50, u156_53, u156_54, u156_55, u156_58, u156_59, u156_60, u156_61, u156_62, u156_65, u156_66, u156_67, u156_68, u156_69, u156_72, u156_73, u156_74, u156_75, u156_76, u156_80, u156_82, u156_85, u156_86, u156_89, u156_91, u156_92, u156_93, u156_95, u156_96, u156_97, u156_98, u156_101, u156_104, u156_105, hge, if_false]
              rfl) 0 (Nat.zero_le _)
            rw [mj_fillR_0] at key
            simp only [true_and]
            exact key
        · simp [h2, h3, h4]
end
