section
variable {X : mj_X} {d : Nat} {σ τ ρ : mj_St}
/-- the reference after so many bodies have run -/
def mj_trM (σ : mj_St) (bs : List Int32) : mj_St := (fun c i => if c = 89 ∧ i < bs.length then bs.getD i 0 else if c = 61 ∧ i = 59 then nI bs.length else σ.1 c i, σ.2)
theorem mj_trM_o {bs : List Int32} {c : Nat} (h1 : c ≠ 89) (h2 : c ≠ 61) : (mj_trM σ bs).1 c = σ.1 c := by
  funext i
  show (if c = 89 ∧ i < bs.length then bs.getD i 0 else if c = 61 ∧ i = 59 then nI bs.length else σ.1 c i) = σ.1 c i
  rw [if_neg (fun z => h1 z.1), if_neg (fun z => h2 z.1)]
theorem mj_trM_59 {bs : List Int32} : (mj_trM σ bs).1 61 59 = nI bs.length := rfl
theorem mj_trM_i {bs : List Int32} {i : Nat} (h : i ≠ 59) : (mj_trM σ bs).1 61 i = σ.1 61 i := by
  show (if 61 = 89 ∧ i < bs.length then bs.getD i 0 else if 61 = 61 ∧ i = 59 then nI bs.length else σ.1 61 i) = σ.1 61 i
  rw [if_neg (fun z => absurd z.1 (by decide)), if_neg (fun z => h z.2)]
theorem mj_trM_0 : mj_setI σ 61 59 0 = mj_trM σ [] := by
  unfold mj_setI mj_trM
  refine Prod.ext ?_ rfl
  funext c i
  show (if c = 61 ∧ i = 59 then 0 else σ.1 c i) = (if c = 89 ∧ i < 0 then (0 : Int32) else if c = 61 ∧ i = 59 then nI 0 else σ.1 c i)
  rw [if_neg (show ¬ (c = 89 ∧ i < 0) by omega)]
  rfl
theorem mj_trM_s {bs : List Int32} {b : Int32} : mj_setI (mj_setI (mj_trM σ bs) 89 bs.length b) 61 59 (nI (bs.length + 1)) = mj_trM σ (bs ++ [b]) := by
  unfold mj_setI mj_trM
  refine Prod.ext ?_ rfl
  funext c i
  have hl : (bs ++ [b]).length = bs.length + 1 := by rw [List.length_append]; rfl
  show (if c = 61 ∧ i = 59 then nI (bs.length + 1) else if c = 89 ∧ i = bs.length then b else if c = 89 ∧ i < bs.length then bs.getD i 0 else if c = 61 ∧ i = 59 then nI bs.length else σ.1 c i) = (if c = 89 ∧ i < (bs ++ [b]).length then (bs ++ [b]).getD i 0 else if c = 61 ∧ i = 59 then nI (bs ++ [b]).length else σ.1 c i)
  rw [hl]
  by_cases c1 : c = 61 ∧ i = 59
  · rw [if_pos c1, if_neg (show ¬ (c = 89 ∧ i < bs.length + 1) by omega), if_pos c1]
  · rw [if_neg c1]
    by_cases c2 : c = 89
    · by_cases c3 : i = bs.length
      · rw [if_pos ⟨c2, c3⟩, if_pos ⟨c2, by omega⟩, c3]
        simp
      · rw [if_neg (fun z => c3 z.2)]
        by_cases c4 : i < bs.length
        · rw [if_pos ⟨c2, c4⟩, if_pos ⟨c2, by omega⟩]
          simp [List.getD_eq_getElem?_getD, List.getElem?_append_left c4]
        · rw [if_neg (fun z => c4 z.2), if_neg c1, if_neg (show ¬ (c = 89 ∧ i < bs.length + 1) by omega), if_neg c1]
    · rw [if_neg (fun z => c2 z.1), if_neg (fun z => c2 z.1), if_neg c1, if_neg (fun z => c2 z.1), if_neg c1]
theorem sp_M_body {bs : List Int32} {b : Int32} (h : bs.length < 20) : mj_ev X (d + 1) 244 [.ref 61, .int b] (mj_trM σ bs) = some (none, mj_trM σ (bs ++ [b])) := by
  have q : nI bs.length < 20 := nI_lt (b := 20) h (by decide)
  have e : (mj_setI (mj_trM σ bs) 89 bs.length b).1 61 59 = nI bs.length := rfl
  refine st244 ?_
  simp only [u244_0, u244_1, u244_4, u244_6, u244_9, u244_10, u244_13, u244_14, u244_17, u244_18, u244_19, u244_20, u244_21, u244_24, u244_25, u244_26, u244_29, mj_trM_59, q, e, mj_in_nI h (by decide), mj_nz9 h (by decide), nI_1, mj_trM_s, mj_cc_v, mj_cc_n, List.all_cons, List.all_nil, mj_noMk_int, mj_noMk_long, mj_noMk_ref, mj_noMk_junk, List.length_nil, List.length_cons, Nat.zero_le, Nat.reduceLeDiff, Nat.reduceAdd, Bool.and_true, Bool.true_and, Bool.and_self, Nat.reduceBNe, true_or, or_true, true_and, and_true, mj_z0, mj_z1, mj_z01, decide_true, decide_false, Bool.true_and, Bool.false_and, Bool.and_true, Bool.and_false, Bool.true_or, Bool.false_or, Bool.or_false, Bool.or_true, Bool.not_true, Bool.not_false, Bool.and_self, Bool.or_self, if_true, if_false, Bool.true_eq_false, Bool.false_eq_true, not_true, not_false_eq_true]
/-- what an act tells: the bodies, the number -/
def mj_aN (kd i x : Int32) : List Int32 × Int32 := (if kd = 4 then [50, 20, 10] else if kd < 5 then [20, 10] else [10], if kd = 4 then -((x + i) * 3) else if kd < 5 then (x + i) * 3 else x + i)
def mj_aC (kd i x ow : Int32) : List Int32 × Int32 := ((if kd = 2 then [30, 11] else if kd = 6 then [70, 11] else [11]) ++ (mj_aN kd i x).1, if kd = 2 then (mj_aN kd i x).2 * 2 + ow else if kd = 6 then (mj_aN kd i x).2 * 2 ^^^ 5 else (mj_aN kd i x).2 * 2)
def mj_aE (kd i x ow : Int32) : List Int32 × Int32 := ((if kd = 3 then [40, 12] else if kd = 5 then [60, 12] else [12]) ++ (mj_aC kd i (if kd = 3 then x + 1 else x) ow).1 ++ (mj_aN kd i ((if kd = 3 then x + 1 else x) - ow)).1, if kd = 5 then ((mj_aC kd i (if kd = 3 then x + 1 else x) ow).2 ^^^ (mj_aN kd i ((if kd = 3 then x + 1 else x) - ow)).2) - i else (mj_aC kd i (if kd = 3 then x + 1 else x) ow).2 ^^^ (mj_aN kd i ((if kd = 3 then x + 1 else x) - ow)).2)
theorem mj_aN_len {kd i x : Int32} : (mj_aN kd i x).1.length ≤ 3 := by
  unfold mj_aN
  show (if kd = 4 then [50, 20, 10] else if kd < 5 then [20, 10] else [(10 : Int32)]).length ≤ 3
  split
  · decide
  · split <;> decide
theorem mj_aC_len {kd i x ow : Int32} : (mj_aC kd i x ow).1.length ≤ 5 := by
  have h := mj_aN_len (kd := kd) (i := i) (x := x)
  unfold mj_aC
  show ((if kd = 2 then [30, 11] else if kd = 6 then [70, 11] else [(11 : Int32)]) ++ (mj_aN kd i x).1).length ≤ 5
  rw [List.length_append]
  split
  · show 2 + _ ≤ 5
    omega
  · split
    · show 2 + _ ≤ 5
      omega
    · show 1 + _ ≤ 5
      omega
theorem sp_M_needs {bs : List Int32} {i x : Int32} (hi : mj_inb i 9 = true) (h : bs.length ≤ 15) : mj_ev X (d + 2) 243 [.ref 61, .int i, .int x] (mj_trM σ bs) = some (some (.int (mj_aN (σ.1 65 i.toNatClampNeg) i x).2), mj_trM σ (bs ++ (mj_aN (σ.1 65 i.toNatClampNeg) i x).1)) := by
  have hb : ∀ (cs : List Int32) (b : Int32), cs.length < 20 → mj_ev X (d + 1) 244 [.ref 61, .int b] (mj_trM σ cs) = some (none, mj_trM σ (cs ++ [b])) := fun cs b h => sp_M_body h
  have e65 : ∀ cs, (mj_trM σ cs).1 65 = σ.1 65 := fun cs => mj_trM_o (by decide) (by decide)
  have l1 : ∀ b : Int32, (bs ++ [b]).length < 20 := fun b => by rw [List.length_append]; show bs.length + 1 < 20; omega
  have l2 : ∀ b c : Int32, (bs ++ [b] ++ [c]).length < 20 := fun b c => by rw [List.length_append, List.length_append]; show bs.length + 1 + 1 < 20; omega
  have l0 : bs.length < 20 := by omega
  unfold mj_aN
  refine st243 ?_
  by_cases c4 : σ.1 65 i.toNatClampNeg = 4
  · have n45 : (4 : Int32) < 5 := by decide
    have a1 : bs ++ [50] ++ [20] ++ [10] = bs ++ [50, 20, 10] := by simp
    simp only [u243_0, u243_1, u243_4, u243_5, u243_6, u243_7, u243_10, u243_11, u243_13, u243_16, u243_17, u243_20, u243_21, u243_22, u243_23, u243_26, u243_27, u243_29, u243_32, u243_33, u243_35, u243_38, u243_39, u243_40, u243_41, u243_42, u243_43, u243_46, u243_47, u243_48, u243_49, u243_52, u243_53, u243_54, u243_55, u243_56, u243_57, u243_60, u243_61, u243_62, u243_63, u243_66, u243_67, u243_68, u243_71, u243_72, e65, c4, n45, hi, hb bs 50 l0, hb (bs ++ [50]) 20 (l1 50), hb (bs ++ [50] ++ [20]) 10 (l2 50 20), a1, mj_cc_v, mj_cc_n, List.all_cons, List.all_nil, mj_noMk_int, mj_noMk_long, mj_noMk_ref, mj_noMk_junk, List.length_nil, List.length_cons, Nat.zero_le, Nat.reduceLeDiff, Nat.reduceAdd, Bool.and_true, Bool.true_and, Bool.and_self, Nat.reduceBNe, true_or, or_true, true_and, and_true, mj_z0, mj_z1, mj_z01, decide_true, decide_false, Bool.true_and, Bool.false_and, Bool.and_true, Bool.and_false, Bool.true_or, Bool.false_or, Bool.or_false, Bool.or_true, Bool.not_true, Bool.not_false, Bool.and_self, Bool.or_self, if_true, if_false, Bool.true_eq_false, Bool.false_eq_true, not_true, not_false_eq_true]
  · by_cases c5 : σ.1 65 i.toNatClampNeg < 5
    · have a1 : bs ++ [20] ++ [10] = bs ++ [20, 10] := by simp
      simp only [u243_0, u243_1, u243_4, u243_5, u243_6, u243_7, u243_10, u243_11, u243_13, u243_16, u243_17, u243_20, u243_21, u243_22, u243_23, u243_26, u243_27, u243_29, u243_32, u243_33, u243_35, u243_38, u243_39, u243_40, u243_41, u243_42, u243_43, u243_46, u243_47, u243_48, u243_49, u243_52, u243_53, u243_54, u243_55, u243_56, u243_57, u243_60, u243_61, u243_62, u243_63, u243_66, u243_67, u243_68, u243_71, u243_72, e65, c4, c5, hi, hb bs 20 l0, hb (bs ++ [20]) 10 (l1 20), a1, mj_cc_v, mj_cc_n, List.all_cons, List.all_nil, mj_noMk_int, mj_noMk_long, mj_noMk_ref, mj_noMk_junk, List.length_nil, List.length_cons, Nat.zero_le, Nat.reduceLeDiff, Nat.reduceAdd, Bool.and_true, Bool.true_and, Bool.and_self, Nat.reduceBNe, true_or, or_true, true_and, and_true, mj_z0, mj_z1, mj_z01, decide_true, decide_false, Bool.true_and, Bool.false_and, Bool.and_true, Bool.and_false, Bool.true_or, Bool.false_or, Bool.or_false, Bool.or_true, Bool.not_true, Bool.not_false, Bool.and_self, Bool.or_self, if_true, if_false, Bool.true_eq_false, Bool.false_eq_true, not_true, not_false_eq_true]
    · simp only [u243_0, u243_1, u243_4, u243_5, u243_6, u243_7, u243_10, u243_11, u243_13, u243_16, u243_17, u243_20, u243_21, u243_22, u243_23, u243_26, u243_27, u243_29, u243_32, u243_33, u243_35, u243_38, u243_39, u243_40, u243_41, u243_42, u243_43, u243_46, u243_47, u243_48, u243_49, u243_52, u243_53, u243_54, u243_55, u243_56, u243_57, u243_60, u243_61, u243_62, u243_63, u243_66, u243_67, u243_68, u243_71, u243_72, e65, c4, c5, hi, hb bs 10 l0, mj_cc_v, mj_cc_n, List.all_cons, List.all_nil, mj_noMk_int, mj_noMk_long, mj_noMk_ref, mj_noMk_junk, List.length_nil, List.length_cons, Nat.zero_le, Nat.reduceLeDiff, Nat.reduceAdd, Bool.and_true, Bool.true_and, Bool.and_self, Nat.reduceBNe, true_or, or_true, true_and, and_true, mj_z0, mj_z1, mj_z01, decide_true, decide_false, Bool.true_and, Bool.false_and, Bool.and_true, Bool.and_false, Bool.true_or, Bool.false_or, Bool.or_false, Bool.or_true, Bool.not_true, Bool.not_false, Bool.and_self, Bool.or_self, if_true, if_false, Bool.true_eq_false, Bool.false_eq_true, not_true, not_false_eq_true]
theorem sp_M_costs {bs : List Int32} {i x : Int32} (hi : mj_inb i 9 = true) (h : bs.length ≤ 12) : mj_ev X (d + 3) 245 [.ref 61, .int i, .int x] (mj_trM σ bs) = some (some (.int (mj_aC (σ.1 65 i.toNatClampNeg) i x (σ.1 72 i.toNatClampNeg)).2), mj_trM σ (bs ++ (mj_aC (σ.1 65 i.toNatClampNeg) i x (σ.1 72 i.toNatClampNeg)).1)) := by
  have hb : ∀ (cs : List Int32) (b : Int32), cs.length < 20 → mj_ev X (d + 2) 244 [.ref 61, .int b] (mj_trM σ cs) = some (none, mj_trM σ (cs ++ [b])) := fun cs b h => sp_M_body (d := d + 1) h
  have hn : ∀ cs : List Int32, cs.length ≤ 15 → mj_ev X (d + 2) 243 [.ref 61, .int i, .int x] (mj_trM σ cs) = some (some (.int (mj_aN (σ.1 65 i.toNatClampNeg) i x).2), mj_trM σ (cs ++ (mj_aN (σ.1 65 i.toNatClampNeg) i x).1)) := fun cs h => sp_M_needs hi h
  have e65 : ∀ cs, (mj_trM σ cs).1 65 = σ.1 65 := fun cs => mj_trM_o (by decide) (by decide)
  have e72 : ∀ cs, (mj_trM σ cs).1 72 = σ.1 72 := fun cs => mj_trM_o (by decide) (by decide)
  have l0 : bs.length < 20 := by omega
  have l1 : ∀ b : Int32, (bs ++ [b]).length < 20 := fun b => by rw [List.length_append]; show bs.length + 1 < 20; omega
  have m1 : ∀ b : Int32, (bs ++ [b]).length ≤ 15 := fun b => by rw [List.length_append]; show bs.length + 1 ≤ 15; omega
  have m2 : ∀ b c : Int32, (bs ++ [b] ++ [c]).length ≤ 15 := fun b c => by rw [List.length_append, List.length_append]; show bs.length + 1 + 1 ≤ 15; omega
  unfold mj_aC
  generalize hk : σ.1 65 i.toNatClampNeg = kd at *
  generalize mj_aN kd i x = p at *
  refine st245 ?_
  by_cases c2 : kd = 2
  · subst c2
    have n26 : ¬ (2 : Int32) = 6 := by decide
    have a1 : bs ++ [30] ++ [11] ++ p.1 = bs ++ ([30, 11] ++ p.1) := by simp
    simp only [u245_0, u245_1, u245_4, u245_5, u245_6, u245_7, u245_10, u245_11, u245_13, u245_16, u245_17, u245_20, u245_21, u245_22, u245_24, u245_27, u245_28, u245_30, u245_33, u245_34, u245_36, u245_39, u245_40, u245_41, u245_42, u245_45, u245_46, u245_47, u245_48, u245_49, u245_52, u245_53, u245_54, u245_55, u245_58, u245_59, u245_60, u245_63, u245_64, u245_65, u245_66, u245_69, u245_70, u245_73, u245_74, u245_75, u245_77, u245_80, u245_81, u245_82, u245_83, u245_86, u245_87, e65, e72, hk, n26, hi, hb bs 30 l0, hb (bs ++ [30]) 11 (l1 30), hn (bs ++ [30] ++ [11]) (m2 30 11), a1, mj_cc_v, mj_cc_n, List.all_cons, List.all_nil, mj_noMk_int, mj_noMk_long, mj_noMk_ref, mj_noMk_junk, List.length_nil, List.length_cons, Nat.zero_le, Nat.reduceLeDiff, Nat.reduceAdd, Bool.and_true, Bool.true_and, Bool.and_self, Nat.reduceBNe, true_or, or_true, true_and, and_true, mj_z0, mj_z1, mj_z01, decide_true, decide_false, Bool.true_and, Bool.false_and, Bool.and_true, Bool.and_false, Bool.true_or, Bool.false_or, Bool.or_false, Bool.or_true, Bool.not_true, Bool.not_false, Bool.and_self, Bool.or_self, if_true, if_false, Bool.true_eq_false, Bool.false_eq_true, not_true, not_false_eq_true]
  · by_cases c6 : kd = 6
    · subst c6
      have a1 : bs ++ [70] ++ [11] ++ p.1 = bs ++ ([70, 11] ++ p.1) := by simp
      simp only [u245_0, u245_1, u245_4, u245_5, u245_6, u245_7, u245_10, u245_11, u245_13, u245_16, u245_17, u245_20, u245_21, u245_22, u245_24, u245_27, u245_28, u245_30, u245_33, u245_34, u245_36, u245_39, u245_40, u245_41, u245_42, u245_45, u245_46, u245_47, u245_48, u245_49, u245_52, u245_53, u245_54, u245_55, u245_58, u245_59, u245_60, u245_63, u245_64, u245_65, u245_66, u245_69, u245_70, u245_73, u245_74, u245_75, u245_77, u245_80, u245_81, u245_82, u245_83, u245_86, u245_87, e65, e72, hk, c2, hi, hb bs 70 l0, hb (bs ++ [70]) 11 (l1 70), hn (bs ++ [70] ++ [11]) (m2 70 11), a1, mj_cc_v, mj_cc_n, List.all_cons, List.all_nil, mj_noMk_int, mj_noMk_long, mj_noMk_ref, mj_noMk_junk, List.length_nil, List.length_cons, Nat.zero_le, Nat.reduceLeDiff, Nat.reduceAdd, Bool.and_true, Bool.true_and, Bool.and_self, Nat.reduceBNe, true_or, or_true, true_and, and_true, mj_z0, mj_z1, mj_z01, decide_true, decide_false, Bool.true_and, Bool.false_and, Bool.and_true, Bool.and_false, Bool.true_or, Bool.false_or, Bool.or_false, Bool.or_true, Bool.not_true, Bool.not_false, Bool.and_self, Bool.or_self, if_true, if_false, Bool.true_eq_false, Bool.false_eq_true, not_true, not_false_eq_true]
    · have a1 : bs ++ [11] ++ p.1 = bs ++ ([11] ++ p.1) := by simp
      simp only [u245_0, u245_1, u245_4, u245_5, u245_6, u245_7, u245_10, u245_11, u245_13, u245_16, u245_17, u245_20, u245_21, u245_22, u245_24, u245_27, u245_28, u245_30, u245_33, u245_34, u245_36, u245_39, u245_40, u245_41, u245_42, u245_45, u245_46, u245_47, u245_48, u245_49, u245_52, u245_53, u245_54, u245_55, u245_58, u245_59, u245_60, u245_63, u245_64, u245_65, u245_66, u245_69, u245_70, u245_73, u245_74, u245_75, u245_77, u245_80, u245_81, u245_82, u245_83, u245_86, u245_87, e65, e72, hk, c2, c6, hi, hb bs 11 l0, hn (bs ++ [11]) (m1 11), a1, mj_cc_v, mj_cc_n, List.all_cons, List.all_nil, mj_noMk_int, mj_noMk_long, mj_noMk_ref, mj_noMk_junk, List.length_nil, List.length_cons, Nat.zero_le, Nat.reduceLeDiff, Nat.reduceAdd, Bool.and_true, Bool.true_and, Bool.and_self, Nat.reduceBNe, true_or, or_true, true_and, and_true, mj_z0, mj_z1, mj_z01, decide_true, decide_false, Bool.true_and, Bool.false_and, Bool.and_true, Bool.and_false, Bool.true_or, Bool.false_or, Bool.or_false, Bool.or_true, Bool.not_true, Bool.not_false, Bool.and_self, Bool.or_self, if_true, if_false, Bool.true_eq_false, Bool.false_eq_true, not_true, not_false_eq_true]
theorem sp_M_ending {i x : Int32} (hi : mj_inb i 9 = true) : mj_ev X (d + 4) 246 [.ref 61, .int i, .int x] (mj_trM σ []) = some (some (.int (mj_aE (σ.1 65 i.toNatClampNeg) i x (σ.1 72 i.toNatClampNeg)).2), mj_trM σ (mj_aE (σ.1 65 i.toNatClampNeg) i x (σ.1 72 i.toNatClampNeg)).1) := by
  have hb : ∀ (cs : List Int32) (b : Int32), cs.length < 20 → mj_ev X (d + 3) 244 [.ref 61, .int b] (mj_trM σ cs) = some (none, mj_trM σ (cs ++ [b])) := fun cs b h => sp_M_body (d := d + 2) h
  have hn : ∀ (y : Int32) (cs : List Int32), cs.length ≤ 15 → mj_ev X (d + 3) 243 [.ref 61, .int i, .int y] (mj_trM σ cs) = some (some (.int (mj_aN (σ.1 65 i.toNatClampNeg) i y).2), mj_trM σ (cs ++ (mj_aN (σ.1 65 i.toNatClampNeg) i y).1)) := fun y cs h => sp_M_needs (d := d + 1) hi h
  have hc : ∀ (y : Int32) (cs : List Int32), cs.length ≤ 12 → mj_ev X (d + 3) 245 [.ref 61, .int i, .int y] (mj_trM σ cs) = some (some (.int (mj_aC (σ.1 65 i.toNatClampNeg) i y (σ.1 72 i.toNatClampNeg)).2), mj_trM σ (cs ++ (mj_aC (σ.1 65 i.toNatClampNeg) i y (σ.1 72 i.toNatClampNeg)).1)) := fun y cs h => sp_M_costs hi h
  have e65 : ∀ cs, (mj_trM σ cs).1 65 = σ.1 65 := fun cs => mj_trM_o (by decide) (by decide)
  have e72 : ∀ cs, (mj_trM σ cs).1 72 = σ.1 72 := fun cs => mj_trM_o (by decide) (by decide)
  have hCl : ∀ kd y ow : Int32, (mj_aC kd i y ow).1.length ≤ 5 := fun kd y ow => mj_aC_len
  unfold mj_aE
  generalize hk : σ.1 65 i.toNatClampNeg = kd at *
  generalize ho : σ.1 72 i.toNatClampNeg = ow at *
  have n12 : ∀ y, ([12] ++ (mj_aC kd i y ow).1 : List Int32).length ≤ 15 := fun y => by rw [List.length_append]; have := hCl kd y ow; show 1 + _ ≤ 15; omega
  have n22 : ∀ b y, ([b, 12] ++ (mj_aC kd i y ow).1 : List Int32).length ≤ 15 := fun b y => by rw [List.length_append]; have := hCl kd y ow; show 2 + _ ≤ 15; omega
  have b0 : ∀ b, mj_ev X (d + 3) 244 [.ref 61, .int b] (mj_trM σ []) = some (none, mj_trM σ [b]) := fun b => hb [] b (by decide)
  have b1 : ∀ a b, mj_ev X (d + 3) 244 [.ref 61, .int b] (mj_trM σ [a]) = some (none, mj_trM σ [a, b]) := fun a b => hb [a] b (by show 1 < 20; decide)
  refine st246 ?_
  by_cases c3 : kd = 3
  · subst c3
    have n35 : ¬ (3 : Int32) = 5 := by decide
    have c1 := hc (x + 1) [40, 12] (by decide)
    have c4 := hn (x + 1 - ow) ([40, 12] ++ (mj_aC 3 i (x + 1) ow).1) (n22 40 (x + 1))
    simp only [u246_0, u246_1, u246_4, u246_5, u246_6, u246_7, u246_10, u246_11, u246_12, u246_13, u246_16, u246_17, u246_18, u246_19, u246_22, u246_23, u246_24, u246_25, u246_28, u246_29, u246_31, u246_34, u246_35, u246_38, u246_39, u246_40, u246_41, u246_44, u246_45, u246_47, u246_50, u246_51, u246_53, u246_56, u246_57, u246_58, u246_59, u246_62, u246_64, u246_66, u246_67, u246_68, u246_69, u246_70, u246_73, u246_74, u246_75, u246_76, u246_79, u246_80, u246_82, u246_83, u246_86, u246_87, u246_88, u246_89, u246_92, u246_94, u246_95, u246_96, u246_99, u246_101, e65, e72, hk, ho, n35, hi, b0, b1, c1, c4, mj_cc_v, mj_cc_n, List.all_cons, List.all_nil, mj_noMk_int, mj_noMk_long, mj_noMk_ref, mj_noMk_junk, List.length_nil, List.length_cons, Nat.zero_le, Nat.reduceLeDiff, Nat.reduceAdd, Bool.and_true, Bool.true_and, Bool.and_self, Nat.reduceBNe, true_or, or_true, true_and, and_true, mj_z0, mj_z1, mj_z01, decide_true, decide_false, Bool.true_and, Bool.false_and, Bool.and_true, Bool.and_false, Bool.true_or, Bool.false_or, Bool.or_false, Bool.or_true, Bool.not_true, Bool.not_false, Bool.and_self, Bool.or_self, if_true, if_false, Bool.true_eq_false, Bool.false_eq_true, not_true, not_false_eq_true]
  · by_cases c5 : kd = 5
    · subst c5
      have c1 := hc x [60, 12] (by decide)
      have c4 := hn (x - ow) ([60, 12] ++ (mj_aC 5 i x ow).1) (n22 60 x)
      simp only [u246_0, u246_1, u246_4, u246_5, u246_6, u246_7, u246_10, u246_11, u246_12, u246_13, u246_16, u246_17, u246_18, u246_19, u246_22, u246_23, u246_24, u246_25, u246_28, u246_29, u246_31, u246_34, u246_35, u246_38, u246_39, u246_40, u246_41, u246_44, u246_45, u246_47, u246_50, u246_51, u246_53, u246_56, u246_57, u246_58, u246_59, u246_62, u246_64, u246_66, u246_67, u246_68, u246_69, u246_70, u246_73, u246_74, u246_75, u246_76, u246_79, u246_80, u246_82, u246_83, u246_86, u246_87, u246_88, u246_89, u246_92, u246_94, u246_95, u246_96, u246_99, u246_101, e65, e72, hk, ho, c3, hi, b0, b1, c1, c4, mj_cc_v, mj_cc_n, List.all_cons, List.all_nil, mj_noMk_int, mj_noMk_long, mj_noMk_ref, mj_noMk_junk, List.length_nil, List.length_cons, Nat.zero_le, Nat.reduceLeDiff, Nat.reduceAdd, Bool.and_true, Bool.true_and, Bool.and_self, Nat.reduceBNe, true_or, or_true, true_and, and_true, mj_z0, mj_z1, mj_z01, decide_true, decide_false, Bool.true_and, Bool.false_and, Bool.and_true, Bool.and_false, Bool.true_or, Bool.false_or, Bool.or_false, Bool.or_true, Bool.not_true, Bool.not_false, Bool.and_self, Bool.or_self, if_true, if_false, Bool.true_eq_false, Bool.false_eq_true, not_true, not_false_eq_true]
    · have c1 := hc x [12] (by decide)
      have c4 := hn (x - ow) ([12] ++ (mj_aC kd i x ow).1) (n12 x)
      simp only [u246_0, u246_1, u246_4, u246_5, u246_6, u246_7, u246_10, u246_11, u246_12, u246_13, u246_16, u246_17, u246_18, u246_19, u246_22, u246_23, u246_24, u246_25, u246_28, u246_29, u246_31, u246_34, u246_35, u246_38, u246_39, u246_40, u246_41, u246_44, u246_45, u246_47, u246_50, u246_51, u246_53, u246_56, u246_57, u246_58, u246_59, u246_62, u246_64, u246_66, u246_67, u246_68, u246_69, u246_70, u246_73, u246_74, u246_75, u246_76, u246_79, u246_80, u246_82, u246_83, u246_86, u246_87, u246_88, u246_89, u246_92, u246_94, u246_95, u246_96, u246_99, u246_101, e65, e72, hk, ho, c3, c5, hi, b0, b1, c1, c4, mj_cc_v, mj_cc_n, List.all_cons, List.all_nil, mj_noMk_int, mj_noMk_long, mj_noMk_ref, mj_noMk_junk, List.length_nil, List.length_cons, Nat.zero_le, Nat.reduceLeDiff, Nat.reduceAdd, Bool.and_true, Bool.true_and, Bool.and_self, Nat.reduceBNe, true_or, or_true, true_and, and_true, mj_z0, mj_z1, mj_z01, decide_true, decide_false, Bool.true_and, Bool.false_and, Bool.and_true, Bool.and_false, Bool.true_or, Bool.false_or, Bool.or_false, Bool.or_true, Bool.not_true, Bool.not_false, Bool.and_self, Bool.or_self, if_true, if_false, Bool.true_eq_false, Bool.false_eq_true, not_true, not_false_eq_true]
/-- what act tells -/
def mj_aA (kd i a x ow : Int32) : List Int32 × Int32 := if a = 0 then mj_aN kd i x else if a = 1 then mj_aC kd i x ow else mj_aE kd i x ow
theorem sp_M_act {N : Nat} {i a x : Int32} (hN : σ.1 61 0 = nI N) (h9 : N ≤ 9) : mj_ev X (d + 5) 242 [.ref 61, .int i, .int a, .int x] σ = some (if mj_lt0 i (nI N) = true ∧ mj_inb a 3 = true then (some (.int (mj_aA (σ.1 65 i.toNatClampNeg) i a x (σ.1 72 i.toNatClampNeg)).2), mj_trM σ (mj_aA (σ.1 65 i.toNatClampNeg) i a x (σ.1 72 i.toNatClampNeg)).1) else (some (.int 0), mj_trM σ [])) := by
  have e0 : (mj_trM σ []).1 61 0 = nI N := hN
  have hip : mj_ev X (d + 4) 163 [.ref 61, .int i] (mj_trM σ []) = some (some (.int (mj_z (mj_lt0 i (nI N)))), mj_trM σ []) := by
    rw [← e0]
    exact sp_M_isPromise (d := d + 3)
  have e3 := mj_rng (x := a) (n := 3) (k := 3) rfl
  have g3 : (2 < a) = ¬ (a < 3) := mj_gt_of (n := 2) (by decide) (by decide)
  refine st242 ?_
  rcases (Bool.eq_false_or_eq_true (mj_lt0 i (nI N))).symm with c | c
  · rw [c] at hip
    simp only [u242_0, u242_1, u242_2, u242_5, u242_6, u242_7, u242_10, u242_13, u242_14, u242_17, u242_18, u242_19, u242_22, u242_23, u242_24, u242_25, u242_28, u242_29, u242_30, u242_31, u242_34, u242_37, u242_38, u242_39, u242_42, u242_43, u242_44, u242_45, u242_48, u242_51, u242_52, u242_53, u242_54, u242_57, mj_trM_0, hip, c, mj_zF, mj_cc_v, mj_cc_n, List.all_cons, List.all_nil, mj_noMk_int, mj_noMk_long, mj_noMk_ref, mj_noMk_junk, List.length_nil, List.length_cons, Nat.zero_le, Nat.reduceLeDiff, Nat.reduceAdd, Bool.and_true, Bool.true_and, Bool.and_self, Nat.reduceBNe, true_or, or_true, true_and, and_true, mj_z0, mj_z1, mj_z01, decide_true, decide_false, Bool.true_and, Bool.false_and, Bool.and_true, Bool.and_false, Bool.true_or, Bool.false_or, Bool.or_false, Bool.or_true, Bool.not_true, Bool.not_false, Bool.and_self, Bool.or_self, if_true, if_false, Bool.true_eq_false, Bool.false_eq_true, not_true, not_false_eq_true, false_and]
  · rw [c] at hip
    have hi := mj_lt0_inb c h9 (by decide)
    rcases (Bool.eq_false_or_eq_true (mj_inb a 3)).symm with c2 | c2
    · rw [if_neg (fun z => by rw [c2] at z; exact absurd z.2 mj_ft)]
      rw [c2] at e3
      by_cases k0 : a < 0
      · simp only [u242_0, u242_1, u242_2, u242_5, u242_6, u242_7, u242_10, u242_13, u242_14, u242_17, u242_18, u242_19, u242_22, u242_23, u242_24, u242_25, u242_28, u242_29, u242_30, u242_31, u242_34, u242_37, u242_38, u242_39, u242_42, u242_43, u242_44, u242_45, u242_48, u242_51, u242_52, u242_53, u242_54, u242_57, mj_trM_0, hip, k0, mj_zT, mj_n10, mj_cc_v, mj_cc_n, List.all_cons, List.all_nil, mj_noMk_int, mj_noMk_long, mj_noMk_ref, mj_noMk_junk, List.length_nil, List.length_cons, Nat.zero_le, Nat.reduceLeDiff, Nat.reduceAdd, Bool.and_true, Bool.true_and, Bool.and_self, Nat.reduceBNe, true_or, or_true, true_and, and_true, mj_z0, mj_z1, mj_z01, decide_true, decide_false, Bool.true_and, Bool.false_and, Bool.and_true, Bool.and_false, Bool.true_or, Bool.false_or, Bool.or_false, Bool.or_true, Bool.not_true, Bool.not_false, Bool.and_self, Bool.or_self, if_true, if_false, Bool.true_eq_false, Bool.false_eq_true, not_true, not_false_eq_true]
      · have k7 : ¬ a < 3 := by
          intro z
          rw [decide_eq_false k0, decide_eq_true z] at e3
          exact absurd e3 (by decide)
        simp only [u242_0, u242_1, u242_2, u242_5, u242_6, u242_7, u242_10, u242_13, u242_14, u242_17, u242_18, u242_19, u242_22, u242_23, u242_24, u242_25, u242_28, u242_29, u242_30, u242_31, u242_34, u242_37, u242_38, u242_39, u242_42, u242_43, u242_44, u242_45, u242_48, u242_51, u242_52, u242_53, u242_54, u242_57, mj_trM_0, hip, k0, g3, k7, mj_zT, mj_n10, mj_cc_v, mj_cc_n, List.all_cons, List.all_nil, mj_noMk_int, mj_noMk_long, mj_noMk_ref, mj_noMk_junk, List.length_nil, List.length_cons, Nat.zero_le, Nat.reduceLeDiff, Nat.reduceAdd, Bool.and_true, Bool.true_and, Bool.and_self, Nat.reduceBNe, true_or, or_true, true_and, and_true, mj_z0, mj_z1, mj_z01, decide_true, decide_false, Bool.true_and, Bool.false_and, Bool.and_true, Bool.and_false, Bool.true_or, Bool.false_or, Bool.or_false, Bool.or_true, Bool.not_true, Bool.not_false, Bool.and_self, Bool.or_self, if_true, if_false, Bool.true_eq_false, Bool.false_eq_true, not_true, not_false_eq_true]
    · rw [if_pos ⟨c, c2⟩]
      obtain ⟨k0, k3⟩ := mj_inb_split (n := 3) rfl c2
      have hn : mj_ev X (d + 4) 243 [.ref 61, .int i, .int x] (mj_trM σ []) = some (some (.int (mj_aN (σ.1 65 i.toNatClampNeg) i x).2), mj_trM σ ((mj_aN (σ.1 65 i.toNatClampNeg) i x).1)) := sp_M_needs (bs := []) (d := d + 2) hi (by decide)
      have hc : mj_ev X (d + 4) 245 [.ref 61, .int i, .int x] (mj_trM σ []) = some (some (.int (mj_aC (σ.1 65 i.toNatClampNeg) i x (σ.1 72 i.toNatClampNeg)).2), mj_trM σ ((mj_aC (σ.1 65 i.toNatClampNeg) i x (σ.1 72 i.toNatClampNeg)).1)) := sp_M_costs (bs := []) (d := d + 1) hi (by decide)
      have he : mj_ev X (d + 4) 246 [.ref 61, .int i, .int x] (mj_trM σ []) = some (some (.int (mj_aE (σ.1 65 i.toNatClampNeg) i x (σ.1 72 i.toNatClampNeg)).2), mj_trM σ ((mj_aE (σ.1 65 i.toNatClampNeg) i x (σ.1 72 i.toNatClampNeg)).1)) := sp_M_ending hi
      unfold mj_aA
      by_cases a0 : a = 0
      · simp only [u242_0, u242_1, u242_2, u242_5, u242_6, u242_7, u242_10, u242_13, u242_14, u242_17, u242_18, u242_19, u242_22, u242_23, u242_24, u242_25, u242_28, u242_29, u242_30, u242_31, u242_34, u242_37, u242_38, u242_39, u242_42, u242_43, u242_44, u242_45, u242_48, u242_51, u242_52, u242_53, u242_54, u242_57, mj_trM_0, hip, k0, g3, k3, hn, eq_true a0, mj_zT, mj_n10, mj_cc_v, mj_cc_n, List.all_cons, List.all_nil, mj_noMk_int, mj_noMk_long, mj_noMk_ref, mj_noMk_junk, List.length_nil, List.length_cons, Nat.zero_le, Nat.reduceLeDiff, Nat.reduceAdd, Bool.and_true, Bool.true_and, Bool.and_self, Nat.reduceBNe, true_or, or_true, true_and, and_true, mj_z0, mj_z1, mj_z01, decide_true, decide_false, Bool.true_and, Bool.false_and, Bool.and_true, Bool.and_false, Bool.true_or, Bool.false_or, Bool.or_false, Bool.or_true, Bool.not_true, Bool.not_false, Bool.and_self, Bool.or_self, if_true, if_false, Bool.true_eq_false, Bool.false_eq_true, not_true, not_false_eq_true]
      · by_cases a1 : a = 1
        · simp only [u242_0, u242_1, u242_2, u242_5, u242_6, u242_7, u242_10, u242_13, u242_14, u242_17, u242_18, u242_19, u242_22, u242_23, u242_24, u242_25, u242_28, u242_29, u242_30, u242_31, u242_34, u242_37, u242_38, u242_39, u242_42, u242_43, u242_44, u242_45, u242_48, u242_51, u242_52, u242_53, u242_54, u242_57, mj_trM_0, hip, k0, g3, k3, hc, eq_false a0, eq_true a1, mj_zT, mj_n10, mj_cc_v, mj_cc_n, List.all_cons, List.all_nil, mj_noMk_int, mj_noMk_long, mj_noMk_ref, mj_noMk_junk, List.length_nil, List.length_cons, Nat.zero_le, Nat.reduceLeDiff, Nat.reduceAdd, Bool.and_true, Bool.true_and, Bool.and_self, Nat.reduceBNe, true_or, or_true, true_and, and_true, mj_z0, mj_z1, mj_z01, decide_true, decide_false, Bool.true_and, Bool.false_and, Bool.and_true, Bool.and_false, Bool.true_or, Bool.false_or, Bool.or_false, Bool.or_true, Bool.not_true, Bool.not_false, Bool.and_self, Bool.or_self, if_true, if_false, Bool.true_eq_false, Bool.false_eq_true, not_true, not_false_eq_true]
        · simp only [u242_0, u242_1, u242_2, u242_5, u242_6, u242_7, u242_10, u242_13, u242_14, u242_17, u242_18, u242_19, u242_22, u242_23, u242_24, u242_25, u242_28, u242_29, u242_30, u242_31, u242_34, u242_37, u242_38, u242_39, u242_42, u242_43, u242_44, u242_45, u242_48, u242_51, u242_52, u242_53, u242_54, u242_57, mj_trM_0, hip, k0, g3, k3, he, eq_false a0, eq_false a1, mj_zT, mj_n10, mj_cc_v, mj_cc_n, List.all_cons, List.all_nil, mj_noMk_int, mj_noMk_long, mj_noMk_ref, mj_noMk_junk, List.length_nil, List.length_cons, Nat.zero_le, Nat.reduceLeDiff, Nat.reduceAdd, Bool.and_true, Bool.true_and, Bool.and_self, Nat.reduceBNe, true_or, or_true, true_and, and_true, mj_z0, mj_z1, mj_z01, decide_true, decide_false, Bool.true_and, Bool.false_and, Bool.and_true, Bool.and_false, Bool.true_or, Bool.false_or, Bool.or_false, Bool.or_true, Bool.not_true, Bool.not_false, Bool.and_self, Bool.or_self, if_true, if_false, Bool.true_eq_false, Bool.false_eq_true, not_true, not_false_eq_true]
end
