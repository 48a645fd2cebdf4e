section
variable {X : mj_X} {d : Nat} {σ : mj_St}
def mj_rwk (af : Nat → Int32) (i : Int32) : Nat → Int32 → Int32
  | 0, w => w
  | j + 1, w => if w = -1 ∨ w = i then w else mj_rwk af i j (af w.toNatClampNeg)
def mj_Mrg (σ : mj_St) (N i : Nat) : Bool := decide (¬ 4 < σ.1 65 i) && decide (mj_rwk (σ.1 69) (nI i) N (σ.1 69 i) = nI i)
def mj_Mring (σ : mj_St) (N n : Nat) : Int32 := mj_it (fun i u => if mj_Mrg σ N i = true then u ||| 1 <<< (nI i &&& 31) else u) 0 n
theorem sp_M_ring {N : Nat} (hN : σ.1 61 0 = nI N) (h9 : N ≤ 9) (haf : ∀ k, k < 9 → σ.1 69 k = -1 ∨ mj_inb (σ.1 69 k) 9 = true) : mj_ev X (d + 1) 198 [.ref 61] σ = some (some (.int (mj_Mring σ N N)), σ) := by
  refine st198 ?_
  simp only [u198_0, u198_1, u198_2, u198_3, u198_5, u198_6, u198_9, u198_12, u198_13, u198_16, u198_17, u198_18, u198_19, u198_22, u198_25, u198_26, u198_29, u198_30, u198_31, u198_32, u198_33, u198_37, u198_38, u198_41, u198_44, u198_45, u198_46, u198_49, u198_50, u198_51, u198_54, u198_55, u198_58, u198_59, u198_60, u198_61, u198_64, u198_67, u198_68, u198_69, u198_72, u198_73, u198_74, u198_75, u198_76, u198_77, u198_78, u198_81, u198_84, u198_85]
  have inner : ∀ (i : Nat) (u : Int32), (∀ w4 : Int32, mj_Runs X (mj_ev X d) 6 (some .int) prog_8_method_79_code (67, [.ref 61, .int u, .int (nI i), .int (mj_rwk (σ.1 69) (nI i) N (σ.1 69 i)), .int w4], [], σ) (some (.int (mj_Mring σ N N)), σ)) → ∀ (j : Nat) (w : Int32), j ≤ N → (w = -1 ∨ mj_inb w 9 = true) → mj_rwk (σ.1 69) (nI i) j w = mj_rwk (σ.1 69) (nI i) N (σ.1 69 i) → mj_Runs X (mj_ev X d) 6 (some .int) prog_8_method_79_code (35, [.ref 61, .int u, .int (nI i), .int w, .int (nI (N - j))], [], σ) (some (.int (mj_Mring σ N N)), σ) := by
    intro i u hh j
    induction j with
    | zero =>
      intro w _ _ he
      refine u198_35.mpr ?_
      have h1 : ¬ nI (N - 0) < σ.1 61 0 := by rw [hN]; exact nI_nlt (Nat.le_refl _) (by omega)
      simp only [u198_0, u198_1, u198_2, u198_3, u198_5, u198_6, u198_9, u198_12, u198_13, u198_16, u198_17, u198_18, u198_19, u198_22, u198_25, u198_26, u198_29, u198_30, u198_31, u198_32, u198_33, u198_37, u198_38, u198_41, u198_44, u198_45, u198_46, u198_49, u198_50, u198_51, u198_54, u198_55, u198_58, u198_59, u198_60, u198_61, u198_64, u198_68, u198_69, u198_72, u198_73, u198_74, u198_75, u198_76, u198_77, u198_78, u198_81, u198_84, u198_85, h1, if_false]
      have hq := hh (nI (N - 0))
      rw [← he] at hq
      exact hq
    | succ j ih =>
      intro w hj hw he
      refine u198_35.mpr ?_
      have h1 : nI (N - (j + 1)) < σ.1 61 0 := by rw [hN]; exact nI_lt (by omega) (by omega)
      have e1 : nI (N - (j + 1)) + 1 = nI (N - j) := by rw [nI_1]; congr 1; omega
      have hq := hh (nI (N - (j + 1)))
      rw [← he] at hq
      simp only [mj_rwk] at he hq
      by_cases c1 : w = -1
      · simp only [u198_0, u198_1, u198_2, u198_3, u198_5, u198_6, u198_9, u198_12, u198_13, u198_16, u198_17, u198_18, u198_19, u198_22, u198_25, u198_26, u198_29, u198_30, u198_31, u198_32, u198_33, u198_37, u198_38, u198_41, u198_44, u198_45, u198_46, u198_49, u198_50, u198_51, u198_54, u198_55, u198_58, u198_59, u198_60, u198_61, u198_64, u198_68, u198_69, u198_72, u198_73, u198_74, u198_75, u198_76, u198_77, u198_78, u198_81, u198_84, u198_85, h1, c1, if_true, true_or] at hq ⊢
        exact hq
      · by_cases c2 : w = nI i
        · simp only [u198_0, u198_1, u198_2, u198_3, u198_5, u198_6, u198_9, u198_12, u198_13, u198_16, u198_17, u198_18, u198_19, u198_22, u198_25, u198_26, u198_29, u198_30, u198_31, u198_32, u198_33, u198_37, u198_38, u198_41, u198_44, u198_45, u198_46, u198_49, u198_50, u198_51, u198_54, u198_55, u198_58, u198_59, u198_60, u198_61, u198_64, u198_68, u198_69, u198_72, u198_73, u198_74, u198_75, u198_76, u198_77, u198_78, u198_81, u198_84, u198_85, h1, c1, if_true, if_false]
          simp only [c2, or_true, if_true] at hq ⊢
          exact hq
        · have hb := hw.resolve_left c1
          simp only [u198_0, u198_1, u198_2, u198_3, u198_5, u198_6, u198_9, u198_12, u198_13, u198_16, u198_17, u198_18, u198_19, u198_22, u198_25, u198_26, u198_29, u198_30, u198_31, u198_32, u198_33, u198_37, u198_38, u198_41, u198_44, u198_45, u198_46, u198_49, u198_50, u198_51, u198_54, u198_55, u198_58, u198_59, u198_60, u198_61, u198_64, u198_68, u198_69, u198_72, u198_73, u198_74, u198_75, u198_76, u198_77, u198_78, u198_81, u198_84, u198_85, h1, c1, c2, if_true, if_false, hb, true_and, e1]
          refine ih _ (by omega) (haf _ (mj_in_lt hb)) ?_
          simp only [c1, c2, or_self, if_false] at he
          exact he
  have key : ∀ (j k : Nat), k + j = N → ∀ v3 v4 : Value, mj_Runs X (mj_ev X d) 6 (some .int) prog_8_method_79_code (4, [.ref 61, .int (mj_Mring σ N k), .int (nI k), v3, v4], [], σ) (some (.int (mj_Mring σ N N)), σ) := by
    intro j
    induction j with
    | zero =>
      intro k hk v3 v4
      have hkN : k = N := by omega
      subst hkN
      refine u198_4.mpr ?_
      have h1 : ¬ nI k < σ.1 61 0 := by rw [hN]; exact nI_nlt (Nat.le_refl _) (by omega)
      simp only [u198_0, u198_1, u198_2, u198_3, u198_5, u198_6, u198_9, u198_12, u198_13, u198_16, u198_17, u198_18, u198_19, u198_22, u198_25, u198_26, u198_29, u198_30, u198_31, u198_32, u198_33, u198_37, u198_38, u198_41, u198_44, u198_45, u198_46, u198_49, u198_50, u198_51, u198_54, u198_55, u198_58, u198_59, u198_60, u198_61, u198_64, u198_67, u198_68, u198_69, u198_72, u198_73, u198_74, u198_75, u198_76, u198_77, u198_78, u198_81, u198_84, u198_85, h1, if_false]
    | succ j ih =>
      intro k hk v3 v4
      have hr := ih (k + 1) (by omega)
      have h1 : nI k < σ.1 61 0 := by rw [hN]; exact nI_lt (by omega) (by omega)
      refine u198_4.mpr ?_
      have e1 : mj_Mring σ N (k + 1) = if mj_Mrg σ N k = true then mj_Mring σ N k ||| 1 <<< (nI k &&& 31) else mj_Mring σ N k := rfl
      rw [e1] at hr
      unfold mj_Mrg at hr
      by_cases c0 : 4 < σ.1 65 k
      · simp only [u198_0, u198_1, u198_2, u198_3, u198_5, u198_6, u198_9, u198_12, u198_13, u198_16, u198_17, u198_18, u198_19, u198_22, u198_25, u198_26, u198_29, u198_30, u198_31, u198_32, u198_33, u198_37, u198_38, u198_41, u198_44, u198_45, u198_46, u198_49, u198_50, u198_51, u198_54, u198_55, u198_58, u198_59, u198_60, u198_61, u198_64, u198_67, u198_68, u198_69, u198_72, u198_73, u198_74, u198_75, u198_76, u198_77, u198_78, u198_81, u198_84, u198_85, h1, c0, if_true, mj_in_nI (show k < 9 by omega) (by decide), mj_nz9 (show k < 9 by omega) (by decide), mj_cc_v, mj_cc_n, List.all_cons, List.all_nil, mj_noMk_int, mj_noMk_long, mj_noMk_ref, mj_noMk_junk, List.length_nil, List.length_cons, Nat.zero_le, Nat.reduceLeDiff, Nat.reduceAdd, Bool.and_true, Bool.true_and, Bool.and_self, Nat.reduceBNe, true_or, or_true, true_and, and_true, mj_z0, mj_z1, mj_z01, nI_1]
        simp only [c0, decide_true, decide_false, Bool.true_and, Bool.false_and, Bool.and_true, Bool.and_false, Bool.true_or, Bool.false_or, Bool.or_false, Bool.or_true, Bool.not_true, Bool.not_false, Bool.and_self, Bool.or_self, if_true, if_false, Bool.true_eq_false, Bool.false_eq_true, not_true, not_false_eq_true] at hr
        exact hr _ _
      · simp only [u198_0, u198_1, u198_2, u198_3, u198_5, u198_6, u198_9, u198_12, u198_13, u198_16, u198_17, u198_18, u198_19, u198_22, u198_25, u198_26, u198_29, u198_30, u198_31, u198_32, u198_33, u198_37, u198_38, u198_41, u198_44, u198_45, u198_46, u198_49, u198_50, u198_51, u198_54, u198_55, u198_58, u198_59, u198_60, u198_61, u198_64, u198_67, u198_68, u198_69, u198_72, u198_73, u198_74, u198_75, u198_76, u198_77, u198_78, u198_81, u198_84, u198_85, h1, c0, if_true, if_false, mj_in_nI (show k < 9 by omega) (by decide), mj_nz9 (show k < 9 by omega) (by decide), mj_cc_v, mj_cc_n, List.all_cons, List.all_nil, mj_noMk_int, mj_noMk_long, mj_noMk_ref, mj_noMk_junk, List.length_nil, List.length_cons, Nat.zero_le, Nat.reduceLeDiff, Nat.reduceAdd, Bool.and_true, Bool.true_and, Bool.and_self, Nat.reduceBNe, true_or, or_true, true_and, and_true, mj_z0, mj_z1, mj_z01]
        have e0 : (0 : Int32) = nI (N - N) := by rw [Nat.sub_self]; rfl
        rw [e0]
        refine inner k _ ?_ N _ (Nat.le_refl _) (haf k (by omega)) rfl
        intro w4
        refine u198_67.mpr ?_
        by_cases c1 : mj_rwk (σ.1 69) (nI k) N (σ.1 69 k) = nI k
        · simp only [u198_0, u198_1, u198_2, u198_3, u198_5, u198_6, u198_9, u198_12, u198_13, u198_16, u198_17, u198_18, u198_19, u198_22, u198_25, u198_26, u198_29, u198_30, u198_31, u198_32, u198_33, u198_37, u198_38, u198_41, u198_44, u198_45, u198_46, u198_49, u198_50, u198_51, u198_54, u198_55, u198_58, u198_59, u198_60, u198_61, u198_64, u198_68, u198_69, u198_72, u198_73, u198_74, u198_75, u198_76, u198_77, u198_78, u198_81, u198_84, u198_85, c1, if_true, nI_1]
          simp only [c0, c1, decide_true, decide_false, Bool.true_and, Bool.false_and, Bool.and_true, Bool.and_false, Bool.true_or, Bool.false_or, Bool.or_false, Bool.or_true, Bool.not_true, Bool.not_false, Bool.and_self, Bool.or_self, if_true, if_false, Bool.true_eq_false, Bool.false_eq_true, not_true, not_false_eq_true] at hr
          exact hr _ _
        · simp only [u198_0, u198_1, u198_2, u198_3, u198_5, u198_6, u198_9, u198_12, u198_13, u198_16, u198_17, u198_18, u198_19, u198_22, u198_25, u198_26, u198_29, u198_30, u198_31, u198_32, u198_33, u198_37, u198_38, u198_41, u198_44, u198_45, u198_46, u198_49, u198_50, u198_51, u198_54, u198_55, u198_58, u198_59, u198_60, u198_61, u198_64, u198_68, u198_69, u198_72, u198_73, u198_74, u198_75, u198_76, u198_77, u198_78, u198_81, u198_84, u198_85, c1, if_false, nI_1]
          simp only [c0, c1, decide_true, decide_false, Bool.true_and, Bool.false_and, Bool.and_true, Bool.and_false, Bool.true_or, Bool.false_or, Bool.or_false, Bool.or_true, Bool.not_true, Bool.not_false, Bool.and_self, Bool.or_self, if_true, if_false, Bool.true_eq_false, Bool.false_eq_true, not_true, not_false_eq_true] at hr
          exact hr _ _
  exact key N 0 (by omega) _ _
/-- how many works stand below -/
def mj_wc (σ : mj_St) (n : Nat) : Nat := mj_it (fun i c => if σ.1 65 i < 5 then c + 1 else c) 0 n
theorem mj_wc_s {n : Nat} : mj_wc σ (n + 1) = if σ.1 65 n < 5 then mj_wc σ n + 1 else mj_wc σ n := rfl
theorem mj_wc_le : ∀ n, mj_wc σ n ≤ n := by
  intro n
  induction n with
  | zero => exact Nat.le_refl _
  | succ n ih =>
    rw [mj_wc_s]
    split <;> omega
def mj_cno (σ : mj_St) (lv : Nat → Int32) (n : Nat) : Int32 := mj_it (fun i u => if σ.1 65 i < 5 then u + σ.1 84 (mj_wc σ i) * lv i else u) 0 n
def mj_figS (σ : mj_St) (n : Nat) : mj_St := (fun c i => if c = 85 ∧ i < n then nI (mj_wc σ i) else σ.1 c i, σ.2)
theorem mj_figS_0 : mj_figS σ 0 = σ := by
  refine Prod.ext ?_ rfl
  funext c i
  simp [mj_figS]
theorem mj_figS_s {n : Nat} : mj_setI (mj_figS σ n) 85 n (nI (mj_wc σ n)) = mj_figS σ (n + 1) := by
  refine Prod.ext ?_ rfl
  funext c i
  simp only [mj_setI, mj_figS]
  by_cases h1 : c = 85
  · by_cases h2 : i = n
    · simp [h1, h2]
    · have : (i < n) = (i < n + 1) := by simp; omega
      simp [h1, h2, this]
  · simp [h1]
theorem mj_figS_o {c n : Nat} (h : c ≠ 85) : (mj_figS σ n).1 c = σ.1 c := by
  funext i
  simp [mj_figS, h]
def mj_lvn (σ : mj_St) (i : Nat) : Int32 := if σ.1 77 i = 1 then 4 else σ.1 76 i
/-- the state behind codeNow -/
def mj_cnS (σ : mj_St) (N : Nat) : mj_St := mj_setI (mj_figS σ N) 61 46 (mj_Mring σ N N)
theorem mj_it_congr {α : Type} {f g : Nat → α → α} {a : α} : ∀ n, (∀ i, i < n → ∀ u, f i u = g i u) → mj_it f a n = mj_it g a n := by
  intro n
  induction n with
  | zero => intro _; rfl
  | succ n ih =>
    intro h
    show f n (mj_it f a n) = g n (mj_it g a n)
    rw [ih (fun i hi => h i (by omega)), h n (by omega)]
theorem mj_Mring_figS {M N n : Nat} : mj_Mring (mj_figS σ M) N n = mj_Mring σ N n := by
  unfold mj_Mring mj_Mrg
  rw [mj_figS_o (show (65 : Nat) ≠ 85 by decide), mj_figS_o (show (69 : Nat) ≠ 85 by decide)]
theorem sp_M_codeNow {N : Nat} (hN : σ.1 61 0 = nI N) (h9 : N ≤ 9) (haf : ∀ k, k < 9 → σ.1 69 k = -1 ∨ mj_inb (σ.1 69 k) 9 = true) : mj_ev X (d + 2) 197 [.ref 61] σ = some (some (.int (mj_cno σ (mj_lvn σ) N)), mj_cnS σ N) := by
  refine st197 ?_
  simp only [u197_0, u197_1, u197_2, u197_3, u197_4, u197_5, u197_7, u197_8, u197_11, u197_14, u197_15, u197_18, u197_19, u197_20, u197_21, u197_22, u197_25, u197_26, u197_27, u197_28, u197_31, u197_32, u197_33, u197_36, u197_37, u197_38, u197_39, u197_42, u197_43, u197_44, u197_45, u197_48, u197_49, u197_52, u197_53, u197_56, u197_57, u197_58, u197_59, u197_60, u197_61, u197_64, u197_67, u197_70, u197_71, u197_72, u197_75, u197_78, u197_79]
  have f61 : ∀ n, (mj_figS σ n).1 61 = σ.1 61 := fun n => mj_figS_o (by decide)
  have f65 : ∀ n, (mj_figS σ n).1 65 = σ.1 65 := fun n => mj_figS_o (by decide)
  have f69 : ∀ n, (mj_figS σ n).1 69 = σ.1 69 := fun n => mj_figS_o (by decide)
  have f84 : ∀ n, (mj_figS σ n).1 84 = σ.1 84 := fun n => mj_figS_o (by decide)
  have f76 : ∀ n, (mj_figS σ n).1 76 = σ.1 76 := fun n => mj_figS_o (by decide)
  have f77 : ∀ n, (mj_figS σ n).1 77 = σ.1 77 := fun n => mj_figS_o (by decide)
  have key := mj_count (X := X) (call := mj_ev X (d + 1)) (oc := 6) (ret := (some .int)) (cc := prog_8_method_37_code) (r := (some (.int (mj_cno σ (mj_lvn σ) N)), mj_cnS σ N)) (N := N) (S := fun k => (6, [.ref 61, .int (mj_cno σ (mj_lvn σ) k), .int (nI (mj_wc σ k)), .int (nI k)], [], mj_figS σ k)) (fun k hk hr => by
      refine u197_6.mpr ?_
      have hk9 : k < 9 := by omega
      have hw9 : mj_wc σ k < 9 := by have := mj_wc_le (σ := σ) k; omega
      have h1 : nI k < σ.1 61 0 := by rw [hN]; exact nI_lt hk (by omega)
      have e1 : mj_cno σ (mj_lvn σ) (k + 1) = if σ.1 65 k < 5 then mj_cno σ (mj_lvn σ) k + σ.1 84 (mj_wc σ k) * mj_lvn σ k else mj_cno σ (mj_lvn σ) k := rfl
      rw [e1, mj_wc_s] at hr
      unfold mj_lvn at hr
      unfold mj_lvn
      by_cases c1 : σ.1 65 k < 5
      · by_cases c2 : σ.1 77 k = 1
        · simp only [u197_0, u197_1, u197_2, u197_3, u197_4, u197_5, u197_7, u197_8, u197_11, u197_14, u197_15, u197_18, u197_19, u197_20, u197_21, u197_22, u197_25, u197_26, u197_27, u197_28, u197_31, u197_32, u197_33, u197_36, u197_37, u197_38, u197_39, u197_42, u197_43, u197_44, u197_45, u197_48, u197_49, u197_52, u197_53, u197_56, u197_57, u197_58, u197_59, u197_60, u197_61, u197_64, u197_67, u197_70, u197_71, u197_72, u197_75, u197_78, u197_79, f61, f65, f84, f76, f77, h1, c1, c2, if_true, if_false, mj_in_nI hk9 (by decide), mj_nz9 hk9 (by decide), mj_in_nI hw9 (by decide), mj_nz9 hw9 (by decide), mj_cc_v, mj_cc_n, List.all_cons, List.all_nil, mj_noMk_int, mj_noMk_long, mj_noMk_ref, mj_noMk_junk, List.length_nil, List.length_cons, Nat.zero_le, Nat.reduceLeDiff, Nat.reduceAdd, Bool.and_true, Bool.true_and, Bool.and_self, Nat.reduceBNe, true_or, or_true, true_and, and_true, mj_z0, mj_z1, mj_z01, nI_1, mj_figS_s] at hr ⊢
          exact hr
        · simp only [u197_0, u197_1, u197_2, u197_3, u197_4, u197_5, u197_7, u197_8, u197_11, u197_14, u197_15, u197_18, u197_19, u197_20, u197_21, u197_22, u197_25, u197_26, u197_27, u197_28, u197_31, u197_32, u197_33, u197_36, u197_37, u197_38, u197_39, u197_42, u197_43, u197_44, u197_45, u197_48, u197_49, u197_52, u197_53, u197_56, u197_57, u197_58, u197_59, u197_60, u197_61, u197_64, u197_67, u197_70, u197_71, u197_72, u197_75, u197_78, u197_79, f61, f65, f84, f76, f77, h1, c1, c2, if_true, if_false, mj_in_nI hk9 (by decide), mj_nz9 hk9 (by decide), mj_in_nI hw9 (by decide), mj_nz9 hw9 (by decide), mj_cc_v, mj_cc_n, List.all_cons, List.all_nil, mj_noMk_int, mj_noMk_long, mj_noMk_ref, mj_noMk_junk, List.length_nil, List.length_cons, Nat.zero_le, Nat.reduceLeDiff, Nat.reduceAdd, Bool.and_true, Bool.true_and, Bool.and_self, Nat.reduceBNe, true_or, or_true, true_and, and_true, mj_z0, mj_z1, mj_z01, nI_1, mj_figS_s] at hr ⊢
          exact hr
      · simp only [u197_0, u197_1, u197_2, u197_3, u197_4, u197_5, u197_7, u197_8, u197_11, u197_14, u197_15, u197_18, u197_19, u197_20, u197_21, u197_22, u197_25, u197_26, u197_27, u197_28, u197_31, u197_32, u197_33, u197_36, u197_37, u197_38, u197_39, u197_42, u197_43, u197_44, u197_45, u197_48, u197_49, u197_52, u197_53, u197_56, u197_57, u197_58, u197_59, u197_60, u197_61, u197_64, u197_67, u197_70, u197_71, u197_72, u197_75, u197_78, u197_79, f61, f65, f84, f76, f77, h1, c1, if_true, if_false, mj_in_nI hk9 (by decide), mj_nz9 hk9 (by decide), mj_in_nI hw9 (by decide), mj_nz9 hw9 (by decide), mj_cc_v, mj_cc_n, List.all_cons, List.all_nil, mj_noMk_int, mj_noMk_long, mj_noMk_ref, mj_noMk_junk, List.length_nil, List.length_cons, Nat.zero_le, Nat.reduceLeDiff, Nat.reduceAdd, Bool.and_true, Bool.true_and, Bool.and_self, Nat.reduceBNe, true_or, or_true, true_and, and_true, mj_z0, mj_z1, mj_z01, nI_1, mj_figS_s] at hr ⊢
        exact hr) (by
      refine u197_6.mpr ?_
      have h1 : ¬ nI N < σ.1 61 0 := by rw [hN]; exact nI_nlt (Nat.le_refl _) (by omega)
      have hrg := sp_M_ring (X := X) (d := d) (σ := mj_figS σ N) (N := N) (by rw [f61]; exact hN) h9 (fun k hk => by rw [f69]; exact haf k hk)
      rw [mj_Mring_figS] at hrg
      simp only [u197_0, u197_1, u197_2, u197_3, u197_4, u197_5, u197_7, u197_8, u197_11, u197_14, u197_15, u197_18, u197_19, u197_20, u197_21, u197_22, u197_25, u197_26, u197_27, u197_28, u197_31, u197_32, u197_33, u197_36, u197_37, u197_38, u197_39, u197_42, u197_43, u197_44, u197_45, u197_48, u197_49, u197_52, u197_53, u197_56, u197_57, u197_58, u197_59, u197_60, u197_61, u197_64, u197_67, u197_70, u197_71, u197_72, u197_75, u197_78, u197_79, f61, h1, if_false, hrg, mj_cc_v, mj_cc_n, List.all_cons, List.all_nil, mj_noMk_int, mj_noMk_long, mj_noMk_ref, mj_noMk_junk, List.length_nil, List.length_cons, Nat.zero_le, Nat.reduceLeDiff, Nat.reduceAdd, Bool.and_true, Bool.true_and, Bool.and_self, Nat.reduceBNe, true_or, or_true, true_and, and_true, mj_z0, mj_z1, mj_z01]
      rfl) 0 (Nat.zero_le _)
  have e0 : mj_figS σ 0 = σ := mj_figS_0
  simp only [e0] at key
  exact key
end
