section
variable {X : mj_X} {d : Nat} {σ τ : mj_St}
theorem sp_M_bears {G : Int32 → Int32 → Prop} {N : Nat} (hR : mj_Rdy σ N) (hG : mj_GBok σ N G) : ∀ r, r ≤ 12 → mj_BS X σ G N r := by
  intro r
  induction r with
  | zero =>
    intro _ τ l u _ F T D
    refine ⟨τ, F, T, fun d => ?_⟩
    refine st216 ?_
    have e : nI (12 - 0) = 12 := rfl
    simp only [u216_0, u216_1, u216_3, u216_6, u216_7, u216_8, u216_9, u216_10, u216_13, u216_16, u216_17, u216_18, u216_21, u216_24, u216_25, u216_26, u216_27, u216_28, u216_31, u216_33, u216_34, u216_35, u216_38, u216_40, u216_41, u216_45, u216_47, u216_50, u216_52, u216_54, u216_55, u216_56, u216_57, u216_60, u216_62, u216_64, u216_65, u216_66, u216_68, u216_69, u216_72, u216_75, u216_76, u216_77, u216_78, u216_80, u216_82, u216_85, u216_86, u216_89, u216_90, u216_91, u216_94, u216_97, u216_98, e, if_true, mj_Bs, mj_zT, mj_cc_v, mj_cc_n, List.all_cons, List.all_nil, mj_noMk_int, mj_noMk_long, mj_noMk_ref, mj_noMk_junk, List.length_nil, List.length_cons, Nat.zero_le, Nat.reduceLeDiff, Nat.reduceAdd, Bool.and_true, Bool.true_and, Bool.and_self, Nat.reduceBNe, true_or, or_true, true_and, and_true, mj_z0, mj_z1, mj_z01]
  | succ r ih =>
    intro hr τ l u hu F T D
    have K := ih (by omega)
    have e11 : nI (12 - (r + 1)) = nI (11 - r) := by congr 1; omega
    have h12 : ¬ nI (11 - r) = 12 := by
      intro h
      have e : (12 : Int32) = nI 12 := rfl
      rw [e] at h
      have := (nI_eq (by omega) (by decide)).mp h
      omega
    have loop : ∀ (j k : Nat) (τ : mj_St), k + j = 8 → mj_Fr σ τ → mj_Tab τ G → ∃ ρ, mj_Fr σ ρ ∧ mj_Tab ρ G ∧ ∀ d, mj_Runs X (mj_ev X (d + 2 * r + 4)) 6 (some .boolean) prog_8_method_60_code (43, [.ref 61, .int (nI (11 - r)), .int (mj_cno σ l N), .int (nI u), .int (mj_was σ r), .int (mj_Mkb σ (nI (11 - r)) 3), .int (nI k)], [], τ) (some (.int (mj_z (!(mj_anyF (fun o => (decide (nI o &&& (mj_Mkb σ (nI (11 - r)) 3 ^^^ -1) = 0) && decide (nI o &&& mj_was σ r = nI u &&& mj_was σ r)) && decide (mj_Br σ (σ.1 61 54) N r (mj_Bs σ (σ.1 61 54) N r) l (nI o) = -1)) k j)))), ρ) := by
      intro j
      induction j with
      | zero =>
        intro k τ hk F T
        have hk8 : k = 8 := by omega
        subst hk8
        refine ⟨τ, F, T, fun d => ?_⟩
        refine u216_43.mpr ?_
        have h8 : ¬ nI 8 < 8 := by decide
        simp only [u216_0, u216_1, u216_3, u216_6, u216_7, u216_8, u216_9, u216_10, u216_13, u216_16, u216_17, u216_18, u216_21, u216_24, u216_25, u216_26, u216_27, u216_28, u216_31, u216_33, u216_34, u216_35, u216_38, u216_40, u216_41, u216_45, u216_47, u216_50, u216_52, u216_54, u216_55, u216_56, u216_57, u216_60, u216_62, u216_64, u216_65, u216_66, u216_68, u216_69, u216_72, u216_75, u216_76, u216_77, u216_78, u216_80, u216_82, u216_85, u216_86, u216_89, u216_90, u216_91, u216_94, u216_97, u216_98, h8, if_false, mj_anyF, mj_zT, mj_cc_v, mj_cc_n, List.all_cons, List.all_nil, mj_noMk_int, mj_noMk_long, mj_noMk_ref, mj_noMk_junk, List.length_nil, List.length_cons, Nat.zero_le, Nat.reduceLeDiff, Nat.reduceAdd, Bool.and_true, Bool.true_and, Bool.and_self, Nat.reduceBNe, true_or, or_true, true_and, and_true, mj_z0, mj_z1, mj_z01, decide_true, decide_false, Bool.true_and, Bool.false_and, Bool.and_true, Bool.and_false, Bool.true_or, Bool.false_or, Bool.or_false, Bool.or_true, Bool.not_true, Bool.not_false, Bool.and_self, Bool.or_self, if_true, if_false, Bool.true_eq_false, Bool.false_eq_true, not_true, not_false_eq_true]
      | succ j ihj =>
        intro k τ hk F T
        have h8 : nI k < 8 := nI_lt (b := 8) (by omega) (by decide)
        simp only [mj_anyF]
        by_cases c1 : nI k &&& (mj_Mkb σ (nI (11 - r)) 3 ^^^ -1) = 0
        · by_cases c2 : nI k &&& mj_was σ r = nI u &&& mj_was σ r
          · obtain ⟨ρ, F2, T2, hb⟩ := sp_M_bearing (u := k) hR (by omega) hG K F T D (by omega) (mj_sub_and c1)
            by_cases c3 : mj_Br σ (σ.1 61 54) N r (mj_Bs σ (σ.1 61 54) N r) l (nI k) = -1
            · refine ⟨ρ, F2, T2, fun d => ?_⟩
              have hbd := hb d
              rw [c3] at hbd
              refine u216_43.mpr ?_
              simp only [u216_0, u216_1, u216_3, u216_6, u216_7, u216_8, u216_9, u216_10, u216_13, u216_16, u216_17, u216_18, u216_21, u216_24, u216_25, u216_26, u216_27, u216_28, u216_31, u216_33, u216_34, u216_35, u216_38, u216_40, u216_41, u216_45, u216_47, u216_50, u216_52, u216_54, u216_55, u216_56, u216_57, u216_60, u216_62, u216_64, u216_65, u216_66, u216_68, u216_69, u216_72, u216_75, u216_76, u216_77, u216_78, u216_80, u216_82, u216_85, u216_86, u216_89, u216_90, u216_91, u216_94, u216_97, u216_98, h8, c1, c2, c3, hbd, mj_zF, mj_cc_v, mj_cc_n, List.all_cons, List.all_nil, mj_noMk_int, mj_noMk_long, mj_noMk_ref, mj_noMk_junk, List.length_nil, List.length_cons, Nat.zero_le, Nat.reduceLeDiff, Nat.reduceAdd, Bool.and_true, Bool.true_and, Bool.and_self, Nat.reduceBNe, true_or, or_true, true_and, and_true, mj_z0, mj_z1, mj_z01, decide_true, decide_false, Bool.true_and, Bool.false_and, Bool.and_true, Bool.and_false, Bool.true_or, Bool.false_or, Bool.or_false, Bool.or_true, Bool.not_true, Bool.not_false, Bool.and_self, Bool.or_self, if_true, if_false, Bool.true_eq_false, Bool.false_eq_true, not_true, not_false_eq_true]
            · obtain ⟨ρ2, F3, T3, hq⟩ := ihj (k + 1) ρ (by omega) F2 T2
              refine ⟨ρ2, F3, T3, fun d => ?_⟩
              have hbd := hb d
              have hf := hq d
              refine u216_43.mpr ?_
              simp only [u216_0, u216_1, u216_3, u216_6, u216_7, u216_8, u216_9, u216_10, u216_13, u216_16, u216_17, u216_18, u216_21, u216_24, u216_25, u216_26, u216_27, u216_28, u216_31, u216_33, u216_34, u216_35, u216_38, u216_40, u216_41, u216_45, u216_47, u216_50, u216_52, u216_54, u216_55, u216_56, u216_57, u216_60, u216_62, u216_64, u216_65, u216_66, u216_68, u216_69, u216_72, u216_75, u216_76, u216_77, u216_78, u216_80, u216_82, u216_85, u216_86, u216_89, u216_90, u216_91, u216_94, u216_97, u216_98, h8, c1, c2, c3, hbd, mj_cc_v, mj_cc_n, List.all_cons, List.all_nil, mj_noMk_int, mj_noMk_long, mj_noMk_ref, mj_noMk_junk, List.length_nil, List.length_cons, Nat.zero_le, Nat.reduceLeDiff, Nat.reduceAdd, Bool.and_true, Bool.true_and, Bool.and_self, Nat.reduceBNe, true_or, or_true, true_and, and_true, mj_z0, mj_z1, mj_z01, decide_true, decide_false, Bool.true_and, Bool.false_and, Bool.and_true, Bool.and_false, Bool.true_or, Bool.false_or, Bool.or_false, Bool.or_true, Bool.not_true, Bool.not_false, Bool.and_self, Bool.or_self, if_true, if_false, Bool.true_eq_false, Bool.false_eq_true, not_true, not_false_eq_true, nI_1]
              exact hf
          · obtain ⟨ρ2, F3, T3, hq⟩ := ihj (k + 1) τ (by omega) F T
            refine ⟨ρ2, F3, T3, fun d => ?_⟩
            have hf := hq d
            refine u216_43.mpr ?_
            simp only [u216_0, u216_1, u216_3, u216_6, u216_7, u216_8, u216_9, u216_10, u216_13, u216_16, u216_17, u216_18, u216_21, u216_24, u216_25, u216_26, u216_27, u216_28, u216_31, u216_33, u216_34, u216_35, u216_38, u216_40, u216_41, u216_45, u216_47, u216_50, u216_52, u216_54, u216_55, u216_56, u216_57, u216_60, u216_62, u216_64, u216_65, u216_66, u216_68, u216_69, u216_72, u216_75, u216_76, u216_77, u216_78, u216_80, u216_82, u216_85, u216_86, u216_89, u216_90, u216_91, u216_94, u216_97, u216_98, h8, c1, c2, mj_cc_v, mj_cc_n, List.all_cons, List.all_nil, mj_noMk_int, mj_noMk_long, mj_noMk_ref, mj_noMk_junk, List.length_nil, List.length_cons, Nat.zero_le, Nat.reduceLeDiff, Nat.reduceAdd, Bool.and_true, Bool.true_and, Bool.and_self, Nat.reduceBNe, true_or, or_true, true_and, and_true, mj_z0, mj_z1, mj_z01, decide_true, decide_false, Bool.true_and, Bool.false_and, Bool.and_true, Bool.and_false, Bool.true_or, Bool.false_or, Bool.or_false, Bool.or_true, Bool.not_true, Bool.not_false, Bool.and_self, Bool.or_self, if_true, if_false, Bool.true_eq_false, Bool.false_eq_true, not_true, not_false_eq_true, nI_1]
            exact hf
        · obtain ⟨ρ2, F3, T3, hq⟩ := ihj (k + 1) τ (by omega) F T
          refine ⟨ρ2, F3, T3, fun d => ?_⟩
          have hf := hq d
          refine u216_43.mpr ?_
          simp only [u216_0, u216_1, u216_3, u216_6, u216_7, u216_8, u216_9, u216_10, u216_13, u216_16, u216_17, u216_18, u216_21, u216_24, u216_25, u216_26, u216_27, u216_28, u216_31, u216_33, u216_34, u216_35, u216_38, u216_40, u216_41, u216_45, u216_47, u216_50, u216_52, u216_54, u216_55, u216_56, u216_57, u216_60, u216_62, u216_64, u216_65, u216_66, u216_68, u216_69, u216_72, u216_75, u216_76, u216_77, u216_78, u216_80, u216_82, u216_85, u216_86, u216_89, u216_90, u216_91, u216_94, u216_97, u216_98, h8, c1, mj_cc_v, mj_cc_n, List.all_cons, List.all_nil, mj_noMk_int, mj_noMk_long, mj_noMk_ref, mj_noMk_junk, List.length_nil, List.length_cons, Nat.zero_le, Nat.reduceLeDiff, Nat.reduceAdd, Bool.and_true, Bool.true_and, Bool.and_self, Nat.reduceBNe, true_or, or_true, true_and, and_true, mj_z0, mj_z1, mj_z01, decide_true, decide_false, Bool.true_and, Bool.false_and, Bool.and_true, Bool.and_false, Bool.true_or, Bool.false_or, Bool.or_false, Bool.or_true, Bool.not_true, Bool.not_false, Bool.and_self, Bool.or_self, if_true, if_false, Bool.true_eq_false, Bool.false_eq_true, not_true, not_false_eq_true, nI_1]
          exact hf
    obtain ⟨ρ, F2, T2, hq⟩ := loop 8 0 τ (by omega) F T
    refine ⟨ρ, F2, T2, fun d => ?_⟩
    have hf := hq d
    rw [show d + 2 * (r + 1) + 3 = d + 2 * r + 4 + 1 by omega]
    refine st216 ?_
    have e1 := F.2.2 1 (by decide) (by decide)
    have kb : ∀ h, mj_ev X (d + 2 * r + 4) 215 [.ref 61, .int h] τ = some (some (.int (mj_Mkb σ h 3)), τ) := fun h => by
      have q := sp_M_knownBy (X := X) (d := d + 2 * r + 3) (σ := τ) (h := h)
      rw [mj_Fr_Mkb F] at q
      exact q
    have e0 : (0 : Int32) = nI 0 := rfl
    have hB : mj_Bs σ (σ.1 61 54) N (r + 1) l (nI u) = !(mj_anyF (fun o => (decide (nI o &&& (mj_Mkb σ (nI (11 - r)) 3 ^^^ -1) = 0) && decide (nI o &&& mj_was σ r = nI u &&& mj_was σ r)) && decide (mj_Br σ (σ.1 61 54) N r (mj_Bs σ (σ.1 61 54) N r) l (nI o) = -1)) 0 8) := rfl
    rw [← hB] at hf
    by_cases c : nI (11 - r) = σ.1 61 1
    · have ew : mj_was σ r = mj_Mkb σ (nI (11 - r)) 3 := if_pos c
      rw [ew] at hf
      simp only [u216_0, u216_1, u216_3, u216_6, u216_7, u216_8, u216_9, u216_10, u216_13, u216_16, u216_17, u216_18, u216_21, u216_24, u216_25, u216_26, u216_27, u216_28, u216_31, u216_33, u216_34, u216_35, u216_38, u216_40, u216_41, u216_45, u216_47, u216_50, u216_52, u216_54, u216_55, u216_56, u216_57, u216_60, u216_62, u216_64, u216_65, u216_66, u216_68, u216_69, u216_72, u216_75, u216_76, u216_77, u216_78, u216_80, u216_82, u216_85, u216_86, u216_89, u216_90, u216_91, u216_94, u216_97, u216_98, e11, h12, e1, if_pos c, if_false, kb, mj_cc_v, mj_cc_n, List.all_cons, List.all_nil, mj_noMk_int, mj_noMk_long, mj_noMk_ref, mj_noMk_junk, List.length_nil, List.length_cons, Nat.zero_le, Nat.reduceLeDiff, Nat.reduceAdd, Bool.and_true, Bool.true_and, Bool.and_self, Nat.reduceBNe, true_or, or_true, true_and, and_true, mj_z0, mj_z1, mj_z01]
      exact hf
    · have ew : mj_was σ r = mj_Mkb σ (nI (11 - r) - 1) 3 := if_neg c
      rw [ew] at hf
      simp only [u216_0, u216_1, u216_3, u216_6, u216_7, u216_8, u216_9, u216_10, u216_13, u216_16, u216_17, u216_18, u216_21, u216_24, u216_25, u216_26, u216_27, u216_28, u216_31, u216_33, u216_34, u216_35, u216_38, u216_40, u216_41, u216_45, u216_47, u216_50, u216_52, u216_54, u216_55, u216_56, u216_57, u216_60, u216_62, u216_64, u216_65, u216_66, u216_68, u216_69, u216_72, u216_75, u216_76, u216_77, u216_78, u216_80, u216_82, u216_85, u216_86, u216_89, u216_90, u216_91, u216_94, u216_97, u216_98, e11, h12, e1, if_neg c, if_false, kb, mj_cc_v, mj_cc_n, List.all_cons, List.all_nil, mj_noMk_int, mj_noMk_long, mj_noMk_ref, mj_noMk_junk, List.length_nil, List.length_cons, Nat.zero_le, Nat.reduceLeDiff, Nat.reduceAdd, Bool.and_true, Bool.true_and, Bool.and_self, Nat.reduceBNe, true_or, or_true, true_and, and_true, mj_z0, mj_z1, mj_z01]
      exact hf
end
