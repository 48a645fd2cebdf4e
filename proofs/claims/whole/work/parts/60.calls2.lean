section
variable {X : mj_X} {d : Nat} {σ τ : mj_St}
/-- the figures stand already -/
theorem mj_cnS_id {N : Nat} (F : mj_Fr (mj_cnS σ N) τ) : mj_cnS τ N = τ := by
  have e65 : τ.1 65 = σ.1 65 := (mj_Fr_c F).trans (mj_cnS_o (by decide) (by decide))
  have e69 : τ.1 69 = σ.1 69 := (mj_Fr_c F).trans (mj_cnS_o (by decide) (by decide))
  have ew : mj_wc τ = mj_wc σ := by
    funext n
    unfold mj_wc
    rw [e65]
  have er : mj_Mring τ N N = mj_Mring σ N N := by
    unfold mj_Mring mj_Mrg
    rw [e65, e69]
  refine Prod.ext ?_ rfl
  funext c i
  show (mj_setI (mj_figS τ N) 61 46 (mj_Mring τ N N)).1 c i = τ.1 c i
  by_cases h1 : c = 61
  · subst h1
    by_cases h2 : i = 46
    · subst h2
      have e := F.2.2 46 (by decide) (by decide)
      rw [e]
      show mj_Mring τ N N = mj_Mring σ N N
      exact er
    · simp [mj_setI, mj_figS, h2]
  · rw [mj_setI_ne _ _ _ h1]
    by_cases h3 : c = 85
    · subst h3
      by_cases h4 : i < N
      · have e := congrFun (mj_Fr_c F (c := 85)) i
        rw [e, mj_cnS_85 h4]
        simp [mj_figS, h4, ew]
      · simp [mj_figS, h4]
    · rw [mj_figS_o h3]
/-- without those that can go -/
def mj_Mqu (σ : mj_St) (o : Int32) (N w : Nat) (n : Nat) : Int32 := mj_it (fun i s => if mj_Mkept σ o (s &&& ((1 <<< (nI i &&& 31)) ^^^ -1)) N w = true then s else s &&& ((1 <<< (nI i &&& 31)) ^^^ -1)) (mj_evy σ) n
theorem sp_M_quarrel {N R w t : Nat} {o : Int32} (hM : mj_Mst σ N R w t) (hR : R + 10 < 2147483648) : ∃ ρ, mj_Fq σ ρ ∧ mj_Scr ρ (R + 10) ∧ ∀ d, mj_ev X (d + 29) 220 [.ref 61, .int o] σ = some (if mj_inb o 8 = true then (some (.int (if mj_Mkept σ o (mj_evy σ) N w = true then 0 else mj_Mqu σ o N w N)), ρ) else (some (.int (-6)), mj_rfM σ (-6))) := by
  have hN := hM.1.1
  have h9 := hM.1.2.1
  have loop : ∀ (j k : Nat) (τ : mj_St), k + j = N → mj_Fq σ τ → mj_Scr τ (R + 1 + k) → ∃ ρ, mj_Fq σ ρ ∧ mj_Scr ρ (R + 1 + N) ∧ ∀ d, mj_Runs X (mj_ev X (d + 28)) 6 (some .int) prog_8_method_66_code (33, [.ref 61, .int o, .int (mj_Mqu σ o N w k), .int (nI k)], [], τ) (some (.int (mj_Mqu σ o N w N)), ρ) := by
    intro j
    induction j with
    | zero =>
      intro k τ hk F S
      have hk8 : k = N := by omega
      subst hk8
      refine ⟨τ, F, S, fun d => ?_⟩
      refine u220_33.mpr ?_
      have h1 : ¬ nI k < τ.1 61 0 := by
        rw [(mj_Fq_Wd F hM.1).1]
        exact nI_nlt (Nat.le_refl _) (by omega)
      simp only [u220_0, u220_1, u220_2, u220_5, u220_8, u220_9, u220_11, u220_14, u220_15, u220_16, u220_19, u220_20, u220_21, u220_22, u220_23, u220_26, u220_29, u220_30, u220_31, u220_32, u220_34, u220_35, u220_38, u220_41, u220_42, u220_43, u220_44, u220_45, u220_46, u220_47, u220_48, u220_49, u220_50, u220_53, u220_56, u220_57, u220_58, u220_59, u220_60, u220_61, u220_62, u220_63, u220_64, u220_67, u220_70, u220_71, h1, if_false]
    | succ j ih =>
      intro k τ hk F S
      have M := mj_Mst_Fq F S hM
      have h1 : nI k < τ.1 61 0 := by
        rw [M.1.1]
        exact nI_lt (by omega) (by omega)
      obtain ⟨ρ, F2, S2, hq⟩ := sp_M_isKept (X := X) (o := o) (mt := mj_Mqu σ o N w k &&& ((1 <<< (nI k &&& 31)) ^^^ -1)) M.1 M.2.1 (by omega) M.2.2.1 M.2.2.2.1
      rw [mj_Fq_Mkept F] at hq
      obtain ⟨ρ2, F3, S3, hg⟩ := ih (k + 1) ρ (by omega) (mj_Fq_tr F F2) (by rw [← Nat.add_assoc]; exact S2)
      refine ⟨ρ2, F3, S3, fun d => ?_⟩
      have hqd := hq d
      have hf := hg d
      have e1 : mj_Mqu σ o N w (k + 1) = if mj_Mkept σ o (mj_Mqu σ o N w k &&& ((1 <<< (nI k &&& 31)) ^^^ -1)) N w = true then mj_Mqu σ o N w k else mj_Mqu σ o N w k &&& ((1 <<< (nI k &&& 31)) ^^^ -1) := rfl
      rw [e1] at hf
      refine u220_33.mpr ?_
      rcases (Bool.eq_false_or_eq_true (mj_Mkept σ o (mj_Mqu σ o N w k &&& ((1 <<< (nI k &&& 31)) ^^^ -1)) N w)).symm with c | c
      · rw [c] at hqd hf
        simp only [Bool.false_eq_true, if_false] at hf
        simp only [u220_0, u220_1, u220_2, u220_5, u220_8, u220_9, u220_11, u220_14, u220_15, u220_16, u220_19, u220_20, u220_21, u220_22, u220_23, u220_26, u220_29, u220_30, u220_31, u220_32, u220_34, u220_35, u220_38, u220_41, u220_42, u220_43, u220_44, u220_45, u220_46, u220_47, u220_48, u220_49, u220_50, u220_53, u220_56, u220_57, u220_58, u220_59, u220_60, u220_61, u220_62, u220_63, u220_64, u220_67, u220_70, u220_71, h1, hqd, mj_cc_v, mj_cc_n, List.all_cons, List.all_nil, mj_noMk_int, mj_noMk_long, mj_noMk_ref, mj_noMk_junk, List.length_nil, List.length_cons, Nat.zero_le, Nat.reduceLeDiff, Nat.reduceAdd, Bool.and_true, Bool.true_and, Bool.and_self, Nat.reduceBNe, true_or, or_true, true_and, and_true, mj_z0, mj_z1, mj_z01, decide_true, decide_false, Bool.true_and, Bool.false_and, Bool.and_true, Bool.and_false, Bool.true_or, Bool.false_or, Bool.or_false, Bool.or_true, Bool.not_true, Bool.not_false, Bool.and_self, Bool.or_self, if_true, if_false, Bool.true_eq_false, Bool.false_eq_true, not_true, not_false_eq_true, nI_1]
        exact hf
      · rw [c] at hqd hf
        simp only [if_true] at hf
        simp only [u220_0, u220_1, u220_2, u220_5, u220_8, u220_9, u220_11, u220_14, u220_15, u220_16, u220_19, u220_20, u220_21, u220_22, u220_23, u220_26, u220_29, u220_30, u220_31, u220_32, u220_34, u220_35, u220_38, u220_41, u220_42, u220_43, u220_44, u220_45, u220_46, u220_47, u220_48, u220_49, u220_50, u220_53, u220_56, u220_57, u220_58, u220_59, u220_60, u220_61, u220_62, u220_63, u220_64, u220_67, u220_70, u220_71, h1, hqd, mj_cc_v, mj_cc_n, List.all_cons, List.all_nil, mj_noMk_int, mj_noMk_long, mj_noMk_ref, mj_noMk_junk, List.length_nil, List.length_cons, Nat.zero_le, Nat.reduceLeDiff, Nat.reduceAdd, Bool.and_true, Bool.true_and, Bool.and_self, Nat.reduceBNe, true_or, or_true, true_and, and_true, mj_z0, mj_z1, mj_z01, decide_true, decide_false, Bool.true_and, Bool.false_and, Bool.and_true, Bool.and_false, Bool.true_or, Bool.false_or, Bool.or_false, Bool.or_true, Bool.not_true, Bool.not_false, Bool.and_self, Bool.or_self, if_true, if_false, Bool.true_eq_false, Bool.false_eq_true, not_true, not_false_eq_true, nI_1]
        exact hf
  obtain ⟨ρ1, F1, S1, hk⟩ := sp_M_isKept (X := X) (o := o) (mt := mj_evy σ) hM.1 hM.2.1 (by omega) hM.2.2.1 hM.2.2.2.1
  obtain ⟨ρ2, F2, S2, hq⟩ := loop N 0 ρ1 (by omega) F1 S1
  have ho : ∀ d, mj_ev X (d + 28) 191 [.ref 61, .int o] σ = some (some (.int (mj_z (mj_inb o 8))), σ) := fun d => sp_M_isOutcome (d := d + 27)
  have hev : ∀ d, mj_ev X (d + 28) 192 [.ref 61] σ = some (some (.int (mj_evy σ)), σ) := fun d => sp_M_everything (d := d + 27)
  have h6 : ∀ d, mj_ev X (d + 28) 158 [.ref 61, .int (-6)] σ = some (some (.int (-6)), mj_rfM σ (-6)) := fun d => sp_no6 (d := d + 27)
  cases c2 : mj_Mkept σ o (mj_evy σ) N w
  · refine ⟨ρ2, F2, ⟨S2.1, S2.2.1, by have := S2.2.2.1; omega, S2.2.2.2⟩, fun d => ?_⟩
    have hkd := hk d
    have hf := hq d
    rw [c2] at hkd
    have hod := ho d
    refine st220 ?_
    cases c : mj_inb o 8
    · rw [c] at hod
      simp only [u220_0, u220_1, u220_2, u220_5, u220_8, u220_9, u220_11, u220_14, u220_15, u220_16, u220_19, u220_20, u220_21, u220_22, u220_23, u220_26, u220_29, u220_30, u220_31, u220_32, u220_34, u220_35, u220_38, u220_41, u220_42, u220_43, u220_44, u220_45, u220_46, u220_47, u220_48, u220_49, u220_50, u220_53, u220_56, u220_57, u220_58, u220_59, u220_60, u220_61, u220_62, u220_63, u220_64, u220_67, u220_70, u220_71, hod, h6 d, mj_cc_v, mj_cc_n, List.all_cons, List.all_nil, mj_noMk_int, mj_noMk_long, mj_noMk_ref, mj_noMk_junk, List.length_nil, List.length_cons, Nat.zero_le, Nat.reduceLeDiff, Nat.reduceAdd, Bool.and_true, Bool.true_and, Bool.and_self, Nat.reduceBNe, true_or, or_true, true_and, and_true, mj_z0, mj_z1, mj_z01, decide_true, decide_false, Bool.true_and, Bool.false_and, Bool.and_true, Bool.and_false, Bool.true_or, Bool.false_or, Bool.or_false, Bool.or_true, Bool.not_true, Bool.not_false, Bool.and_self, Bool.or_self, if_true, if_false, Bool.true_eq_false, Bool.false_eq_true, not_true, not_false_eq_true]
    · rw [c] at hod
      simp only [u220_0, u220_1, u220_2, u220_5, u220_8, u220_9, u220_11, u220_14, u220_15, u220_16, u220_19, u220_20, u220_21, u220_22, u220_23, u220_26, u220_29, u220_30, u220_31, u220_32, u220_34, u220_35, u220_38, u220_41, u220_42, u220_43, u220_44, u220_45, u220_46, u220_47, u220_48, u220_49, u220_50, u220_53, u220_56, u220_57, u220_58, u220_59, u220_60, u220_61, u220_62, u220_63, u220_64, u220_67, u220_70, u220_71, hod, hev d, hkd, mj_cc_v, mj_cc_n, List.all_cons, List.all_nil, mj_noMk_int, mj_noMk_long, mj_noMk_ref, mj_noMk_junk, List.length_nil, List.length_cons, Nat.zero_le, Nat.reduceLeDiff, Nat.reduceAdd, Bool.and_true, Bool.true_and, Bool.and_self, Nat.reduceBNe, true_or, or_true, true_and, and_true, mj_z0, mj_z1, mj_z01, decide_true, decide_false, Bool.true_and, Bool.false_and, Bool.and_true, Bool.and_false, Bool.true_or, Bool.false_or, Bool.or_false, Bool.or_true, Bool.not_true, Bool.not_false, Bool.and_self, Bool.or_self, if_true, if_false, Bool.true_eq_false, Bool.false_eq_true, not_true, not_false_eq_true]
      exact hf
  · refine ⟨ρ1, F1, ⟨S1.1, S1.2.1, by have := S1.2.2.1; omega, S1.2.2.2⟩, fun d => ?_⟩
    have hkd := hk d
    rw [c2] at hkd
    have hod := ho d
    refine st220 ?_
    cases c : mj_inb o 8
    · rw [c] at hod
      simp only [u220_0, u220_1, u220_2, u220_5, u220_8, u220_9, u220_11, u220_14, u220_15, u220_16, u220_19, u220_20, u220_21, u220_22, u220_23, u220_26, u220_29, u220_30, u220_31, u220_32, u220_34, u220_35, u220_38, u220_41, u220_42, u220_43, u220_44, u220_45, u220_46, u220_47, u220_48, u220_49, u220_50, u220_53, u220_56, u220_57, u220_58, u220_59, u220_60, u220_61, u220_62, u220_63, u220_64, u220_67, u220_70, u220_71, hod, h6 d, mj_cc_v, mj_cc_n, List.all_cons, List.all_nil, mj_noMk_int, mj_noMk_long, mj_noMk_ref, mj_noMk_junk, List.length_nil, List.length_cons, Nat.zero_le, Nat.reduceLeDiff, Nat.reduceAdd, Bool.and_true, Bool.true_and, Bool.and_self, Nat.reduceBNe, true_or, or_true, true_and, and_true, mj_z0, mj_z1, mj_z01, decide_true, decide_false, Bool.true_and, Bool.false_and, Bool.and_true, Bool.and_false, Bool.true_or, Bool.false_or, Bool.or_false, Bool.or_true, Bool.not_true, Bool.not_false, Bool.and_self, Bool.or_self, if_true, if_false, Bool.true_eq_false, Bool.false_eq_true, not_true, not_false_eq_true]
    · rw [c] at hod
      simp only [u220_0, u220_1, u220_2, u220_5, u220_8, u220_9, u220_11, u220_14, u220_15, u220_16, u220_19, u220_20, u220_21, u220_22, u220_23, u220_26, u220_29, u220_30, u220_31, u220_32, u220_34, u220_35, u220_38, u220_41, u220_42, u220_43, u220_44, u220_45, u220_46, u220_47, u220_48, u220_49, u220_50, u220_53, u220_56, u220_57, u220_58, u220_59, u220_60, u220_61, u220_62, u220_63, u220_64, u220_67, u220_70, u220_71, hod, hev d, hkd, mj_cc_v, mj_cc_n, List.all_cons, List.all_nil, mj_noMk_int, mj_noMk_long, mj_noMk_ref, mj_noMk_junk, List.length_nil, List.length_cons, Nat.zero_le, Nat.reduceLeDiff, Nat.reduceAdd, Bool.and_true, Bool.true_and, Bool.and_self, Nat.reduceBNe, true_or, or_true, true_and, and_true, mj_z0, mj_z1, mj_z01, decide_true, decide_false, Bool.true_and, Bool.false_and, Bool.and_true, Bool.and_false, Bool.true_or, Bool.false_or, Bool.or_false, Bool.or_true, Bool.not_true, Bool.not_false, Bool.and_self, Bool.or_self, if_true, if_false, Bool.true_eq_false, Bool.false_eq_true, not_true, not_false_eq_true]
end
