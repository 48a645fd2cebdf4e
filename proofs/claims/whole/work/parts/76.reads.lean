section
variable {X : mj_X} {d : Nat} {σ τ ρ : mj_St}
theorem mj_hd_nb {L : Nat → Int32} {e : Nat} (h : (mj_hd L e).1 = true) (hk : (mj_hd L e).2.2.1 = 3) : ¬ (mj_hd L e).2.2.2 = 0 := by
  have key : ∀ (w : List Int32) (a : Nat), (mj_gw L e w 1 6 a).1 = true → ¬ (mj_gw L e w 1 6 a).2.2 = 0 := by
    intro w a q
    unfold mj_gw at q ⊢
    simp only [Bool.and_eq_true] at q
    have q2 := q.2
    unfold mj_dg at q2
    simp only [Bool.and_eq_true, decide_eq_true_eq] at q2
    intro z
    apply q2.2.1
    have z' : L (mj_tk L e w a).2 - 48 = 0 := z
    rw [z']
    decide
  unfold mj_hd at h hk ⊢
  split at h
  · rename_i c
    rw [if_pos c] at hk
    exact absurd hk (show ¬ (1 : Int32) = 3 by decide)
  · rename_i c
    rw [if_neg c] at hk ⊢
    split at h
    · rename_i c
      rw [if_pos c] at hk
      exact absurd hk (show ¬ (2 : Int32) = 3 by decide)
    · rename_i c
      rw [if_neg c] at hk ⊢
      split at h
      · rename_i c
        rw [if_pos c] at hk
        exact absurd hk (show ¬ (4 : Int32) = 3 by decide)
      · rename_i c
        rw [if_neg c] at hk ⊢
        split at h
        · rename_i c
          rw [if_pos c]
          exact key _ _ h
        · rename_i c
          rw [if_neg c] at hk ⊢
          split at h
          · rename_i c
            rw [if_pos c] at hk
            exact absurd hk (show ¬ (5 : Int32) = 3 by decide)
          · rename_i c
            rw [if_neg c] at hk ⊢
            split at h
            · rename_i c
              rw [if_pos c] at hk
              exact absurd hk (show ¬ (6 : Int32) = 3 by decide)
            · exact absurd h mj_ft
theorem mj_ext_ok {L : Nat → Int32} {e a st : Nat} {wk : Int32 → Bool} {f : Nat → Int32} (hs : st ≤ 5) (h : (mj_ext L e wk a st f).1 = true) : st < (mj_ext L e wk a st f).2.2.1 ∧ (mj_ext L e wk a st f).2.2.1 ≤ 5 ∧ (mj_ext L e wk a st f).2.1 ≤ e := by
  unfold mj_ext at h ⊢
  split at h
  · rename_i c
    rw [if_pos c]
    split at h
    · rename_i c1
      rw [if_pos c1]
      exact ⟨c1.2.2.1, (show 1 ≤ 5 by decide), mj_gw_le (by omega)⟩
    · rename_i c1
      rw [if_neg c1]
      split at h
      · rename_i c2
        rw [if_pos c2]
        split at h
        · rename_i c3
          rw [if_pos c3]
          split at h
          · rename_i c4
            rw [if_pos c4]
            exact ⟨c2.2.2.1, (show 2 ≤ 5 by decide), mj_gw_le (by omega)⟩
          · exact absurd h mj_ft
        · exact absurd h mj_ft
      · rename_i c2
        rw [if_neg c2]
        split at h
        · rename_i c3
          rw [if_pos c3]
          split at h
          · rename_i c4
            rw [if_pos c4]
            exact ⟨c3.2.2, (show 3 ≤ 5 by decide), mj_gw_le (mj_gw_le (by omega))⟩
          · exact absurd h mj_ft
        · rename_i c3
          rw [if_neg c3]
          split at h
          · rename_i c4
            rw [if_pos c4]
            exact ⟨c4.2.2.1, (show 4 ≤ 5 by decide), mj_gw2_le (by omega)⟩
          · rename_i c4
            rw [if_neg c4]
            split at h
            · rename_i c5
              rw [if_pos c5]
              exact ⟨c5.2.2.1, Nat.le_refl _, mj_gw_le (by omega)⟩
            · exact absurd h mj_ft
  · exact absurd h mj_ft
theorem sp_M_mores {s e : Nat} : ∀ (n a st : Nat) (f : Nat → Int32) (σ : mj_St), mj_rat σ s a e → σ.1 61 32 = nI st → st ≤ 5 → 6 ≤ st + n → (∀ i, 33 ≤ i → i ≤ 43 → σ.1 61 i = f i) → (σ.1 61 0).toInt ≤ 9 → ∃ ρ, mj_Fx [27, 29, 30, 31, 32, 36, 37, 38, 39, 40, 41] σ ρ ∧ ((mj_mr (mj_lt σ s) e (mj_wkM σ) n a st f).1 = true → ∀ i, 33 ≤ i → i ≤ 43 → ρ.1 61 i = (mj_mr (mj_lt σ s) e (mj_wkM σ) n a st f).2.2 i) ∧ ((mj_mr (mj_lt σ s) e (mj_wkM σ) n a st f).1 = false → ρ.1 61 31 = nI (mj_mr (mj_lt σ s) e (mj_wkM σ) n a st f).2.1) ∧ ∀ d, mj_Runs X (mj_ev X (d + 4)) 6 (some .boolean) prog_8_method_25_code (117, [.ref 61], [], σ) (some (.int (mj_z (mj_mr (mj_lt σ s) e (mj_wkM σ) n a st f).1)), ρ) := by
  intro n
  induction n with
  | zero => intro a st f σ _ _ h5 h6; omega
  | succ n ih =>
    intro a st f σ h hst h5 h6 hf h9
    have h2 := h.2.1
    have h3 := h.2.2.1
    have he := h.2.2.2.2
    have e33 := hf 33 (by decide) (by decide)
    have e38 := hf 38 (by decide) (by decide)
    have hw : ∀ d x, mj_ev X (d + 4) 173 [.ref 61, .int x] σ = some (some (.int 0), mj_setI σ 61 31 x) := fun d x => sp_M_wrong (d := d + 3)
    simp only [mj_mr]
    by_cases c1 : a < e
    · have q : nI a < nI e := nI_lt c1 (by omega)
      rw [if_pos c1]
      by_cases c2 : st = 5
      · rw [if_pos c2]
        refine ⟨mj_setI σ 61 31 (nI a), mj_Fx_set (by decide) mj_Fx_rf, fun z => absurd z mj_ft, fun _ => mj_setI_eq, fun d => ?_⟩
        subst c2
        have hst' : σ.1 61 32 = 5 := hst
        refine u169_117.mpr ?_
        simp only [u169_0, u169_1, u169_2, u169_5, u169_6, u169_7, u169_10, u169_11, u169_12, u169_15, u169_16, u169_17, u169_20, u169_21, u169_22, u169_25, u169_26, u169_27, u169_30, u169_31, u169_32, u169_35, u169_36, u169_37, u169_40, u169_41, u169_42, u169_45, u169_46, u169_49, u169_52, u169_53, u169_54, u169_55, u169_58, u169_59, u169_62, u169_63, u169_64, u169_67, u169_70, u169_73, u169_74, u169_77, u169_78, u169_81, u169_82, u169_83, u169_86, u169_89, u169_92, u169_93, u169_96, u169_97, u169_100, u169_101, u169_102, u169_105, u169_108, u169_109, u169_112, u169_115, u169_116, u169_118, u169_121, u169_122, u169_125, u169_128, u169_129, u169_132, u169_133, u169_136, u169_137, u169_138, u169_141, u169_144, u169_145, u169_146, u169_149, u169_152, u169_153, u169_154, u169_155, u169_158, u169_159, u169_162, u169_163, u169_166, u169_167, u169_170, u169_171, u169_172, u169_175, u169_178, u169_181, u169_182, u169_185, u169_186, h2, h3, q, hst', hw d, mj_zF, mj_cc_v, mj_cc_n, List.all_cons, List.all_nil, mj_noMk_int, mj_noMk_long, mj_noMk_ref, mj_noMk_junk, List.length_nil, List.length_cons, Nat.zero_le, Nat.reduceLeDiff, Nat.reduceAdd, Bool.and_true, Bool.true_and, Bool.and_self, Nat.reduceBNe, true_or, or_true, true_and, and_true, mj_z0, mj_z1, mj_z01, decide_true, decide_false, Bool.true_and, Bool.false_and, Bool.and_true, Bool.and_false, Bool.true_or, Bool.false_or, Bool.or_false, Bool.or_true, Bool.not_true, Bool.not_false, Bool.and_self, Bool.or_self, if_true, if_false, Bool.true_eq_false, Bool.false_eq_true, not_true, not_false_eq_true]
      · rw [if_neg c2]
        have c2i : ¬ nI st = 5 := fun z => c2 ((nI_eq (b := 5) (by omega) (by decide)).mp z)
        obtain ⟨ρ1, F1, qy, qn, hm⟩ := sp_M_more (X := X) h hst (by omega) hf h9
        rcases (Bool.eq_false_or_eq_true (mj_ext (mj_lt σ s) e (mj_wkM σ) a st f).1).symm with c3 | c3
        · rw [if_neg (by rw [c3]; decide)]
          refine ⟨ρ1, F1, fun z => absurd z mj_ft, fun _ => qn c3, fun d => ?_⟩
          have hmd := hm d
          rw [c3] at hmd
          refine u169_117.mpr ?_
          simp only [u169_0, u169_1, u169_2, u169_5, u169_6, u169_7, u169_10, u169_11, u169_12, u169_15, u169_16, u169_17, u169_20, u169_21, u169_22, u169_25, u169_26, u169_27, u169_30, u169_31, u169_32, u169_35, u169_36, u169_37, u169_40, u169_41, u169_42, u169_45, u169_46, u169_49, u169_52, u169_53, u169_54, u169_55, u169_58, u169_59, u169_62, u169_63, u169_64, u169_67, u169_70, u169_73, u169_74, u169_77, u169_78, u169_81, u169_82, u169_83, u169_86, u169_89, u169_92, u169_93, u169_96, u169_97, u169_100, u169_101, u169_102, u169_105, u169_108, u169_109, u169_112, u169_115, u169_116, u169_118, u169_121, u169_122, u169_125, u169_128, u169_129, u169_132, u169_133, u169_136, u169_137, u169_138, u169_141, u169_144, u169_145, u169_146, u169_149, u169_152, u169_153, u169_154, u169_155, u169_158, u169_159, u169_162, u169_163, u169_166, u169_167, u169_170, u169_171, u169_172, u169_175, u169_178, u169_181, u169_182, u169_185, u169_186, h2, h3, q, hst, c2i, hmd, mj_zF, mj_cc_v, mj_cc_n, List.all_cons, List.all_nil, mj_noMk_int, mj_noMk_long, mj_noMk_ref, mj_noMk_junk, List.length_nil, List.length_cons, Nat.zero_le, Nat.reduceLeDiff, Nat.reduceAdd, Bool.and_true, Bool.true_and, Bool.and_self, Nat.reduceBNe, true_or, or_true, true_and, and_true, mj_z0, mj_z1, mj_z01, decide_true, decide_false, Bool.true_and, Bool.false_and, Bool.and_true, Bool.and_false, Bool.true_or, Bool.false_or, Bool.or_false, Bool.or_true, Bool.not_true, Bool.not_false, Bool.and_self, Bool.or_self, if_true, if_false, Bool.true_eq_false, Bool.false_eq_true, not_true, not_false_eq_true]
        · rw [if_pos c3]
          obtain ⟨b1, b2, b3⟩ := qy c3
          obtain ⟨s1, s2, s3⟩ := mj_ext_ok h5 c3
          have hr1 : mj_rat ρ1 s (mj_ext (mj_lt σ s) e (mj_wkM σ) a st f).2.1 e := mj_rat_Fx F1 (by decide) h s3 b1
          obtain ⟨ρ2, F2, gy, gn, hl⟩ := ih _ _ _ ρ1 hr1 b2 s2 (by omega) b3 (by rw [F1.2.2 0 (by decide)]; exact h9)
          rw [mj_lt_Fx F1, mj_wkM_Fx F1 (by decide)] at gy gn hl
          refine ⟨ρ2, mj_Fx_tr F1 F2, gy, gn, fun d => ?_⟩
          have hmd := hm d
          have hld := hl d
          rw [c3] at hmd
          refine u169_117.mpr ?_
          simp only [u169_0, u169_1, u169_2, u169_5, u169_6, u169_7, u169_10, u169_11, u169_12, u169_15, u169_16, u169_17, u169_20, u169_21, u169_22, u169_25, u169_26, u169_27, u169_30, u169_31, u169_32, u169_35, u169_36, u169_37, u169_40, u169_41, u169_42, u169_45, u169_46, u169_49, u169_52, u169_53, u169_54, u169_55, u169_58, u169_59, u169_62, u169_63, u169_64, u169_67, u169_70, u169_73, u169_74, u169_77, u169_78, u169_81, u169_82, u169_83, u169_86, u169_89, u169_92, u169_93, u169_96, u169_97, u169_100, u169_101, u169_102, u169_105, u169_108, u169_109, u169_112, u169_115, u169_116, u169_118, u169_121, u169_122, u169_125, u169_128, u169_129, u169_132, u169_133, u169_136, u169_137, u169_138, u169_141, u169_144, u169_145, u169_146, u169_149, u169_152, u169_153, u169_154, u169_155, u169_158, u169_159, u169_162, u169_163, u169_166, u169_167, u169_170, u169_171, u169_172, u169_175, u169_178, u169_181, u169_182, u169_185, u169_186, h2, h3, q, hst, c2i, hmd, mj_n10, mj_zT, mj_cc_v, mj_cc_n, List.all_cons, List.all_nil, mj_noMk_int, mj_noMk_long, mj_noMk_ref, mj_noMk_junk, List.length_nil, List.length_cons, Nat.zero_le, Nat.reduceLeDiff, Nat.reduceAdd, Bool.and_true, Bool.true_and, Bool.and_self, Nat.reduceBNe, true_or, or_true, true_and, and_true, mj_z0, mj_z1, mj_z01, decide_true, decide_false, Bool.true_and, Bool.false_and, Bool.and_true, Bool.and_false, Bool.true_or, Bool.false_or, Bool.or_false, Bool.or_true, Bool.not_true, Bool.not_false, Bool.and_self, Bool.or_self, if_true, if_false, Bool.true_eq_false, Bool.false_eq_true, not_true, not_false_eq_true]
          exact hld
    · have q : ¬ nI a < nI e := nI_nlt (by omega) (by omega)
      have hae : a = e := by omega
      rw [if_neg c1]
      by_cases c2 : f 33 = 4
      · by_cases c3 : f 38 = -1
        · rw [if_pos ⟨c2, c3⟩]
          refine ⟨mj_setI σ 61 31 (nI e), mj_Fx_set (by decide) mj_Fx_rf, fun z => absurd z mj_ft, fun _ => mj_setI_eq, fun d => ?_⟩
          refine u169_117.mpr ?_
          simp only [u169_0, u169_1, u169_2, u169_5, u169_6, u169_7, u169_10, u169_11, u169_12, u169_15, u169_16, u169_17, u169_20, u169_21, u169_22, u169_25, u169_26, u169_27, u169_30, u169_31, u169_32, u169_35, u169_36, u169_37, u169_40, u169_41, u169_42, u169_45, u169_46, u169_49, u169_52, u169_53, u169_54, u169_55, u169_58, u169_59, u169_62, u169_63, u169_64, u169_67, u169_70, u169_73, u169_74, u169_77, u169_78, u169_81, u169_82, u169_83, u169_86, u169_89, u169_92, u169_93, u169_96, u169_97, u169_100, u169_101, u169_102, u169_105, u169_108, u169_109, u169_112, u169_115, u169_116, u169_118, u169_121, u169_122, u169_125, u169_128, u169_129, u169_132, u169_133, u169_136, u169_137, u169_138, u169_141, u169_144, u169_145, u169_146, u169_149, u169_152, u169_153, u169_154, u169_155, u169_158, u169_159, u169_162, u169_163, u169_166, u169_167, u169_170, u169_171, u169_172, u169_175, u169_178, u169_181, u169_182, u169_185, u169_186, h2, h3, q, e33, e38, c2, c3, hw d, mj_zF, mj_cc_v, mj_cc_n, List.all_cons, List.all_nil, mj_noMk_int, mj_noMk_long, mj_noMk_ref, mj_noMk_junk, List.length_nil, List.length_cons, Nat.zero_le, Nat.reduceLeDiff, Nat.reduceAdd, Bool.and_true, Bool.true_and, Bool.and_self, Nat.reduceBNe, true_or, or_true, true_and, and_true, mj_z0, mj_z1, mj_z01, decide_true, decide_false, Bool.true_and, Bool.false_and, Bool.and_true, Bool.and_false, Bool.true_or, Bool.false_or, Bool.or_false, Bool.or_true, Bool.not_true, Bool.not_false, Bool.and_self, Bool.or_self, if_true, if_false, Bool.true_eq_false, Bool.false_eq_true, not_true, not_false_eq_true]
        · rw [if_neg (fun z => c3 z.2)]
          refine ⟨σ, mj_Fx_rf, fun _ => hf, fun z => absurd z mj_tf, fun d => ?_⟩
          refine u169_117.mpr ?_
          simp only [u169_0, u169_1, u169_2, u169_5, u169_6, u169_7, u169_10, u169_11, u169_12, u169_15, u169_16, u169_17, u169_20, u169_21, u169_22, u169_25, u169_26, u169_27, u169_30, u169_31, u169_32, u169_35, u169_36, u169_37, u169_40, u169_41, u169_42, u169_45, u169_46, u169_49, u169_52, u169_53, u169_54, u169_55, u169_58, u169_59, u169_62, u169_63, u169_64, u169_67, u169_70, u169_73, u169_74, u169_77, u169_78, u169_81, u169_82, u169_83, u169_86, u169_89, u169_92, u169_93, u169_96, u169_97, u169_100, u169_101, u169_102, u169_105, u169_108, u169_109, u169_112, u169_115, u169_116, u169_118, u169_121, u169_122, u169_125, u169_128, u169_129, u169_132, u169_133, u169_136, u169_137, u169_138, u169_141, u169_144, u169_145, u169_146, u169_149, u169_152, u169_153, u169_154, u169_155, u169_158, u169_159, u169_162, u169_163, u169_166, u169_167, u169_170, u169_171, u169_172, u169_175, u169_178, u169_181, u169_182, u169_185, u169_186, h2, h3, q, e33, e38, c2, c3, mj_zT, mj_cc_v, mj_cc_n, List.all_cons, List.all_nil, mj_noMk_int, mj_noMk_long, mj_noMk_ref, mj_noMk_junk, List.length_nil, List.length_cons, Nat.zero_le, Nat.reduceLeDiff, Nat.reduceAdd, Bool.and_true, Bool.true_and, Bool.and_self, Nat.reduceBNe, true_or, or_true, true_and, and_true, mj_z0, mj_z1, mj_z01, decide_true, decide_false, Bool.true_and, Bool.false_and, Bool.and_true, Bool.and_false, Bool.true_or, Bool.false_or, Bool.or_false, Bool.or_true, Bool.not_true, Bool.not_false, Bool.and_self, Bool.or_self, if_true, if_false, Bool.true_eq_false, Bool.false_eq_true, not_true, not_false_eq_true]
      · rw [if_neg (fun z => c2 z.1)]
        refine ⟨σ, mj_Fx_rf, fun _ => hf, fun z => absurd z mj_tf, fun d => ?_⟩
        refine u169_117.mpr ?_
        simp only [u169_0, u169_1, u169_2, u169_5, u169_6, u169_7, u169_10, u169_11, u169_12, u169_15, u169_16, u169_17, u169_20, u169_21, u169_22, u169_25, u169_26, u169_27, u169_30, u169_31, u169_32, u169_35, u169_36, u169_37, u169_40, u169_41, u169_42, u169_45, u169_46, u169_49, u169_52, u169_53, u169_54, u169_55, u169_58, u169_59, u169_62, u169_63, u169_64, u169_67, u169_70, u169_73, u169_74, u169_77, u169_78, u169_81, u169_82, u169_83, u169_86, u169_89, u169_92, u169_93, u169_96, u169_97, u169_100, u169_101, u169_102, u169_105, u169_108, u169_109, u169_112, u169_115, u169_116, u169_118, u169_121, u169_122, u169_125, u169_128, u169_129, u169_132, u169_133, u169_136, u169_137, u169_138, u169_141, u169_144, u169_145, u169_146, u169_149, u169_152, u169_153, u169_154, u169_155, u169_158, u169_159, u169_162, u169_163, u169_166, u169_167, u169_170, u169_171, u169_172, u169_175, u169_178, u169_181, u169_182, u169_185, u169_186, h2, h3, q, e33, c2, mj_zT, mj_cc_v, mj_cc_n, List.all_cons, List.all_nil, mj_noMk_int, mj_noMk_long, mj_noMk_ref, mj_noMk_junk, List.length_nil, List.length_cons, Nat.zero_le, Nat.reduceLeDiff, Nat.reduceAdd, Bool.and_true, Bool.true_and, Bool.and_self, Nat.reduceBNe, true_or, or_true, true_and, and_true, mj_z0, mj_z1, mj_z01, decide_true, decide_false, Bool.true_and, Bool.false_and, Bool.and_true, Bool.and_false, Bool.true_or, Bool.false_or, Bool.or_false, Bool.or_true, Bool.not_true, Bool.not_false, Bool.and_self, Bool.or_self, if_true, if_false, Bool.true_eq_false, Bool.false_eq_true, not_true, not_false_eq_true]
def mj_RF : List Nat := [27, 29, 30, 31, 32, 33, 34, 35, 36, 37, 38, 39, 40, 41, 42, 43]
theorem sp_M_reads {s e : Nat} (h : mj_rat σ s 0 e) (h9 : (σ.1 61 0).toInt ≤ 9) : ∃ ρ, mj_Fx mj_RF σ ρ ∧ ((mj_rd (mj_lt σ s) e (mj_wkM σ)).1 = true → ∀ i, 33 ≤ i → i ≤ 43 → ρ.1 61 i = (mj_rd (mj_lt σ s) e (mj_wkM σ)).2.2 i) ∧ ((mj_rd (mj_lt σ s) e (mj_wkM σ)).1 = false → ρ.1 61 31 = nI (mj_rd (mj_lt σ s) e (mj_wkM σ)).2.1) ∧ ∀ d, mj_ev X (d + 5) 169 [.ref 61] σ = some (some (.int (mj_z (mj_rd (mj_lt σ s) e (mj_wkM σ)).1)), ρ) := by
  generalize hσ0 : mj_setI (mj_setI (mj_setI (mj_setI (mj_setI (mj_setI (mj_setI (mj_setI (mj_setI σ 61 36 (-1)) 61 37 (-1)) 61 38 (-1)) 61 39 0) 61 40 0) 61 41 0) 61 42 0) 61 43 1) 61 32 0 = σ0
  have F0 : mj_Fx mj_RF σ σ0 := by
    rw [← hσ0]
    exact mj_Fx_set (by decide) (mj_Fx_set (by decide) (mj_Fx_set (by decide) (mj_Fx_set (by decide) (mj_Fx_set (by decide) (mj_Fx_set (by decide) (mj_Fx_set (by decide) (mj_Fx_set (by decide) (mj_Fx_set (by decide) mj_Fx_rf))))))))
  have i36 : σ0.1 61 36 = -1 := by rw [← hσ0]; rfl
  have i37 : σ0.1 61 37 = -1 := by rw [← hσ0]; rfl
  have i38 : σ0.1 61 38 = -1 := by rw [← hσ0]; rfl
  have i39 : σ0.1 61 39 = 0 := by rw [← hσ0]; rfl
  have i40 : σ0.1 61 40 = 0 := by rw [← hσ0]; rfl
  have i41 : σ0.1 61 41 = 0 := by rw [← hσ0]; rfl
  have i42 : σ0.1 61 42 = 0 := by rw [← hσ0]; rfl
  have i43 : σ0.1 61 43 = 1 := by rw [← hσ0]; rfl
  have i32 : σ0.1 61 32 = 0 := by rw [← hσ0]; rfl
  have i27 : σ0.1 61 27 = nI 0 := by rw [← hσ0]; exact h.2.1
  have hr0 : mj_rat σ0 s 0 e := mj_rat_Fx F0 (by decide) h (Nat.zero_le _) i27
  obtain ⟨ρ1, F1, hy, hn, hhd⟩ := sp_M_head (X := X) hr0
  have hle := mj_hd_le (L := mj_lt σ s) (e := e)
  rw [mj_lt_Fx F0] at hy hn hhd
  have ini : ∀ d r, mj_Runs X (mj_ev X (d + 4)) 6 (some .boolean) prog_8_method_25_code (49, [.ref 61], [.int (mj_z (mj_hd (mj_lt σ s) e).1)], ρ1) r → mj_ev X (d + 5) 169 [.ref 61] σ = some r := by
    intro d r hr
    have hd := hhd d
    refine st169 ?_
    simp only [u169_0, u169_1, u169_2, u169_5, u169_6, u169_7, u169_10, u169_11, u169_12, u169_15, u169_16, u169_17, u169_20, u169_21, u169_22, u169_25, u169_26, u169_27, u169_30, u169_31, u169_32, u169_35, u169_36, u169_37, u169_40, u169_41, u169_42, u169_45, u169_46, u169_52, u169_53, u169_54, u169_55, u169_58, u169_59, u169_62, u169_63, u169_64, u169_67, u169_70, u169_73, u169_74, u169_77, u169_78, u169_81, u169_82, u169_83, u169_86, u169_89, u169_92, u169_93, u169_96, u169_97, u169_100, u169_101, u169_102, u169_105, u169_108, u169_109, u169_112, u169_115, u169_116, u169_118, u169_121, u169_122, u169_125, u169_128, u169_129, u169_132, u169_133, u169_136, u169_137, u169_138, u169_141, u169_144, u169_145, u169_146, u169_149, u169_152, u169_153, u169_154, u169_155, u169_158, u169_159, u169_162, u169_163, u169_166, u169_167, u169_170, u169_171, u169_172, u169_175, u169_178, u169_181, u169_182, u169_185, u169_186, hσ0, hd, mj_cc_v, mj_cc_n, List.all_cons, List.all_nil, mj_noMk_int, mj_noMk_long, mj_noMk_ref, mj_noMk_junk, List.length_nil, List.length_cons, Nat.zero_le, Nat.reduceLeDiff, Nat.reduceAdd, Bool.and_true, Bool.true_and, Bool.and_self, Nat.reduceBNe, true_or, or_true, true_and, and_true, mj_z0, mj_z1, mj_z01, decide_true, decide_false, Bool.true_and, Bool.false_and, Bool.and_true, Bool.and_false, Bool.true_or, Bool.false_or, Bool.or_false, Bool.or_true, Bool.not_true, Bool.not_false, Bool.and_self, Bool.or_self, if_true, if_false, Bool.true_eq_false, Bool.false_eq_true, not_true, not_false_eq_true]
    exact hr
  rcases (Bool.eq_false_or_eq_true (mj_hd (mj_lt σ s) e).1).symm with c1 | c1
  · have eX : mj_rd (mj_lt σ s) e (mj_wkM σ) = (false, (mj_hd (mj_lt σ s) e).2.1, fun _ => 0) := by
      unfold mj_rd
      rw [if_neg (by rw [c1]; decide)]
    rw [eX]
    refine ⟨ρ1, mj_Fx_tr F0 (mj_Fx_sub (by decide) F1), fun z => absurd z mj_ft, fun _ => hn c1, fun d => ini d _ ?_⟩
    rw [c1, mj_zF]
    refine u169_49.mpr ?_
    simp only [u169_0, u169_1, u169_2, u169_5, u169_6, u169_7, u169_10, u169_11, u169_12, u169_15, u169_16, u169_17, u169_20, u169_21, u169_22, u169_25, u169_26, u169_27, u169_30, u169_31, u169_32, u169_35, u169_36, u169_37, u169_40, u169_41, u169_42, u169_45, u169_46, u169_52, u169_53, u169_54, u169_55, u169_58, u169_59, u169_62, u169_63, u169_64, u169_67, u169_70, u169_73, u169_74, u169_77, u169_78, u169_81, u169_82, u169_83, u169_86, u169_89, u169_92, u169_93, u169_96, u169_97, u169_100, u169_101, u169_102, u169_105, u169_108, u169_109, u169_112, u169_115, u169_116, u169_118, u169_121, u169_122, u169_125, u169_128, u169_129, u169_132, u169_133, u169_136, u169_137, u169_138, u169_141, u169_144, u169_145, u169_146, u169_149, u169_152, u169_153, u169_154, u169_155, u169_158, u169_159, u169_162, u169_163, u169_166, u169_167, u169_170, u169_171, u169_172, u169_175, u169_178, u169_181, u169_182, u169_185, u169_186, mj_zF, mj_cc_v, mj_cc_n, List.all_cons, List.all_nil, mj_noMk_int, mj_noMk_long, mj_noMk_ref, mj_noMk_junk, List.length_nil, List.length_cons, Nat.zero_le, Nat.reduceLeDiff, Nat.reduceAdd, Bool.and_true, Bool.true_and, Bool.and_self, Nat.reduceBNe, true_or, or_true, true_and, and_true, mj_z0, mj_z1, mj_z01, decide_true, decide_false, Bool.true_and, Bool.false_and, Bool.and_true, Bool.and_false, Bool.true_or, Bool.false_or, Bool.or_false, Bool.or_true, Bool.not_true, Bool.not_false, Bool.and_self, Bool.or_self, if_true, if_false, Bool.true_eq_false, Bool.false_eq_true, not_true, not_false_eq_true]
  · obtain ⟨b1, b2, b3⟩ := hy c1
    have hnb := mj_hd_nb c1
    generalize hkd : (mj_hd (mj_lt σ s) e).2.2.1 = kd at *
    generalize hnbn : (mj_hd (mj_lt σ s) e).2.2.2 = nb at *
    have g36 : ρ1.1 61 36 = -1 := by rw [F1.2.2 36 (by decide)]; exact i36
    have g42 : ρ1.1 61 42 = 0 := by rw [F1.2.2 42 (by decide)]; exact i42
    have g43 : ρ1.1 61 43 = 1 := by rw [F1.2.2 43 (by decide)]; exact i43
    -- the number goes where it belongs
    have mid : ∃ τ, mj_Fx [36, 42, 43] ρ1 τ ∧ τ.1 61 36 = (if kd = 5 then nb else -1) ∧ τ.1 61 42 = (if kd = 3 then 0 else if kd < 5 then nb else 0) ∧ τ.1 61 43 = (if kd = 3 then nb else 1) ∧ ∀ d r, mj_Runs X (mj_ev X (d + 4)) 6 (some .boolean) prog_8_method_25_code (108, [.ref 61], [], τ) r → mj_ev X (d + 5) 169 [.ref 61] σ = some r := by
      by_cases k5 : kd = 5
      · subst k5
        have n53 : ¬ (5 : Int32) = 3 := by decide
        have n55 : ¬ (5 : Int32) < 5 := by decide
        refine ⟨mj_setI ρ1 61 36 nb, mj_Fx_set (by decide) mj_Fx_rf, ?_, ?_, ?_, fun d r hr => ini d r ?_⟩
        · rw [if_pos rfl]; exact mj_setI_eq
        · rw [if_neg n53, if_neg n55]; exact g42
        · rw [if_neg n53]; exact g43
        · rw [c1, mj_zT]
          have b3' := b3 (by decide)
          refine u169_49.mpr ?_
          simp only [u169_0, u169_1, u169_2, u169_5, u169_6, u169_7, u169_10, u169_11, u169_12, u169_15, u169_16, u169_17, u169_20, u169_21, u169_22, u169_25, u169_26, u169_27, u169_30, u169_31, u169_32, u169_35, u169_36, u169_37, u169_40, u169_41, u169_42, u169_45, u169_46, u169_52, u169_53, u169_54, u169_55, u169_58, u169_59, u169_62, u169_63, u169_64, u169_67, u169_70, u169_73, u169_74, u169_77, u169_78, u169_81, u169_82, u169_83, u169_86, u169_89, u169_92, u169_93, u169_96, u169_97, u169_100, u169_101, u169_102, u169_105, u169_109, u169_112, u169_115, u169_116, u169_118, u169_121, u169_122, u169_125, u169_128, u169_129, u169_132, u169_133, u169_136, u169_137, u169_138, u169_141, u169_144, u169_145, u169_146, u169_149, u169_152, u169_153, u169_154, u169_155, u169_158, u169_159, u169_162, u169_163, u169_166, u169_167, u169_170, u169_171, u169_172, u169_175, u169_178, u169_181, u169_182, u169_185, u169_186, mj_n10, b2, b3', mj_cc_v, mj_cc_n, List.all_cons, List.all_nil, mj_noMk_int, mj_noMk_long, mj_noMk_ref, mj_noMk_junk, List.length_nil, List.length_cons, Nat.zero_le, Nat.reduceLeDiff, Nat.reduceAdd, Bool.and_true, Bool.true_and, Bool.and_self, Nat.reduceBNe, true_or, or_true, true_and, and_true, mj_z0, mj_z1, mj_z01, decide_true, decide_false, Bool.true_and, Bool.false_and, Bool.and_true, Bool.and_false, Bool.true_or, Bool.false_or, Bool.or_false, Bool.or_true, Bool.not_true, Bool.not_false, Bool.and_self, Bool.or_self, if_true, if_false, Bool.true_eq_false, Bool.false_eq_true, not_true, not_false_eq_true]
          exact hr
      · by_cases k3 : kd = 3
        · subst k3
          refine ⟨mj_setI ρ1 61 43 nb, mj_Fx_set (by decide) mj_Fx_rf, ?_, ?_, ?_, fun d r hr => ini d r ?_⟩
          · rw [if_neg (by decide)]; exact g36
          · rw [if_pos rfl]; exact g42
          · rw [if_pos rfl]; exact mj_setI_eq
          · rw [c1, mj_zT]
            have b3' := b3 (by decide)
            refine u169_49.mpr ?_
            simp only [u169_0, u169_1, u169_2, u169_5, u169_6, u169_7, u169_10, u169_11, u169_12, u169_15, u169_16, u169_17, u169_20, u169_21, u169_22, u169_25, u169_26, u169_27, u169_30, u169_31, u169_32, u169_35, u169_36, u169_37, u169_40, u169_41, u169_42, u169_45, u169_46, u169_52, u169_53, u169_54, u169_55, u169_58, u169_59, u169_62, u169_63, u169_64, u169_67, u169_70, u169_73, u169_74, u169_77, u169_78, u169_81, u169_82, u169_83, u169_86, u169_89, u169_92, u169_93, u169_96, u169_97, u169_100, u169_101, u169_102, u169_105, u169_109, u169_112, u169_115, u169_116, u169_118, u169_121, u169_122, u169_125, u169_128, u169_129, u169_132, u169_133, u169_136, u169_137, u169_138, u169_141, u169_144, u169_145, u169_146, u169_149, u169_152, u169_153, u169_154, u169_155, u169_158, u169_159, u169_162, u169_163, u169_166, u169_167, u169_170, u169_171, u169_172, u169_175, u169_178, u169_181, u169_182, u169_185, u169_186, mj_n10, b2, b3', k5, mj_cc_v, mj_cc_n, List.all_cons, List.all_nil, mj_noMk_int, mj_noMk_long, mj_noMk_ref, mj_noMk_junk, List.length_nil, List.length_cons, Nat.zero_le, Nat.reduceLeDiff, Nat.reduceAdd, Bool.and_true, Bool.true_and, Bool.and_self, Nat.reduceBNe, true_or, or_true, true_and, and_true, mj_z0, mj_z1, mj_z01, decide_true, decide_false, Bool.true_and, Bool.false_and, Bool.and_true, Bool.and_false, Bool.true_or, Bool.false_or, Bool.or_false, Bool.or_true, Bool.not_true, Bool.not_false, Bool.and_self, Bool.or_self, if_true, if_false, Bool.true_eq_false, Bool.false_eq_true, not_true, not_false_eq_true]
            exact hr
        · by_cases k4 : kd < 5
          · have k6 : ¬ kd = 6 := by
              intro z
              rw [z] at k4
              exact absurd k4 (by decide)
            refine ⟨mj_setI ρ1 61 42 nb, mj_Fx_set (by decide) mj_Fx_rf, ?_, ?_, ?_, fun d r hr => ini d r ?_⟩
            · rw [if_neg k5]; exact g36
            · rw [if_neg k3, if_pos k4]; exact mj_setI_eq
            · rw [if_neg k3]; exact g43
            · rw [c1, mj_zT]
              have b3' := b3 k6
              refine u169_49.mpr ?_
              simp only [u169_0, u169_1, u169_2, u169_5, u169_6, u169_7, u169_10, u169_11, u169_12, u169_15, u169_16, u169_17, u169_20, u169_21, u169_22, u169_25, u169_26, u169_27, u169_30, u169_31, u169_32, u169_35, u169_36, u169_37, u169_40, u169_41, u169_42, u169_45, u169_46, u169_52, u169_53, u169_54, u169_55, u169_58, u169_59, u169_62, u169_63, u169_64, u169_67, u169_70, u169_73, u169_74, u169_77, u169_78, u169_81, u169_82, u169_83, u169_86, u169_89, u169_92, u169_93, u169_96, u169_97, u169_100, u169_101, u169_102, u169_105, u169_109, u169_112, u169_115, u169_116, u169_118, u169_121, u169_122, u169_125, u169_128, u169_129, u169_132, u169_133, u169_136, u169_137, u169_138, u169_141, u169_144, u169_145, u169_146, u169_149, u169_152, u169_153, u169_154, u169_155, u169_158, u169_159, u169_162, u169_163, u169_166, u169_167, u169_170, u169_171, u169_172, u169_175, u169_178, u169_181, u169_182, u169_185, u169_186, mj_n10, b2, b3', k5, k3, k4, mj_cc_v, mj_cc_n, List.all_cons, List.all_nil, mj_noMk_int, mj_noMk_long, mj_noMk_ref, mj_noMk_junk, List.length_nil, List.length_cons, Nat.zero_le, Nat.reduceLeDiff, Nat.reduceAdd, Bool.and_true, Bool.true_and, Bool.and_self, Nat.reduceBNe, true_or, or_true, true_and, and_true, mj_z0, mj_z1, mj_z01, decide_true, decide_false, Bool.true_and, Bool.false_and, Bool.and_true, Bool.and_false, Bool.true_or, Bool.false_or, Bool.or_false, Bool.or_true, Bool.not_true, Bool.not_false, Bool.and_self, Bool.or_self, if_true, if_false, Bool.true_eq_false, Bool.false_eq_true, not_true, not_false_eq_true]
              exact hr
          · refine ⟨ρ1, mj_Fx_rf, ?_, ?_, ?_, fun d r hr => ini d r ?_⟩
            · rw [if_neg k5]; exact g36
            · rw [if_neg k3, if_neg k4]; exact g42
            · rw [if_neg k3]; exact g43
            · rw [c1, mj_zT]
              refine u169_49.mpr ?_
              simp only [u169_0, u169_1, u169_2, u169_5, u169_6, u169_7, u169_10, u169_11, u169_12, u169_15, u169_16, u169_17, u169_20, u169_21, u169_22, u169_25, u169_26, u169_27, u169_30, u169_31, u169_32, u169_35, u169_36, u169_37, u169_40, u169_41, u169_42, u169_45, u169_46, u169_52, u169_53, u169_54, u169_55, u169_58, u169_59, u169_62, u169_63, u169_64, u169_67, u169_70, u169_73, u169_74, u169_77, u169_78, u169_81, u169_82, u169_83, u169_86, u169_89, u169_92, u169_93, u169_96, u169_97, u169_100, u169_101, u169_102, u169_105, u169_109, u169_112, u169_115, u169_116, u169_118, u169_121, u169_122, u169_125, u169_128, u169_129, u169_132, u169_133, u169_136, u169_137, u169_138, u169_141, u169_144, u169_145, u169_146, u169_149, u169_152, u169_153, u169_154, u169_155, u169_158, u169_159, u169_162, u169_163, u169_166, u169_167, u169_170, u169_171, u169_172, u169_175, u169_178, u169_181, u169_182, u169_185, u169_186, mj_n10, b2, k5, k3, k4, mj_cc_v, mj_cc_n, List.all_cons, List.all_nil, mj_noMk_int, mj_noMk_long, mj_noMk_ref, mj_noMk_junk, List.length_nil, List.length_cons, Nat.zero_le, Nat.reduceLeDiff, Nat.reduceAdd, Bool.and_true, Bool.true_and, Bool.and_self, Nat.reduceBNe, true_or, or_true, true_and, and_true, mj_z0, mj_z1, mj_z01, decide_true, decide_false, Bool.true_and, Bool.false_and, Bool.and_true, Bool.and_false, Bool.true_or, Bool.false_or, Bool.or_false, Bool.or_true, Bool.not_true, Bool.not_false, Bool.and_self, Bool.or_self, if_true, if_false, Bool.true_eq_false, Bool.false_eq_true, not_true, not_false_eq_true]
              exact hr
    obtain ⟨τ, Fτ, t36, t42, t43, run2⟩ := mid
    have F1' : mj_Fx mj_RF σ ρ1 := mj_Fx_tr F0 (mj_Fx_sub (by decide) F1)
    have Fτ' : mj_Fx mj_RF σ τ := mj_Fx_tr F1' (mj_Fx_sub (by decide) Fτ)
    have hrτ : mj_rat τ s (mj_hd (mj_lt σ s) e).2.1 e := mj_rat_Fx Fτ' (by decide) h hle (by rw [Fτ.2.2 27 (by decide)]; exact b1)
    have t33 : τ.1 61 33 = kd := by rw [Fτ.2.2 33 (by decide)]; exact b2
    obtain ⟨ρ2, F2, sy, sn, hsp⟩ := sp_M_spans (X := X) hrτ t33 t42 t43 hnb
    rw [mj_lt_Fx Fτ'] at sy sn hsp
    have hle2 := mj_sp_le (L := mj_lt σ s) (e := e) (kd := kd) (nb := nb) hle
    have F2' : mj_Fx mj_RF σ ρ2 := mj_Fx_tr Fτ' (mj_Fx_sub (by decide) F2)
    rcases (Bool.eq_false_or_eq_true (mj_sp (mj_lt σ s) e kd nb (mj_hd (mj_lt σ s) e).2.1).1).symm with c2 | c2
    · have eX : mj_rd (mj_lt σ s) e (mj_wkM σ) = (false, (mj_sp (mj_lt σ s) e kd nb (mj_hd (mj_lt σ s) e).2.1).2.1, fun _ => 0) := by
        unfold mj_rd
        rw [if_pos c1, hkd, hnbn, if_neg (by rw [c2]; decide)]
      rw [eX]
      refine ⟨ρ2, F2', fun z => absurd z mj_ft, fun _ => sn c2, fun d => run2 d _ ?_⟩
      have hd := hsp d
      rw [c2] at hd
      refine u169_108.mpr ?_
      simp only [u169_0, u169_1, u169_2, u169_5, u169_6, u169_7, u169_10, u169_11, u169_12, u169_15, u169_16, u169_17, u169_20, u169_21, u169_22, u169_25, u169_26, u169_27, u169_30, u169_31, u169_32, u169_35, u169_36, u169_37, u169_40, u169_41, u169_42, u169_45, u169_46, u169_49, u169_52, u169_53, u169_54, u169_55, u169_58, u169_59, u169_62, u169_63, u169_64, u169_67, u169_70, u169_73, u169_74, u169_77, u169_78, u169_81, u169_82, u169_83, u169_86, u169_89, u169_92, u169_93, u169_96, u169_97, u169_100, u169_101, u169_102, u169_105, u169_109, u169_112, u169_115, u169_116, u169_118, u169_121, u169_122, u169_125, u169_128, u169_129, u169_132, u169_133, u169_136, u169_137, u169_138, u169_141, u169_144, u169_145, u169_146, u169_149, u169_152, u169_153, u169_154, u169_155, u169_158, u169_159, u169_162, u169_163, u169_166, u169_167, u169_170, u169_171, u169_172, u169_175, u169_178, u169_181, u169_182, u169_185, u169_186, hd, mj_zF, mj_cc_v, mj_cc_n, List.all_cons, List.all_nil, mj_noMk_int, mj_noMk_long, mj_noMk_ref, mj_noMk_junk, List.length_nil, List.length_cons, Nat.zero_le, Nat.reduceLeDiff, Nat.reduceAdd, Bool.and_true, Bool.true_and, Bool.and_self, Nat.reduceBNe, true_or, or_true, true_and, and_true, mj_z0, mj_z1, mj_z01, decide_true, decide_false, Bool.true_and, Bool.false_and, Bool.and_true, Bool.and_false, Bool.true_or, Bool.false_or, Bool.or_false, Bool.or_true, Bool.not_true, Bool.not_false, Bool.and_self, Bool.or_self, if_true, if_false, Bool.true_eq_false, Bool.false_eq_true, not_true, not_false_eq_true]
    · obtain ⟨a1, a2, a3, a4⟩ := sy c2
      have eX : mj_rd (mj_lt σ s) e (mj_wkM σ) = mj_mr (mj_lt σ s) e (mj_wkM σ) 6 (mj_sp (mj_lt σ s) e kd nb (mj_hd (mj_lt σ s) e).2.1).2.1 0 (mj_f0 kd nb (mj_sp (mj_lt σ s) e kd nb (mj_hd (mj_lt σ s) e).2.1).2.2.1 (mj_sp (mj_lt σ s) e kd nb (mj_hd (mj_lt σ s) e).2.1).2.2.2) := by
        unfold mj_rd
        rw [if_pos c1, hkd, hnbn, if_pos c2]
      rw [eX]
      have hr2 : mj_rat ρ2 s (mj_sp (mj_lt σ s) e kd nb (mj_hd (mj_lt σ s) e).2.1).2.1 e := mj_rat_Fx F2' (by decide) h hle2 a1
      have p32 : ρ2.1 61 32 = nI 0 := by
        rw [F2.2.2 32 (by decide), Fτ.2.2 32 (by decide), F1.2.2 32 (by decide)]
        exact i32
      have p9 : (ρ2.1 61 0).toInt ≤ 9 := by rw [F2'.2.2 0 (by decide)]; exact h9
      have z37 : ρ2.1 61 37 = -1 := by rw [F2.2.2 37 (by decide), Fτ.2.2 37 (by decide), F1.2.2 37 (by decide)]; exact i37
      have z38 : ρ2.1 61 38 = -1 := by rw [F2.2.2 38 (by decide), Fτ.2.2 38 (by decide), F1.2.2 38 (by decide)]; exact i38
      have z39 : ρ2.1 61 39 = 0 := by rw [F2.2.2 39 (by decide), Fτ.2.2 39 (by decide), F1.2.2 39 (by decide)]; exact i39
      have z40 : ρ2.1 61 40 = 0 := by rw [F2.2.2 40 (by decide), Fτ.2.2 40 (by decide), F1.2.2 40 (by decide)]; exact i40
      have z41 : ρ2.1 61 41 = 0 := by rw [F2.2.2 41 (by decide), Fτ.2.2 41 (by decide), F1.2.2 41 (by decide)]; exact i41
      have z36 : ρ2.1 61 36 = (if kd = 5 then nb else -1) := by rw [F2.2.2 36 (by decide)]; exact t36
      have z43 : ρ2.1 61 43 = (if kd = 3 then nb else 1) := by rw [F2.2.2 43 (by decide)]; exact t43
      have z33 : ρ2.1 61 33 = kd := by rw [F2.2.2 33 (by decide)]; exact t33
      have hf : ∀ i, 33 ≤ i → i ≤ 43 → ρ2.1 61 i = mj_f0 kd nb (mj_sp (mj_lt σ s) e kd nb (mj_hd (mj_lt σ s) e).2.1).2.2.1 (mj_sp (mj_lt σ s) e kd nb (mj_hd (mj_lt σ s) e).2.1).2.2.2 i := by
        intro i i1 i2
        have : i = 33 ∨ i = 34 ∨ i = 35 ∨ i = 36 ∨ i = 37 ∨ i = 38 ∨ i = 39 ∨ i = 40 ∨ i = 41 ∨ i = 42 ∨ i = 43 := by omega
        rcases this with q | q | q | q | q | q | q | q | q | q | q <;> subst q
        · exact z33
        · exact a2
        · exact a3
        · exact z36
        · exact z37
        · exact z38
        · exact z39
        · exact z40
        · exact z41
        · exact a4
        · exact z43
      obtain ⟨ρ3, F3, my, mn, hm⟩ := sp_M_mores (X := X) 6 _ 0 _ ρ2 hr2 p32 (by decide) (by decide) hf p9
      rw [mj_lt_Fx F2', mj_wkM_Fx F2' (by decide)] at my mn hm
      refine ⟨ρ3, mj_Fx_tr F2' (mj_Fx_sub (by decide) F3), my, mn, fun d => run2 d _ ?_⟩
      have hd := hsp d
      have hmd := hm d
      rw [c2] at hd
      refine u169_108.mpr ?_
      simp only [u169_0, u169_1, u169_2, u169_5, u169_6, u169_7, u169_10, u169_11, u169_12, u169_15, u169_16, u169_17, u169_20, u169_21, u169_22, u169_25, u169_26, u169_27, u169_30, u169_31, u169_32, u169_35, u169_36, u169_37, u169_40, u169_41, u169_42, u169_45, u169_46, u169_49, u169_52, u169_53, u169_54, u169_55, u169_58, u169_59, u169_62, u169_63, u169_64, u169_67, u169_70, u169_73, u169_74, u169_77, u169_78, u169_81, u169_82, u169_83, u169_86, u169_89, u169_92, u169_93, u169_96, u169_97, u169_100, u169_101, u169_102, u169_105, u169_109, u169_112, u169_115, u169_116, u169_118, u169_121, u169_122, u169_125, u169_128, u169_129, u169_132, u169_133, u169_136, u169_137, u169_138, u169_141, u169_144, u169_145, u169_146, u169_149, u169_152, u169_153, u169_154, u169_155, u169_158, u169_159, u169_162, u169_163, u169_166, u169_167, u169_170, u169_171, u169_172, u169_175, u169_178, u169_181, u169_182, u169_185, u169_186, hd, mj_n10, mj_zT, mj_cc_v, mj_cc_n, List.all_cons, List.all_nil, mj_noMk_int, mj_noMk_long, mj_noMk_ref, mj_noMk_junk, List.length_nil, List.length_cons, Nat.zero_le, Nat.reduceLeDiff, Nat.reduceAdd, Bool.and_true, Bool.true_and, Bool.and_self, Nat.reduceBNe, true_or, or_true, true_and, and_true, mj_z0, mj_z1, mj_z01, decide_true, decide_false, Bool.true_and, Bool.false_and, Bool.and_true, Bool.and_false, Bool.true_or, Bool.false_or, Bool.or_false, Bool.or_true, Bool.not_true, Bool.not_false, Bool.and_self, Bool.or_self, if_true, if_false, Bool.true_eq_false, Bool.false_eq_true, not_true, not_false_eq_true]
      exact hmd
end
