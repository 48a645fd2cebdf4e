section
variable {X : mj_X} {d : Nat} {σ τ ρ : mj_St}
theorem mj_ext_keep {L : Nat → Int32} {e a st : Nat} {wk : Int32 → Bool} {f : Nat → Int32} (hst : st ≤ 5) (h : (mj_ext L e wk a st f).1 = true) (hj : f 33 = 4 → (¬ f 38 = -1 ↔ 3 ≤ st)) : (mj_ext L e wk a st f).2.2.2 33 = f 33 ∧ (f 33 = 4 → (¬ (mj_ext L e wk a st f).2.2.2 38 = -1 ↔ 3 ≤ (mj_ext L e wk a st f).2.2.1)) := by
  unfold mj_ext at h ⊢
  split at h
  · rename_i c
    rw [if_pos c]
    split at h
    · rename_i q
      rw [if_pos q]
      refine ⟨rfl, fun g => ?_⟩
      have := hj g
      show ¬ f 38 = -1 ↔ 3 ≤ 1
      have h1 := q.2.2.1
      exact ⟨fun z => by have := this.mp z; omega, fun z => absurd z (by decide)⟩
    · rename_i q
      rw [if_neg q]
      split at h
      · rename_i q2
        rw [if_pos q2]
        split at h
        · rename_i q3
          rw [if_pos q3]
          split at h
          · rename_i q4
            rw [if_pos q4]
            refine ⟨rfl, fun g => ?_⟩
            have := hj g
            show ¬ f 38 = -1 ↔ 3 ≤ 2
            have h1 := q2.2.2.1
            exact ⟨fun z => by have := this.mp z; omega, fun z => absurd z (by decide)⟩
          · exact absurd h mj_ft
        · exact absurd h mj_ft
      · rename_i q2
        rw [if_neg q2]
        split at h
        · rename_i q3
          rw [if_pos q3]
          split at h
          · rename_i q4
            rw [if_pos q4]
            refine ⟨rfl, fun g => ?_⟩
            obtain ⟨n, hn, e1, -, -⟩ := mj_gw_in q4
            have hne : ¬ (mj_gw L e [102, 32] 0 2 (a + 2)).2.2 = -1 := by
              rw [e1]
              exact mj_nIm1 (by omega)
            show ¬ (mj_gw L e [102, 32] 0 2 (a + 2)).2.2 = -1 ↔ 3 ≤ 3
            exact ⟨fun _ => by omega, fun _ => hne⟩
          · exact absurd h mj_ft
        · rename_i q3
          rw [if_neg q3]
          split at h
          · rename_i q4
            rw [if_pos q4]
            refine ⟨rfl, fun g => ?_⟩
            have := q4.2.2.2.resolve_left (not_not_intro g)
            show ¬ f 38 = -1 ↔ 3 ≤ 4
            exact ⟨fun _ => by omega, fun _ => this⟩
          · rename_i q4
            rw [if_neg q4]
            split at h
            · rename_i q5
              rw [if_pos q5]
              refine ⟨rfl, fun g => ?_⟩
              have := q5.2.2.2.resolve_left (not_not_intro g)
              show ¬ f 38 = -1 ↔ 3 ≤ 5
              exact ⟨fun _ => by omega, fun _ => this⟩
            · exact absurd h mj_ft
  · exact absurd h mj_ft
theorem mj_ext_le {L : Nat → Int32} {e a st : Nat} {wk : Int32 → Bool} {f : Nat → Int32} (h : a ≤ e) : (mj_ext L e wk a st f).2.1 ≤ e := by
  unfold mj_ext
  by_cases c0 : a < e ∧ L a = 32
  · rw [if_pos c0]
    by_cases c1 : a + 1 < e ∧ L (a + 1) = 119 ∧ st < 1 ∧ f 33 < 5
    · rw [if_pos c1]
      exact mj_gw_le (by omega)
    · rw [if_neg c1]
      by_cases c2 : a + 1 < e ∧ L (a + 1) = 97 ∧ st < 2 ∧ f 33 < 5
      · rw [if_pos c2]
        by_cases d1 : (mj_gw L e [102, 116, 101, 114, 32] 0 9 (a + 2)).1 = true
        · rw [if_pos d1]
          by_cases d2 : wk (mj_gw L e [102, 116, 101, 114, 32] 0 9 (a + 2)).2.2 = true
          · rw [if_pos d2]
            exact mj_gw_le (by omega)
          · rw [if_neg d2]
            exact (mj_tk_le _ _ (by omega)).2
        · rw [if_neg d1]
          exact mj_gw_le (by omega)
      · rw [if_neg c2]
        by_cases c3 : a + 1 < e ∧ L (a + 1) = 105 ∧ st < 3
        · rw [if_pos c3]
          by_cases d1 : (mj_gw L e [102, 32] 0 2 (a + 2)).1 = true
          · rw [if_pos d1]
            exact mj_gw_le (mj_gw_le (by omega))
          · rw [if_neg d1]
            exact mj_gw_le (by omega)
        · rw [if_neg c3]
          by_cases c4 : a + 1 < e ∧ L (a + 1) = 111 ∧ st < 4 ∧ (¬ f 33 = 4 ∨ ¬ f 38 = -1)
          · rw [if_pos c4]
            exact mj_gw2_le (by omega)
          · rw [if_neg c4]
            by_cases c5 : a + 1 < e ∧ L (a + 1) = 102 ∧ st < 5 ∧ (¬ f 33 = 4 ∨ ¬ f 38 = -1)
            · rw [if_pos c5]
              exact mj_gw_le (by omega)
            · rw [if_neg c5]
              show a + 1 ≤ e
              omega
  · rw [if_neg c0]
    exact h
theorem sp_extras_loop {c e k N : Nat} : ∀ (n a st i : Nat) (f : Nat → Int32) (σ : mj_St), σ.1 14 14 = nI N → N ≤ 9 → mj_kat σ c a e → σ.1 44 3 = -1 → st ≤ 5 → 6 ≤ st + n → i ≤ st → mj_cfl σ f → f 33 = nI k → 1 ≤ k → k ≤ 6 → (f 33 = 4 → (¬ f 38 = -1 ↔ 3 ≤ st)) → ∃ ρ, mj_Fc 44 mj_EF σ ρ ∧ ((mj_mr (mj_kl σ c) e (mj_wkC σ) n a st f).1 = true → ρ.1 44 3 = -1 ∧ mj_cfl ρ (mj_mr (mj_kl σ c) e (mj_wkC σ) n a st f).2.2) ∧ ((mj_mr (mj_kl σ c) e (mj_wkC σ) n a st f).1 = false → ρ.1 44 3 = nI (mj_mr (mj_kl σ c) e (mj_wkC σ) n a st f).2.1) ∧ ∀ x4, mj_noMk x4 = true → ∀ d, mj_Runs X (mj_ev X (d + 4)) 2 none prog_4_method_14_code (4, [.ref 44, .ref 14, .int (nI st), .int (nI i), x4], [], σ) (none, ρ) := by
  intro n
  induction n with
  | zero => intro a st i f σ _ _ _ _ h5 h6; omega
  | succ n ih =>
    intro a st i f σ hN h9 h hb h5 h6 hi hf hk k1 k6 hj
    have hat := h
    obtain ⟨h1, h2, h3, h4, h5', h6', h7⟩ := h
    have e4 : σ.1 44 4 = f 33 := hf.1
    have e10 : σ.1 44 10 = f 38 := hf.2 38 (by decide) (by decide)
    -- the end: nothing more is read
    have fin : (¬ a < e ∨ st = 5) → ∃ ρ, mj_Fc 44 mj_EF σ ρ ∧ ((mj_mr (mj_kl σ c) e (mj_wkC σ) (n + 1) a st f).1 = true → ρ.1 44 3 = -1 ∧ mj_cfl ρ (mj_mr (mj_kl σ c) e (mj_wkC σ) (n + 1) a st f).2.2) ∧ ((mj_mr (mj_kl σ c) e (mj_wkC σ) (n + 1) a st f).1 = false → ρ.1 44 3 = nI (mj_mr (mj_kl σ c) e (mj_wkC σ) (n + 1) a st f).2.1) ∧ ∀ x2 x3 x4, mj_noMk x4 = true → ∀ d, mj_Runs X (mj_ev X (d + 4)) 2 none prog_4_method_14_code (97, [.ref 44, .ref 14, .int x2, .int x3, x4], [], σ) (none, ρ) := by
      intro hc
      simp only [mj_mr]
      by_cases c1 : a < e
      · have c2 : st = 5 := hc.resolve_left (not_not_intro c1)
        have q : nI a < nI e := nI_lt c1 (by omega)
        rw [if_pos c1, if_pos c2]
        refine ⟨mj_setI σ 44 3 (nI a), mj_Fc_set (by decide) mj_Fc_rf, fun z => absurd z mj_ft, fun _ => mj_setI_eq, fun x2 x3 x4 n4 d => ?_⟩
        refine u32_97.mpr ?_
        simp only [u32_0, u32_1, u32_2, u32_3, u32_5, u32_6, u32_9, u32_10, u32_11, u32_14, u32_15, u32_18, u32_19, u32_22, u32_25, u32_26, u32_28, u32_31, u32_34, u32_35, u32_36, u32_39, u32_42, u32_44, u32_46, u32_47, u32_50, u32_51, u32_52, u32_54, u32_57, u32_60, u32_61, u32_62, u32_65, u32_68, u32_69, u32_70, u32_71, u32_73, u32_76, u32_77, u32_80, u32_81, u32_84, u32_86, u32_89, u32_90, u32_91, u32_94, u32_98, u32_101, u32_102, u32_105, u32_106, u32_109, u32_110, u32_113, u32_116, u32_117, u32_120, u32_121, u32_124, u32_125, u32_128, u32_129, u32_132, u32_133, u32_134, u32_137, u32_140, hb, h5', h4, q, mj_cc_v, mj_cc_n, List.all_cons, List.all_nil, mj_noMk_int, mj_noMk_long, mj_noMk_ref, mj_noMk_junk, List.length_nil, List.length_cons, Nat.zero_le, Nat.reduceLeDiff, Nat.reduceAdd, Bool.and_true, Bool.true_and, Bool.and_self, Nat.reduceBNe, true_or, or_true, true_and, and_true, mj_z0, mj_z1, mj_z01, decide_true, decide_false, Bool.true_and, Bool.false_and, Bool.and_true, Bool.and_false, Bool.true_or, Bool.false_or, Bool.or_false, Bool.or_true, Bool.not_true, Bool.not_false, Bool.and_self, Bool.or_self, if_true, if_false, Bool.true_eq_false, Bool.false_eq_true, not_true, not_false_eq_true]
      · have q : ¬ nI a < nI e := nI_nlt (by omega) (by omega)
        rw [if_neg c1]
        have hae : a = e := by omega
        by_cases c2 : f 33 = 4
        · by_cases c3 : f 38 = -1
          · rw [if_pos ⟨c2, c3⟩]
            refine ⟨mj_setI σ 44 3 (nI a), mj_Fc_set (by decide) mj_Fc_rf, fun z => absurd z mj_ft, fun _ => by rw [mj_setI_eq, hae], fun x2 x3 x4 n4 d => ?_⟩
            refine u32_97.mpr ?_
            simp only [u32_0, u32_1, u32_2, u32_3, u32_5, u32_6, u32_9, u32_10, u32_11, u32_14, u32_15, u32_18, u32_19, u32_22, u32_25, u32_26, u32_28, u32_31, u32_34, u32_35, u32_36, u32_39, u32_42, u32_44, u32_46, u32_47, u32_50, u32_51, u32_52, u32_54, u32_57, u32_60, u32_61, u32_62, u32_65, u32_68, u32_69, u32_70, u32_71, u32_73, u32_76, u32_77, u32_80, u32_81, u32_84, u32_86, u32_89, u32_90, u32_91, u32_94, u32_98, u32_101, u32_102, u32_105, u32_106, u32_109, u32_110, u32_113, u32_116, u32_117, u32_120, u32_121, u32_124, u32_125, u32_128, u32_129, u32_132, u32_133, u32_134, u32_137, u32_140, hb, h5', h4, q, e4, e10, eq_true c2, eq_true c3, mj_cc_v, mj_cc_n, List.all_cons, List.all_nil, mj_noMk_int, mj_noMk_long, mj_noMk_ref, mj_noMk_junk, List.length_nil, List.length_cons, Nat.zero_le, Nat.reduceLeDiff, Nat.reduceAdd, Bool.and_true, Bool.true_and, Bool.and_self, Nat.reduceBNe, true_or, or_true, true_and, and_true, mj_z0, mj_z1, mj_z01, decide_true, decide_false, Bool.true_and, Bool.false_and, Bool.and_true, Bool.and_false, Bool.true_or, Bool.false_or, Bool.or_false, Bool.or_true, Bool.not_true, Bool.not_false, Bool.and_self, Bool.or_self, if_true, if_false, Bool.true_eq_false, Bool.false_eq_true, not_true, not_false_eq_true]
          · rw [if_neg (fun z => c3 z.2)]
            refine ⟨σ, mj_Fc_rf, fun _ => ⟨hb, hf⟩, fun z => absurd z mj_tf, fun x2 x3 x4 n4 d => ?_⟩
            refine u32_97.mpr ?_
            simp only [u32_0, u32_1, u32_2, u32_3, u32_5, u32_6, u32_9, u32_10, u32_11, u32_14, u32_15, u32_18, u32_19, u32_22, u32_25, u32_26, u32_28, u32_31, u32_34, u32_35, u32_36, u32_39, u32_42, u32_44, u32_46, u32_47, u32_50, u32_51, u32_52, u32_54, u32_57, u32_60, u32_61, u32_62, u32_65, u32_68, u32_69, u32_70, u32_71, u32_73, u32_76, u32_77, u32_80, u32_81, u32_84, u32_86, u32_89, u32_90, u32_91, u32_94, u32_98, u32_101, u32_102, u32_105, u32_106, u32_109, u32_110, u32_113, u32_116, u32_117, u32_120, u32_121, u32_124, u32_125, u32_128, u32_129, u32_132, u32_133, u32_134, u32_137, u32_140, hb, h5', h4, q, e4, e10, eq_true c2, eq_false c3, mj_cc_v, mj_cc_n, List.all_cons, List.all_nil, mj_noMk_int, mj_noMk_long, mj_noMk_ref, mj_noMk_junk, List.length_nil, List.length_cons, Nat.zero_le, Nat.reduceLeDiff, Nat.reduceAdd, Bool.and_true, Bool.true_and, Bool.and_self, Nat.reduceBNe, true_or, or_true, true_and, and_true, mj_z0, mj_z1, mj_z01, decide_true, decide_false, Bool.true_and, Bool.false_and, Bool.and_true, Bool.and_false, Bool.true_or, Bool.false_or, Bool.or_false, Bool.or_true, Bool.not_true, Bool.not_false, Bool.and_self, Bool.or_self, if_true, if_false, Bool.true_eq_false, Bool.false_eq_true, not_true, not_false_eq_true]
        · rw [if_neg (fun z => c2 z.1)]
          refine ⟨σ, mj_Fc_rf, fun _ => ⟨hb, hf⟩, fun z => absurd z mj_tf, fun x2 x3 x4 n4 d => ?_⟩
          refine u32_97.mpr ?_
          simp only [u32_0, u32_1, u32_2, u32_3, u32_5, u32_6, u32_9, u32_10, u32_11, u32_14, u32_15, u32_18, u32_19, u32_22, u32_25, u32_26, u32_28, u32_31, u32_34, u32_35, u32_36, u32_39, u32_42, u32_44, u32_46, u32_47, u32_50, u32_51, u32_52, u32_54, u32_57, u32_60, u32_61, u32_62, u32_65, u32_68, u32_69, u32_70, u32_71, u32_73, u32_76, u32_77, u32_80, u32_81, u32_84, u32_86, u32_89, u32_90, u32_91, u32_94, u32_98, u32_101, u32_102, u32_105, u32_106, u32_109, u32_110, u32_113, u32_116, u32_117, u32_120, u32_121, u32_124, u32_125, u32_128, u32_129, u32_132, u32_133, u32_134, u32_137, u32_140, hb, h5', h4, q, e4, eq_false c2, mj_cc_v, mj_cc_n, List.all_cons, List.all_nil, mj_noMk_int, mj_noMk_long, mj_noMk_ref, mj_noMk_junk, List.length_nil, List.length_cons, Nat.zero_le, Nat.reduceLeDiff, Nat.reduceAdd, Bool.and_true, Bool.true_and, Bool.and_self, Nat.reduceBNe, true_or, or_true, true_and, and_true, mj_z0, mj_z1, mj_z01, decide_true, decide_false, Bool.true_and, Bool.false_and, Bool.and_true, Bool.and_false, Bool.true_or, Bool.false_or, Bool.or_false, Bool.or_true, Bool.not_true, Bool.not_false, Bool.and_self, Bool.or_self, if_true, if_false, Bool.true_eq_false, Bool.false_eq_true, not_true, not_false_eq_true]
    by_cases c5 : st = 5
    · obtain ⟨ρ, F, a1, a2, hr⟩ := fin (Or.inr c5)
      refine ⟨ρ, F, a1, a2, fun x4 n4 d => ?_⟩
      have hf' := hr (nI st) (nI i) x4 n4 d
      have q2 : ¬ nI st < 5 := by rw [c5]; decide
      refine u32_4.mpr ?_
      by_cases q3 : nI i < 5
      · simp only [u32_0, u32_1, u32_2, u32_3, u32_5, u32_6, u32_9, u32_10, u32_11, u32_14, u32_15, u32_18, u32_19, u32_22, u32_25, u32_26, u32_28, u32_31, u32_34, u32_35, u32_36, u32_39, u32_42, u32_44, u32_46, u32_47, u32_50, u32_51, u32_52, u32_54, u32_57, u32_60, u32_61, u32_62, u32_65, u32_68, u32_69, u32_70, u32_71, u32_73, u32_76, u32_77, u32_80, u32_81, u32_84, u32_86, u32_89, u32_90, u32_91, u32_94, u32_98, u32_101, u32_102, u32_105, u32_106, u32_109, u32_110, u32_113, u32_116, u32_117, u32_120, u32_121, u32_124, u32_125, u32_128, u32_129, u32_132, u32_133, u32_134, u32_137, u32_140, q2, q3, mj_cc_v, mj_cc_n, List.all_cons, List.all_nil, mj_noMk_int, mj_noMk_long, mj_noMk_ref, mj_noMk_junk, List.length_nil, List.length_cons, Nat.zero_le, Nat.reduceLeDiff, Nat.reduceAdd, Bool.and_true, Bool.true_and, Bool.and_self, Nat.reduceBNe, true_or, or_true, true_and, and_true, mj_z0, mj_z1, mj_z01, decide_true, decide_false, Bool.true_and, Bool.false_and, Bool.and_true, Bool.and_false, Bool.true_or, Bool.false_or, Bool.or_false, Bool.or_true, Bool.not_true, Bool.not_false, Bool.and_self, Bool.or_self, if_true, if_false, Bool.true_eq_false, Bool.false_eq_true, not_true, not_false_eq_true]
        exact hf'
      · simp only [u32_0, u32_1, u32_2, u32_3, u32_5, u32_6, u32_9, u32_10, u32_11, u32_14, u32_15, u32_18, u32_19, u32_22, u32_25, u32_26, u32_28, u32_31, u32_34, u32_35, u32_36, u32_39, u32_42, u32_44, u32_46, u32_47, u32_50, u32_51, u32_52, u32_54, u32_57, u32_60, u32_61, u32_62, u32_65, u32_68, u32_69, u32_70, u32_71, u32_73, u32_76, u32_77, u32_80, u32_81, u32_84, u32_86, u32_89, u32_90, u32_91, u32_94, u32_98, u32_101, u32_102, u32_105, u32_106, u32_109, u32_110, u32_113, u32_116, u32_117, u32_120, u32_121, u32_124, u32_125, u32_128, u32_129, u32_132, u32_133, u32_134, u32_137, u32_140, q3, mj_cc_v, mj_cc_n, List.all_cons, List.all_nil, mj_noMk_int, mj_noMk_long, mj_noMk_ref, mj_noMk_junk, List.length_nil, List.length_cons, Nat.zero_le, Nat.reduceLeDiff, Nat.reduceAdd, Bool.and_true, Bool.true_and, Bool.and_self, Nat.reduceBNe, true_or, or_true, true_and, and_true, mj_z0, mj_z1, mj_z01, decide_true, decide_false, Bool.true_and, Bool.false_and, Bool.and_true, Bool.and_false, Bool.true_or, Bool.false_or, Bool.or_false, Bool.or_true, Bool.not_true, Bool.not_false, Bool.and_self, Bool.or_self, if_true, if_false, Bool.true_eq_false, Bool.false_eq_true, not_true, not_false_eq_true]
        exact hf'
    · have q2 : nI st < 5 := nI_lt (b := 5) (by omega) (by decide)
      have q3 : nI i < 5 := nI_lt (b := 5) (by omega) (by decide)
      by_cases c1 : a < e
      · have q : nI a < nI e := nI_lt c1 (by omega)
        have hrd : ∀ d, mj_ev X (d + 4) 25 [.ref 44, .ref 1108] σ = _ := fun d => sp_reads (X := X) (d := d + 2) (x := 8) (w := [32]) rfl (by decide) hat
        have em : mj_mr (mj_kl σ c) e (mj_wkC σ) (n + 1) a st f = if (mj_ext (mj_kl σ c) e (mj_wkC σ) a st f).1 = true then mj_mr (mj_kl σ c) e (mj_wkC σ) n (mj_ext (mj_kl σ c) e (mj_wkC σ) a st f).2.1 (mj_ext (mj_kl σ c) e (mj_wkC σ) a st f).2.2.1 (mj_ext (mj_kl σ c) e (mj_wkC σ) a st f).2.2.2 else (false, (mj_ext (mj_kl σ c) e (mj_wkC σ) a st f).2.1, f) := by
          simp only [mj_mr]
          rw [if_pos c1, if_neg c5]
        rw [em]
        by_cases c32 : a < e ∧ mj_kl σ c a = 32
        · have et : mj_tk (mj_kl σ c) e [32] a = (true, a + 1) := by
            simp only [mj_tk]
            rw [if_pos c32]
          rw [et] at hrd
          simp only [decide_true, decide_false, Bool.true_and, Bool.false_and, Bool.and_true, Bool.and_false, Bool.true_or, Bool.false_or, Bool.or_false, Bool.or_true, Bool.not_true, Bool.not_false, Bool.and_self, Bool.or_self, if_true, if_false, Bool.true_eq_false, Bool.false_eq_true, not_true, not_false_eq_true, mj_zT] at hrd
          have hat1 := mj_kat_at (a' := a + 1) hat (by omega)
          have hb1 : (mj_setI σ 44 2 (nI (a + 1))).1 44 3 = -1 := hb
          have x2 : (mj_setI σ 44 2 (nI (a + 1))).1 44 2 = nI (a + 1) := mj_setI_eq
          have x4 : (mj_setI σ 44 2 (nI (a + 1))).1 44 4 = f 33 := e4
          have hf1 : mj_cfl (mj_setI σ 44 2 (nI (a + 1))) f := mj_cfl_Fc (mj_Fc_set (by decide) mj_Fc_rf) hf
          have F1 : mj_Fc 44 mj_EF σ (mj_setI σ 44 2 (nI (a + 1))) := mj_Fc_set (by decide) mj_Fc_rf
          have eL1 : mj_kl (mj_setI σ 44 2 (nI (a + 1))) c = mj_kl σ c := rfl
          have ew1 : mj_wkC (mj_setI σ 44 2 (nI (a + 1))) = mj_wkC σ := mj_wkC_Fc F1
          have hex : ∀ d, mj_ev X (d + 4) 33 [.ref 44, .int (nI (a + 1))] (mj_setI σ 44 2 (nI (a + 1))) = _ := fun d => sp_extraAt (X := X) (d := d + 2) (p := a + 1) hat1 (by omega)
          obtain ⟨hno, hyes⟩ := sp_readExtra (X := X) (st := st) (k := k) (N := N) (σ := mj_setI σ 44 2 (nI (a + 1))) hN h9 hat1 hb1 hf1 ⟨c1, c32.2⟩ hk k1 k6 hj (by omega)
          rw [eL1, ew1] at hno hyes
          have hmf : ∀ d, mj_ev X (d + 4) 34 [.ref 44, .int (nI st), .int (mj_exk (if a + 1 < e then mj_kl σ c (a + 1) else -1))] (mj_setI σ 44 2 (nI (a + 1))) = some (some (.int (mj_z (mj_mfw (f 33) (nI st) (mj_exk (if a + 1 < e then mj_kl σ c (a + 1) else -1))))), mj_setI σ 44 2 (nI (a + 1))) := fun d => by
            have := sp_mayFollow (X := X) (d := d + 3) (σ := mj_setI σ 44 2 (nI (a + 1))) (lt := nI st) (ex := mj_exk (if a + 1 < e then mj_kl σ c (a + 1) else -1))
            rw [x4] at this
            exact this
          rw [eL1] at hex
          generalize hxk : mj_exk (if a + 1 < e then mj_kl σ c (a + 1) else -1) = xk at *
          by_cases p1 : nI st < xk
          · have p1' : ¬ xk ≤ nI st := Int32.not_le.mpr p1
            rcases (Bool.eq_false_or_eq_true (mj_mfw (f 33) (nI st) xk)).symm with p2 | p2
            · have hx := hno (Or.inr p2)
              rw [hx, if_neg mj_ft]
              refine ⟨mj_setI (mj_setI σ 44 2 (nI (a + 1))) 44 3 (nI (a + 1)), mj_Fc_set (by decide) F1, fun z => absurd z mj_ft, fun _ => mj_setI_eq, fun x4 n4 d => ?_⟩
              have hmd := hmf d
              rw [p2] at hmd
              refine u32_4.mpr ?_
              simp only [u32_0, u32_1, u32_2, u32_3, u32_5, u32_6, u32_9, u32_10, u32_11, u32_14, u32_15, u32_18, u32_19, u32_22, u32_25, u32_26, u32_28, u32_31, u32_34, u32_35, u32_36, u32_39, u32_42, u32_44, u32_46, u32_47, u32_50, u32_51, u32_52, u32_54, u32_57, u32_60, u32_61, u32_62, u32_65, u32_68, u32_69, u32_70, u32_71, u32_73, u32_76, u32_77, u32_80, u32_81, u32_84, u32_86, u32_89, u32_90, u32_91, u32_94, u32_98, u32_101, u32_102, u32_105, u32_106, u32_109, u32_110, u32_113, u32_116, u32_117, u32_120, u32_121, u32_124, u32_125, u32_128, u32_129, u32_132, u32_133, u32_134, u32_137, u32_140, q2, q3, h5', h4, q, hrd d, x2, hex d, p1, hmd, n4, mj_zF, mj_n10, mj_cc_v, mj_cc_n, List.all_cons, List.all_nil, mj_noMk_int, mj_noMk_long, mj_noMk_ref, mj_noMk_junk, List.length_nil, List.length_cons, Nat.zero_le, Nat.reduceLeDiff, Nat.reduceAdd, Bool.and_true, Bool.true_and, Bool.and_self, Nat.reduceBNe, true_or, or_true, true_and, and_true, mj_z0, mj_z1, mj_z01, decide_true, decide_false, Bool.true_and, Bool.false_and, Bool.and_true, Bool.and_false, Bool.true_or, Bool.false_or, Bool.or_false, Bool.or_true, Bool.not_true, Bool.not_false, Bool.and_self, Bool.or_self, if_true, if_false, Bool.true_eq_false, Bool.false_eq_true, not_true, not_false_eq_true]
            · obtain ⟨ρ1, S1, hst1, hr1⟩ := hyes p1' p2
              obtain ⟨Fx, sy, sn⟩ := S1
              have F2 : mj_Fc 44 mj_EF σ ρ1 := mj_Fc_tr F1 Fx
              generalize hx : mj_ext (mj_kl σ c) e (mj_wkC σ) a st f = x at *
              rcases (Bool.eq_false_or_eq_true x.1).symm with g | g
              · rw [if_neg (by rw [g]; decide)]
                have sn' := sn g
                have nb := mj_nIm1 (p := x.2.1) (by
                  have hle : x.2.1 ≤ e := by
                    rw [← hx]
                    exact mj_ext_le h6'
                  omega)
                refine ⟨ρ1, F2, fun z => absurd z mj_ft, fun _ => sn', fun x4 n4 d => ?_⟩
                have hmd := hmf d
                rw [p2] at hmd
                refine u32_4.mpr ?_
                simp only [u32_0, u32_1, u32_2, u32_3, u32_5, u32_6, u32_9, u32_10, u32_11, u32_14, u32_15, u32_18, u32_19, u32_22, u32_25, u32_26, u32_28, u32_31, u32_34, u32_35, u32_36, u32_39, u32_42, u32_44, u32_46, u32_47, u32_50, u32_51, u32_52, u32_54, u32_57, u32_60, u32_61, u32_62, u32_65, u32_68, u32_69, u32_70, u32_71, u32_73, u32_76, u32_77, u32_80, u32_81, u32_84, u32_86, u32_89, u32_90, u32_91, u32_94, u32_98, u32_101, u32_102, u32_105, u32_106, u32_109, u32_110, u32_113, u32_116, u32_117, u32_120, u32_121, u32_124, u32_125, u32_128, u32_129, u32_132, u32_133, u32_134, u32_137, u32_140, q2, q3, h5', h4, q, hrd d, x2, hex d, p1, hmd, hr1 d, sn', nb, n4, mj_zT, mj_n10, nI_1, mj_cc_v, mj_cc_n, List.all_cons, List.all_nil, mj_noMk_int, mj_noMk_long, mj_noMk_ref, mj_noMk_junk, List.length_nil, List.length_cons, Nat.zero_le, Nat.reduceLeDiff, Nat.reduceAdd, Bool.and_true, Bool.true_and, Bool.and_self, Nat.reduceBNe, true_or, or_true, true_and, and_true, mj_z0, mj_z1, mj_z01, decide_true, decide_false, Bool.true_and, Bool.false_and, Bool.and_true, Bool.and_false, Bool.true_or, Bool.false_or, Bool.or_false, Bool.or_true, Bool.not_true, Bool.not_false, Bool.and_self, Bool.or_self, if_true, if_false, Bool.true_eq_false, Bool.false_eq_true, not_true, not_false_eq_true]
                have z5 : ¬ (5 : Int32) < 5 := by decide
                refine u32_4.mpr ?_
                by_cases q4 : nI (i + 1) < 5
                · simp only [u32_0, u32_1, u32_2, u32_3, u32_5, u32_6, u32_9, u32_10, u32_11, u32_14, u32_15, u32_18, u32_19, u32_22, u32_25, u32_26, u32_28, u32_31, u32_34, u32_35, u32_36, u32_39, u32_42, u32_44, u32_46, u32_47, u32_50, u32_51, u32_52, u32_54, u32_57, u32_60, u32_61, u32_62, u32_65, u32_68, u32_69, u32_70, u32_71, u32_73, u32_76, u32_77, u32_80, u32_81, u32_84, u32_86, u32_89, u32_90, u32_91, u32_94, u32_98, u32_101, u32_102, u32_105, u32_106, u32_109, u32_110, u32_113, u32_116, u32_117, u32_120, u32_121, u32_124, u32_125, u32_128, u32_129, u32_132, u32_133, u32_134, u32_137, u32_140, q4, z5, mj_cc_v, mj_cc_n, List.all_cons, List.all_nil, mj_noMk_int, mj_noMk_long, mj_noMk_ref, mj_noMk_junk, List.length_nil, List.length_cons, Nat.zero_le, Nat.reduceLeDiff, Nat.reduceAdd, Bool.and_true, Bool.true_and, Bool.and_self, Nat.reduceBNe, true_or, or_true, true_and, and_true, mj_z0, mj_z1, mj_z01, decide_true, decide_false, Bool.true_and, Bool.false_and, Bool.and_true, Bool.and_false, Bool.true_or, Bool.false_or, Bool.or_false, Bool.or_true, Bool.not_true, Bool.not_false, Bool.and_self, Bool.or_self, if_true, if_false, Bool.true_eq_false, Bool.false_eq_true, not_true, not_false_eq_true]
                  refine u32_97.mpr ?_
                  simp only [u32_0, u32_1, u32_2, u32_3, u32_5, u32_6, u32_9, u32_10, u32_11, u32_14, u32_15, u32_18, u32_19, u32_22, u32_25, u32_26, u32_28, u32_31, u32_34, u32_35, u32_36, u32_39, u32_42, u32_44, u32_46, u32_47, u32_50, u32_51, u32_52, u32_54, u32_57, u32_60, u32_61, u32_62, u32_65, u32_68, u32_69, u32_70, u32_71, u32_73, u32_76, u32_77, u32_80, u32_81, u32_84, u32_86, u32_89, u32_90, u32_91, u32_94, u32_98, u32_101, u32_102, u32_105, u32_106, u32_109, u32_110, u32_113, u32_116, u32_117, u32_120, u32_121, u32_124, u32_125, u32_128, u32_129, u32_132, u32_133, u32_134, u32_137, u32_140, sn', nb, mj_cc_v, mj_cc_n, List.all_cons, List.all_nil, mj_noMk_int, mj_noMk_long, mj_noMk_ref, mj_noMk_junk, List.length_nil, List.length_cons, Nat.zero_le, Nat.reduceLeDiff, Nat.reduceAdd, Bool.and_true, Bool.true_and, Bool.and_self, Nat.reduceBNe, true_or, or_true, true_and, and_true, mj_z0, mj_z1, mj_z01, decide_true, decide_false, Bool.true_and, Bool.false_and, Bool.and_true, Bool.and_false, Bool.true_or, Bool.false_or, Bool.or_false, Bool.or_true, Bool.not_true, Bool.not_false, Bool.and_self, Bool.or_self, if_true, if_false, Bool.true_eq_false, Bool.false_eq_true, not_true, not_false_eq_true]
                · simp only [u32_0, u32_1, u32_2, u32_3, u32_5, u32_6, u32_9, u32_10, u32_11, u32_14, u32_15, u32_18, u32_19, u32_22, u32_25, u32_26, u32_28, u32_31, u32_34, u32_35, u32_36, u32_39, u32_42, u32_44, u32_46, u32_47, u32_50, u32_51, u32_52, u32_54, u32_57, u32_60, u32_61, u32_62, u32_65, u32_68, u32_69, u32_70, u32_71, u32_73, u32_76, u32_77, u32_80, u32_81, u32_84, u32_86, u32_89, u32_90, u32_91, u32_94, u32_98, u32_101, u32_102, u32_105, u32_106, u32_109, u32_110, u32_113, u32_116, u32_117, u32_120, u32_121, u32_124, u32_125, u32_128, u32_129, u32_132, u32_133, u32_134, u32_137, u32_140, q4, mj_cc_v, mj_cc_n, List.all_cons, List.all_nil, mj_noMk_int, mj_noMk_long, mj_noMk_ref, mj_noMk_junk, List.length_nil, List.length_cons, Nat.zero_le, Nat.reduceLeDiff, Nat.reduceAdd, Bool.and_true, Bool.true_and, Bool.and_self, Nat.reduceBNe, true_or, or_true, true_and, and_true, mj_z0, mj_z1, mj_z01, decide_true, decide_false, Bool.true_and, Bool.false_and, Bool.and_true, Bool.and_false, Bool.true_or, Bool.false_or, Bool.or_false, Bool.or_true, Bool.not_true, Bool.not_false, Bool.and_self, Bool.or_self, if_true, if_false, Bool.true_eq_false, Bool.false_eq_true, not_true, not_false_eq_true]
                  refine u32_97.mpr ?_
                  simp only [u32_0, u32_1, u32_2, u32_3, u32_5, u32_6, u32_9, u32_10, u32_11, u32_14, u32_15, u32_18, u32_19, u32_22, u32_25, u32_26, u32_28, u32_31, u32_34, u32_35, u32_36, u32_39, u32_42, u32_44, u32_46, u32_47, u32_50, u32_51, u32_52, u32_54, u32_57, u32_60, u32_61, u32_62, u32_65, u32_68, u32_69, u32_70, u32_71, u32_73, u32_76, u32_77, u32_80, u32_81, u32_84, u32_86, u32_89, u32_90, u32_91, u32_94, u32_98, u32_101, u32_102, u32_105, u32_106, u32_109, u32_110, u32_113, u32_116, u32_117, u32_120, u32_121, u32_124, u32_125, u32_128, u32_129, u32_132, u32_133, u32_134, u32_137, u32_140, sn', nb, mj_cc_v, mj_cc_n, List.all_cons, List.all_nil, mj_noMk_int, mj_noMk_long, mj_noMk_ref, mj_noMk_junk, List.length_nil, List.length_cons, Nat.zero_le, Nat.reduceLeDiff, Nat.reduceAdd, Bool.and_true, Bool.true_and, Bool.and_self, Nat.reduceBNe, true_or, or_true, true_and, and_true, mj_z0, mj_z1, mj_z01, decide_true, decide_false, Bool.true_and, Bool.false_and, Bool.and_true, Bool.and_false, Bool.true_or, Bool.false_or, Bool.or_false, Bool.or_true, Bool.not_true, Bool.not_false, Bool.and_self, Bool.or_self, if_true, if_false, Bool.true_eq_false, Bool.false_eq_true, not_true, not_false_eq_true]
              · rw [if_pos g]
                obtain ⟨y1, y2, y3⟩ := sy g
                have hstx := hst1 g
                have g' : (mj_ext (mj_kl σ c) e (mj_wkC σ) a st f).1 = true := by rw [hx]; exact g
                obtain ⟨s1, s2, s3⟩ := mj_ext_ok h5 g'
                obtain ⟨t1, t2⟩ := mj_ext_keep h5 g' hj
                rw [hx] at s1 s2 s3 t1 t2
                obtain ⟨ρ2, F3, r1, r2, hl⟩ := ih x.2.1 x.2.2.1 (i + 1) x.2.2.2 ρ1 (by rw [F2.2.1 14 (by decide)]; exact hN) h9 (mj_kat_Fc F2 (by decide) hat s3 y1) y2 s2 (by omega) (by omega) y3 (by rw [t1]; exact hk) k1 k6 (by rw [t1]; exact t2)
                rw [mj_kl_Fc F2, mj_wkC_Fc F2] at r1 r2
                refine ⟨ρ2, mj_Fc_tr F2 F3, r1, r2, fun x4 n4 d => ?_⟩
                have hmd := hmf d
                rw [p2] at hmd
                have hld := hl (.int xk) rfl d
                rw [← hstx] at hld
                refine u32_4.mpr ?_
                simp only [u32_0, u32_1, u32_2, u32_3, u32_5, u32_6, u32_9, u32_10, u32_11, u32_14, u32_15, u32_18, u32_19, u32_22, u32_25, u32_26, u32_28, u32_31, u32_34, u32_35, u32_36, u32_39, u32_42, u32_44, u32_46, u32_47, u32_50, u32_51, u32_52, u32_54, u32_57, u32_60, u32_61, u32_62, u32_65, u32_68, u32_69, u32_70, u32_71, u32_73, u32_76, u32_77, u32_80, u32_81, u32_84, u32_86, u32_89, u32_90, u32_91, u32_94, u32_98, u32_101, u32_102, u32_105, u32_106, u32_109, u32_110, u32_113, u32_116, u32_117, u32_120, u32_121, u32_124, u32_125, u32_128, u32_129, u32_132, u32_133, u32_134, u32_137, u32_140, q2, q3, h5', h4, q, hrd d, x2, hex d, p1, hmd, hr1 d, y2, n4, mj_zT, mj_n10, nI_1, mj_cc_v, mj_cc_n, List.all_cons, List.all_nil, mj_noMk_int, mj_noMk_long, mj_noMk_ref, mj_noMk_junk, List.length_nil, List.length_cons, Nat.zero_le, Nat.reduceLeDiff, Nat.reduceAdd, Bool.and_true, Bool.true_and, Bool.and_self, Nat.reduceBNe, true_or, or_true, true_and, and_true, mj_z0, mj_z1, mj_z01, decide_true, decide_false, Bool.true_and, Bool.false_and, Bool.and_true, Bool.and_false, Bool.true_or, Bool.false_or, Bool.or_false, Bool.or_true, Bool.not_true, Bool.not_false, Bool.and_self, Bool.or_self, if_true, if_false, Bool.true_eq_false, Bool.false_eq_true, not_true, not_false_eq_true]
                exact hld
          · have hx := hno (Or.inl (Int32.not_lt.mp p1))
            rw [hx, if_neg mj_ft]
            refine ⟨mj_setI (mj_setI σ 44 2 (nI (a + 1))) 44 3 (nI (a + 1)), mj_Fc_set (by decide) F1, fun z => absurd z mj_ft, fun _ => mj_setI_eq, fun x4 n4 d => ?_⟩
            refine u32_4.mpr ?_
            simp only [u32_0, u32_1, u32_2, u32_3, u32_5, u32_6, u32_9, u32_10, u32_11, u32_14, u32_15, u32_18, u32_19, u32_22, u32_25, u32_26, u32_28, u32_31, u32_34, u32_35, u32_36, u32_39, u32_42, u32_44, u32_46, u32_47, u32_50, u32_51, u32_52, u32_54, u32_57, u32_60, u32_61, u32_62, u32_65, u32_68, u32_69, u32_70, u32_71, u32_73, u32_76, u32_77, u32_80, u32_81, u32_84, u32_86, u32_89, u32_90, u32_91, u32_94, u32_98, u32_101, u32_102, u32_105, u32_106, u32_109, u32_110, u32_113, u32_116, u32_117, u32_120, u32_121, u32_124, u32_125, u32_128, u32_129, u32_132, u32_133, u32_134, u32_137, u32_140, q2, q3, h5', h4, q, hrd d, x2, hex d, p1, n4, mj_n10, mj_cc_v, mj_cc_n, List.all_cons, List.all_nil, mj_noMk_int, mj_noMk_long, mj_noMk_ref, mj_noMk_junk, List.length_nil, List.length_cons, Nat.zero_le, Nat.reduceLeDiff, Nat.reduceAdd, Bool.and_true, Bool.true_and, Bool.and_self, Nat.reduceBNe, true_or, or_true, true_and, and_true, mj_z0, mj_z1, mj_z01, decide_true, decide_false, Bool.true_and, Bool.false_and, Bool.and_true, Bool.and_false, Bool.true_or, Bool.false_or, Bool.or_false, Bool.or_true, Bool.not_true, Bool.not_false, Bool.and_self, Bool.or_self, if_true, if_false, Bool.true_eq_false, Bool.false_eq_true, not_true, not_false_eq_true]
        · have et : mj_tk (mj_kl σ c) e [32] a = (false, a) := by
            simp only [mj_tk]
            rw [if_neg c32]
          rw [et] at hrd
          simp only [decide_true, decide_false, Bool.true_and, Bool.false_and, Bool.and_true, Bool.and_false, Bool.true_or, Bool.false_or, Bool.or_false, Bool.or_true, Bool.not_true, Bool.not_false, Bool.and_self, Bool.or_self, if_true, if_false, Bool.true_eq_false, Bool.false_eq_true, not_true, not_false_eq_true, mj_zF] at hrd
          have hx : mj_ext (mj_kl σ c) e (mj_wkC σ) a st f = (false, a, 0, f) := by
            unfold mj_ext
            rw [if_neg c32]
          rw [hx, if_neg mj_ft]
          have y3 : (mj_setI (mj_setI σ 44 2 (nI a)) 44 3 (nI a)).1 44 3 = nI a := mj_setI_eq
          have nb := mj_nIm1 (p := a) (by omega)
          refine ⟨mj_setI (mj_setI σ 44 2 (nI a)) 44 3 (nI a), mj_Fc_set (by decide) (mj_Fc_set (by decide) mj_Fc_rf), fun z => absurd z mj_ft, fun _ => mj_setI_eq, fun x4 n4 d => ?_⟩
          refine u32_4.mpr ?_
          simp only [u32_0, u32_1, u32_2, u32_3, u32_5, u32_6, u32_9, u32_10, u32_11, u32_14, u32_15, u32_18, u32_19, u32_22, u32_25, u32_26, u32_28, u32_31, u32_34, u32_35, u32_36, u32_39, u32_42, u32_44, u32_46, u32_47, u32_50, u32_51, u32_52, u32_54, u32_57, u32_60, u32_61, u32_62, u32_65, u32_68, u32_69, u32_70, u32_71, u32_73, u32_76, u32_77, u32_80, u32_81, u32_84, u32_86, u32_89, u32_90, u32_91, u32_94, u32_98, u32_101, u32_102, u32_105, u32_106, u32_109, u32_110, u32_113, u32_116, u32_117, u32_120, u32_121, u32_124, u32_125, u32_128, u32_129, u32_132, u32_133, u32_134, u32_137, u32_140, q2, q3, h5', h4, q, hrd d, n4, mj_cc_v, mj_cc_n, List.all_cons, List.all_nil, mj_noMk_int, mj_noMk_long, mj_noMk_ref, mj_noMk_junk, List.length_nil, List.length_cons, Nat.zero_le, Nat.reduceLeDiff, Nat.reduceAdd, Bool.and_true, Bool.true_and, Bool.and_self, Nat.reduceBNe, true_or, or_true, true_and, and_true, mj_z0, mj_z1, mj_z01, decide_true, decide_false, Bool.true_and, Bool.false_and, Bool.and_true, Bool.and_false, Bool.true_or, Bool.false_or, Bool.or_false, Bool.or_true, Bool.not_true, Bool.not_false, Bool.and_self, Bool.or_self, if_true, if_false, Bool.true_eq_false, Bool.false_eq_true, not_true, not_false_eq_true]
          refine u32_97.mpr ?_
          simp only [u32_0, u32_1, u32_2, u32_3, u32_5, u32_6, u32_9, u32_10, u32_11, u32_14, u32_15, u32_18, u32_19, u32_22, u32_25, u32_26, u32_28, u32_31, u32_34, u32_35, u32_36, u32_39, u32_42, u32_44, u32_46, u32_47, u32_50, u32_51, u32_52, u32_54, u32_57, u32_60, u32_61, u32_62, u32_65, u32_68, u32_69, u32_70, u32_71, u32_73, u32_76, u32_77, u32_80, u32_81, u32_84, u32_86, u32_89, u32_90, u32_91, u32_94, u32_98, u32_101, u32_102, u32_105, u32_106, u32_109, u32_110, u32_113, u32_116, u32_117, u32_120, u32_121, u32_124, u32_125, u32_128, u32_129, u32_132, u32_133, u32_134, u32_137, u32_140, y3, nb, mj_cc_v, mj_cc_n, List.all_cons, List.all_nil, mj_noMk_int, mj_noMk_long, mj_noMk_ref, mj_noMk_junk, List.length_nil, List.length_cons, Nat.zero_le, Nat.reduceLeDiff, Nat.reduceAdd, Bool.and_true, Bool.true_and, Bool.and_self, Nat.reduceBNe, true_or, or_true, true_and, and_true, mj_z0, mj_z1, mj_z01, decide_true, decide_false, Bool.true_and, Bool.false_and, Bool.and_true, Bool.and_false, Bool.true_or, Bool.false_or, Bool.or_false, Bool.or_true, Bool.not_true, Bool.not_false, Bool.and_self, Bool.or_self, if_true, if_false, Bool.true_eq_false, Bool.false_eq_true, not_true, not_false_eq_true]
      · obtain ⟨ρ, F, a1, a2, hr⟩ := fin (Or.inl c1)
        refine ⟨ρ, F, a1, a2, fun x4 n4 d => ?_⟩
        have hf' := hr (nI st) (nI i) x4 n4 d
        have q : ¬ nI a < nI e := nI_nlt (by omega) (by omega)
        refine u32_4.mpr ?_
        simp only [u32_0, u32_1, u32_2, u32_3, u32_5, u32_6, u32_9, u32_10, u32_11, u32_14, u32_15, u32_18, u32_19, u32_22, u32_25, u32_26, u32_28, u32_31, u32_34, u32_35, u32_36, u32_39, u32_42, u32_44, u32_46, u32_47, u32_50, u32_51, u32_52, u32_54, u32_57, u32_60, u32_61, u32_62, u32_65, u32_68, u32_69, u32_70, u32_71, u32_73, u32_76, u32_77, u32_80, u32_81, u32_84, u32_86, u32_89, u32_90, u32_91, u32_94, u32_98, u32_101, u32_102, u32_105, u32_106, u32_109, u32_110, u32_113, u32_116, u32_117, u32_120, u32_121, u32_124, u32_125, u32_128, u32_129, u32_132, u32_133, u32_134, u32_137, u32_140, q2, q3, h5', h4, q, mj_cc_v, mj_cc_n, List.all_cons, List.all_nil, mj_noMk_int, mj_noMk_long, mj_noMk_ref, mj_noMk_junk, List.length_nil, List.length_cons, Nat.zero_le, Nat.reduceLeDiff, Nat.reduceAdd, Bool.and_true, Bool.true_and, Bool.and_self, Nat.reduceBNe, true_or, or_true, true_and, and_true, mj_z0, mj_z1, mj_z01, decide_true, decide_false, Bool.true_and, Bool.false_and, Bool.and_true, Bool.and_false, Bool.true_or, Bool.false_or, Bool.or_false, Bool.or_true, Bool.not_true, Bool.not_false, Bool.and_self, Bool.or_self, if_true, if_false, Bool.true_eq_false, Bool.false_eq_true, not_true, not_false_eq_true]
        exact hf'
end
