section
variable {X : mj_X} {d : Nat} {σ τ ρ : mj_St}
-- work, debt, mend
def mj_Cwst (σ : mj_St) (set g : Int32) (N w : Nat) : mj_St := mj_setI (mj_setI (mj_psS σ 25 set N) 14 16 (σ.1 14 16 ||| g)) 14 17 (nI (w + 1))
theorem sp_work {N w : Nat} {set : Int32} (hN : σ.1 14 14 = nI N) (h9 : N ≤ 9) (hw : σ.1 14 17 = nI w) (hw12 : w ≤ 12) (hf : ∀ k, k < N → σ.1 20 k = -1 ∨ mj_inb (σ.1 20 k) 3 = true) : mj_ev X (d + 6) 141 [.ref 0, .int set] σ = some (if w < 12 ∧ mj_why σ 25 set (nI w) (σ.1 14 18) (σ.1 14 16) N = 0 then (some (.int (mj_pls σ 25 set (nI w) (σ.1 14 18) (σ.1 14 16) N)), mj_Cwst σ set (mj_pls σ 25 set (nI w) (σ.1 14 18) (σ.1 14 16) N) N w) else (some (.int (-6)), mj_rfC σ (-6))) := by
  have h6 : mj_ev X (d + 5) 3 [.ref 0, .int (-6)] σ = _ := sp_rf6 (d := d + 4)
  refine st141 ?_
  by_cases c1 : w < 12
  · have q : nI w < 12 := nI_lt (b := 12) c1 (by decide)
    have sh25 : mj_shp 25 = (1, 9, []) := by decide +kernel
    have hwn : mj_ev X (d + 5) 130 [.ref 14, .int set, .int (nI w), .int (σ.1 14 18), .ref 25, .int (σ.1 14 16)] σ = _ := sp_whyNot hN h9 sh25 hf (mj_in_nI c1 (by decide))
    have hps : mj_ev X (d + 5) 136 [.ref 14, .int set, .int (nI w), .int (σ.1 14 18), .ref 25, .int (σ.1 14 16)] σ = _ := sp_pass (d := d + 1) hN h9 (Or.inl rfl)
    have e16 : (mj_psS σ 25 set N).1 14 16 = σ.1 14 16 := by rw [mj_psS_o (by decide)]
    generalize mj_pls σ 25 set (nI w) (σ.1 14 18) (σ.1 14 16) N = g at *
    have e17 : (mj_setI (mj_psS σ 25 set N) 14 16 (σ.1 14 16 ||| g)).1 14 17 = nI w := by
      rw [mj_setI_i (by decide), mj_psS_o (by decide)]
      exact hw
    unfold mj_Cwst
    by_cases c2 : mj_why σ 25 set (nI w) (σ.1 14 18) (σ.1 14 16) N = 0
    · rw [if_pos ⟨c1, c2⟩]
      rw [c2] at hwn
      simp only [u141_0, u141_1, u141_4, u141_7, u141_9, u141_12, u141_13, u141_16, u141_17, u141_18, u141_21, u141_24, u141_25, u141_28, u141_31, u141_32, u141_35, u141_38, u141_39, u141_42, u141_45, u141_48, u141_51, u141_52, u141_54, u141_57, u141_58, u141_59, u141_62, u141_63, u141_64, u141_67, u141_70, u141_71, u141_74, u141_77, u141_78, u141_81, u141_84, u141_85, u141_88, u141_91, u141_94, u141_95, u141_96, u141_99, u141_100, u141_103, u141_104, u141_105, u141_108, u141_109, u141_112, u141_113, u141_116, u141_117, u141_118, u141_121, u141_122, hw, q, hwn, hps, e16, e17, nI_1, mj_noMk_ref, mj_cc_v, mj_cc_n, List.all_cons, List.all_nil, mj_noMk_int, mj_noMk_long, mj_noMk_ref, mj_noMk_junk, List.length_nil, List.length_cons, Nat.zero_le, Nat.reduceLeDiff, Nat.reduceAdd, Bool.and_true, Bool.true_and, Bool.and_self, Nat.reduceBNe, true_or, or_true, true_and, and_true, mj_z0, mj_z1, mj_z01, decide_true, decide_false, Bool.true_and, Bool.false_and, Bool.and_true, Bool.and_false, Bool.true_or, Bool.false_or, Bool.or_false, Bool.or_true, Bool.not_true, Bool.not_false, Bool.and_self, Bool.or_self, if_true, if_false, Bool.true_eq_false, Bool.false_eq_true, not_true, not_false_eq_true]
    · rw [if_neg (fun z => c2 z.2)]
      simp only [u141_0, u141_1, u141_4, u141_7, u141_9, u141_12, u141_13, u141_16, u141_17, u141_18, u141_21, u141_24, u141_25, u141_28, u141_31, u141_32, u141_35, u141_38, u141_39, u141_42, u141_45, u141_48, u141_51, u141_52, u141_54, u141_57, u141_58, u141_59, u141_62, u141_63, u141_64, u141_67, u141_70, u141_71, u141_74, u141_77, u141_78, u141_81, u141_84, u141_85, u141_88, u141_91, u141_94, u141_95, u141_96, u141_99, u141_100, u141_103, u141_104, u141_105, u141_108, u141_109, u141_112, u141_113, u141_116, u141_117, u141_118, u141_121, u141_122, hw, q, hwn, eq_false c2, h6, mj_noMk_ref, mj_cc_v, mj_cc_n, List.all_cons, List.all_nil, mj_noMk_int, mj_noMk_long, mj_noMk_ref, mj_noMk_junk, List.length_nil, List.length_cons, Nat.zero_le, Nat.reduceLeDiff, Nat.reduceAdd, Bool.and_true, Bool.true_and, Bool.and_self, Nat.reduceBNe, true_or, or_true, true_and, and_true, mj_z0, mj_z1, mj_z01, decide_true, decide_false, Bool.true_and, Bool.false_and, Bool.and_true, Bool.and_false, Bool.true_or, Bool.false_or, Bool.or_false, Bool.or_true, Bool.not_true, Bool.not_false, Bool.and_self, Bool.or_self, if_true, if_false, Bool.true_eq_false, Bool.false_eq_true, not_true, not_false_eq_true]
  · have q : ¬ nI w < 12 := nI_nlt (b := 12) (by omega) (by omega)
    rw [if_neg (fun z => c1 z.1)]
    simp only [u141_0, u141_1, u141_4, u141_7, u141_9, u141_12, u141_13, u141_16, u141_17, u141_18, u141_21, u141_24, u141_25, u141_28, u141_31, u141_32, u141_35, u141_38, u141_39, u141_42, u141_45, u141_48, u141_51, u141_52, u141_54, u141_57, u141_58, u141_59, u141_62, u141_63, u141_64, u141_67, u141_70, u141_71, u141_74, u141_77, u141_78, u141_81, u141_84, u141_85, u141_88, u141_91, u141_94, u141_95, u141_96, u141_99, u141_100, u141_103, u141_104, u141_105, u141_108, u141_109, u141_112, u141_113, u141_116, u141_117, u141_118, u141_121, u141_122, hw, q, h6, mj_cc_v, mj_cc_n, List.all_cons, List.all_nil, mj_noMk_int, mj_noMk_long, mj_noMk_ref, mj_noMk_junk, List.length_nil, List.length_cons, Nat.zero_le, Nat.reduceLeDiff, Nat.reduceAdd, Bool.and_true, Bool.true_and, Bool.and_self, Nat.reduceBNe, true_or, or_true, true_and, and_true, mj_z0, mj_z1, mj_z01, decide_true, decide_false, Bool.true_and, Bool.false_and, Bool.and_true, Bool.and_false, Bool.true_or, Bool.false_or, Bool.or_false, Bool.or_true, Bool.not_true, Bool.not_false, Bool.and_self, Bool.or_self, if_true, if_false, Bool.true_eq_false, Bool.false_eq_true, not_true, not_false_eq_true]
theorem sp_debt {N : Nat} {w : Int32} (hN : σ.1 14 14 = nI N) (h9 : N ≤ 9) : mj_ev X (d + 2) 142 [.ref 0, .int w] σ = some (if mj_inb w 6 = true then (some (.int (mj_owed σ 23 22 w (mj_b (σ.1 14 16)) N)), σ) else (some (.int (-1)), mj_rfC σ (-1))) := by
  have h1 := sp_rf1 (X := X) (d := d) (σ := σ)
  have hp := sp_isPerson (X := X) (d := d) (x := w) (σ := σ)
  have ho := sp_owedBy (X := X) (d := d) (σ := σ) (m := σ.1 14 16) (p := w) hN h9
  refine st142 ?_
  cases c : mj_inb w 6
  · rw [c] at hp
    simp only [u142_0, u142_1, u142_4, u142_7, u142_8, u142_9, u142_12, u142_13, u142_14, u142_17, u142_18, u142_21, u142_24, u142_25, u142_28, hp, h1, mj_zF, mj_cc_v, mj_cc_n, List.all_cons, List.all_nil, mj_noMk_int, mj_noMk_long, mj_noMk_ref, mj_noMk_junk, List.length_nil, List.length_cons, Nat.zero_le, Nat.reduceLeDiff, Nat.reduceAdd, Bool.and_true, Bool.true_and, Bool.and_self, Nat.reduceBNe, true_or, or_true, true_and, and_true, mj_z0, mj_z1, mj_z01, decide_true, decide_false, Bool.true_and, Bool.false_and, Bool.and_true, Bool.and_false, Bool.true_or, Bool.false_or, Bool.or_false, Bool.or_true, Bool.not_true, Bool.not_false, Bool.and_self, Bool.or_self, if_true, if_false, Bool.true_eq_false, Bool.false_eq_true, not_true, not_false_eq_true]
  · rw [c] at hp
    simp only [u142_0, u142_1, u142_4, u142_7, u142_8, u142_9, u142_12, u142_13, u142_14, u142_17, u142_18, u142_21, u142_24, u142_25, u142_28, hp, ho, mj_zT, mj_n10, mj_cc_v, mj_cc_n, List.all_cons, List.all_nil, mj_noMk_int, mj_noMk_long, mj_noMk_ref, mj_noMk_junk, List.length_nil, List.length_cons, Nat.zero_le, Nat.reduceLeDiff, Nat.reduceAdd, Bool.and_true, Bool.true_and, Bool.and_self, Nat.reduceBNe, true_or, or_true, true_and, and_true, mj_z0, mj_z1, mj_z01, decide_true, decide_false, Bool.true_and, Bool.false_and, Bool.and_true, Bool.and_false, Bool.true_or, Bool.false_or, Bool.or_false, Bool.or_true, Bool.not_true, Bool.not_false, Bool.and_self, Bool.or_self, if_true, if_false, Bool.true_eq_false, Bool.false_eq_true, not_true, not_false_eq_true]
theorem sp_mend {N : Nat} {i how : Int32} (hN : σ.1 14 14 = nI N) (h9 : N ≤ 9) : mj_ev X (d + 2) 143 [.ref 0, .int i, .int how] σ = some (if mj_lt0 i (nI N) = true then (if mj_inb how 3 = true ∧ mj_b (σ.1 14 16) i.toNatClampNeg = true then (some (.int (mj_mnd (σ.1 22 i.toNatClampNeg) how)), mj_setI σ 22 i.toNatClampNeg (mj_mnd (σ.1 22 i.toNatClampNeg) how)) else (some (.int (-6)), mj_rfC σ (-6))) else (some (.int (-1)), mj_rfC σ (-1))) := by
  have h1 := sp_rf1 (X := X) (d := d) (σ := σ)
  have h6 := sp_rf6 (X := X) (d := d) (σ := σ)
  have hhas : mj_ev X (d + 1) 13 [.ref 14, .int i] σ = some (some (.int (mj_z (mj_lt0 i (nI N)))), σ) := by
    rw [← hN]
    exact sp_has
  have e3 := mj_rng (x := how) (n := 3) (k := 3) rfl
  have g3 : (2 < how) = ¬ (how < 3) := mj_gt_of (n := 2) (by decide) (by decide)
  refine st143 ?_
  rcases (Bool.eq_false_or_eq_true (mj_lt0 i (nI N))).symm with c | c
  · rw [c] at hhas
    simp only [u143_0, u143_1, u143_4, u143_5, u143_8, u143_11, u143_12, u143_13, u143_16, u143_17, u143_18, u143_21, u143_22, u143_23, u143_26, u143_27, u143_30, u143_31, u143_34, u143_37, u143_38, u143_40, u143_43, u143_44, u143_45, u143_48, u143_51, u143_52, u143_53, u143_54, u143_55, u143_58, u143_59, u143_60, u143_61, u143_64, u143_65, u143_66, u143_69, u143_70, u143_71, u143_72, u143_74, u143_77, u143_80, u143_81, u143_83, u143_84, u143_87, u143_90, u143_91, u143_93, u143_94, u143_96, h1, hhas, c, mj_zF, mj_cc_v, mj_cc_n, List.all_cons, List.all_nil, mj_noMk_int, mj_noMk_long, mj_noMk_ref, mj_noMk_junk, List.length_nil, List.length_cons, Nat.zero_le, Nat.reduceLeDiff, Nat.reduceAdd, Bool.and_true, Bool.true_and, Bool.and_self, Nat.reduceBNe, true_or, or_true, true_and, and_true, mj_z0, mj_z1, mj_z01, decide_true, decide_false, Bool.true_and, Bool.false_and, Bool.and_true, Bool.and_false, Bool.true_or, Bool.false_or, Bool.or_false, Bool.or_true, Bool.not_true, Bool.not_false, Bool.and_self, Bool.or_self, if_true, if_false, Bool.true_eq_false, Bool.false_eq_true, not_true, not_false_eq_true]
  · rw [c] at hhas
    have hi := mj_lt0_inb c h9 (by decide)
    obtain ⟨i', hi9, ei⟩ := mj_nI_of hi (by decide)
    have hil : mj_ev X (d + 1) 107 [.ref 14, .int i] σ = some (some (.int (mj_z (mj_b (σ.1 14 16) i.toNatClampNeg))), σ) := by
      rw [ei, nI_clamp (by omega)]
      exact sp_isLost hi9
    rw [if_pos c]
    rcases (Bool.eq_false_or_eq_true (mj_inb how 3)).symm with c2 | c2
    · rw [if_neg (fun z => by rw [c2] at z; exact absurd z.1 mj_ft)]
      rw [c2] at e3
      by_cases k0 : how < 0
      · simp only [u143_0, u143_1, u143_4, u143_5, u143_8, u143_11, u143_12, u143_13, u143_16, u143_17, u143_18, u143_21, u143_22, u143_23, u143_26, u143_27, u143_30, u143_31, u143_34, u143_37, u143_38, u143_40, u143_43, u143_44, u143_45, u143_48, u143_51, u143_52, u143_53, u143_54, u143_55, u143_58, u143_59, u143_60, u143_61, u143_64, u143_65, u143_66, u143_69, u143_70, u143_71, u143_72, u143_74, u143_77, u143_80, u143_81, u143_83, u143_84, u143_87, u143_90, u143_91, u143_93, u143_94, u143_96, h6, hhas, k0, mj_zT, mj_n10, mj_cc_v, mj_cc_n, List.all_cons, List.all_nil, mj_noMk_int, mj_noMk_long, mj_noMk_ref, mj_noMk_junk, List.length_nil, List.length_cons, Nat.zero_le, Nat.reduceLeDiff, Nat.reduceAdd, Bool.and_true, Bool.true_and, Bool.and_self, Nat.reduceBNe, true_or, or_true, true_and, and_true, mj_z0, mj_z1, mj_z01, decide_true, decide_false, Bool.true_and, Bool.false_and, Bool.and_true, Bool.and_false, Bool.true_or, Bool.false_or, Bool.or_false, Bool.or_true, Bool.not_true, Bool.not_false, Bool.and_self, Bool.or_self, if_true, if_false, Bool.true_eq_false, Bool.false_eq_true, not_true, not_false_eq_true]
      · have k7 : ¬ how < 3 := by
          intro z
          rw [decide_eq_false k0, decide_eq_true z] at e3
          exact absurd e3 (by decide)
        simp only [u143_0, u143_1, u143_4, u143_5, u143_8, u143_11, u143_12, u143_13, u143_16, u143_17, u143_18, u143_21, u143_22, u143_23, u143_26, u143_27, u143_30, u143_31, u143_34, u143_37, u143_38, u143_40, u143_43, u143_44, u143_45, u143_48, u143_51, u143_52, u143_53, u143_54, u143_55, u143_58, u143_59, u143_60, u143_61, u143_64, u143_65, u143_66, u143_69, u143_70, u143_71, u143_72, u143_74, u143_77, u143_80, u143_81, u143_83, u143_84, u143_87, u143_90, u143_91, u143_93, u143_94, u143_96, h6, hhas, k0, g3, k7, mj_zT, mj_n10, mj_cc_v, mj_cc_n, List.all_cons, List.all_nil, mj_noMk_int, mj_noMk_long, mj_noMk_ref, mj_noMk_junk, List.length_nil, List.length_cons, Nat.zero_le, Nat.reduceLeDiff, Nat.reduceAdd, Bool.and_true, Bool.true_and, Bool.and_self, Nat.reduceBNe, true_or, or_true, true_and, and_true, mj_z0, mj_z1, mj_z01, decide_true, decide_false, Bool.true_and, Bool.false_and, Bool.and_true, Bool.and_false, Bool.true_or, Bool.false_or, Bool.or_false, Bool.or_true, Bool.not_true, Bool.not_false, Bool.and_self, Bool.or_self, if_true, if_false, Bool.true_eq_false, Bool.false_eq_true, not_true, not_false_eq_true]
    · obtain ⟨k0, k3⟩ := mj_inb_split (n := 3) rfl c2
      rcases (Bool.eq_false_or_eq_true (mj_b (σ.1 14 16) i.toNatClampNeg)).symm with c3 | c3
      · rw [c3] at hil
        rw [if_neg (fun z => by rw [c3] at z; exact absurd z.2 mj_ft)]
        simp only [u143_0, u143_1, u143_4, u143_5, u143_8, u143_11, u143_12, u143_13, u143_16, u143_17, u143_18, u143_21, u143_22, u143_23, u143_26, u143_27, u143_30, u143_31, u143_34, u143_37, u143_38, u143_40, u143_43, u143_44, u143_45, u143_48, u143_51, u143_52, u143_53, u143_54, u143_55, u143_58, u143_59, u143_60, u143_61, u143_64, u143_65, u143_66, u143_69, u143_70, u143_71, u143_72, u143_74, u143_77, u143_80, u143_81, u143_83, u143_84, u143_87, u143_90, u143_91, u143_93, u143_94, u143_96, h6, hhas, hil, k0, g3, k3, mj_zT, mj_zF, mj_n10, mj_cc_v, mj_cc_n, List.all_cons, List.all_nil, mj_noMk_int, mj_noMk_long, mj_noMk_ref, mj_noMk_junk, List.length_nil, List.length_cons, Nat.zero_le, Nat.reduceLeDiff, Nat.reduceAdd, Bool.and_true, Bool.true_and, Bool.and_self, Nat.reduceBNe, true_or, or_true, true_and, and_true, mj_z0, mj_z1, mj_z01, decide_true, decide_false, Bool.true_and, Bool.false_and, Bool.and_true, Bool.and_false, Bool.true_or, Bool.false_or, Bool.or_false, Bool.or_true, Bool.not_true, Bool.not_false, Bool.and_self, Bool.or_self, if_true, if_false, Bool.true_eq_false, Bool.false_eq_true, not_true, not_false_eq_true]
      · rw [c3] at hil
        rw [if_pos ⟨c2, c3⟩]
        obtain ⟨j, hj, ek⟩ := mj_nI_of c2 (by decide)
        have : j = 0 ∨ j = 1 ∨ j = 2 := by omega
        have n20 : ¬ (2 : Int32) = 0 := by decide
        have n21 : ¬ (2 : Int32) = 1 := by decide
        have emul : σ.1 22 i.toNatClampNeg * 2 = 2 * σ.1 22 i.toNatClampNeg := Int32.mul_comm _ _
        unfold mj_mnd
        rcases this with q | q | q
        · subst q
          have e : how = 0 := ek
          subst e
          simp only [u143_0, u143_1, u143_4, u143_5, u143_8, u143_11, u143_12, u143_13, u143_16, u143_17, u143_18, u143_21, u143_22, u143_23, u143_26, u143_27, u143_30, u143_31, u143_34, u143_37, u143_38, u143_40, u143_43, u143_44, u143_45, u143_48, u143_51, u143_52, u143_53, u143_54, u143_55, u143_58, u143_59, u143_60, u143_61, u143_64, u143_65, u143_66, u143_69, u143_70, u143_71, u143_72, u143_74, u143_77, u143_80, u143_81, u143_83, u143_84, u143_87, u143_90, u143_91, u143_93, u143_94, u143_96, hhas, hil, k0, g3, k3, hi, mj_zT, mj_n10, n20, mj_cc_v, mj_cc_n, List.all_cons, List.all_nil, mj_noMk_int, mj_noMk_long, mj_noMk_ref, mj_noMk_junk, List.length_nil, List.length_cons, Nat.zero_le, Nat.reduceLeDiff, Nat.reduceAdd, Bool.and_true, Bool.true_and, Bool.and_self, Nat.reduceBNe, true_or, or_true, true_and, and_true, mj_z0, mj_z1, mj_z01, decide_true, decide_false, Bool.true_and, Bool.false_and, Bool.and_true, Bool.and_false, Bool.true_or, Bool.false_or, Bool.or_false, Bool.or_true, Bool.not_true, Bool.not_false, Bool.and_self, Bool.or_self, if_true, if_false, Bool.true_eq_false, Bool.false_eq_true, not_true, not_false_eq_true]
        · subst q
          have e : how = 1 := ek
          subst e
          simp only [u143_0, u143_1, u143_4, u143_5, u143_8, u143_11, u143_12, u143_13, u143_16, u143_17, u143_18, u143_21, u143_22, u143_23, u143_26, u143_27, u143_30, u143_31, u143_34, u143_37, u143_38, u143_40, u143_43, u143_44, u143_45, u143_48, u143_51, u143_52, u143_53, u143_54, u143_55, u143_58, u143_59, u143_60, u143_61, u143_64, u143_65, u143_66, u143_69, u143_70, u143_71, u143_72, u143_74, u143_77, u143_80, u143_81, u143_83, u143_84, u143_87, u143_90, u143_91, u143_93, u143_94, u143_96, hhas, hil, k0, g3, k3, hi, mj_zT, mj_n10, emul, mj_cc_v, mj_cc_n, List.all_cons, List.all_nil, mj_noMk_int, mj_noMk_long, mj_noMk_ref, mj_noMk_junk, List.length_nil, List.length_cons, Nat.zero_le, Nat.reduceLeDiff, Nat.reduceAdd, Bool.and_true, Bool.true_and, Bool.and_self, Nat.reduceBNe, true_or, or_true, true_and, and_true, mj_z0, mj_z1, mj_z01, decide_true, decide_false, Bool.true_and, Bool.false_and, Bool.and_true, Bool.and_false, Bool.true_or, Bool.false_or, Bool.or_false, Bool.or_true, Bool.not_true, Bool.not_false, Bool.and_self, Bool.or_self, if_true, if_false, Bool.true_eq_false, Bool.false_eq_true, not_true, not_false_eq_true]
        · subst q
          have e : how = 2 := ek
          subst e
          simp only [u143_0, u143_1, u143_4, u143_5, u143_8, u143_11, u143_12, u143_13, u143_16, u143_17, u143_18, u143_21, u143_22, u143_23, u143_26, u143_27, u143_30, u143_31, u143_34, u143_37, u143_38, u143_40, u143_43, u143_44, u143_45, u143_48, u143_51, u143_52, u143_53, u143_54, u143_55, u143_58, u143_59, u143_60, u143_61, u143_64, u143_65, u143_66, u143_69, u143_70, u143_71, u143_72, u143_74, u143_77, u143_80, u143_81, u143_83, u143_84, u143_87, u143_90, u143_91, u143_93, u143_94, u143_96, hhas, hil, k0, g3, k3, hi, mj_zT, mj_n10, n20, n21, mj_cc_v, mj_cc_n, List.all_cons, List.all_nil, mj_noMk_int, mj_noMk_long, mj_noMk_ref, mj_noMk_junk, List.length_nil, List.length_cons, Nat.zero_le, Nat.reduceLeDiff, Nat.reduceAdd, Bool.and_true, Bool.true_and, Bool.and_self, Nat.reduceBNe, true_or, or_true, true_and, and_true, mj_z0, mj_z1, mj_z01, decide_true, decide_false, Bool.true_and, Bool.false_and, Bool.and_true, Bool.and_false, Bool.true_or, Bool.false_or, Bool.or_false, Bool.or_true, Bool.not_true, Bool.not_false, Bool.and_self, Bool.or_self, if_true, if_false, Bool.true_eq_false, Bool.false_eq_true, not_true, not_false_eq_true]
-- acts
/-- the class after so many bodies have run -/
def mj_trC (σ : mj_St) (bs : List Int32) : mj_St := (fun c i => if c = 13 ∧ i < bs.length then bs.getD i 0 else if c = 0 ∧ i = 13 then nI bs.length else σ.1 c i, σ.2)
theorem mj_trC_o {bs : List Int32} {c : Nat} (h1 : c ≠ 13) (h2 : c ≠ 0) : (mj_trC σ bs).1 c = σ.1 c := by
  funext i
  show (if c = 13 ∧ i < bs.length then bs.getD i 0 else if c = 0 ∧ i = 13 then nI bs.length else σ.1 c i) = σ.1 c i
  rw [if_neg (fun z => h1 z.1), if_neg (fun z => h2 z.1)]
theorem mj_trC_13 {bs : List Int32} : (mj_trC σ bs).1 0 13 = nI bs.length := rfl
theorem mj_trC_i {bs : List Int32} {i : Nat} (h : i ≠ 13) : (mj_trC σ bs).1 0 i = σ.1 0 i := by
  show (if 0 = 13 ∧ i < bs.length then bs.getD i 0 else if 0 = 0 ∧ i = 13 then nI bs.length else σ.1 0 i) = σ.1 0 i
  rw [if_neg (fun z => absurd z.1 (by decide)), if_neg (fun z => h z.2)]
theorem mj_trC_0 : mj_setI σ 0 13 0 = mj_trC σ [] := by
  unfold mj_setI mj_trC
  refine Prod.ext ?_ rfl
  funext c i
  show (if c = 0 ∧ i = 13 then 0 else σ.1 c i) = (if c = 13 ∧ i < 0 then (0 : Int32) else if c = 0 ∧ i = 13 then nI 0 else σ.1 c i)
  rw [if_neg (show ¬ (c = 13 ∧ i < 0) by omega)]
  rfl
theorem mj_trC_s {bs : List Int32} {b : Int32} : mj_setI (mj_setI (mj_trC σ bs) 13 bs.length b) 0 13 (nI (bs.length + 1)) = mj_trC σ (bs ++ [b]) := by
  unfold mj_setI mj_trC
  refine Prod.ext ?_ rfl
  funext c i
  have hl : (bs ++ [b]).length = bs.length + 1 := by rw [List.length_append]; rfl
  show (if c = 0 ∧ i = 13 then nI (bs.length + 1) else if c = 13 ∧ i = bs.length then b else if c = 13 ∧ i < bs.length then bs.getD i 0 else if c = 0 ∧ i = 13 then nI bs.length else σ.1 c i) = (if c = 13 ∧ i < (bs ++ [b]).length then (bs ++ [b]).getD i 0 else if c = 0 ∧ i = 13 then nI (bs ++ [b]).length else σ.1 c i)
  rw [hl]
  by_cases c1 : c = 0 ∧ i = 13
  · rw [if_pos c1, if_neg (show ¬ (c = 13 ∧ i < bs.length + 1) by omega), if_pos c1]
  · rw [if_neg c1]
    by_cases c2 : c = 13
    · by_cases c3 : i = bs.length
      · rw [if_pos ⟨c2, c3⟩, if_pos ⟨c2, by omega⟩, c3]
        simp
      · rw [if_neg (fun z => c3 z.2)]
        by_cases c4 : i < bs.length
        · rw [if_pos ⟨c2, c4⟩, if_pos ⟨c2, by omega⟩]
          simp [List.getD_eq_getElem?_getD, List.getElem?_append_left c4]
        · rw [if_neg (fun z => c4 z.2), if_neg c1, if_neg (show ¬ (c = 13 ∧ i < bs.length + 1) by omega), if_neg c1]
    · rw [if_neg (fun z => c2 z.1), if_neg (fun z => c2 z.1), if_neg c1, if_neg (fun z => c2 z.1), if_neg c1]
def mj_ownb (k a : Int32) : Int32 := if k = 0 then 10 + a else if k = 1 then (if a = 0 then 20 else -1) else if k = 2 then (if a = 1 then 30 else -1) else if k = 3 then (if a = 2 then 40 else -1) else if k = 4 then (if a = 0 then 50 else -1) else if k = 5 then (if a = 2 then 60 else -1) else if k = 6 then (if a = 1 then 70 else -1) else -1
theorem sp_ownBody {k a : Nat} (hk : k < 7) (ha : a < 3) : mj_ev X (d + 1) 147 [.int (nI k), .int (nI a)] σ = some (some (.int (mj_ownb (nI k) (nI a))), σ) := by
  have h1 : k = 0 ∨ k = 1 ∨ k = 2 ∨ k = 3 ∨ k = 4 ∨ k = 5 ∨ k = 6 := by omega
  have h2 : a = 0 ∨ a = 1 ∨ a = 2 := by omega
  refine st147 ?_
  unfold mj_ownb
  rcases h1 with q | q | q | q | q | q | q <;> subst q <;> rcases h2 with p | p | p <;> subst p <;> simp (config := {decide := true}) only [u147_0, u147_1, u147_44, u147_46, u147_47, u147_48, u147_49, u147_50, u147_53, u147_55, u147_58, u147_59, u147_60, u147_61, u147_62, u147_65, u147_67, u147_70, u147_71, u147_72, u147_73, u147_74, u147_77, u147_79, u147_82, u147_83, u147_84, u147_85, u147_88, u147_90, u147_93, u147_94, u147_95, u147_96, u147_97, u147_100, u147_102, u147_105, u147_106, u147_107, u147_108, u147_109, u147_112, u147_114, u147_117, u147_118, u147_119, u147_120, mj_cc_v, mj_cc_n, List.all_cons, List.all_nil, mj_noMk_int, mj_noMk_long, mj_noMk_ref, mj_noMk_junk, List.length_nil, List.length_cons, Nat.zero_le, Nat.reduceLeDiff, Nat.reduceAdd, Bool.and_true, Bool.true_and, Bool.and_self, Nat.reduceBNe, true_or, or_true, true_and, and_true, mj_z0, mj_z1, mj_z01, decide_true, decide_false, Bool.true_and, Bool.false_and, Bool.and_true, Bool.and_false, Bool.true_or, Bool.false_or, Bool.or_false, Bool.or_true, Bool.not_true, Bool.not_false, Bool.and_self, Bool.or_self, if_true, if_false, Bool.true_eq_false, Bool.false_eq_true, not_true, not_false_eq_true]
/-- the body that a kind has for an act -/
def mj_bdf (k a : Nat) : Int32 := if a = 0 then (if k = 4 then 50 else if 1 ≤ k ∧ k < 5 then 20 else 10) else if a = 1 then (if k = 2 then 30 else if k = 6 then 70 else 11) else (if k = 3 then 40 else if k = 5 then 60 else 12)
theorem sp_bodyFrom {k a : Nat} (hk : k < 7) (ha : a < 3) : mj_ev X (d + 2) 146 [.int (nI k), .int (nI a)] σ = some (some (.int (mj_bdf k a)), σ) := by
  have ka : ∀ k : Int32, mj_ev X (d + 1) 17 [.int k] σ = some (some (.int (mj_kab k)), σ) := fun k => sp_kindAbove
  have ob : ∀ k a : Nat, k < 7 → a < 3 → mj_ev X (d + 1) 147 [.int (nI k), .int (nI a)] σ = some (some (.int (mj_ownb (nI k) (nI a))), σ) := fun k a hk ha => sp_ownBody hk ha
  have k0 : mj_ev X (d + 1) 17 [.int 0] σ = some (some (.int (-1)), σ) := ka 0
  have o0_0 : mj_ev X (d + 1) 147 [.int 0, .int 0] σ = some (some (.int 10), σ) := ob 0 0 (by decide) (by decide)
  have o0_1 : mj_ev X (d + 1) 147 [.int 0, .int 1] σ = some (some (.int 11), σ) := ob 0 1 (by decide) (by decide)
  have o0_2 : mj_ev X (d + 1) 147 [.int 0, .int 2] σ = some (some (.int 12), σ) := ob 0 2 (by decide) (by decide)
  have k1 : mj_ev X (d + 1) 17 [.int 1] σ = some (some (.int 0), σ) := ka 1
  have o1_0 : mj_ev X (d + 1) 147 [.int 1, .int 0] σ = some (some (.int 20), σ) := ob 1 0 (by decide) (by decide)
  have o1_1 : mj_ev X (d + 1) 147 [.int 1, .int 1] σ = some (some (.int (-1)), σ) := ob 1 1 (by decide) (by decide)
  have o1_2 : mj_ev X (d + 1) 147 [.int 1, .int 2] σ = some (some (.int (-1)), σ) := ob 1 2 (by decide) (by decide)
  have k2 : mj_ev X (d + 1) 17 [.int 2] σ = some (some (.int 1), σ) := ka 2
  have o2_0 : mj_ev X (d + 1) 147 [.int 2, .int 0] σ = some (some (.int (-1)), σ) := ob 2 0 (by decide) (by decide)
  have o2_1 : mj_ev X (d + 1) 147 [.int 2, .int 1] σ = some (some (.int 30), σ) := ob 2 1 (by decide) (by decide)
  have o2_2 : mj_ev X (d + 1) 147 [.int 2, .int 2] σ = some (some (.int (-1)), σ) := ob 2 2 (by decide) (by decide)
  have k3 : mj_ev X (d + 1) 17 [.int 3] σ = some (some (.int 1), σ) := ka 3
  have o3_0 : mj_ev X (d + 1) 147 [.int 3, .int 0] σ = some (some (.int (-1)), σ) := ob 3 0 (by decide) (by decide)
  have o3_1 : mj_ev X (d + 1) 147 [.int 3, .int 1] σ = some (some (.int (-1)), σ) := ob 3 1 (by decide) (by decide)
  have o3_2 : mj_ev X (d + 1) 147 [.int 3, .int 2] σ = some (some (.int 40), σ) := ob 3 2 (by decide) (by decide)
  have k4 : mj_ev X (d + 1) 17 [.int 4] σ = some (some (.int 1), σ) := ka 4
  have o4_0 : mj_ev X (d + 1) 147 [.int 4, .int 0] σ = some (some (.int 50), σ) := ob 4 0 (by decide) (by decide)
  have o4_1 : mj_ev X (d + 1) 147 [.int 4, .int 1] σ = some (some (.int (-1)), σ) := ob 4 1 (by decide) (by decide)
  have o4_2 : mj_ev X (d + 1) 147 [.int 4, .int 2] σ = some (some (.int (-1)), σ) := ob 4 2 (by decide) (by decide)
  have k5 : mj_ev X (d + 1) 17 [.int 5] σ = some (some (.int 0), σ) := ka 5
  have o5_0 : mj_ev X (d + 1) 147 [.int 5, .int 0] σ = some (some (.int (-1)), σ) := ob 5 0 (by decide) (by decide)
  have o5_1 : mj_ev X (d + 1) 147 [.int 5, .int 1] σ = some (some (.int (-1)), σ) := ob 5 1 (by decide) (by decide)
  have o5_2 : mj_ev X (d + 1) 147 [.int 5, .int 2] σ = some (some (.int 60), σ) := ob 5 2 (by decide) (by decide)
  have k6 : mj_ev X (d + 1) 17 [.int 6] σ = some (some (.int 0), σ) := ka 6
  have o6_0 : mj_ev X (d + 1) 147 [.int 6, .int 0] σ = some (some (.int (-1)), σ) := ob 6 0 (by decide) (by decide)
  have o6_1 : mj_ev X (d + 1) 147 [.int 6, .int 1] σ = some (some (.int 70), σ) := ob 6 1 (by decide) (by decide)
  have o6_2 : mj_ev X (d + 1) 147 [.int 6, .int 2] σ = some (some (.int (-1)), σ) := ob 6 2 (by decide) (by decide)
  have h1 : k = 0 ∨ k = 1 ∨ k = 2 ∨ k = 3 ∨ k = 4 ∨ k = 5 ∨ k = 6 := by omega
  have h2 : a = 0 ∨ a = 1 ∨ a = 2 := by omega
  refine st146 ?_
  unfold mj_bdf
  rcases h1 with q | q | q | q | q | q | q <;> subst q <;> rcases h2 with p | p | p <;> subst p
  · have en : nI 0 = 0 := rfl
    have ea : nI 0 = 0 := rfl
    rw [en]
    simp (config := {decide := true}) only [u146_0, u146_1, u146_2, u146_3, u146_4, u146_5, u146_6, u146_9, u146_10, u146_13, u146_14, u146_15, u146_18, u146_19, u146_22, u146_23, u146_26, u146_27, u146_30, u146_33, u146_34, u146_35, u146_38, k0, k1, k2, k3, k4, k5, k6, o0_0, o1_0, o2_0, o3_0, o4_0, o5_0, o6_0, mj_cc_v, mj_cc_n, List.all_cons, List.all_nil, mj_noMk_int, mj_noMk_long, mj_noMk_ref, mj_noMk_junk, List.length_nil, List.length_cons, Nat.zero_le, Nat.reduceLeDiff, Nat.reduceAdd, Bool.and_true, Bool.true_and, Bool.and_self, Nat.reduceBNe, true_or, or_true, true_and, and_true, mj_z0, mj_z1, mj_z01, decide_true, decide_false, Bool.true_and, Bool.false_and, Bool.and_true, Bool.and_false, Bool.true_or, Bool.false_or, Bool.or_false, Bool.or_true, Bool.not_true, Bool.not_false, Bool.and_self, Bool.or_self, if_true, if_false, Bool.true_eq_false, Bool.false_eq_true, not_true, not_false_eq_true]
  · have en : nI 0 = 0 := rfl
    have ea : nI 1 = 1 := rfl
    rw [en, ea]
    simp (config := {decide := true}) only [u146_0, u146_1, u146_2, u146_3, u146_4, u146_5, u146_6, u146_9, u146_10, u146_13, u146_14, u146_15, u146_18, u146_19, u146_22, u146_23, u146_26, u146_27, u146_30, u146_33, u146_34, u146_35, u146_38, k0, k1, k2, k3, k4, k5, k6, o0_1, o1_1, o2_1, o3_1, o4_1, o5_1, o6_1, mj_cc_v, mj_cc_n, List.all_cons, List.all_nil, mj_noMk_int, mj_noMk_long, mj_noMk_ref, mj_noMk_junk, List.length_nil, List.length_cons, Nat.zero_le, Nat.reduceLeDiff, Nat.reduceAdd, Bool.and_true, Bool.true_and, Bool.and_self, Nat.reduceBNe, true_or, or_true, true_and, and_true, mj_z0, mj_z1, mj_z01, decide_true, decide_false, Bool.true_and, Bool.false_and, Bool.and_true, Bool.and_false, Bool.true_or, Bool.false_or, Bool.or_false, Bool.or_true, Bool.not_true, Bool.not_false, Bool.and_self, Bool.or_self, if_true, if_false, Bool.true_eq_false, Bool.false_eq_true, not_true, not_false_eq_true]
  · have en : nI 0 = 0 := rfl
    have ea : nI 2 = 2 := rfl
    rw [en, ea]
    simp (config := {decide := true}) only [u146_0, u146_1, u146_2, u146_3, u146_4, u146_5, u146_6, u146_9, u146_10, u146_13, u146_14, u146_15, u146_18, u146_19, u146_22, u146_23, u146_26, u146_27, u146_30, u146_33, u146_34, u146_35, u146_38, k0, k1, k2, k3, k4, k5, k6, o0_2, o1_2, o2_2, o3_2, o4_2, o5_2, o6_2, mj_cc_v, mj_cc_n, List.all_cons, List.all_nil, mj_noMk_int, mj_noMk_long, mj_noMk_ref, mj_noMk_junk, List.length_nil, List.length_cons, Nat.zero_le, Nat.reduceLeDiff, Nat.reduceAdd, Bool.and_true, Bool.true_and, Bool.and_self, Nat.reduceBNe, true_or, or_true, true_and, and_true, mj_z0, mj_z1, mj_z01, decide_true, decide_false, Bool.true_and, Bool.false_and, Bool.and_true, Bool.and_false, Bool.true_or, Bool.false_or, Bool.or_false, Bool.or_true, Bool.not_true, Bool.not_false, Bool.and_self, Bool.or_self, if_true, if_false, Bool.true_eq_false, Bool.false_eq_true, not_true, not_false_eq_true]
  · have en : nI 1 = 1 := rfl
    have ea : nI 0 = 0 := rfl
    rw [en, ea]
    simp (config := {decide := true}) only [u146_0, u146_1, u146_2, u146_3, u146_4, u146_5, u146_6, u146_9, u146_10, u146_13, u146_14, u146_15, u146_18, u146_19, u146_22, u146_23, u146_26, u146_27, u146_30, u146_33, u146_34, u146_35, u146_38, k0, k1, k2, k3, k4, k5, k6, o0_0, o1_0, o2_0, o3_0, o4_0, o5_0, o6_0, mj_cc_v, mj_cc_n, List.all_cons, List.all_nil, mj_noMk_int, mj_noMk_long, mj_noMk_ref, mj_noMk_junk, List.length_nil, List.length_cons, Nat.zero_le, Nat.reduceLeDiff, Nat.reduceAdd, Bool.and_true, Bool.true_and, Bool.and_self, Nat.reduceBNe, true_or, or_true, true_and, and_true, mj_z0, mj_z1, mj_z01, decide_true, decide_false, Bool.true_and, Bool.false_and, Bool.and_true, Bool.and_false, Bool.true_or, Bool.false_or, Bool.or_false, Bool.or_true, Bool.not_true, Bool.not_false, Bool.and_self, Bool.or_self, if_true, if_false, Bool.true_eq_false, Bool.false_eq_true, not_true, not_false_eq_true]
  · have en : nI 1 = 1 := rfl
    have ea : nI 1 = 1 := rfl
    rw [en]
    simp (config := {decide := true}) only [u146_0, u146_1, u146_2, u146_3, u146_4, u146_5, u146_6, u146_9, u146_10, u146_13, u146_14, u146_15, u146_18, u146_19, u146_22, u146_23, u146_26, u146_27, u146_30, u146_33, u146_34, u146_35, u146_38, k0, k1, k2, k3, k4, k5, k6, o0_1, o1_1, o2_1, o3_1, o4_1, o5_1, o6_1, mj_cc_v, mj_cc_n, List.all_cons, List.all_nil, mj_noMk_int, mj_noMk_long, mj_noMk_ref, mj_noMk_junk, List.length_nil, List.length_cons, Nat.zero_le, Nat.reduceLeDiff, Nat.reduceAdd, Bool.and_true, Bool.true_and, Bool.and_self, Nat.reduceBNe, true_or, or_true, true_and, and_true, mj_z0, mj_z1, mj_z01, decide_true, decide_false, Bool.true_and, Bool.false_and, Bool.and_true, Bool.and_false, Bool.true_or, Bool.false_or, Bool.or_false, Bool.or_true, Bool.not_true, Bool.not_false, Bool.and_self, Bool.or_self, if_true, if_false, Bool.true_eq_false, Bool.false_eq_true, not_true, not_false_eq_true]
  · have en : nI 1 = 1 := rfl
    have ea : nI 2 = 2 := rfl
    rw [en, ea]
    simp (config := {decide := true}) only [u146_0, u146_1, u146_2, u146_3, u146_4, u146_5, u146_6, u146_9, u146_10, u146_13, u146_14, u146_15, u146_18, u146_19, u146_22, u146_23, u146_26, u146_27, u146_30, u146_33, u146_34, u146_35, u146_38, k0, k1, k2, k3, k4, k5, k6, o0_2, o1_2, o2_2, o3_2, o4_2, o5_2, o6_2, mj_cc_v, mj_cc_n, List.all_cons, List.all_nil, mj_noMk_int, mj_noMk_long, mj_noMk_ref, mj_noMk_junk, List.length_nil, List.length_cons, Nat.zero_le, Nat.reduceLeDiff, Nat.reduceAdd, Bool.and_true, Bool.true_and, Bool.and_self, Nat.reduceBNe, true_or, or_true, true_and, and_true, mj_z0, mj_z1, mj_z01, decide_true, decide_false, Bool.true_and, Bool.false_and, Bool.and_true, Bool.and_false, Bool.true_or, Bool.false_or, Bool.or_false, Bool.or_true, Bool.not_true, Bool.not_false, Bool.and_self, Bool.or_self, if_true, if_false, Bool.true_eq_false, Bool.false_eq_true, not_true, not_false_eq_true]
  · have en : nI 2 = 2 := rfl
    have ea : nI 0 = 0 := rfl
    rw [en, ea]
    simp (config := {decide := true}) only [u146_0, u146_1, u146_2, u146_3, u146_4, u146_5, u146_6, u146_9, u146_10, u146_13, u146_14, u146_15, u146_18, u146_19, u146_22, u146_23, u146_26, u146_27, u146_30, u146_33, u146_34, u146_35, u146_38, k0, k1, k2, k3, k4, k5, k6, o0_0, o1_0, o2_0, o3_0, o4_0, o5_0, o6_0, mj_cc_v, mj_cc_n, List.all_cons, List.all_nil, mj_noMk_int, mj_noMk_long, mj_noMk_ref, mj_noMk_junk, List.length_nil, List.length_cons, Nat.zero_le, Nat.reduceLeDiff, Nat.reduceAdd, Bool.and_true, Bool.true_and, Bool.and_self, Nat.reduceBNe, true_or, or_true, true_and, and_true, mj_z0, mj_z1, mj_z01, decide_true, decide_false, Bool.true_and, Bool.false_and, Bool.and_true, Bool.and_false, Bool.true_or, Bool.false_or, Bool.or_false, Bool.or_true, Bool.not_true, Bool.not_false, Bool.and_self, Bool.or_self, if_true, if_false, Bool.true_eq_false, Bool.false_eq_true, not_true, not_false_eq_true]
  · have en : nI 2 = 2 := rfl
    have ea : nI 1 = 1 := rfl
    rw [en, ea]
    simp (config := {decide := true}) only [u146_0, u146_1, u146_2, u146_3, u146_4, u146_5, u146_6, u146_9, u146_10, u146_13, u146_14, u146_15, u146_18, u146_19, u146_22, u146_23, u146_26, u146_27, u146_30, u146_33, u146_34, u146_35, u146_38, k0, k1, k2, k3, k4, k5, k6, o0_1, o1_1, o2_1, o3_1, o4_1, o5_1, o6_1, mj_cc_v, mj_cc_n, List.all_cons, List.all_nil, mj_noMk_int, mj_noMk_long, mj_noMk_ref, mj_noMk_junk, List.length_nil, List.length_cons, Nat.zero_le, Nat.reduceLeDiff, Nat.reduceAdd, Bool.and_true, Bool.true_and, Bool.and_self, Nat.reduceBNe, true_or, or_true, true_and, and_true, mj_z0, mj_z1, mj_z01, decide_true, decide_false, Bool.true_and, Bool.false_and, Bool.and_true, Bool.and_false, Bool.true_or, Bool.false_or, Bool.or_false, Bool.or_true, Bool.not_true, Bool.not_false, Bool.and_self, Bool.or_self, if_true, if_false, Bool.true_eq_false, Bool.false_eq_true, not_true, not_false_eq_true]
  · have en : nI 2 = 2 := rfl
    have ea : nI 2 = 2 := rfl
    rw [en]
    simp (config := {decide := true}) only [u146_0, u146_1, u146_2, u146_3, u146_4, u146_5, u146_6, u146_9, u146_10, u146_13, u146_14, u146_15, u146_18, u146_19, u146_22, u146_23, u146_26, u146_27, u146_30, u146_33, u146_34, u146_35, u146_38, k0, k1, k2, k3, k4, k5, k6, o0_2, o1_2, o2_2, o3_2, o4_2, o5_2, o6_2, mj_cc_v, mj_cc_n, List.all_cons, List.all_nil, mj_noMk_int, mj_noMk_long, mj_noMk_ref, mj_noMk_junk, List.length_nil, List.length_cons, Nat.zero_le, Nat.reduceLeDiff, Nat.reduceAdd, Bool.and_true, Bool.true_and, Bool.and_self, Nat.reduceBNe, true_or, or_true, true_and, and_true, mj_z0, mj_z1, mj_z01, decide_true, decide_false, Bool.true_and, Bool.false_and, Bool.and_true, Bool.and_false, Bool.true_or, Bool.false_or, Bool.or_false, Bool.or_true, Bool.not_true, Bool.not_false, Bool.and_self, Bool.or_self, if_true, if_false, Bool.true_eq_false, Bool.false_eq_true, not_true, not_false_eq_true]
  · have en : nI 3 = 3 := rfl
    have ea : nI 0 = 0 := rfl
    rw [en, ea]
    simp (config := {decide := true}) only [u146_0, u146_1, u146_2, u146_3, u146_4, u146_5, u146_6, u146_9, u146_10, u146_13, u146_14, u146_15, u146_18, u146_19, u146_22, u146_23, u146_26, u146_27, u146_30, u146_33, u146_34, u146_35, u146_38, k0, k1, k2, k3, k4, k5, k6, o0_0, o1_0, o2_0, o3_0, o4_0, o5_0, o6_0, mj_cc_v, mj_cc_n, List.all_cons, List.all_nil, mj_noMk_int, mj_noMk_long, mj_noMk_ref, mj_noMk_junk, List.length_nil, List.length_cons, Nat.zero_le, Nat.reduceLeDiff, Nat.reduceAdd, Bool.and_true, Bool.true_and, Bool.and_self, Nat.reduceBNe, true_or, or_true, true_and, and_true, mj_z0, mj_z1, mj_z01, decide_true, decide_false, Bool.true_and, Bool.false_and, Bool.and_true, Bool.and_false, Bool.true_or, Bool.false_or, Bool.or_false, Bool.or_true, Bool.not_true, Bool.not_false, Bool.and_self, Bool.or_self, if_true, if_false, Bool.true_eq_false, Bool.false_eq_true, not_true, not_false_eq_true]
  · have en : nI 3 = 3 := rfl
    have ea : nI 1 = 1 := rfl
    rw [en, ea]
    simp (config := {decide := true}) only [u146_0, u146_1, u146_2, u146_3, u146_4, u146_5, u146_6, u146_9, u146_10, u146_13, u146_14, u146_15, u146_18, u146_19, u146_22, u146_23, u146_26, u146_27, u146_30, u146_33, u146_34, u146_35, u146_38, k0, k1, k2, k3, k4, k5, k6, o0_1, o1_1, o2_1, o3_1, o4_1, o5_1, o6_1, mj_cc_v, mj_cc_n, List.all_cons, List.all_nil, mj_noMk_int, mj_noMk_long, mj_noMk_ref, mj_noMk_junk, List.length_nil, List.length_cons, Nat.zero_le, Nat.reduceLeDiff, Nat.reduceAdd, Bool.and_true, Bool.true_and, Bool.and_self, Nat.reduceBNe, true_or, or_true, true_and, and_true, mj_z0, mj_z1, mj_z01, decide_true, decide_false, Bool.true_and, Bool.false_and, Bool.and_true, Bool.and_false, Bool.true_or, Bool.false_or, Bool.or_false, Bool.or_true, Bool.not_true, Bool.not_false, Bool.and_self, Bool.or_self, if_true, if_false, Bool.true_eq_false, Bool.false_eq_true, not_true, not_false_eq_true]
  · have en : nI 3 = 3 := rfl
    have ea : nI 2 = 2 := rfl
    rw [en, ea]
    simp (config := {decide := true}) only [u146_0, u146_1, u146_2, u146_3, u146_4, u146_5, u146_6, u146_9, u146_10, u146_13, u146_14, u146_15, u146_18, u146_19, u146_22, u146_23, u146_26, u146_27, u146_30, u146_33, u146_34, u146_35, u146_38, k0, k1, k2, k3, k4, k5, k6, o0_2, o1_2, o2_2, o3_2, o4_2, o5_2, o6_2, mj_cc_v, mj_cc_n, List.all_cons, List.all_nil, mj_noMk_int, mj_noMk_long, mj_noMk_ref, mj_noMk_junk, List.length_nil, List.length_cons, Nat.zero_le, Nat.reduceLeDiff, Nat.reduceAdd, Bool.and_true, Bool.true_and, Bool.and_self, Nat.reduceBNe, true_or, or_true, true_and, and_true, mj_z0, mj_z1, mj_z01, decide_true, decide_false, Bool.true_and, Bool.false_and, Bool.and_true, Bool.and_false, Bool.true_or, Bool.false_or, Bool.or_false, Bool.or_true, Bool.not_true, Bool.not_false, Bool.and_self, Bool.or_self, if_true, if_false, Bool.true_eq_false, Bool.false_eq_true, not_true, not_false_eq_true]
  · have en : nI 4 = 4 := rfl
    have ea : nI 0 = 0 := rfl
    rw [en, ea]
    simp (config := {decide := true}) only [u146_0, u146_1, u146_2, u146_3, u146_4, u146_5, u146_6, u146_9, u146_10, u146_13, u146_14, u146_15, u146_18, u146_19, u146_22, u146_23, u146_26, u146_27, u146_30, u146_33, u146_34, u146_35, u146_38, k0, k1, k2, k3, k4, k5, k6, o0_0, o1_0, o2_0, o3_0, o4_0, o5_0, o6_0, mj_cc_v, mj_cc_n, List.all_cons, List.all_nil, mj_noMk_int, mj_noMk_long, mj_noMk_ref, mj_noMk_junk, List.length_nil, List.length_cons, Nat.zero_le, Nat.reduceLeDiff, Nat.reduceAdd, Bool.and_true, Bool.true_and, Bool.and_self, Nat.reduceBNe, true_or, or_true, true_and, and_true, mj_z0, mj_z1, mj_z01, decide_true, decide_false, Bool.true_and, Bool.false_and, Bool.and_true, Bool.and_false, Bool.true_or, Bool.false_or, Bool.or_false, Bool.or_true, Bool.not_true, Bool.not_false, Bool.and_self, Bool.or_self, if_true, if_false, Bool.true_eq_false, Bool.false_eq_true, not_true, not_false_eq_true]
  · have en : nI 4 = 4 := rfl
    have ea : nI 1 = 1 := rfl
    rw [en, ea]
    simp (config := {decide := true}) only [u146_0, u146_1, u146_2, u146_3, u146_4, u146_5, u146_6, u146_9, u146_10, u146_13, u146_14, u146_15, u146_18, u146_19, u146_22, u146_23, u146_26, u146_27, u146_30, u146_33, u146_34, u146_35, u146_38, k0, k1, k2, k3, k4, k5, k6, o0_1, o1_1, o2_1, o3_1, o4_1, o5_1, o6_1, mj_cc_v, mj_cc_n, List.all_cons, List.all_nil, mj_noMk_int, mj_noMk_long, mj_noMk_ref, mj_noMk_junk, List.length_nil, List.length_cons, Nat.zero_le, Nat.reduceLeDiff, Nat.reduceAdd, Bool.and_true, Bool.true_and, Bool.and_self, Nat.reduceBNe, true_or, or_true, true_and, and_true, mj_z0, mj_z1, mj_z01, decide_true, decide_false, Bool.true_and, Bool.false_and, Bool.and_true, Bool.and_false, Bool.true_or, Bool.false_or, Bool.or_false, Bool.or_true, Bool.not_true, Bool.not_false, Bool.and_self, Bool.or_self, if_true, if_false, Bool.true_eq_false, Bool.false_eq_true, not_true, not_false_eq_true]
  · have en : nI 4 = 4 := rfl
    have ea : nI 2 = 2 := rfl
    rw [en, ea]
    simp (config := {decide := true}) only [u146_0, u146_1, u146_2, u146_3, u146_4, u146_5, u146_6, u146_9, u146_10, u146_13, u146_14, u146_15, u146_18, u146_19, u146_22, u146_23, u146_26, u146_27, u146_30, u146_33, u146_34, u146_35, u146_38, k0, k1, k2, k3, k4, k5, k6, o0_2, o1_2, o2_2, o3_2, o4_2, o5_2, o6_2, mj_cc_v, mj_cc_n, List.all_cons, List.all_nil, mj_noMk_int, mj_noMk_long, mj_noMk_ref, mj_noMk_junk, List.length_nil, List.length_cons, Nat.zero_le, Nat.reduceLeDiff, Nat.reduceAdd, Bool.and_true, Bool.true_and, Bool.and_self, Nat.reduceBNe, true_or, or_true, true_and, and_true, mj_z0, mj_z1, mj_z01, decide_true, decide_false, Bool.true_and, Bool.false_and, Bool.and_true, Bool.and_false, Bool.true_or, Bool.false_or, Bool.or_false, Bool.or_true, Bool.not_true, Bool.not_false, Bool.and_self, Bool.or_self, if_true, if_false, Bool.true_eq_false, Bool.false_eq_true, not_true, not_false_eq_true]
  · have en : nI 5 = 5 := rfl
    have ea : nI 0 = 0 := rfl
    rw [en, ea]
    simp (config := {decide := true}) only [u146_0, u146_1, u146_2, u146_3, u146_4, u146_5, u146_6, u146_9, u146_10, u146_13, u146_14, u146_15, u146_18, u146_19, u146_22, u146_23, u146_26, u146_27, u146_30, u146_33, u146_34, u146_35, u146_38, k0, k1, k2, k3, k4, k5, k6, o0_0, o1_0, o2_0, o3_0, o4_0, o5_0, o6_0, mj_cc_v, mj_cc_n, List.all_cons, List.all_nil, mj_noMk_int, mj_noMk_long, mj_noMk_ref, mj_noMk_junk, List.length_nil, List.length_cons, Nat.zero_le, Nat.reduceLeDiff, Nat.reduceAdd, Bool.and_true, Bool.true_and, Bool.and_self, Nat.reduceBNe, true_or, or_true, true_and, and_true, mj_z0, mj_z1, mj_z01, decide_true, decide_false, Bool.true_and, Bool.false_and, Bool.and_true, Bool.and_false, Bool.true_or, Bool.false_or, Bool.or_false, Bool.or_true, Bool.not_true, Bool.not_false, Bool.and_self, Bool.or_self, if_true, if_false, Bool.true_eq_false, Bool.false_eq_true, not_true, not_false_eq_true]
  · have en : nI 5 = 5 := rfl
    have ea : nI 1 = 1 := rfl
    rw [en, ea]
    simp (config := {decide := true}) only [u146_0, u146_1, u146_2, u146_3, u146_4, u146_5, u146_6, u146_9, u146_10, u146_13, u146_14, u146_15, u146_18, u146_19, u146_22, u146_23, u146_26, u146_27, u146_30, u146_33, u146_34, u146_35, u146_38, k0, k1, k2, k3, k4, k5, k6, o0_1, o1_1, o2_1, o3_1, o4_1, o5_1, o6_1, mj_cc_v, mj_cc_n, List.all_cons, List.all_nil, mj_noMk_int, mj_noMk_long, mj_noMk_ref, mj_noMk_junk, List.length_nil, List.length_cons, Nat.zero_le, Nat.reduceLeDiff, Nat.reduceAdd, Bool.and_true, Bool.true_and, Bool.and_self, Nat.reduceBNe, true_or, or_true, true_and, and_true, mj_z0, mj_z1, mj_z01, decide_true, decide_false, Bool.true_and, Bool.false_and, Bool.and_true, Bool.and_false, Bool.true_or, Bool.false_or, Bool.or_false, Bool.or_true, Bool.not_true, Bool.not_false, Bool.and_self, Bool.or_self, if_true, if_false, Bool.true_eq_false, Bool.false_eq_true, not_true, not_false_eq_true]
  · have en : nI 5 = 5 := rfl
    have ea : nI 2 = 2 := rfl
    rw [en, ea]
    simp (config := {decide := true}) only [u146_0, u146_1, u146_2, u146_3, u146_4, u146_5, u146_6, u146_9, u146_10, u146_13, u146_14, u146_15, u146_18, u146_19, u146_22, u146_23, u146_26, u146_27, u146_30, u146_33, u146_34, u146_35, u146_38, k0, k1, k2, k3, k4, k5, k6, o0_2, o1_2, o2_2, o3_2, o4_2, o5_2, o6_2, mj_cc_v, mj_cc_n, List.all_cons, List.all_nil, mj_noMk_int, mj_noMk_long, mj_noMk_ref, mj_noMk_junk, List.length_nil, List.length_cons, Nat.zero_le, Nat.reduceLeDiff, Nat.reduceAdd, Bool.and_true, Bool.true_and, Bool.and_self, Nat.reduceBNe, true_or, or_true, true_and, and_true, mj_z0, mj_z1, mj_z01, decide_true, decide_false, Bool.true_and, Bool.false_and, Bool.and_true, Bool.and_false, Bool.true_or, Bool.false_or, Bool.or_false, Bool.or_true, Bool.not_true, Bool.not_false, Bool.and_self, Bool.or_self, if_true, if_false, Bool.true_eq_false, Bool.false_eq_true, not_true, not_false_eq_true]
  · have en : nI 6 = 6 := rfl
    have ea : nI 0 = 0 := rfl
    rw [en, ea]
    simp (config := {decide := true}) only [u146_0, u146_1, u146_2, u146_3, u146_4, u146_5, u146_6, u146_9, u146_10, u146_13, u146_14, u146_15, u146_18, u146_19, u146_22, u146_23, u146_26, u146_27, u146_30, u146_33, u146_34, u146_35, u146_38, k0, k1, k2, k3, k4, k5, k6, o0_0, o1_0, o2_0, o3_0, o4_0, o5_0, o6_0, mj_cc_v, mj_cc_n, List.all_cons, List.all_nil, mj_noMk_int, mj_noMk_long, mj_noMk_ref, mj_noMk_junk, List.length_nil, List.length_cons, Nat.zero_le, Nat.reduceLeDiff, Nat.reduceAdd, Bool.and_true, Bool.true_and, Bool.and_self, Nat.reduceBNe, true_or, or_true, true_and, and_true, mj_z0, mj_z1, mj_z01, decide_true, decide_false, Bool.true_and, Bool.false_and, Bool.and_true, Bool.and_false, Bool.true_or, Bool.false_or, Bool.or_false, Bool.or_true, Bool.not_true, Bool.not_false, Bool.and_self, Bool.or_self, if_true, if_false, Bool.true_eq_false, Bool.false_eq_true, not_true, not_false_eq_true]
  · have en : nI 6 = 6 := rfl
    have ea : nI 1 = 1 := rfl
    rw [en, ea]
    simp (config := {decide := true}) only [u146_0, u146_1, u146_2, u146_3, u146_4, u146_5, u146_6, u146_9, u146_10, u146_13, u146_14, u146_15, u146_18, u146_19, u146_22, u146_23, u146_26, u146_27, u146_30, u146_33, u146_34, u146_35, u146_38, k0, k1, k2, k3, k4, k5, k6, o0_1, o1_1, o2_1, o3_1, o4_1, o5_1, o6_1, mj_cc_v, mj_cc_n, List.all_cons, List.all_nil, mj_noMk_int, mj_noMk_long, mj_noMk_ref, mj_noMk_junk, List.length_nil, List.length_cons, Nat.zero_le, Nat.reduceLeDiff, Nat.reduceAdd, Bool.and_true, Bool.true_and, Bool.and_self, Nat.reduceBNe, true_or, or_true, true_and, and_true, mj_z0, mj_z1, mj_z01, decide_true, decide_false, Bool.true_and, Bool.false_and, Bool.and_true, Bool.and_false, Bool.true_or, Bool.false_or, Bool.or_false, Bool.or_true, Bool.not_true, Bool.not_false, Bool.and_self, Bool.or_self, if_true, if_false, Bool.true_eq_false, Bool.false_eq_true, not_true, not_false_eq_true]
  · have en : nI 6 = 6 := rfl
    have ea : nI 2 = 2 := rfl
    rw [en, ea]
    simp (config := {decide := true}) only [u146_0, u146_1, u146_2, u146_3, u146_4, u146_5, u146_6, u146_9, u146_10, u146_13, u146_14, u146_15, u146_18, u146_19, u146_22, u146_23, u146_26, u146_27, u146_30, u146_33, u146_34, u146_35, u146_38, k0, k1, k2, k3, k4, k5, k6, o0_2, o1_2, o2_2, o3_2, o4_2, o5_2, o6_2, mj_cc_v, mj_cc_n, List.all_cons, List.all_nil, mj_noMk_int, mj_noMk_long, mj_noMk_ref, mj_noMk_junk, List.length_nil, List.length_cons, Nat.zero_le, Nat.reduceLeDiff, Nat.reduceAdd, Bool.and_true, Bool.true_and, Bool.and_self, Nat.reduceBNe, true_or, or_true, true_and, and_true, mj_z0, mj_z1, mj_z01, decide_true, decide_false, Bool.true_and, Bool.false_and, Bool.and_true, Bool.and_false, Bool.true_or, Bool.false_or, Bool.or_false, Bool.or_true, Bool.not_true, Bool.not_false, Bool.and_self, Bool.or_self, if_true, if_false, Bool.true_eq_false, Bool.false_eq_true, not_true, not_false_eq_true]
/-- a body and what it calls: the number, the bodies -/
theorem sp_body0 {bs : List Int32} {b i x D : Int32} {r : mj_Rs} (hb : bs.length < 20) (hD : ¬ 20 < D) (hi : mj_inb i 9 = true) (hr : mj_Runs X (mj_ev X d) 5 (some .int) prog_1_method_62_code (56, [.ref 0, .int b, .int i, .int x, .int D, .int (σ.1 22 i.toNatClampNeg), .int (D + 1)], [.int b], mj_trC σ (bs ++ [b])) r) : mj_ev X (d + 1) 148 [.ref 0, .int b, .int i, .int x, .int D] (mj_trC σ bs) = some r := by
  have q : nI bs.length < 20 := nI_lt (b := 20) hb (by decide)
  have e : (mj_setI (mj_trC σ bs) 13 bs.length b).1 0 13 = nI bs.length := rfl
  have e22 : (mj_trC σ (bs ++ [b])).1 22 = σ.1 22 := mj_trC_o (by decide) (by decide)
  refine st148 ?_
  simp only [u148_0, u148_2, u148_4, u148_7, u148_8, u148_9, u148_10, u148_13, u148_15, u148_18, u148_19, u148_22, u148_23, u148_26, u148_27, u148_28, u148_29, u148_30, u148_33, u148_34, u148_35, u148_38, u148_39, u148_42, u148_45, u148_46, u148_47, u148_49, u148_51, u148_52, u148_53, u148_55, u148_140, u148_141, u148_142, u148_143, u148_144, u148_145, u148_146, u148_147, u148_148, u148_150, u148_153, u148_154, u148_155, u148_156, u148_157, u148_158, u148_159, u148_160, u148_162, u148_165, u148_166, u148_167, u148_168, u148_169, u148_171, u148_172, u148_174, u148_177, u148_178, u148_179, u148_180, u148_181, u148_182, u148_183, u148_184, u148_186, u148_189, u148_190, u148_191, u148_192, u148_193, u148_194, u148_195, u148_196, u148_197, u148_199, u148_202, u148_204, u148_205, u148_206, u148_207, u148_208, u148_209, u148_210, u148_211, u148_212, u148_213, u148_215, u148_218, u148_219, u148_220, u148_221, u148_222, u148_223, u148_224, u148_226, u148_229, u148_230, u148_231, u148_232, u148_233, u148_234, u148_235, u148_236, u148_238, u148_241, u148_242, u148_243, u148_244, u148_245, u148_247, u148_248, u148_249, u148_250, u148_252, u148_255, u148_256, u148_257, u148_258, u148_259, hD, mj_trC_13, q, e, hi, e22, mj_in_nI hb (by decide), mj_nz9 hb (by decide), nI_1, mj_trC_s, mj_cc_v, mj_cc_n, List.all_cons, List.all_nil, mj_noMk_int, mj_noMk_long, mj_noMk_ref, mj_noMk_junk, List.length_nil, List.length_cons, Nat.zero_le, Nat.reduceLeDiff, Nat.reduceAdd, Bool.and_true, Bool.true_and, Bool.and_self, Nat.reduceBNe, true_or, or_true, true_and, and_true, mj_z0, mj_z1, mj_z01, decide_true, decide_false, Bool.true_and, Bool.false_and, Bool.and_true, Bool.and_false, Bool.true_or, Bool.false_or, Bool.or_false, Bool.or_true, Bool.not_true, Bool.not_false, Bool.and_self, Bool.or_self, if_true, if_false, Bool.true_eq_false, Bool.false_eq_true, not_true, not_false_eq_true]
  exact hr
theorem mj_lenA1 {bs : List Int32} {b : Int32} : (bs ++ [b]).length = bs.length + 1 := by rw [List.length_append]; rfl
theorem mj_nD {n : Nat} (h : n ≤ 20) : ¬ (20 : Int32) < nI n := nI_nlt (a := 20) (by omega) (by omega)
theorem sp_run10 {bs : List Int32} {i x : Int32} {n : Nat} (hi : mj_inb i 9 = true) (hb : bs.length < 20) (hn : n ≤ 20) : mj_ev X (d + 1) 148 [.ref 0, .int 10, .int i, .int x, .int (nI n)] (mj_trC σ bs) = some (some (.int (x + i)), mj_trC σ (bs ++ [10])) := by
  refine sp_body0 hb (mj_nD hn) hi ?_
  simp (config := {decide := true}) only [u148_0, u148_2, u148_4, u148_7, u148_8, u148_9, u148_10, u148_13, u148_15, u148_18, u148_19, u148_22, u148_23, u148_26, u148_27, u148_28, u148_29, u148_30, u148_33, u148_34, u148_35, u148_38, u148_39, u148_42, u148_45, u148_46, u148_47, u148_49, u148_51, u148_52, u148_53, u148_55, u148_56, u148_140, u148_141, u148_142, u148_143, u148_144, u148_145, u148_146, u148_147, u148_148, u148_150, u148_153, u148_154, u148_155, u148_156, u148_157, u148_158, u148_159, u148_160, u148_162, u148_165, u148_166, u148_167, u148_168, u148_169, u148_171, u148_172, u148_174, u148_177, u148_178, u148_179, u148_180, u148_181, u148_182, u148_183, u148_184, u148_186, u148_189, u148_190, u148_191, u148_192, u148_193, u148_194, u148_195, u148_196, u148_197, u148_199, u148_202, u148_204, u148_205, u148_206, u148_207, u148_208, u148_209, u148_210, u148_211, u148_212, u148_213, u148_215, u148_218, u148_219, u148_220, u148_221, u148_222, u148_223, u148_224, u148_226, u148_229, u148_230, u148_231, u148_232, u148_233, u148_234, u148_235, u148_236, u148_238, u148_241, u148_242, u148_243, u148_244, u148_245, u148_247, u148_248, u148_249, u148_250, u148_252, u148_255, u148_256, u148_257, u148_258, u148_259, mj_cc_v, mj_cc_n, List.all_cons, List.all_nil, mj_noMk_int, mj_noMk_long, mj_noMk_ref, mj_noMk_junk, List.length_nil, List.length_cons, Nat.zero_le, Nat.reduceLeDiff, Nat.reduceAdd, Bool.and_true, Bool.true_and, Bool.and_self, Nat.reduceBNe, true_or, or_true, true_and, and_true, mj_z0, mj_z1, mj_z01, decide_true, decide_false, Bool.true_and, Bool.false_and, Bool.and_true, Bool.and_false, Bool.true_or, Bool.false_or, Bool.or_false, Bool.or_true, Bool.not_true, Bool.not_false, Bool.and_self, Bool.or_self, if_true, if_false, Bool.true_eq_false, Bool.false_eq_true, not_true, not_false_eq_true]
theorem sp_callAbove {bs : List Int32} {i x v : Int32} {k a n m : Nat} {cs : List Int32} (hk : k < 7) (ha : a < 3) (hm : mj_kab (nI k) = nI m) (hm7 : m < 7) (hr : mj_ev X (d + 2) 148 [.ref 0, .int (mj_bdf m a), .int i, .int x, .int (nI n)] (mj_trC σ bs) = some (some (.int v), mj_trC σ cs)) : mj_ev X (d + 3) 149 [.ref 0, .int (nI k), .int i, .int (nI a), .int x, .int (nI n)] (mj_trC σ bs) = some (some (.int v), mj_trC σ cs) := by
  have h1 : mj_ev X (d + 2) 17 [.int (nI k)] (mj_trC σ bs) = some (some (.int (nI m)), mj_trC σ bs) := by
    rw [← hm]
    exact sp_kindAbove (d := d + 1)
  have h2 : mj_ev X (d + 2) 146 [.int (nI m), .int (nI a)] (mj_trC σ bs) = _ := sp_bodyFrom hm7 ha
  refine st149 ?_
  simp only [u149_0, u149_1, u149_2, u149_5, u149_6, u149_9, u149_10, u149_12, u149_14, u149_17, h1, h2, hr, mj_cc_v, mj_cc_n, List.all_cons, List.all_nil, mj_noMk_int, mj_noMk_long, mj_noMk_ref, mj_noMk_junk, List.length_nil, List.length_cons, Nat.zero_le, Nat.reduceLeDiff, Nat.reduceAdd, Bool.and_true, Bool.true_and, Bool.and_self, Nat.reduceBNe, true_or, or_true, true_and, and_true, mj_z0, mj_z1, mj_z01, decide_true, decide_false, Bool.true_and, Bool.false_and, Bool.and_true, Bool.and_false, Bool.true_or, Bool.false_or, Bool.or_false, Bool.or_true, Bool.not_true, Bool.not_false, Bool.and_self, Bool.or_self, if_true, if_false, Bool.true_eq_false, Bool.false_eq_true, not_true, not_false_eq_true]
theorem sp_run20 {bs : List Int32} {i x : Int32} {n : Nat} (hi : mj_inb i 9 = true) (hb : bs.length < 19) (hn : n ≤ 19) : mj_ev X (d + 4) 148 [.ref 0, .int 20, .int i, .int x, .int (nI n)] (mj_trC σ bs) = some (some (.int ((x + i) * 3)), mj_trC σ (bs ++ [20, 10])) := by
  have h10 : mj_ev X (d + 2) 148 [.ref 0, .int (mj_bdf 0 0), .int i, .int x, .int (nI (n + 1))] (mj_trC σ (bs ++ [20])) = some (some (.int (x + i)), mj_trC σ (bs ++ [20] ++ [10])) := sp_run10 (d := d + 1) hi (by rw [mj_lenA1]; omega) (by omega)
  have hca := sp_callAbove (k := 1) (a := 0) (m := 0) (by decide) (by decide) (by decide) (by decide) h10
  have e1 : nI 1 = 1 := rfl
  have e0 : nI 0 = 0 := rfl
  rw [e1, e0, List.append_assoc] at hca
  refine sp_body0 (by omega) (mj_nD (by omega)) hi ?_
  simp (config := {decide := true}) only [u148_0, u148_2, u148_4, u148_7, u148_8, u148_9, u148_10, u148_13, u148_15, u148_18, u148_19, u148_22, u148_23, u148_26, u148_27, u148_28, u148_29, u148_30, u148_33, u148_34, u148_35, u148_38, u148_39, u148_42, u148_45, u148_46, u148_47, u148_49, u148_51, u148_52, u148_53, u148_55, u148_56, u148_140, u148_141, u148_142, u148_143, u148_144, u148_145, u148_146, u148_147, u148_148, u148_150, u148_153, u148_154, u148_155, u148_156, u148_157, u148_158, u148_159, u148_160, u148_162, u148_165, u148_166, u148_167, u148_168, u148_169, u148_171, u148_172, u148_174, u148_177, u148_178, u148_179, u148_180, u148_181, u148_182, u148_183, u148_184, u148_186, u148_189, u148_190, u148_191, u148_192, u148_193, u148_194, u148_195, u148_196, u148_197, u148_199, u148_202, u148_204, u148_205, u148_206, u148_207, u148_208, u148_209, u148_210, u148_211, u148_212, u148_213, u148_215, u148_218, u148_219, u148_220, u148_221, u148_222, u148_223, u148_224, u148_226, u148_229, u148_230, u148_231, u148_232, u148_233, u148_234, u148_235, u148_236, u148_238, u148_241, u148_242, u148_243, u148_244, u148_245, u148_247, u148_248, u148_249, u148_250, u148_252, u148_255, u148_256, u148_257, u148_258, u148_259, nI_1, hca, mj_cc_v, mj_cc_n, List.all_cons, List.all_nil, mj_noMk_int, mj_noMk_long, mj_noMk_ref, mj_noMk_junk, List.length_nil, List.length_cons, Nat.zero_le, Nat.reduceLeDiff, Nat.reduceAdd, Bool.and_true, Bool.true_and, Bool.and_self, Nat.reduceBNe, true_or, or_true, true_and, and_true, mj_z0, mj_z1, mj_z01, decide_true, decide_false, Bool.true_and, Bool.false_and, Bool.and_true, Bool.and_false, Bool.true_or, Bool.false_or, Bool.or_false, Bool.or_true, Bool.not_true, Bool.not_false, Bool.and_self, Bool.or_self, if_true, if_false, Bool.true_eq_false, Bool.false_eq_true, not_true, not_false_eq_true]
  rfl
theorem sp_run50 {bs : List Int32} {i x : Int32} {n : Nat} (hi : mj_inb i 9 = true) (hb : bs.length < 18) (hn : n ≤ 18) : mj_ev X (d + 6) 148 [.ref 0, .int 50, .int i, .int x, .int (nI n)] (mj_trC σ bs) = some (some (.int (-((x + i) * 3))), mj_trC σ (bs ++ [50, 20, 10])) := by
  have h20 : mj_ev X (d + 4) 148 [.ref 0, .int (mj_bdf 1 0), .int i, .int x, .int (nI (n + 1))] (mj_trC σ (bs ++ [50])) = some (some (.int ((x + i) * 3)), mj_trC σ (bs ++ [50] ++ [20, 10])) := sp_run20 hi (by rw [mj_lenA1]; omega) (by omega)
  have hca := sp_callAbove (k := 4) (a := 0) (m := 1) (by decide) (by decide) (by decide) (by decide) h20
  have e1 : nI 4 = 4 := rfl
  have e0 : nI 0 = 0 := rfl
  rw [e1, e0, List.append_assoc] at hca
  refine sp_body0 (by omega) (mj_nD (by omega)) hi ?_
  simp (config := {decide := true}) only [u148_0, u148_2, u148_4, u148_7, u148_8, u148_9, u148_10, u148_13, u148_15, u148_18, u148_19, u148_22, u148_23, u148_26, u148_27, u148_28, u148_29, u148_30, u148_33, u148_34, u148_35, u148_38, u148_39, u148_42, u148_45, u148_46, u148_47, u148_49, u148_51, u148_52, u148_53, u148_55, u148_56, u148_140, u148_141, u148_142, u148_143, u148_144, u148_145, u148_146, u148_147, u148_148, u148_150, u148_153, u148_154, u148_155, u148_156, u148_157, u148_158, u148_159, u148_160, u148_162, u148_165, u148_166, u148_167, u148_168, u148_169, u148_171, u148_172, u148_174, u148_177, u148_178, u148_179, u148_180, u148_181, u148_182, u148_183, u148_184, u148_186, u148_189, u148_190, u148_191, u148_192, u148_193, u148_194, u148_195, u148_196, u148_197, u148_199, u148_202, u148_204, u148_205, u148_206, u148_207, u148_208, u148_209, u148_210, u148_211, u148_212, u148_213, u148_215, u148_218, u148_219, u148_220, u148_221, u148_222, u148_223, u148_224, u148_226, u148_229, u148_230, u148_231, u148_232, u148_233, u148_234, u148_235, u148_236, u148_238, u148_241, u148_242, u148_243, u148_244, u148_245, u148_247, u148_248, u148_249, u148_250, u148_252, u148_255, u148_256, u148_257, u148_258, u148_259, nI_1, hca, mj_cc_v, mj_cc_n, List.all_cons, List.all_nil, mj_noMk_int, mj_noMk_long, mj_noMk_ref, mj_noMk_junk, List.length_nil, List.length_cons, Nat.zero_le, Nat.reduceLeDiff, Nat.reduceAdd, Bool.and_true, Bool.true_and, Bool.and_self, Nat.reduceBNe, true_or, or_true, true_and, and_true, mj_z0, mj_z1, mj_z01, decide_true, decide_false, Bool.true_and, Bool.false_and, Bool.and_true, Bool.and_false, Bool.true_or, Bool.false_or, Bool.or_false, Bool.or_true, Bool.not_true, Bool.not_false, Bool.and_self, Bool.or_self, if_true, if_false, Bool.true_eq_false, Bool.false_eq_true, not_true, not_false_eq_true]
  rfl
/-- a kind as a number -/
def mj_isk (σ : mj_St) (i : Int32) (k : Nat) : Prop := σ.1 15 i.toNatClampNeg = nI k ∧ 1 ≤ k ∧ k ≤ 6
theorem sp_callAct {bs cs : List Int32} {i x v : Int32} {k a n : Nat} (hi : mj_inb i 9 = true) (hk : mj_isk σ i k) (ha : a < 3) (hr : mj_ev X (d + 2) 148 [.ref 0, .int (mj_bdf k a), .int i, .int x, .int (nI n)] (mj_trC σ bs) = some (some (.int v), mj_trC σ cs)) : mj_ev X (d + 3) 145 [.ref 0, .int i, .int (nI a), .int x, .int (nI n)] (mj_trC σ bs) = some (some (.int v), mj_trC σ cs) := by
  have h2 : mj_ev X (d + 2) 146 [.int (nI k), .int (nI a)] (mj_trC σ bs) = _ := sp_bodyFrom (by have := hk.2.2; omega) ha
  have e15 : (mj_trC σ bs).1 15 i.toNatClampNeg = nI k := by rw [mj_trC_o (by decide) (by decide)]; exact hk.1
  refine st145 ?_
  simp only [u145_0, u145_1, u145_2, u145_5, u145_8, u145_9, u145_10, u145_11, u145_14, u145_15, u145_16, u145_18, u145_21, hi, e15, h2, hr, mj_cc_v, mj_cc_n, List.all_cons, List.all_nil, mj_noMk_int, mj_noMk_long, mj_noMk_ref, mj_noMk_junk, List.length_nil, List.length_cons, Nat.zero_le, Nat.reduceLeDiff, Nat.reduceAdd, Bool.and_true, Bool.true_and, Bool.and_self, Nat.reduceBNe, true_or, or_true, true_and, and_true, mj_z0, mj_z1, mj_z01, decide_true, decide_false, Bool.true_and, Bool.false_and, Bool.and_true, Bool.and_false, Bool.true_or, Bool.false_or, Bool.or_false, Bool.or_true, Bool.not_true, Bool.not_false, Bool.and_self, Bool.or_self, if_true, if_false, Bool.true_eq_false, Bool.false_eq_true, not_true, not_false_eq_true]
theorem sp_actN {bs : List Int32} {i x : Int32} {k n : Nat} (hi : mj_inb i 9 = true) (hk : mj_isk σ i k) (hb : bs.length < 17) (hn : n ≤ 17) : mj_ev X (d + 7) 145 [.ref 0, .int i, .int 0, .int x, .int (nI n)] (mj_trC σ bs) = some (some (.int (mj_aN (nI k) i x).2), mj_trC σ (bs ++ (mj_aN (nI k) i x).1)) := by
  refine sp_callAct (a := 0) hi hk (by decide) ?_
  have hk' := hk.2
  have : k = 1 ∨ k = 2 ∨ k = 3 ∨ k = 4 ∨ k = 5 ∨ k = 6 := by omega
  rcases this with q | q | q | q | q | q <;> subst q
  · exact sp_run20 (d := d + 2) hi (by omega) (by omega)
  · exact sp_run20 (d := d + 2) hi (by omega) (by omega)
  · exact sp_run20 (d := d + 2) hi (by omega) (by omega)
  · exact sp_run50 hi (by omega) (by omega)
  · exact sp_run10 (d := d + 5) hi (by omega) (by omega)
  · exact sp_run10 (d := d + 5) hi (by omega) (by omega)
theorem sp_run11 {bs : List Int32} {i x : Int32} {k n : Nat} (hi : mj_inb i 9 = true) (hk : mj_isk σ i k) (hb : bs.length < 16) (hn : n ≤ 16) : mj_ev X (d + 8) 148 [.ref 0, .int 11, .int i, .int x, .int (nI n)] (mj_trC σ bs) = some (some (.int ((mj_aN (nI k) i x).2 * 2)), mj_trC σ (bs ++ ([11] ++ (mj_aN (nI k) i x).1))) := by
  have hN := sp_actN (X := X) (d := d) (bs := bs ++ [11]) (x := x) (n := n + 1) hi hk (by rw [mj_lenA1]; omega) (by omega)
  rw [List.append_assoc] at hN
  refine sp_body0 (by omega) (mj_nD (by omega)) hi ?_
  simp (config := {decide := true}) only [u148_0, u148_2, u148_4, u148_7, u148_8, u148_9, u148_10, u148_13, u148_15, u148_18, u148_19, u148_22, u148_23, u148_26, u148_27, u148_28, u148_29, u148_30, u148_33, u148_34, u148_35, u148_38, u148_39, u148_42, u148_45, u148_46, u148_47, u148_49, u148_51, u148_52, u148_53, u148_55, u148_56, u148_140, u148_141, u148_142, u148_143, u148_144, u148_145, u148_146, u148_147, u148_148, u148_150, u148_153, u148_154, u148_155, u148_156, u148_157, u148_158, u148_159, u148_160, u148_162, u148_165, u148_166, u148_167, u148_168, u148_169, u148_171, u148_172, u148_174, u148_177, u148_178, u148_179, u148_180, u148_181, u148_182, u148_183, u148_184, u148_186, u148_189, u148_190, u148_191, u148_192, u148_193, u148_194, u148_195, u148_196, u148_197, u148_199, u148_202, u148_204, u148_205, u148_206, u148_207, u148_208, u148_209, u148_210, u148_211, u148_212, u148_213, u148_215, u148_218, u148_219, u148_220, u148_221, u148_222, u148_223, u148_224, u148_226, u148_229, u148_230, u148_231, u148_232, u148_233, u148_234, u148_235, u148_236, u148_238, u148_241, u148_242, u148_243, u148_244, u148_245, u148_247, u148_248, u148_249, u148_250, u148_252, u148_255, u148_256, u148_257, u148_258, u148_259, nI_1, hN, mj_cc_v, mj_cc_n, List.all_cons, List.all_nil, mj_noMk_int, mj_noMk_long, mj_noMk_ref, mj_noMk_junk, List.length_nil, List.length_cons, Nat.zero_le, Nat.reduceLeDiff, Nat.reduceAdd, Bool.and_true, Bool.true_and, Bool.and_self, Nat.reduceBNe, true_or, or_true, true_and, and_true, mj_z0, mj_z1, mj_z01, decide_true, decide_false, Bool.true_and, Bool.false_and, Bool.and_true, Bool.and_false, Bool.true_or, Bool.false_or, Bool.or_false, Bool.or_true, Bool.not_true, Bool.not_false, Bool.and_self, Bool.or_self, if_true, if_false, Bool.true_eq_false, Bool.false_eq_true, not_true, not_false_eq_true]
theorem sp_actC {bs : List Int32} {i x : Int32} {k n : Nat} (hi : mj_inb i 9 = true) (hk : mj_isk σ i k) (hb : bs.length < 15) (hn : n ≤ 15) : mj_ev X (d + 11) 145 [.ref 0, .int i, .int 1, .int x, .int (nI n)] (mj_trC σ bs) = some (some (.int (mj_aC (nI k) i x (σ.1 22 i.toNatClampNeg)).2), mj_trC σ (bs ++ (mj_aC (nI k) i x (σ.1 22 i.toNatClampNeg)).1)) := by
  refine sp_callAct (a := 1) hi hk (by decide) ?_
  have hk' := hk.2
  have : k = 1 ∨ k = 2 ∨ k = 3 ∨ k = 4 ∨ k = 5 ∨ k = 6 := by omega
  rcases this with q | q | q | q | q | q <;> subst q
  · exact sp_run11 (d := d + 2) hi hk (by omega) (by omega)
  · have h11 := sp_run11 (X := X) (d := d) (bs := bs ++ [30]) (x := x) (n := n + 1) hi hk (by rw [mj_lenA1]; omega) (by omega)
    have hca := sp_callAbove (d := d + 6) (k := 2) (a := 1) (m := 1) (by decide) (by decide) (by decide) (by decide) h11
    have e1 : nI 2 = 2 := rfl
    have e0 : nI 1 = 1 := rfl
    rw [List.append_assoc] at hca
    show mj_ev X (d + 10) 148 [.ref 0, .int 30, .int i, .int x, .int (nI n)] (mj_trC σ bs) = _
    refine sp_body0 (d := d + 9) (by omega) (mj_nD (by omega)) hi ?_
    have hca' : mj_ev X (d + 9) 149 [.ref 0, .int 2, .int i, .int 1, .int x, .int (nI (n + 1))] (mj_trC σ (bs ++ [30])) = _ := hca
    simp (config := {decide := true}) only [u148_0, u148_2, u148_4, u148_7, u148_8, u148_9, u148_10, u148_13, u148_15, u148_18, u148_19, u148_22, u148_23, u148_26, u148_27, u148_28, u148_29, u148_30, u148_33, u148_34, u148_35, u148_38, u148_39, u148_42, u148_45, u148_46, u148_47, u148_49, u148_51, u148_52, u148_53, u148_55, u148_56, u148_140, u148_141, u148_142, u148_143, u148_144, u148_145, u148_146, u148_147, u148_148, u148_150, u148_153, u148_154, u148_155, u148_156, u148_157, u148_158, u148_159, u148_160, u148_162, u148_165, u148_166, u148_167, u148_168, u148_169, u148_171, u148_172, u148_174, u148_177, u148_178, u148_179, u148_180, u148_181, u148_182, u148_183, u148_184, u148_186, u148_189, u148_190, u148_191, u148_192, u148_193, u148_194, u148_195, u148_196, u148_197, u148_199, u148_202, u148_204, u148_205, u148_206, u148_207, u148_208, u148_209, u148_210, u148_211, u148_212, u148_213, u148_215, u148_218, u148_219, u148_220, u148_221, u148_222, u148_223, u148_224, u148_226, u148_229, u148_230, u148_231, u148_232, u148_233, u148_234, u148_235, u148_236, u148_238, u148_241, u148_242, u148_243, u148_244, u148_245, u148_247, u148_248, u148_249, u148_250, u148_252, u148_255, u148_256, u148_257, u148_258, u148_259, nI_1, hca', mj_cc_v, mj_cc_n, List.all_cons, List.all_nil, mj_noMk_int, mj_noMk_long, mj_noMk_ref, mj_noMk_junk, List.length_nil, List.length_cons, Nat.zero_le, Nat.reduceLeDiff, Nat.reduceAdd, Bool.and_true, Bool.true_and, Bool.and_self, Nat.reduceBNe, true_or, or_true, true_and, and_true, mj_z0, mj_z1, mj_z01, decide_true, decide_false, Bool.true_and, Bool.false_and, Bool.and_true, Bool.and_false, Bool.true_or, Bool.false_or, Bool.or_false, Bool.or_true, Bool.not_true, Bool.not_false, Bool.and_self, Bool.or_self, if_true, if_false, Bool.true_eq_false, Bool.false_eq_true, not_true, not_false_eq_true]
    rfl
  · exact sp_run11 (d := d + 2) hi hk (by omega) (by omega)
  · exact sp_run11 (d := d + 2) hi hk (by omega) (by omega)
  · exact sp_run11 (d := d + 2) hi hk (by omega) (by omega)
  · have h11 := sp_run11 (X := X) (d := d) (bs := bs ++ [70]) (x := x) (n := n + 1) hi hk (by rw [mj_lenA1]; omega) (by omega)
    have hca := sp_callAbove (d := d + 6) (k := 6) (a := 1) (m := 0) (by decide) (by decide) (by decide) (by decide) h11
    rw [List.append_assoc] at hca
    show mj_ev X (d + 10) 148 [.ref 0, .int 70, .int i, .int x, .int (nI n)] (mj_trC σ bs) = _
    refine sp_body0 (d := d + 9) (by omega) (mj_nD (by omega)) hi ?_
    have hca' : mj_ev X (d + 9) 149 [.ref 0, .int 6, .int i, .int 1, .int x, .int (nI (n + 1))] (mj_trC σ (bs ++ [70])) = _ := hca
    simp (config := {decide := true}) only [u148_0, u148_2, u148_4, u148_7, u148_8, u148_9, u148_10, u148_13, u148_15, u148_18, u148_19, u148_22, u148_23, u148_26, u148_27, u148_28, u148_29, u148_30, u148_33, u148_34, u148_35, u148_38, u148_39, u148_42, u148_45, u148_46, u148_47, u148_49, u148_51, u148_52, u148_53, u148_55, u148_56, u148_140, u148_141, u148_142, u148_143, u148_144, u148_145, u148_146, u148_147, u148_148, u148_150, u148_153, u148_154, u148_155, u148_156, u148_157, u148_158, u148_159, u148_160, u148_162, u148_165, u148_166, u148_167, u148_168, u148_169, u148_171, u148_172, u148_174, u148_177, u148_178, u148_179, u148_180, u148_181, u148_182, u148_183, u148_184, u148_186, u148_189, u148_190, u148_191, u148_192, u148_193, u148_194, u148_195, u148_196, u148_197, u148_199, u148_202, u148_204, u148_205, u148_206, u148_207, u148_208, u148_209, u148_210, u148_211, u148_212, u148_213, u148_215, u148_218, u148_219, u148_220, u148_221, u148_222, u148_223, u148_224, u148_226, u148_229, u148_230, u148_231, u148_232, u148_233, u148_234, u148_235, u148_236, u148_238, u148_241, u148_242, u148_243, u148_244, u148_245, u148_247, u148_248, u148_249, u148_250, u148_252, u148_255, u148_256, u148_257, u148_258, u148_259, nI_1, hca', mj_cc_v, mj_cc_n, List.all_cons, List.all_nil, mj_noMk_int, mj_noMk_long, mj_noMk_ref, mj_noMk_junk, List.length_nil, List.length_cons, Nat.zero_le, Nat.reduceLeDiff, Nat.reduceAdd, Bool.and_true, Bool.true_and, Bool.and_self, Nat.reduceBNe, true_or, or_true, true_and, and_true, mj_z0, mj_z1, mj_z01, decide_true, decide_false, Bool.true_and, Bool.false_and, Bool.and_true, Bool.and_false, Bool.true_or, Bool.false_or, Bool.or_false, Bool.or_true, Bool.not_true, Bool.not_false, Bool.and_self, Bool.or_self, if_true, if_false, Bool.true_eq_false, Bool.false_eq_true, not_true, not_false_eq_true]
    rfl
theorem sp_run12 {bs : List Int32} {i x : Int32} {k n : Nat} (hi : mj_inb i 9 = true) (hk : mj_isk σ i k) (hb : bs.length < 9) (hn : n ≤ 14) : mj_ev X (d + 12) 148 [.ref 0, .int 12, .int i, .int x, .int (nI n)] (mj_trC σ bs) = some (some (.int ((mj_aC (nI k) i x (σ.1 22 i.toNatClampNeg)).2 ^^^ (mj_aN (nI k) i (x - σ.1 22 i.toNatClampNeg)).2)), mj_trC σ (bs ++ ([12] ++ (mj_aC (nI k) i x (σ.1 22 i.toNatClampNeg)).1 ++ (mj_aN (nI k) i (x - σ.1 22 i.toNatClampNeg)).1))) := by
  have hC := sp_actC (X := X) (d := d) (bs := bs ++ [12]) (x := x) (n := n + 1) hi hk (by rw [mj_lenA1]; omega) (by omega)
  have hl := mj_aC_len (kd := nI k) (i := i) (x := x) (ow := σ.1 22 i.toNatClampNeg)
  have hNn := sp_actN (X := X) (d := d + 4) (bs := bs ++ [12] ++ (mj_aC (nI k) i x (σ.1 22 i.toNatClampNeg)).1) (x := x - σ.1 22 i.toNatClampNeg) (n := n + 1) hi hk (by rw [List.length_append, mj_lenA1]; omega) (by omega)
  have ea : bs ++ [12] ++ (mj_aC (nI k) i x (σ.1 22 i.toNatClampNeg)).1 ++ (mj_aN (nI k) i (x - σ.1 22 i.toNatClampNeg)).1 = bs ++ ([12] ++ (mj_aC (nI k) i x (σ.1 22 i.toNatClampNeg)).1 ++ (mj_aN (nI k) i (x - σ.1 22 i.toNatClampNeg)).1) := by simp
  rw [ea] at hNn
  refine sp_body0 (by omega) (mj_nD (by omega)) hi ?_
  simp (config := {decide := true}) only [u148_0, u148_2, u148_4, u148_7, u148_8, u148_9, u148_10, u148_13, u148_15, u148_18, u148_19, u148_22, u148_23, u148_26, u148_27, u148_28, u148_29, u148_30, u148_33, u148_34, u148_35, u148_38, u148_39, u148_42, u148_45, u148_46, u148_47, u148_49, u148_51, u148_52, u148_53, u148_55, u148_56, u148_140, u148_141, u148_142, u148_143, u148_144, u148_145, u148_146, u148_147, u148_148, u148_150, u148_153, u148_154, u148_155, u148_156, u148_157, u148_158, u148_159, u148_160, u148_162, u148_165, u148_166, u148_167, u148_168, u148_169, u148_171, u148_172, u148_174, u148_177, u148_178, u148_179, u148_180, u148_181, u148_182, u148_183, u148_184, u148_186, u148_189, u148_190, u148_191, u148_192, u148_193, u148_194, u148_195, u148_196, u148_197, u148_199, u148_202, u148_204, u148_205, u148_206, u148_207, u148_208, u148_209, u148_210, u148_211, u148_212, u148_213, u148_215, u148_218, u148_219, u148_220, u148_221, u148_222, u148_223, u148_224, u148_226, u148_229, u148_230, u148_231, u148_232, u148_233, u148_234, u148_235, u148_236, u148_238, u148_241, u148_242, u148_243, u148_244, u148_245, u148_247, u148_248, u148_249, u148_250, u148_252, u148_255, u148_256, u148_257, u148_258, u148_259, nI_1, hC, hNn, mj_cc_v, mj_cc_n, List.all_cons, List.all_nil, mj_noMk_int, mj_noMk_long, mj_noMk_ref, mj_noMk_junk, List.length_nil, List.length_cons, Nat.zero_le, Nat.reduceLeDiff, Nat.reduceAdd, Bool.and_true, Bool.true_and, Bool.and_self, Nat.reduceBNe, true_or, or_true, true_and, and_true, mj_z0, mj_z1, mj_z01, decide_true, decide_false, Bool.true_and, Bool.false_and, Bool.and_true, Bool.and_false, Bool.true_or, Bool.false_or, Bool.or_false, Bool.or_true, Bool.not_true, Bool.not_false, Bool.and_self, Bool.or_self, if_true, if_false, Bool.true_eq_false, Bool.false_eq_true, not_true, not_false_eq_true]
theorem sp_actE {bs : List Int32} {i x : Int32} {k n : Nat} (hi : mj_inb i 9 = true) (hk : mj_isk σ i k) (hb : bs.length < 8) (hn : n ≤ 13) : mj_ev X (d + 15) 145 [.ref 0, .int i, .int 2, .int x, .int (nI n)] (mj_trC σ bs) = some (some (.int (mj_aE (nI k) i x (σ.1 22 i.toNatClampNeg)).2), mj_trC σ (bs ++ (mj_aE (nI k) i x (σ.1 22 i.toNatClampNeg)).1)) := by
  refine sp_callAct (a := 2) hi hk (by decide) ?_
  have hk' := hk.2
  have : k = 1 ∨ k = 2 ∨ k = 3 ∨ k = 4 ∨ k = 5 ∨ k = 6 := by omega
  rcases this with q | q | q | q | q | q <;> subst q
  · exact sp_run12 (d := d + 2) hi hk (by omega) (by omega)
  · exact sp_run12 (d := d + 2) hi hk (by omega) (by omega)
  · have h12 := sp_run12 (X := X) (d := d) (bs := bs ++ [40]) (x := x + 1) (n := n + 1) hi hk (by rw [mj_lenA1]; omega) (by omega)
    have hca := sp_callAbove (d := d + 10) (k := 3) (a := 2) (m := 1) (by decide) (by decide) (by decide) (by decide) h12
    have ea : ∀ l : List Int32, bs ++ [40] ++ ([12] ++ l) = bs ++ ([40, 12] ++ l) := fun l => by simp
    rw [List.append_assoc [12], ea] at hca
    show mj_ev X (d + 14) 148 [.ref 0, .int 40, .int i, .int x, .int (nI n)] (mj_trC σ bs) = _
    refine sp_body0 (d := d + 13) (by omega) (mj_nD (by omega)) hi ?_
    have hca' : mj_ev X (d + 13) 149 [.ref 0, .int 3, .int i, .int 2, .int (x + 1), .int (nI (n + 1))] (mj_trC σ (bs ++ [40])) = _ := hca
    simp (config := {decide := true}) only [u148_0, u148_2, u148_4, u148_7, u148_8, u148_9, u148_10, u148_13, u148_15, u148_18, u148_19, u148_22, u148_23, u148_26, u148_27, u148_28, u148_29, u148_30, u148_33, u148_34, u148_35, u148_38, u148_39, u148_42, u148_45, u148_46, u148_47, u148_49, u148_51, u148_52, u148_53, u148_55, u148_56, u148_140, u148_141, u148_142, u148_143, u148_144, u148_145, u148_146, u148_147, u148_148, u148_150, u148_153, u148_154, u148_155, u148_156, u148_157, u148_158, u148_159, u148_160, u148_162, u148_165, u148_166, u148_167, u148_168, u148_169, u148_171, u148_172, u148_174, u148_177, u148_178, u148_179, u148_180, u148_181, u148_182, u148_183, u148_184, u148_186, u148_189, u148_190, u148_191, u148_192, u148_193, u148_194, u148_195, u148_196, u148_197, u148_199, u148_202, u148_204, u148_205, u148_206, u148_207, u148_208, u148_209, u148_210, u148_211, u148_212, u148_213, u148_215, u148_218, u148_219, u148_220, u148_221, u148_222, u148_223, u148_224, u148_226, u148_229, u148_230, u148_231, u148_232, u148_233, u148_234, u148_235, u148_236, u148_238, u148_241, u148_242, u148_243, u148_244, u148_245, u148_247, u148_248, u148_249, u148_250, u148_252, u148_255, u148_256, u148_257, u148_258, u148_259, nI_1, hca', mj_cc_v, mj_cc_n, List.all_cons, List.all_nil, mj_noMk_int, mj_noMk_long, mj_noMk_ref, mj_noMk_junk, List.length_nil, List.length_cons, Nat.zero_le, Nat.reduceLeDiff, Nat.reduceAdd, Bool.and_true, Bool.true_and, Bool.and_self, Nat.reduceBNe, true_or, or_true, true_and, and_true, mj_z0, mj_z1, mj_z01, decide_true, decide_false, Bool.true_and, Bool.false_and, Bool.and_true, Bool.and_false, Bool.true_or, Bool.false_or, Bool.or_false, Bool.or_true, Bool.not_true, Bool.not_false, Bool.and_self, Bool.or_self, if_true, if_false, Bool.true_eq_false, Bool.false_eq_true, not_true, not_false_eq_true]
    unfold mj_aE
    simp (config := {decide := true}) only [decide_true, decide_false, Bool.true_and, Bool.false_and, Bool.and_true, Bool.and_false, Bool.true_or, Bool.false_or, Bool.or_false, Bool.or_true, Bool.not_true, Bool.not_false, Bool.and_self, Bool.or_self, if_true, if_false, Bool.true_eq_false, Bool.false_eq_true, not_true, not_false_eq_true, List.append_assoc]
  · exact sp_run12 (d := d + 2) hi hk (by omega) (by omega)
  · have h12 := sp_run12 (X := X) (d := d) (bs := bs ++ [60]) (x := x) (n := n + 1) hi hk (by rw [mj_lenA1]; omega) (by omega)
    have hca := sp_callAbove (d := d + 10) (k := 5) (a := 2) (m := 0) (by decide) (by decide) (by decide) (by decide) h12
    have ea : ∀ l : List Int32, bs ++ [60] ++ ([12] ++ l) = bs ++ ([60, 12] ++ l) := fun l => by simp
    rw [List.append_assoc [12], ea] at hca
    show mj_ev X (d + 14) 148 [.ref 0, .int 60, .int i, .int x, .int (nI n)] (mj_trC σ bs) = _
    refine sp_body0 (d := d + 13) (by omega) (mj_nD (by omega)) hi ?_
    have hca' : mj_ev X (d + 13) 149 [.ref 0, .int 5, .int i, .int 2, .int x, .int (nI (n + 1))] (mj_trC σ (bs ++ [60])) = _ := hca
    simp (config := {decide := true}) only [u148_0, u148_2, u148_4, u148_7, u148_8, u148_9, u148_10, u148_13, u148_15, u148_18, u148_19, u148_22, u148_23, u148_26, u148_27, u148_28, u148_29, u148_30, u148_33, u148_34, u148_35, u148_38, u148_39, u148_42, u148_45, u148_46, u148_47, u148_49, u148_51, u148_52, u148_53, u148_55, u148_56, u148_140, u148_141, u148_142, u148_143, u148_144, u148_145, u148_146, u148_147, u148_148, u148_150, u148_153, u148_154, u148_155, u148_156, u148_157, u148_158, u148_159, u148_160, u148_162, u148_165, u148_166, u148_167, u148_168, u148_169, u148_171, u148_172, u148_174, u148_177, u148_178, u148_179, u148_180, u148_181, u148_182, u148_183, u148_184, u148_186, u148_189, u148_190, u148_191, u148_192, u148_193, u148_194, u148_195, u148_196, u148_197, u148_199, u148_202, u148_204, u148_205, u148_206, u148_207, u148_208, u148_209, u148_210, u148_211, u148_212, u148_213, u148_215, u148_218, u148_219, u148_220, u148_221, u148_222, u148_223, u148_224, u148_226, u148_229, u148_230, u148_231, u148_232, u148_233, u148_234, u148_235, u148_236, u148_238, u148_241, u148_242, u148_243, u148_244, u148_245, u148_247, u148_248, u148_249, u148_250, u148_252, u148_255, u148_256, u148_257, u148_258, u148_259, nI_1, hca', mj_cc_v, mj_cc_n, List.all_cons, List.all_nil, mj_noMk_int, mj_noMk_long, mj_noMk_ref, mj_noMk_junk, List.length_nil, List.length_cons, Nat.zero_le, Nat.reduceLeDiff, Nat.reduceAdd, Bool.and_true, Bool.true_and, Bool.and_self, Nat.reduceBNe, true_or, or_true, true_and, and_true, mj_z0, mj_z1, mj_z01, decide_true, decide_false, Bool.true_and, Bool.false_and, Bool.and_true, Bool.and_false, Bool.true_or, Bool.false_or, Bool.or_false, Bool.or_true, Bool.not_true, Bool.not_false, Bool.and_self, Bool.or_self, if_true, if_false, Bool.true_eq_false, Bool.false_eq_true, not_true, not_false_eq_true]
    unfold mj_aE
    simp (config := {decide := true}) only [decide_true, decide_false, Bool.true_and, Bool.false_and, Bool.and_true, Bool.and_false, Bool.true_or, Bool.false_or, Bool.or_false, Bool.or_true, Bool.not_true, Bool.not_false, Bool.and_self, Bool.or_self, if_true, if_false, Bool.true_eq_false, Bool.false_eq_true, not_true, not_false_eq_true, List.append_assoc]
  · exact sp_run12 (d := d + 2) hi hk (by omega) (by omega)
theorem sp_act {N : Nat} {i a x : Int32} (hN : σ.1 14 14 = nI N) (h9 : N ≤ 9) (hks : ∀ j, j < N → ∃ k, 1 ≤ k ∧ k ≤ 6 ∧ σ.1 15 j = nI k) : mj_ev X (d + 16) 144 [.ref 0, .int i, .int a, .int x] σ = some (if mj_lt0 i (nI N) = true ∧ mj_inb a 3 = true then (some (.int (mj_aA (σ.1 15 i.toNatClampNeg) i a x (σ.1 22 i.toNatClampNeg)).2), mj_trC σ (mj_aA (σ.1 15 i.toNatClampNeg) i a x (σ.1 22 i.toNatClampNeg)).1) else (some (.int 0), mj_trC σ [])) := by
  have e0 : (mj_trC σ []).1 14 14 = nI N := hN
  have hhas : mj_ev X (d + 15) 13 [.ref 14, .int i] (mj_trC σ []) = some (some (.int (mj_z (mj_lt0 i (nI N)))), mj_trC σ []) := by
    rw [← e0]
    exact sp_has (d := d + 14)
  have e3 := mj_rng (x := a) (n := 3) (k := 3) rfl
  have g3 : (2 < a) = ¬ (a < 3) := mj_gt_of (n := 2) (by decide) (by decide)
  refine st144 ?_
  rcases (Bool.eq_false_or_eq_true (mj_lt0 i (nI N))).symm with c | c
  · rw [c] at hhas
    simp only [u144_0, u144_1, u144_2, u144_5, u144_6, u144_9, u144_10, u144_13, u144_16, u144_17, u144_20, u144_21, u144_22, u144_25, u144_26, u144_27, u144_28, u144_29, u144_30, u144_31, u144_32, u144_35, mj_trC_0, hhas, c, mj_zF, false_and, mj_cc_v, mj_cc_n, List.all_cons, List.all_nil, mj_noMk_int, mj_noMk_long, mj_noMk_ref, mj_noMk_junk, List.length_nil, List.length_cons, Nat.zero_le, Nat.reduceLeDiff, Nat.reduceAdd, Bool.and_true, Bool.true_and, Bool.and_self, Nat.reduceBNe, true_or, or_true, true_and, and_true, mj_z0, mj_z1, mj_z01, decide_true, decide_false, Bool.true_and, Bool.false_and, Bool.and_true, Bool.and_false, Bool.true_or, Bool.false_or, Bool.or_false, Bool.or_true, Bool.not_true, Bool.not_false, Bool.and_self, Bool.or_self, if_true, if_false, Bool.true_eq_false, Bool.false_eq_true, not_true, not_false_eq_true]
  · rw [c] at hhas
    have hi := mj_lt0_inb c h9 (by decide)
    rcases (Bool.eq_false_or_eq_true (mj_inb a 3)).symm with c2 | c2
    · rw [if_neg (fun z => by rw [c2] at z; exact absurd z.2 mj_ft)]
      rw [c2] at e3
      by_cases k0 : a < 0
      · simp only [u144_0, u144_1, u144_2, u144_5, u144_6, u144_9, u144_10, u144_13, u144_16, u144_17, u144_20, u144_21, u144_22, u144_25, u144_26, u144_27, u144_28, u144_29, u144_30, u144_31, u144_32, u144_35, mj_trC_0, hhas, k0, mj_zT, mj_n10, mj_cc_v, mj_cc_n, List.all_cons, List.all_nil, mj_noMk_int, mj_noMk_long, mj_noMk_ref, mj_noMk_junk, List.length_nil, List.length_cons, Nat.zero_le, Nat.reduceLeDiff, Nat.reduceAdd, Bool.and_true, Bool.true_and, Bool.and_self, Nat.reduceBNe, true_or, or_true, true_and, and_true, mj_z0, mj_z1, mj_z01, decide_true, decide_false, Bool.true_and, Bool.false_and, Bool.and_true, Bool.and_false, Bool.true_or, Bool.false_or, Bool.or_false, Bool.or_true, Bool.not_true, Bool.not_false, Bool.and_self, Bool.or_self, if_true, if_false, Bool.true_eq_false, Bool.false_eq_true, not_true, not_false_eq_true]
      · have k7 : ¬ a < 3 := by
          intro z
          rw [decide_eq_false k0, decide_eq_true z] at e3
          exact absurd e3 (by decide)
        simp only [u144_0, u144_1, u144_2, u144_5, u144_6, u144_9, u144_10, u144_13, u144_16, u144_17, u144_20, u144_21, u144_22, u144_25, u144_26, u144_27, u144_28, u144_29, u144_30, u144_31, u144_32, u144_35, mj_trC_0, hhas, k0, g3, k7, mj_zT, mj_n10, mj_cc_v, mj_cc_n, List.all_cons, List.all_nil, mj_noMk_int, mj_noMk_long, mj_noMk_ref, mj_noMk_junk, List.length_nil, List.length_cons, Nat.zero_le, Nat.reduceLeDiff, Nat.reduceAdd, Bool.and_true, Bool.true_and, Bool.and_self, Nat.reduceBNe, true_or, or_true, true_and, and_true, mj_z0, mj_z1, mj_z01, decide_true, decide_false, Bool.true_and, Bool.false_and, Bool.and_true, Bool.and_false, Bool.true_or, Bool.false_or, Bool.or_false, Bool.or_true, Bool.not_true, Bool.not_false, Bool.and_self, Bool.or_self, if_true, if_false, Bool.true_eq_false, Bool.false_eq_true, not_true, not_false_eq_true]
    · rw [if_pos ⟨c, c2⟩]
      obtain ⟨k0, k3⟩ := mj_inb_split (n := 3) rfl c2
      have hiN : i.toNatClampNeg < N := mj_in_lt (mj_lt0_inb c (Nat.le_refl N) (by omega))
      obtain ⟨k, k1, k6, ek⟩ := hks _ hiN
      have hk : mj_isk σ i k := ⟨ek, k1, k6⟩
      obtain ⟨j, hj, ea⟩ := mj_nI_of c2 (by decide)
      have hE : ∀ r : List Int32, [] ++ r = r := fun r => rfl
      rw [ek]
      unfold mj_aA
      have : j = 0 ∨ j = 1 ∨ j = 2 := by omega
      rcases this with q | q | q
      · subst q
        have e : a = 0 := ea
        subst e
        have hc : mj_ev X (d + 15) 145 [.ref 0, .int i, .int 0, .int x, .int 0] (mj_trC σ []) = _ := sp_actN (d := d + 8) (bs := []) (n := 0) hi hk (by decide) (by decide)
        rw [hE] at hc
        simp only [u144_0, u144_1, u144_2, u144_5, u144_6, u144_9, u144_10, u144_13, u144_16, u144_17, u144_20, u144_21, u144_22, u144_25, u144_26, u144_27, u144_28, u144_29, u144_30, u144_31, u144_32, u144_35, mj_trC_0, hhas, k0, g3, k3, hc, mj_zT, mj_n10, mj_cc_v, mj_cc_n, List.all_cons, List.all_nil, mj_noMk_int, mj_noMk_long, mj_noMk_ref, mj_noMk_junk, List.length_nil, List.length_cons, Nat.zero_le, Nat.reduceLeDiff, Nat.reduceAdd, Bool.and_true, Bool.true_and, Bool.and_self, Nat.reduceBNe, true_or, or_true, true_and, and_true, mj_z0, mj_z1, mj_z01, decide_true, decide_false, Bool.true_and, Bool.false_and, Bool.and_true, Bool.and_false, Bool.true_or, Bool.false_or, Bool.or_false, Bool.or_true, Bool.not_true, Bool.not_false, Bool.and_self, Bool.or_self, if_true, if_false, Bool.true_eq_false, Bool.false_eq_true, not_true, not_false_eq_true]
      · subst q
        have e : a = 1 := ea
        subst e
        have hc : mj_ev X (d + 15) 145 [.ref 0, .int i, .int 1, .int x, .int 0] (mj_trC σ []) = _ := sp_actC (d := d + 4) (bs := []) (n := 0) hi hk (by decide) (by decide)
        rw [hE] at hc
        simp only [u144_0, u144_1, u144_2, u144_5, u144_6, u144_9, u144_10, u144_13, u144_16, u144_17, u144_20, u144_21, u144_22, u144_25, u144_26, u144_27, u144_28, u144_29, u144_30, u144_31, u144_32, u144_35, mj_trC_0, hhas, k0, g3, k3, hc, mj_zT, mj_n10, mj_cc_v, mj_cc_n, List.all_cons, List.all_nil, mj_noMk_int, mj_noMk_long, mj_noMk_ref, mj_noMk_junk, List.length_nil, List.length_cons, Nat.zero_le, Nat.reduceLeDiff, Nat.reduceAdd, Bool.and_true, Bool.true_and, Bool.and_self, Nat.reduceBNe, true_or, or_true, true_and, and_true, mj_z0, mj_z1, mj_z01, decide_true, decide_false, Bool.true_and, Bool.false_and, Bool.and_true, Bool.and_false, Bool.true_or, Bool.false_or, Bool.or_false, Bool.or_true, Bool.not_true, Bool.not_false, Bool.and_self, Bool.or_self, if_true, if_false, Bool.true_eq_false, Bool.false_eq_true, not_true, not_false_eq_true]
      · subst q
        have e : a = 2 := ea
        subst e
        have hc : mj_ev X (d + 15) 145 [.ref 0, .int i, .int 2, .int x, .int 0] (mj_trC σ []) = _ := sp_actE (d := d) (bs := []) (n := 0) hi hk (by decide) (by decide)
        rw [hE] at hc
        have n20 : ¬ (2 : Int32) = 0 := by decide
        have n21 : ¬ (2 : Int32) = 1 := by decide
        simp only [u144_0, u144_1, u144_2, u144_5, u144_6, u144_9, u144_10, u144_13, u144_16, u144_17, u144_20, u144_21, u144_22, u144_25, u144_26, u144_27, u144_28, u144_29, u144_30, u144_31, u144_32, u144_35, mj_trC_0, hhas, k0, g3, k3, hc, n20, n21, mj_zT, mj_n10, mj_cc_v, mj_cc_n, List.all_cons, List.all_nil, mj_noMk_int, mj_noMk_long, mj_noMk_ref, mj_noMk_junk, List.length_nil, List.length_cons, Nat.zero_le, Nat.reduceLeDiff, Nat.reduceAdd, Bool.and_true, Bool.true_and, Bool.and_self, Nat.reduceBNe, true_or, or_true, true_and, and_true, mj_z0, mj_z1, mj_z01, decide_true, decide_false, Bool.true_and, Bool.false_and, Bool.and_true, Bool.and_false, Bool.true_or, Bool.false_or, Bool.or_false, Bool.or_true, Bool.not_true, Bool.not_false, Bool.and_self, Bool.or_self, if_true, if_false, Bool.true_eq_false, Bool.false_eq_true, not_true, not_false_eq_true]
end