section
variable {X : mj_X} {d : Nat} {σ τ ρ : mj_St}
def mj_rmC (σ : mj_St) (kd : Int32) (N : Nat) : Bool := decide (N < 9) && (if mj_wk kd = true then decide (σ.1 14 15 < 6) else decide (nI N - σ.1 14 15 < 3))
theorem sp_hasRoomFor {N : Nat} {kd : Int32} (hN : σ.1 14 14 = nI N) (h9 : N ≤ 9) : mj_ev X (d + 2) 39 [.ref 14, .int kd] σ = some (some (.int (mj_z (mj_rmC σ kd N))), σ) := by
  have hwk := sp_isWorkKind (X := X) (d := d) (x := kd) (σ := σ)
  have lt : (nI N < 9) = (N < 9) := propext ⟨fun z => Classical.byContradiction (fun y => nI_nlt (a := N) (b := 9) (Nat.le_of_not_lt y) (by omega) z), fun z => nI_lt (b := 9) z (by omega)⟩
  unfold mj_rmC
  refine st39 ?_
  by_cases c1 : N < 9
  · rcases (Bool.eq_false_or_eq_true (mj_wk kd)).symm with c2 | c2
    · rw [c2] at hwk
      by_cases c3 : nI N - σ.1 14 15 < 3
      · simp only [u39_0, u39_1, u39_4, u39_6, u39_9, u39_10, u39_11, u39_12, u39_15, u39_18, u39_19, u39_22, u39_24, u39_27, u39_28, u39_31, u39_32, u39_35, u39_36, u39_39, u39_40, u39_43, u39_44, u39_45, u39_48, u39_49, u39_52, u39_53, hN, lt, c1, hwk, c2, c3, mj_zT, mj_zF, mj_n10, mj_cc_v, mj_cc_n, List.all_cons, List.all_nil, mj_noMk_int, mj_noMk_long, mj_noMk_ref, mj_noMk_junk, List.length_nil, List.length_cons, Nat.zero_le, Nat.reduceLeDiff, Nat.reduceAdd, Bool.and_true, Bool.true_and, Bool.and_self, Nat.reduceBNe, true_or, or_true, true_and, and_true, mj_z0, mj_z1, mj_z01, decide_true, decide_false, Bool.true_and, Bool.false_and, Bool.and_true, Bool.and_false, Bool.true_or, Bool.false_or, Bool.or_false, Bool.or_true, Bool.not_true, Bool.not_false, Bool.and_self, Bool.or_self, if_true, if_false, Bool.true_eq_false, Bool.false_eq_true, not_true, not_false_eq_true]
      · simp only [u39_0, u39_1, u39_4, u39_6, u39_9, u39_10, u39_11, u39_12, u39_15, u39_18, u39_19, u39_22, u39_24, u39_27, u39_28, u39_31, u39_32, u39_35, u39_36, u39_39, u39_40, u39_43, u39_44, u39_45, u39_48, u39_49, u39_52, u39_53, hN, lt, c1, hwk, c2, c3, mj_zT, mj_zF, mj_n10, mj_cc_v, mj_cc_n, List.all_cons, List.all_nil, mj_noMk_int, mj_noMk_long, mj_noMk_ref, mj_noMk_junk, List.length_nil, List.length_cons, Nat.zero_le, Nat.reduceLeDiff, Nat.reduceAdd, Bool.and_true, Bool.true_and, Bool.and_self, Nat.reduceBNe, true_or, or_true, true_and, and_true, mj_z0, mj_z1, mj_z01, decide_true, decide_false, Bool.true_and, Bool.false_and, Bool.and_true, Bool.and_false, Bool.true_or, Bool.false_or, Bool.or_false, Bool.or_true, Bool.not_true, Bool.not_false, Bool.and_self, Bool.or_self, if_true, if_false, Bool.true_eq_false, Bool.false_eq_true, not_true, not_false_eq_true]
    · rw [c2] at hwk
      by_cases c3 : σ.1 14 15 < 6
      · simp only [u39_0, u39_1, u39_4, u39_6, u39_9, u39_10, u39_11, u39_12, u39_15, u39_18, u39_19, u39_22, u39_24, u39_27, u39_28, u39_31, u39_32, u39_35, u39_36, u39_39, u39_40, u39_43, u39_44, u39_45, u39_48, u39_49, u39_52, u39_53, hN, lt, c1, hwk, c2, c3, mj_zT, mj_zF, mj_n10, mj_cc_v, mj_cc_n, List.all_cons, List.all_nil, mj_noMk_int, mj_noMk_long, mj_noMk_ref, mj_noMk_junk, List.length_nil, List.length_cons, Nat.zero_le, Nat.reduceLeDiff, Nat.reduceAdd, Bool.and_true, Bool.true_and, Bool.and_self, Nat.reduceBNe, true_or, or_true, true_and, and_true, mj_z0, mj_z1, mj_z01, decide_true, decide_false, Bool.true_and, Bool.false_and, Bool.and_true, Bool.and_false, Bool.true_or, Bool.false_or, Bool.or_false, Bool.or_true, Bool.not_true, Bool.not_false, Bool.and_self, Bool.or_self, if_true, if_false, Bool.true_eq_false, Bool.false_eq_true, not_true, not_false_eq_true]
      · simp only [u39_0, u39_1, u39_4, u39_6, u39_9, u39_10, u39_11, u39_12, u39_15, u39_18, u39_19, u39_22, u39_24, u39_27, u39_28, u39_31, u39_32, u39_35, u39_36, u39_39, u39_40, u39_43, u39_44, u39_45, u39_48, u39_49, u39_52, u39_53, hN, lt, c1, hwk, c2, c3, mj_zT, mj_zF, mj_n10, mj_cc_v, mj_cc_n, List.all_cons, List.all_nil, mj_noMk_int, mj_noMk_long, mj_noMk_ref, mj_noMk_junk, List.length_nil, List.length_cons, Nat.zero_le, Nat.reduceLeDiff, Nat.reduceAdd, Bool.and_true, Bool.true_and, Bool.and_self, Nat.reduceBNe, true_or, or_true, true_and, and_true, mj_z0, mj_z1, mj_z01, decide_true, decide_false, Bool.true_and, Bool.false_and, Bool.and_true, Bool.and_false, Bool.true_or, Bool.false_or, Bool.or_false, Bool.or_true, Bool.not_true, Bool.not_false, Bool.and_self, Bool.or_self, if_true, if_false, Bool.true_eq_false, Bool.false_eq_true, not_true, not_false_eq_true]
  · simp only [u39_0, u39_1, u39_4, u39_6, u39_9, u39_10, u39_11, u39_12, u39_15, u39_18, u39_19, u39_22, u39_24, u39_27, u39_28, u39_31, u39_32, u39_35, u39_36, u39_39, u39_40, u39_43, u39_44, u39_45, u39_48, u39_49, u39_52, u39_53, hN, lt, c1, mj_zF, mj_cc_v, mj_cc_n, List.all_cons, List.all_nil, mj_noMk_int, mj_noMk_long, mj_noMk_ref, mj_noMk_junk, List.length_nil, List.length_cons, Nat.zero_le, Nat.reduceLeDiff, Nat.reduceAdd, Bool.and_true, Bool.true_and, Bool.and_self, Nat.reduceBNe, true_or, or_true, true_and, and_true, mj_z0, mj_z1, mj_z01, decide_true, decide_false, Bool.true_and, Bool.false_and, Bool.and_true, Bool.and_false, Bool.true_or, Bool.false_or, Bool.or_false, Bool.or_true, Bool.not_true, Bool.not_false, Bool.and_self, Bool.or_self, if_true, if_false, Bool.true_eq_false, Bool.false_eq_true, not_true, not_false_eq_true]
/-- what the reader's promise lasts -/
def mj_lof (σ : mj_St) : Int32 := if σ.1 44 4 = 5 ∨ σ.1 44 4 = 6 then 0 else if σ.1 44 4 = 3 then (if 0 < σ.1 44 5 then (σ.1 44 7 - σ.1 44 6) / σ.1 44 5 + 1 else 0) else σ.1 44 5
theorem sp_lengthOf : mj_ev X (d + 2) 41 [.ref 44] σ = some (some (.int (mj_lof σ)), σ) := by
  have hs := sp_spansTill (X := X) (d := d) (σ := σ) (x := σ.1 44 7)
  unfold mj_lof
  refine st41 ?_
  by_cases c5 : σ.1 44 4 = 5
  · simp only [u41_0, u41_1, u41_4, u41_5, u41_8, u41_9, u41_12, u41_14, u41_17, u41_18, u41_19, u41_20, u41_23, u41_24, u41_27, u41_28, u41_29, u41_32, u41_35, u41_38, u41_39, u41_42, eq_true c5, true_or, mj_cc_v, mj_cc_n, List.all_cons, List.all_nil, mj_noMk_int, mj_noMk_long, mj_noMk_ref, mj_noMk_junk, List.length_nil, List.length_cons, Nat.zero_le, Nat.reduceLeDiff, Nat.reduceAdd, Bool.and_true, Bool.true_and, Bool.and_self, Nat.reduceBNe, true_or, or_true, true_and, and_true, mj_z0, mj_z1, mj_z01, decide_true, decide_false, Bool.true_and, Bool.false_and, Bool.and_true, Bool.and_false, Bool.true_or, Bool.false_or, Bool.or_false, Bool.or_true, Bool.not_true, Bool.not_false, Bool.and_self, Bool.or_self, if_true, if_false, Bool.true_eq_false, Bool.false_eq_true, not_true, not_false_eq_true]
  · by_cases c6 : σ.1 44 4 = 6
    · simp only [u41_0, u41_1, u41_4, u41_5, u41_8, u41_9, u41_12, u41_14, u41_17, u41_18, u41_19, u41_20, u41_23, u41_24, u41_27, u41_28, u41_29, u41_32, u41_35, u41_38, u41_39, u41_42, eq_false c5, eq_true c6, or_true, mj_cc_v, mj_cc_n, List.all_cons, List.all_nil, mj_noMk_int, mj_noMk_long, mj_noMk_ref, mj_noMk_junk, List.length_nil, List.length_cons, Nat.zero_le, Nat.reduceLeDiff, Nat.reduceAdd, Bool.and_true, Bool.true_and, Bool.and_self, Nat.reduceBNe, true_or, or_true, true_and, and_true, mj_z0, mj_z1, mj_z01, decide_true, decide_false, Bool.true_and, Bool.false_and, Bool.and_true, Bool.and_false, Bool.true_or, Bool.false_or, Bool.or_false, Bool.or_true, Bool.not_true, Bool.not_false, Bool.and_self, Bool.or_self, if_true, if_false, Bool.true_eq_false, Bool.false_eq_true, not_true, not_false_eq_true]
    · by_cases c3 : σ.1 44 4 = 3
      · rw [if_neg (fun z => z.elim c5 c6), if_pos c3]
        simp only [u41_0, u41_1, u41_4, u41_5, u41_8, u41_9, u41_12, u41_14, u41_17, u41_18, u41_19, u41_20, u41_23, u41_24, u41_27, u41_28, u41_29, u41_32, u41_35, u41_38, u41_39, u41_42, eq_false c5, eq_false c6, eq_true c3, hs, mj_cc_v, mj_cc_n, List.all_cons, List.all_nil, mj_noMk_int, mj_noMk_long, mj_noMk_ref, mj_noMk_junk, List.length_nil, List.length_cons, Nat.zero_le, Nat.reduceLeDiff, Nat.reduceAdd, Bool.and_true, Bool.true_and, Bool.and_self, Nat.reduceBNe, true_or, or_true, true_and, and_true, mj_z0, mj_z1, mj_z01, decide_true, decide_false, Bool.true_and, Bool.false_and, Bool.and_true, Bool.and_false, Bool.true_or, Bool.false_or, Bool.or_false, Bool.or_true, Bool.not_true, Bool.not_false, Bool.and_self, Bool.or_self, if_true, if_false, Bool.true_eq_false, Bool.false_eq_true, not_true, not_false_eq_true]
      · rw [if_neg (fun z => z.elim c5 c6), if_neg c3]
        simp only [u41_0, u41_1, u41_4, u41_5, u41_8, u41_9, u41_12, u41_14, u41_17, u41_18, u41_19, u41_20, u41_23, u41_24, u41_27, u41_28, u41_29, u41_32, u41_35, u41_38, u41_39, u41_42, eq_false c5, eq_false c6, eq_false c3, mj_cc_v, mj_cc_n, List.all_cons, List.all_nil, mj_noMk_int, mj_noMk_long, mj_noMk_ref, mj_noMk_junk, List.length_nil, List.length_cons, Nat.zero_le, Nat.reduceLeDiff, Nat.reduceAdd, Bool.and_true, Bool.true_and, Bool.and_self, Nat.reduceBNe, true_or, or_true, true_and, and_true, mj_z0, mj_z1, mj_z01, decide_true, decide_false, Bool.true_and, Bool.false_and, Bool.and_true, Bool.and_false, Bool.true_or, Bool.false_or, Bool.or_false, Bool.or_true, Bool.not_true, Bool.not_false, Bool.and_self, Bool.or_self, if_true, if_false, Bool.true_eq_false, Bool.false_eq_true, not_true, not_false_eq_true]
/-- the class with one more -/
def mj_adC (σ : mj_St) (N : Nat) : mj_St := mj_setI (mj_setI (mj_setI (mj_setI (mj_setI (mj_setI (mj_setI (mj_setI (mj_setI (mj_setI (mj_setI (mj_setI (mj_setI (mj_setI σ 15 N (σ.1 44 4)) 16 N (σ.1 44 6)) 17 N (σ.1 44 7)) 18 N (σ.1 44 8)) 19 N (σ.1 44 9)) 20 N (σ.1 44 10)) 21 N (σ.1 44 11)) 22 N (σ.1 44 12)) 23 N (σ.1 44 13)) 24 N (mj_lof σ)) 25 N (mj_lof σ)) 26 N (if σ.1 44 4 = 3 then σ.1 44 5 else 0)) 14 14 (nI (N + 1))) 14 15 (σ.1 14 15 + mj_z (mj_wk (σ.1 44 4)))
theorem sp_add {N : Nat} (hN : σ.1 14 14 = nI N) (h9 : N < 9) : mj_ev X (d + 3) 40 [.ref 14, .ref 44] σ = some (some (.int (nI N)), mj_adC σ N) := by
  have q : nI N < 9 := nI_lt (b := 9) h9 (by decide)
  have hwk : ∀ σ', mj_ev X (d + 2) 38 [.int (σ.1 44 4)] σ' = some (some (.int (mj_z (mj_wk (σ.1 44 4)))), σ') := fun σ' => sp_isWorkKind (d := d + 1)
  generalize hσ1 : mj_setI (mj_setI (mj_setI (mj_setI (mj_setI (mj_setI (mj_setI (mj_setI (mj_setI σ 15 N (σ.1 44 4)) 16 N (σ.1 44 6)) 17 N (σ.1 44 7)) 18 N (σ.1 44 8)) 19 N (σ.1 44 9)) 20 N (σ.1 44 10)) 21 N (σ.1 44 11)) 22 N (σ.1 44 12)) 23 N (σ.1 44 13) = σ1
  have e44 : σ1.1 44 = σ.1 44 := by
    rw [← hσ1]
    rfl
  have hlo : mj_ev X (d + 2) 41 [.ref 44] σ1 = some (some (.int (mj_lof σ)), σ1) := by
    have := sp_lengthOf (X := X) (d := d) (σ := σ1)
    unfold mj_lof at this ⊢
    rw [e44] at this
    exact this
  unfold mj_adC
  rw [hσ1]
  have e14 : ∀ i, σ1.1 14 i = σ.1 14 i := fun i => by
    rw [← hσ1]
    rfl
  have e24 : (mj_setI σ1 24 N (mj_lof σ)).1 24 N = mj_lof σ := mj_setI_eq
  have s4 : (mj_setI (mj_setI σ1 24 N (mj_lof σ)) 25 N (mj_lof σ)).1 44 4 = σ.1 44 4 := by
    show σ1.1 44 4 = σ.1 44 4
    rw [e44]
  have s5 : (mj_setI (mj_setI σ1 24 N (mj_lof σ)) 25 N (mj_lof σ)).1 44 5 = σ.1 44 5 := by
    show σ1.1 44 5 = σ.1 44 5
    rw [e44]
  have t14 : ∀ v, (mj_setI (mj_setI (mj_setI σ1 24 N (mj_lof σ)) 25 N (mj_lof σ)) 26 N v).1 14 14 = nI N := fun v => by
    show σ1.1 14 14 = nI N
    rw [e14, hN]
  have t15 : ∀ v w, (mj_setI (mj_setI (mj_setI (mj_setI σ1 24 N (mj_lof σ)) 25 N (mj_lof σ)) 26 N v) 14 14 w).1 14 15 = σ.1 14 15 := fun v w => by
    show σ1.1 14 15 = σ.1 14 15
    rw [e14]
  have t4 : ∀ v w, (mj_setI (mj_setI (mj_setI (mj_setI σ1 24 N (mj_lof σ)) 25 N (mj_lof σ)) 26 N v) 14 14 w).1 44 4 = σ.1 44 4 := fun v w => by
    show σ1.1 44 4 = σ.1 44 4
    rw [e44]
  -- up to the length
  have pre : ∀ r, mj_Runs X (mj_ev X (d + 2)) 1 (some .int) prog_3_method_5_code (103, [.ref 14, .ref 44, .int (nI N)], [], σ1) r → mj_ev X (d + 3) 40 [.ref 14, .ref 44] σ = some r := by
    intro r hr
    rw [← hσ1] at hr
    refine st40 ?_
    simp (config := {decide := true}) only [u40_0, u40_1, u40_4, u40_5, u40_6, u40_8, u40_11, u40_12, u40_13, u40_14, u40_17, u40_18, u40_19, u40_22, u40_23, u40_24, u40_27, u40_28, u40_29, u40_32, u40_33, u40_34, u40_37, u40_38, u40_39, u40_42, u40_43, u40_44, u40_47, u40_48, u40_49, u40_52, u40_53, u40_54, u40_57, u40_58, u40_59, u40_62, u40_63, u40_64, u40_67, u40_68, u40_69, u40_72, u40_73, u40_74, u40_77, u40_78, u40_79, u40_82, u40_83, u40_84, u40_87, u40_88, u40_89, u40_92, u40_93, u40_94, u40_97, u40_98, u40_99, u40_102, u40_104, u40_107, u40_108, u40_109, u40_112, u40_113, u40_114, u40_117, u40_118, u40_119, u40_122, u40_123, u40_124, u40_125, u40_126, u40_129, u40_130, u40_131, u40_134, u40_135, u40_138, u40_139, u40_142, u40_145, u40_146, u40_147, u40_148, u40_149, u40_152, u40_153, u40_154, u40_157, u40_158, u40_159, u40_162, u40_163, u40_166, u40_169, u40_172, u40_173, u40_176, u40_177, u40_178, u40_181, u40_182, hN, q, mj_rI, false_and, and_false, mj_in_nI h9 (by decide), mj_nz9 h9 (by decide), mj_cc_v, mj_cc_n, List.all_cons, List.all_nil, mj_noMk_int, mj_noMk_long, mj_noMk_ref, mj_noMk_junk, List.length_nil, List.length_cons, Nat.zero_le, Nat.reduceLeDiff, Nat.reduceAdd, Bool.and_true, Bool.true_and, Bool.and_self, Nat.reduceBNe, true_or, or_true, true_and, and_true, mj_z0, mj_z1, mj_z01, decide_true, decide_false, Bool.true_and, Bool.false_and, Bool.and_true, Bool.and_false, Bool.true_or, Bool.false_or, Bool.or_false, Bool.or_true, Bool.not_true, Bool.not_false, Bool.and_self, Bool.or_self, if_true, if_false, Bool.true_eq_false, Bool.false_eq_true, not_true, not_false_eq_true]
    exact hr
  refine pre _ (u40_103.mpr ?_)
  by_cases c3 : σ.1 44 4 = 3
  · rw [if_pos c3]
    cases c : mj_wk (σ.1 44 4)
    · rw [c] at hwk
      simp only [u40_0, u40_1, u40_4, u40_5, u40_6, u40_8, u40_11, u40_12, u40_13, u40_14, u40_17, u40_18, u40_19, u40_22, u40_23, u40_24, u40_27, u40_28, u40_29, u40_32, u40_33, u40_34, u40_37, u40_38, u40_39, u40_42, u40_43, u40_44, u40_47, u40_48, u40_49, u40_52, u40_53, u40_54, u40_57, u40_58, u40_59, u40_62, u40_63, u40_64, u40_67, u40_68, u40_69, u40_72, u40_73, u40_74, u40_77, u40_78, u40_79, u40_82, u40_83, u40_84, u40_87, u40_88, u40_89, u40_92, u40_93, u40_94, u40_97, u40_98, u40_99, u40_102, u40_104, u40_107, u40_108, u40_109, u40_112, u40_113, u40_114, u40_117, u40_118, u40_119, u40_122, u40_123, u40_124, u40_125, u40_126, u40_129, u40_130, u40_131, u40_134, u40_135, u40_138, u40_139, u40_142, u40_145, u40_146, u40_147, u40_148, u40_149, u40_152, u40_153, u40_154, u40_157, u40_158, u40_159, u40_162, u40_163, u40_166, u40_169, u40_172, u40_173, u40_176, u40_177, u40_178, u40_181, u40_182, hlo, e24, s4, eq_true c3, s5, t14, t15, t4, hwk, mj_in_nI h9 (by decide), mj_nz9 h9 (by decide), mj_zF, mj_zT, mj_n10, nI_1, mj_cc_v, mj_cc_n, List.all_cons, List.all_nil, mj_noMk_int, mj_noMk_long, mj_noMk_ref, mj_noMk_junk, List.length_nil, List.length_cons, Nat.zero_le, Nat.reduceLeDiff, Nat.reduceAdd, Bool.and_true, Bool.true_and, Bool.and_self, Nat.reduceBNe, true_or, or_true, true_and, and_true, mj_z0, mj_z1, mj_z01, decide_true, decide_false, Bool.true_and, Bool.false_and, Bool.and_true, Bool.and_false, Bool.true_or, Bool.false_or, Bool.or_false, Bool.or_true, Bool.not_true, Bool.not_false, Bool.and_self, Bool.or_self, if_true, if_false, Bool.true_eq_false, Bool.false_eq_true, not_true, not_false_eq_true]
    · rw [c] at hwk
      simp only [u40_0, u40_1, u40_4, u40_5, u40_6, u40_8, u40_11, u40_12, u40_13, u40_14, u40_17, u40_18, u40_19, u40_22, u40_23, u40_24, u40_27, u40_28, u40_29, u40_32, u40_33, u40_34, u40_37, u40_38, u40_39, u40_42, u40_43, u40_44, u40_47, u40_48, u40_49, u40_52, u40_53, u40_54, u40_57, u40_58, u40_59, u40_62, u40_63, u40_64, u40_67, u40_68, u40_69, u40_72, u40_73, u40_74, u40_77, u40_78, u40_79, u40_82, u40_83, u40_84, u40_87, u40_88, u40_89, u40_92, u40_93, u40_94, u40_97, u40_98, u40_99, u40_102, u40_104, u40_107, u40_108, u40_109, u40_112, u40_113, u40_114, u40_117, u40_118, u40_119, u40_122, u40_123, u40_124, u40_125, u40_126, u40_129, u40_130, u40_131, u40_134, u40_135, u40_138, u40_139, u40_142, u40_145, u40_146, u40_147, u40_148, u40_149, u40_152, u40_153, u40_154, u40_157, u40_158, u40_159, u40_162, u40_163, u40_166, u40_169, u40_172, u40_173, u40_176, u40_177, u40_178, u40_181, u40_182, hlo, e24, s4, eq_true c3, s5, t14, t15, t4, hwk, mj_in_nI h9 (by decide), mj_nz9 h9 (by decide), mj_zF, mj_zT, mj_n10, nI_1, mj_cc_v, mj_cc_n, List.all_cons, List.all_nil, mj_noMk_int, mj_noMk_long, mj_noMk_ref, mj_noMk_junk, List.length_nil, List.length_cons, Nat.zero_le, Nat.reduceLeDiff, Nat.reduceAdd, Bool.and_true, Bool.true_and, Bool.and_self, Nat.reduceBNe, true_or, or_true, true_and, and_true, mj_z0, mj_z1, mj_z01, decide_true, decide_false, Bool.true_and, Bool.false_and, Bool.and_true, Bool.and_false, Bool.true_or, Bool.false_or, Bool.or_false, Bool.or_true, Bool.not_true, Bool.not_false, Bool.and_self, Bool.or_self, if_true, if_false, Bool.true_eq_false, Bool.false_eq_true, not_true, not_false_eq_true]
  · rw [if_neg c3]
    cases c : mj_wk (σ.1 44 4)
    · rw [c] at hwk
      simp only [u40_0, u40_1, u40_4, u40_5, u40_6, u40_8, u40_11, u40_12, u40_13, u40_14, u40_17, u40_18, u40_19, u40_22, u40_23, u40_24, u40_27, u40_28, u40_29, u40_32, u40_33, u40_34, u40_37, u40_38, u40_39, u40_42, u40_43, u40_44, u40_47, u40_48, u40_49, u40_52, u40_53, u40_54, u40_57, u40_58, u40_59, u40_62, u40_63, u40_64, u40_67, u40_68, u40_69, u40_72, u40_73, u40_74, u40_77, u40_78, u40_79, u40_82, u40_83, u40_84, u40_87, u40_88, u40_89, u40_92, u40_93, u40_94, u40_97, u40_98, u40_99, u40_102, u40_104, u40_107, u40_108, u40_109, u40_112, u40_113, u40_114, u40_117, u40_118, u40_119, u40_122, u40_123, u40_124, u40_125, u40_126, u40_129, u40_130, u40_131, u40_134, u40_135, u40_138, u40_139, u40_142, u40_145, u40_146, u40_147, u40_148, u40_149, u40_152, u40_153, u40_154, u40_157, u40_158, u40_159, u40_162, u40_163, u40_166, u40_169, u40_172, u40_173, u40_176, u40_177, u40_178, u40_181, u40_182, hlo, e24, s4, eq_false c3, s5, t14, t15, t4, hwk, mj_in_nI h9 (by decide), mj_nz9 h9 (by decide), mj_zF, mj_zT, mj_n10, nI_1, mj_cc_v, mj_cc_n, List.all_cons, List.all_nil, mj_noMk_int, mj_noMk_long, mj_noMk_ref, mj_noMk_junk, List.length_nil, List.length_cons, Nat.zero_le, Nat.reduceLeDiff, Nat.reduceAdd, Bool.and_true, Bool.true_and, Bool.and_self, Nat.reduceBNe, true_or, or_true, true_and, and_true, mj_z0, mj_z1, mj_z01, decide_true, decide_false, Bool.true_and, Bool.false_and, Bool.and_true, Bool.and_false, Bool.true_or, Bool.false_or, Bool.or_false, Bool.or_true, Bool.not_true, Bool.not_false, Bool.and_self, Bool.or_self, if_true, if_false, Bool.true_eq_false, Bool.false_eq_true, not_true, not_false_eq_true]
    · rw [c] at hwk
      simp only [u40_0, u40_1, u40_4, u40_5, u40_6, u40_8, u40_11, u40_12, u40_13, u40_14, u40_17, u40_18, u40_19, u40_22, u40_23, u40_24, u40_27, u40_28, u40_29, u40_32, u40_33, u40_34, u40_37, u40_38, u40_39, u40_42, u40_43, u40_44, u40_47, u40_48, u40_49, u40_52, u40_53, u40_54, u40_57, u40_58, u40_59, u40_62, u40_63, u40_64, u40_67, u40_68, u40_69, u40_72, u40_73, u40_74, u40_77, u40_78, u40_79, u40_82, u40_83, u40_84, u40_87, u40_88, u40_89, u40_92, u40_93, u40_94, u40_97, u40_98, u40_99, u40_102, u40_104, u40_107, u40_108, u40_109, u40_112, u40_113, u40_114, u40_117, u40_118, u40_119, u40_122, u40_123, u40_124, u40_125, u40_126, u40_129, u40_130, u40_131, u40_134, u40_135, u40_138, u40_139, u40_142, u40_145, u40_146, u40_147, u40_148, u40_149, u40_152, u40_153, u40_154, u40_157, u40_158, u40_159, u40_162, u40_163, u40_166, u40_169, u40_172, u40_173, u40_176, u40_177, u40_178, u40_181, u40_182, hlo, e24, s4, eq_false c3, s5, t14, t15, t4, hwk, mj_in_nI h9 (by decide), mj_nz9 h9 (by decide), mj_zF, mj_zT, mj_n10, nI_1, mj_cc_v, mj_cc_n, List.all_cons, List.all_nil, mj_noMk_int, mj_noMk_long, mj_noMk_ref, mj_noMk_junk, List.length_nil, List.length_cons, Nat.zero_le, Nat.reduceLeDiff, Nat.reduceAdd, Bool.and_true, Bool.true_and, Bool.and_self, Nat.reduceBNe, true_or, or_true, true_and, and_true, mj_z0, mj_z1, mj_z01, decide_true, decide_false, Bool.true_and, Bool.false_and, Bool.and_true, Bool.and_false, Bool.true_or, Bool.false_or, Bool.or_false, Bool.or_true, Bool.not_true, Bool.not_false, Bool.and_self, Bool.or_self, if_true, if_false, Bool.true_eq_false, Bool.false_eq_true, not_true, not_false_eq_true]
def mj_drC (σ : mj_St) (N : Nat) : mj_St := mj_setI (mj_setI σ 14 14 (nI N)) 14 15 (σ.1 14 15 - mj_z (mj_wk (σ.1 15 N)))
theorem sp_dropLast {N : Nat} (hN : σ.1 14 14 = nI (N + 1)) (h9 : N < 9) : mj_ev X (d + 2) 122 [.ref 14] σ = some (none, mj_drC σ N) := by
  have q : (0 : Int32) < nI (N + 1) := nI_lt (a := 0) (by omega) (by omega)
  have e14 : (mj_setI σ 14 14 (nI N)).1 14 14 = nI N := mj_setI_eq
  have e15 : (mj_setI σ 14 14 (nI N)).1 14 15 = σ.1 14 15 := rfl
  have e15b : (mj_setI σ 14 14 (nI N)).1 15 N = σ.1 15 N := rfl
  have hwk : mj_ev X (d + 1) 38 [.int (σ.1 15 N)] (mj_setI σ 14 14 (nI N)) = some (some (.int (mj_z (mj_wk (σ.1 15 N)))), mj_setI σ 14 14 (nI N)) := sp_isWorkKind
  unfold mj_drC
  refine st122 ?_
  cases c : mj_wk (σ.1 15 N)
  · rw [c] at hwk
    simp only [u122_0, u122_1, u122_4, u122_7, u122_8, u122_9, u122_12, u122_13, u122_14, u122_17, u122_18, u122_19, u122_22, u122_23, u122_26, u122_27, u122_30, u122_31, u122_34, u122_37, u122_38, u122_41, u122_42, u122_43, u122_46, hN, q, mj_sub1, e14, e15, e15b, hwk, mj_in_nI h9 (by decide), mj_nz9 h9 (by decide), mj_zF, mj_cc_v, mj_cc_n, List.all_cons, List.all_nil, mj_noMk_int, mj_noMk_long, mj_noMk_ref, mj_noMk_junk, List.length_nil, List.length_cons, Nat.zero_le, Nat.reduceLeDiff, Nat.reduceAdd, Bool.and_true, Bool.true_and, Bool.and_self, Nat.reduceBNe, true_or, or_true, true_and, and_true, mj_z0, mj_z1, mj_z01, decide_true, decide_false, Bool.true_and, Bool.false_and, Bool.and_true, Bool.and_false, Bool.true_or, Bool.false_or, Bool.or_false, Bool.or_true, Bool.not_true, Bool.not_false, Bool.and_self, Bool.or_self, if_true, if_false, Bool.true_eq_false, Bool.false_eq_true, not_true, not_false_eq_true]
  · rw [c] at hwk
    simp only [u122_0, u122_1, u122_4, u122_7, u122_8, u122_9, u122_12, u122_13, u122_14, u122_17, u122_18, u122_19, u122_22, u122_23, u122_26, u122_27, u122_30, u122_31, u122_34, u122_37, u122_38, u122_41, u122_42, u122_43, u122_46, hN, q, mj_sub1, e14, e15, e15b, hwk, mj_in_nI h9 (by decide), mj_nz9 h9 (by decide), mj_zT, mj_n10, mj_cc_v, mj_cc_n, List.all_cons, List.all_nil, mj_noMk_int, mj_noMk_long, mj_noMk_ref, mj_noMk_junk, List.length_nil, List.length_cons, Nat.zero_le, Nat.reduceLeDiff, Nat.reduceAdd, Bool.and_true, Bool.true_and, Bool.and_self, Nat.reduceBNe, true_or, or_true, true_and, and_true, mj_z0, mj_z1, mj_z01, decide_true, decide_false, Bool.true_and, Bool.false_and, Bool.and_true, Bool.and_false, Bool.true_or, Bool.false_or, Bool.or_false, Bool.or_true, Bool.not_true, Bool.not_false, Bool.and_self, Bool.or_self, if_true, if_false, Bool.true_eq_false, Bool.false_eq_true, not_true, not_false_eq_true]
theorem sp_rfA {w : Int32} (h : mj_inb (-w) 8 = true) (h0 : 0 < -w) : mj_ev X (d + 1) 3 [.ref 0, .int w] σ = some (some (.int w), mj_rfC σ w) := sp_refuse h0 h
-- promise
theorem sp_promise_no {s : Int32} (hrr : ¬ mj_rr σ s = 0) : mj_ev X (d + 4) 19 [.ref 0, .int s] σ = some (some (.int (mj_rr σ s)), mj_rfC σ (mj_rr σ s)) := by
  have h := sp_readingRefusal_no (X := X) (d := d) hrr
  have hr : mj_ev X (d + 3) 3 [.ref 0, .int (mj_rr σ s)] σ = some (some (.int (mj_rr σ s)), mj_rfC σ (mj_rr σ s)) := sp_rfr (d := d + 2) hrr
  refine st19 ?_
  simp only [u19_0, u19_1, u19_2, u19_5, u19_6, u19_7, u19_10, u19_11, u19_14, u19_15, u19_18, u19_21, u19_24, u19_27, u19_29, u19_30, u19_31, u19_34, u19_35, u19_36, u19_39, u19_40, u19_41, u19_44, u19_45, u19_48, u19_51, h, hrr, hr, mj_cc_v, mj_cc_n, List.all_cons, List.all_nil, mj_noMk_int, mj_noMk_long, mj_noMk_ref, mj_noMk_junk, List.length_nil, List.length_cons, Nat.zero_le, Nat.reduceLeDiff, Nat.reduceAdd, Bool.and_true, Bool.true_and, Bool.and_self, Nat.reduceBNe, true_or, or_true, true_and, and_true, mj_z0, mj_z1, mj_z01, decide_true, decide_false, Bool.true_and, Bool.false_and, Bool.and_true, Bool.and_false, Bool.true_or, Bool.false_or, Bool.or_false, Bool.or_true, Bool.not_true, Bool.not_false, Bool.and_self, Bool.or_self, if_true, if_false, Bool.true_eq_false, Bool.false_eq_true, not_true, not_false_eq_true]
theorem mj_cby_or {s e : Nat} : mj_cby σ s e = 0 ∨ mj_cby σ s e = -6 := by
  unfold mj_cby
  split
  · exact Or.inl rfl
  · exact Or.inr rfl
theorem mj_cby_ok {s e : Nat} (h : mj_cby σ s e = 0) : (mj_ctx σ s e).1 = true ∧ ¬ (mj_ctx σ s e).2.2 34 < σ.1 14 17 := by
  unfold mj_cby at h
  by_cases c : (mj_ctx σ s e).1 = true ∧ ¬ (mj_ctx σ s e).2.2 34 < σ.1 14 17
  · exact c
  · rw [if_neg c] at h
    exact absurd h (by decide)
theorem sp_promise {s e N : Nat} (hs : s < 8) (hrr : mj_rr σ (nI s) = 0) (hsz : σ.1 2 s = nI e) (he : e ≤ 60) (hN : σ.1 14 14 = nI N) (h9 : N ≤ 9) : ∃ ρ, mj_Fc 44 mj_AF (mj_setR σ 44 0 (some (4 + s))) ρ ∧ ((mj_ctx σ s e).1 = true → mj_crd ρ (mj_ctx σ s e).2.2) ∧ ∀ d, mj_ev X (d + 8) 19 [.ref 0, .int (nI s)] σ = some (if mj_cby σ s e = 0 then (if mj_rmC ρ (ρ.1 44 4) N = true then (some (.int (nI N)), mj_adC (mj_setI ρ 0 12 (mj_cft σ s e)) N) else (some (.int (-7)), mj_rfC (mj_setI ρ 0 12 (mj_cft σ s e)) (-7))) else (some (.int (-6)), mj_rfC (mj_setI ρ 0 12 (mj_cft σ s e)) (-6))) := by
  obtain ⟨ρ, F, hc, hr⟩ := sp_readingRefusal (X := X) hs hrr hsz he hN h9
  refine ⟨ρ, F, hc, fun d => ?_⟩
  have hrd := hr d
  have hNρ : (mj_setI ρ 0 12 (mj_cft σ s e)).1 14 14 = nI N := by
    rw [mj_setI_ne _ _ _ (by decide), F.2.1 14 (by decide)]
    exact hN
  have h7 : mj_ev X (d + 7) 3 [.ref 0, .int (-7)] (mj_setI ρ 0 12 (mj_cft σ s e)) = _ := sp_rf7 (d := d + 6)
  have h6 : mj_ev X (d + 7) 3 [.ref 0, .int (-6)] (mj_setI ρ 0 12 (mj_cft σ s e)) = _ := sp_rf6 (d := d + 6)
  have e4 : (mj_setI ρ 0 12 (mj_cft σ s e)).1 44 4 = ρ.1 44 4 := rfl
  have hrm : mj_ev X (d + 7) 39 [.ref 14, .int (ρ.1 44 4)] (mj_setI ρ 0 12 (mj_cft σ s e)) = some (some (.int (mj_z (mj_rmC ρ (ρ.1 44 4) N))), mj_setI ρ 0 12 (mj_cft σ s e)) := sp_hasRoomFor (d := d + 5) hNρ h9
  have n6 : ¬ (-6 : Int32) = 0 := by decide
  have n7 : ¬ (-7 : Int32) = 0 := by decide
  refine st19 ?_
  rcases mj_cby_or (σ := σ) (s := s) (e := e) with c | c
  · rw [c] at hrd
    rw [if_pos c]
    rcases (Bool.eq_false_or_eq_true (mj_rmC ρ (ρ.1 44 4) N)).symm with g | g
    · rw [g] at hrm
      rw [if_neg (by rw [g]; decide)]
      simp only [u19_0, u19_1, u19_2, u19_5, u19_6, u19_7, u19_10, u19_11, u19_14, u19_15, u19_18, u19_21, u19_24, u19_27, u19_29, u19_30, u19_31, u19_34, u19_35, u19_36, u19_39, u19_40, u19_41, u19_44, u19_45, u19_48, u19_51, hrd, e4, hrm, h7, n7, mj_zF, mj_cc_v, mj_cc_n, List.all_cons, List.all_nil, mj_noMk_int, mj_noMk_long, mj_noMk_ref, mj_noMk_junk, List.length_nil, List.length_cons, Nat.zero_le, Nat.reduceLeDiff, Nat.reduceAdd, Bool.and_true, Bool.true_and, Bool.and_self, Nat.reduceBNe, true_or, or_true, true_and, and_true, mj_z0, mj_z1, mj_z01, decide_true, decide_false, Bool.true_and, Bool.false_and, Bool.and_true, Bool.and_false, Bool.true_or, Bool.false_or, Bool.or_false, Bool.or_true, Bool.not_true, Bool.not_false, Bool.and_self, Bool.or_self, if_true, if_false, Bool.true_eq_false, Bool.false_eq_true, not_true, not_false_eq_true]
    · have hN9 : N < 9 := by
        unfold mj_rmC at g
        simp only [Bool.and_eq_true, decide_eq_true_eq] at g
        exact g.1
      have had : mj_ev X (d + 7) 40 [.ref 14, .ref 44] (mj_setI ρ 0 12 (mj_cft σ s e)) = _ := sp_add (d := d + 4) hNρ hN9
      rw [g] at hrm
      rw [if_pos g]
      simp only [u19_0, u19_1, u19_2, u19_5, u19_6, u19_7, u19_10, u19_11, u19_14, u19_15, u19_18, u19_21, u19_24, u19_27, u19_29, u19_30, u19_31, u19_34, u19_35, u19_36, u19_39, u19_40, u19_41, u19_44, u19_45, u19_48, u19_51, hrd, e4, hrm, had, mj_zT, mj_n10, mj_cc_v, mj_cc_n, List.all_cons, List.all_nil, mj_noMk_int, mj_noMk_long, mj_noMk_ref, mj_noMk_junk, List.length_nil, List.length_cons, Nat.zero_le, Nat.reduceLeDiff, Nat.reduceAdd, Bool.and_true, Bool.true_and, Bool.and_self, Nat.reduceBNe, true_or, or_true, true_and, and_true, mj_z0, mj_z1, mj_z01, decide_true, decide_false, Bool.true_and, Bool.false_and, Bool.and_true, Bool.and_false, Bool.true_or, Bool.false_or, Bool.or_false, Bool.or_true, Bool.not_true, Bool.not_false, Bool.and_self, Bool.or_self, if_true, if_false, Bool.true_eq_false, Bool.false_eq_true, not_true, not_false_eq_true]
  · rw [c] at hrd
    rw [if_neg (by rw [c]; decide)]
    simp only [u19_0, u19_1, u19_2, u19_5, u19_6, u19_7, u19_10, u19_11, u19_14, u19_15, u19_18, u19_21, u19_24, u19_27, u19_29, u19_30, u19_31, u19_34, u19_35, u19_36, u19_39, u19_40, u19_41, u19_44, u19_45, u19_48, u19_51, hrd, n6, h6, mj_cc_v, mj_cc_n, List.all_cons, List.all_nil, mj_noMk_int, mj_noMk_long, mj_noMk_ref, mj_noMk_junk, List.length_nil, List.length_cons, Nat.zero_le, Nat.reduceLeDiff, Nat.reduceAdd, Bool.and_true, Bool.true_and, Bool.and_self, Nat.reduceBNe, true_or, or_true, true_and, and_true, mj_z0, mj_z1, mj_z01, decide_true, decide_false, Bool.true_and, Bool.false_and, Bool.and_true, Bool.and_false, Bool.true_or, Bool.false_or, Bool.or_false, Bool.or_true, Bool.not_true, Bool.not_false, Bool.and_self, Bool.or_self, if_true, if_false, Bool.true_eq_false, Bool.false_eq_true, not_true, not_false_eq_true]
end
