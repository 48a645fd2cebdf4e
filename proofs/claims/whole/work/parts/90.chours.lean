section
variable {X : mj_X} {d : Nat} {σ τ ρ : mj_St}
theorem sp_spansTill {x : Int32} : mj_ev X (d + 1) 31 [.ref 44, .int x] σ = some (some (.int (if 0 < σ.1 44 5 then (x - σ.1 44 6) / σ.1 44 5 + 1 else 0)), σ) := by
  refine st31 ?_
  by_cases c : 0 < σ.1 44 5
  · have c0 : ¬ σ.1 44 5 = 0 := by
      intro z
      rw [z] at c
      exact absurd c (by decide)
    simp only [u31_0, u31_1, u31_4, u31_7, u31_8, u31_9, u31_12, u31_13, u31_14, u31_17, u31_18, u31_19, u31_20, u31_23, u31_24, c, c0, mj_cc_v, mj_cc_n, List.all_cons, List.all_nil, mj_noMk_int, mj_noMk_long, mj_noMk_ref, mj_noMk_junk, List.length_nil, List.length_cons, Nat.zero_le, Nat.reduceLeDiff, Nat.reduceAdd, Bool.and_true, Bool.true_and, Bool.and_self, Nat.reduceBNe, true_or, or_true, true_and, and_true, mj_z0, mj_z1, mj_z01, decide_true, decide_false, Bool.true_and, Bool.false_and, Bool.and_true, Bool.and_false, Bool.true_or, Bool.false_or, Bool.or_false, Bool.or_true, Bool.not_true, Bool.not_false, Bool.and_self, Bool.or_self, if_true, if_false, Bool.true_eq_false, Bool.false_eq_true, not_true, not_false_eq_true]
  · simp only [u31_0, u31_1, u31_4, u31_7, u31_8, u31_9, u31_12, u31_13, u31_14, u31_17, u31_18, u31_19, u31_20, u31_23, u31_24, c, mj_cc_v, mj_cc_n, List.all_cons, List.all_nil, mj_noMk_int, mj_noMk_long, mj_noMk_ref, mj_noMk_junk, List.length_nil, List.length_cons, Nat.zero_le, Nat.reduceLeDiff, Nat.reduceAdd, Bool.and_true, Bool.true_and, Bool.and_self, Nat.reduceBNe, true_or, or_true, true_and, and_true, mj_z0, mj_z1, mj_z01, decide_true, decide_false, Bool.true_and, Bool.false_and, Bool.and_true, Bool.and_false, Bool.true_or, Bool.false_or, Bool.or_false, Bool.or_true, Bool.not_true, Bool.not_false, Bool.and_self, Bool.or_self, if_true, if_false, Bool.true_eq_false, Bool.false_eq_true, not_true, not_false_eq_true]
/-- whether a work lasts no longer than its hours -/
def mj_hlt (kd nb fr x : Int32) : Bool := if kd = 5 ∨ kd = 6 then true else if kd = 3 then decide (¬ 3 < (if 0 < nb then (x - fr) / nb + 1 else 0)) else decide (¬ x - fr + 1 < nb)
theorem sp_hasLengthTill {x : Int32} : mj_ev X (d + 2) 30 [.ref 44, .int x] σ = some (some (.int (mj_z (mj_hlt (σ.1 44 4) (σ.1 44 5) (σ.1 44 6) x))), σ) := by
  have hs := sp_spansTill (X := X) (d := d) (σ := σ) (x := x)
  unfold mj_hlt
  refine st30 ?_
  by_cases c5 : σ.1 44 4 = 5
  · simp only [u30_0, u30_1, u30_4, u30_5, u30_8, u30_9, u30_12, u30_14, u30_17, u30_18, u30_19, u30_20, u30_23, u30_24, u30_27, u30_28, u30_29, u30_32, u30_33, u30_36, u30_37, u30_40, u30_41, u30_44, u30_45, u30_46, u30_49, u30_50, u30_51, u30_52, u30_53, u30_56, u30_59, u30_60, u30_63, u30_64, c5, true_or, mj_zT, mj_cc_v, mj_cc_n, List.all_cons, List.all_nil, mj_noMk_int, mj_noMk_long, mj_noMk_ref, mj_noMk_junk, List.length_nil, List.length_cons, Nat.zero_le, Nat.reduceLeDiff, Nat.reduceAdd, Bool.and_true, Bool.true_and, Bool.and_self, Nat.reduceBNe, true_or, or_true, true_and, and_true, mj_z0, mj_z1, mj_z01, decide_true, decide_false, Bool.true_and, Bool.false_and, Bool.and_true, Bool.and_false, Bool.true_or, Bool.false_or, Bool.or_false, Bool.or_true, Bool.not_true, Bool.not_false, Bool.and_self, Bool.or_self, if_true, if_false, Bool.true_eq_false, Bool.false_eq_true, not_true, not_false_eq_true]
  · by_cases c6 : σ.1 44 4 = 6
    · simp only [u30_0, u30_1, u30_4, u30_5, u30_8, u30_9, u30_12, u30_14, u30_17, u30_18, u30_19, u30_20, u30_23, u30_24, u30_27, u30_28, u30_29, u30_32, u30_33, u30_36, u30_37, u30_40, u30_41, u30_44, u30_45, u30_46, u30_49, u30_50, u30_51, u30_52, u30_53, u30_56, u30_59, u30_60, u30_63, u30_64, eq_false c5, eq_true c6, or_true, mj_zT, mj_cc_v, mj_cc_n, List.all_cons, List.all_nil, mj_noMk_int, mj_noMk_long, mj_noMk_ref, mj_noMk_junk, List.length_nil, List.length_cons, Nat.zero_le, Nat.reduceLeDiff, Nat.reduceAdd, Bool.and_true, Bool.true_and, Bool.and_self, Nat.reduceBNe, true_or, or_true, true_and, and_true, mj_z0, mj_z1, mj_z01, decide_true, decide_false, Bool.true_and, Bool.false_and, Bool.and_true, Bool.and_false, Bool.true_or, Bool.false_or, Bool.or_false, Bool.or_true, Bool.not_true, Bool.not_false, Bool.and_self, Bool.or_self, if_true, if_false, Bool.true_eq_false, Bool.false_eq_true, not_true, not_false_eq_true]
    · by_cases c3 : σ.1 44 4 = 3
      · rw [if_neg (fun z => z.elim c5 c6), if_pos c3]
        generalize (if 0 < σ.1 44 5 then (x - σ.1 44 6) / σ.1 44 5 + 1 else 0) = v at *
        by_cases c7 : 3 < v
        · simp only [u30_0, u30_1, u30_4, u30_5, u30_8, u30_9, u30_12, u30_14, u30_17, u30_18, u30_19, u30_20, u30_23, u30_24, u30_27, u30_28, u30_29, u30_32, u30_33, u30_36, u30_37, u30_40, u30_41, u30_44, u30_45, u30_46, u30_49, u30_50, u30_51, u30_52, u30_53, u30_56, u30_59, u30_60, u30_63, u30_64, eq_false c5, eq_false c6, eq_true c3, hs, c7, mj_zF, mj_cc_v, mj_cc_n, List.all_cons, List.all_nil, mj_noMk_int, mj_noMk_long, mj_noMk_ref, mj_noMk_junk, List.length_nil, List.length_cons, Nat.zero_le, Nat.reduceLeDiff, Nat.reduceAdd, Bool.and_true, Bool.true_and, Bool.and_self, Nat.reduceBNe, true_or, or_true, true_and, and_true, mj_z0, mj_z1, mj_z01, decide_true, decide_false, Bool.true_and, Bool.false_and, Bool.and_true, Bool.and_false, Bool.true_or, Bool.false_or, Bool.or_false, Bool.or_true, Bool.not_true, Bool.not_false, Bool.and_self, Bool.or_self, if_true, if_false, Bool.true_eq_false, Bool.false_eq_true, not_true, not_false_eq_true]
        · simp only [u30_0, u30_1, u30_4, u30_5, u30_8, u30_9, u30_12, u30_14, u30_17, u30_18, u30_19, u30_20, u30_23, u30_24, u30_27, u30_28, u30_29, u30_32, u30_33, u30_36, u30_37, u30_40, u30_41, u30_44, u30_45, u30_46, u30_49, u30_50, u30_51, u30_52, u30_53, u30_56, u30_59, u30_60, u30_63, u30_64, eq_false c5, eq_false c6, eq_true c3, hs, c7, mj_zT, mj_cc_v, mj_cc_n, List.all_cons, List.all_nil, mj_noMk_int, mj_noMk_long, mj_noMk_ref, mj_noMk_junk, List.length_nil, List.length_cons, Nat.zero_le, Nat.reduceLeDiff, Nat.reduceAdd, Bool.and_true, Bool.true_and, Bool.and_self, Nat.reduceBNe, true_or, or_true, true_and, and_true, mj_z0, mj_z1, mj_z01, decide_true, decide_false, Bool.true_and, Bool.false_and, Bool.and_true, Bool.and_false, Bool.true_or, Bool.false_or, Bool.or_false, Bool.or_true, Bool.not_true, Bool.not_false, Bool.and_self, Bool.or_self, if_true, if_false, Bool.true_eq_false, Bool.false_eq_true, not_true, not_false_eq_true]
      · rw [if_neg (fun z => z.elim c5 c6), if_neg c3]
        by_cases c7 : x - σ.1 44 6 + 1 < σ.1 44 5
        · simp only [u30_0, u30_1, u30_4, u30_5, u30_8, u30_9, u30_12, u30_14, u30_17, u30_18, u30_19, u30_20, u30_23, u30_24, u30_27, u30_28, u30_29, u30_32, u30_33, u30_36, u30_37, u30_40, u30_41, u30_44, u30_45, u30_46, u30_49, u30_50, u30_51, u30_52, u30_53, u30_56, u30_59, u30_60, u30_63, u30_64, eq_false c5, eq_false c6, eq_false c3, c7, mj_zF, mj_cc_v, mj_cc_n, List.all_cons, List.all_nil, mj_noMk_int, mj_noMk_long, mj_noMk_ref, mj_noMk_junk, List.length_nil, List.length_cons, Nat.zero_le, Nat.reduceLeDiff, Nat.reduceAdd, Bool.and_true, Bool.true_and, Bool.and_self, Nat.reduceBNe, true_or, or_true, true_and, and_true, mj_z0, mj_z1, mj_z01, decide_true, decide_false, Bool.true_and, Bool.false_and, Bool.and_true, Bool.and_false, Bool.true_or, Bool.false_or, Bool.or_false, Bool.or_true, Bool.not_true, Bool.not_false, Bool.and_self, Bool.or_self, if_true, if_false, Bool.true_eq_false, Bool.false_eq_true, not_true, not_false_eq_true]
        · simp only [u30_0, u30_1, u30_4, u30_5, u30_8, u30_9, u30_12, u30_14, u30_17, u30_18, u30_19, u30_20, u30_23, u30_24, u30_27, u30_28, u30_29, u30_32, u30_33, u30_36, u30_37, u30_40, u30_41, u30_44, u30_45, u30_46, u30_49, u30_50, u30_51, u30_52, u30_53, u30_56, u30_59, u30_60, u30_63, u30_64, eq_false c5, eq_false c6, eq_false c3, c7, mj_zT, mj_cc_v, mj_cc_n, List.all_cons, List.all_nil, mj_noMk_int, mj_noMk_long, mj_noMk_ref, mj_noMk_junk, List.length_nil, List.length_cons, Nat.zero_le, Nat.reduceLeDiff, Nat.reduceAdd, Bool.and_true, Bool.true_and, Bool.and_self, Nat.reduceBNe, true_or, or_true, true_and, and_true, mj_z0, mj_z1, mj_z01, decide_true, decide_false, Bool.true_and, Bool.false_and, Bool.and_true, Bool.and_false, Bool.true_or, Bool.false_or, Bool.or_false, Bool.or_true, Bool.not_true, Bool.not_false, Bool.and_self, Bool.or_self, if_true, if_false, Bool.true_eq_false, Bool.false_eq_true, not_true, not_false_eq_true]
theorem mj_nok_ds {L : Nat → Int32} {e a : Nat} {hi : Int32} : (mj_dig L e a && (decide (¬ (mj_ds L e a).2 < 0) && decide (¬ hi < (mj_ds L e a).2))) = mj_dsok L e hi a := by
  unfold mj_dsok
  rcases (Bool.eq_false_or_eq_true (mj_dig L e a)).symm with c | c
  · rw [c, Bool.false_and, Bool.false_and]
  · obtain ⟨n, hn, e1⟩ := mj_ds_in c
    rw [e1, decide_eq_true (show ¬ nI n < 0 from nI_nlt (b := 0) (Nat.zero_le _) (by omega)), Bool.true_and]
/-- the kinds as numbers -/
theorem mj_kd_cases {kd : Int32} {k : Nat} (hk : kd = nI k) (k1 : 1 ≤ k) (k6 : k ≤ 6) : (kd = 5 ∨ kd = 6) = ¬ kd < 5 := by
  subst hk
  have : k = 1 ∨ k = 2 ∨ k = 3 ∨ k = 4 ∨ k = 5 ∨ k = 6 := by omega
  rcases this with q | q | q | q | q | q <;> subst q <;> decide
theorem sp_readHours {c a e k : Nat} {kd nb : Int32} (h : mj_kat σ c a e) (hb : σ.1 44 3 = -1) (h4 : σ.1 44 4 = kd) (h5 : σ.1 44 5 = nb) (hk : kd = nI k) (k1 : 1 ≤ k) (k6 : k ≤ 6) (hnb : kd = 3 → 0 < nb) : ∃ ρ, mj_Fc 44 [2, 3, 6, 7] σ ρ ∧ ((mj_sp (mj_kl σ c) e kd nb a).1 = true → ρ.1 44 2 = nI (mj_sp (mj_kl σ c) e kd nb a).2.1 ∧ ρ.1 44 3 = -1 ∧ ρ.1 44 6 = (mj_sp (mj_kl σ c) e kd nb a).2.2.1 ∧ ρ.1 44 7 = (mj_sp (mj_kl σ c) e kd nb a).2.2.2) ∧ ((mj_sp (mj_kl σ c) e kd nb a).1 = false → ρ.1 44 3 = nI (mj_sp (mj_kl σ c) e kd nb a).2.1) ∧ ∀ d, mj_ev X (d + 4) 29 [.ref 44] σ = some (some (.int (mj_z (mj_sp (mj_kl σ c) e kd nb a).1)), ρ) := by
  have he60 := h.2.2.2.2.2.2
  have hr1 : ∀ d, mj_ev X (d + 3) 25 [.ref 44, .ref 1106] σ = _ := fun d => sp_reads (X := X) (d := d + 1) (x := 6) (w := mj_wfrom) rfl (by decide) h
  have hle := mj_tk_le (L := mj_kl σ c) mj_wfrom a h.2.2.2.2.2.1
  have t1e := hle.2
  rcases (Bool.eq_false_or_eq_true (mj_tk (mj_kl σ c) e mj_wfrom a).1).symm with q1 | q1
  · -- no from
    have eg : mj_gw2 (mj_kl σ c) e mj_wfrom 11 a = (false, (mj_tk (mj_kl σ c) e mj_wfrom a).2, (mj_ds (mj_kl σ c) e (mj_tk (mj_kl σ c) e mj_wfrom a).2).2) := by
      unfold mj_gw2
      rw [q1, Bool.false_and, if_neg mj_ft]
    have es : mj_sp (mj_kl σ c) e kd nb a = (false, (mj_tk (mj_kl σ c) e mj_wfrom a).2, 0, 0) := by
      unfold mj_sp
      rw [eg, if_neg mj_ft]
    rw [es]
    rw [q1] at hr1
    simp only [decide_true, decide_false, Bool.true_and, Bool.false_and, Bool.and_true, Bool.and_false, Bool.true_or, Bool.false_or, Bool.or_false, Bool.or_true, Bool.not_true, Bool.not_false, Bool.and_self, Bool.or_self, if_true, if_false, Bool.true_eq_false, Bool.false_eq_true, not_true, not_false_eq_true] at hr1
    refine ⟨mj_setI (mj_setI σ 44 2 (nI (mj_tk (mj_kl σ c) e mj_wfrom a).2)) 44 3 (nI (mj_tk (mj_kl σ c) e mj_wfrom a).2), mj_Fc_set (by decide) (mj_Fc_set (by decide) mj_Fc_rf), fun z => absurd z mj_ft, fun _ => mj_setI_eq, fun d => ?_⟩
    refine st29 ?_
    simp only [u29_0, u29_1, u29_3, u29_6, u29_9, u29_10, u29_11, u29_12, u29_13, u29_14, u29_15, u29_17, u29_20, u29_23, u29_24, u29_27, u29_28, u29_31, u29_32, u29_34, u29_37, u29_40, u29_41, u29_42, u29_43, u29_46, u29_47, u29_48, u29_49, u29_50, u29_51, u29_54, u29_56, u29_59, u29_62, u29_63, u29_66, u29_67, u29_70, u29_71, u29_72, u29_73, u29_74, u29_77, u29_80, u29_83, u29_84, u29_85, u29_88, u29_91, u29_92, u29_95, u29_96, hr1 d, mj_zF, mj_cc_v, mj_cc_n, List.all_cons, List.all_nil, mj_noMk_int, mj_noMk_long, mj_noMk_ref, mj_noMk_junk, List.length_nil, List.length_cons, Nat.zero_le, Nat.reduceLeDiff, Nat.reduceAdd, Bool.and_true, Bool.true_and, Bool.and_self, Nat.reduceBNe, true_or, or_true, true_and, and_true, mj_z0, mj_z1, mj_z01, decide_true, decide_false, Bool.true_and, Bool.false_and, Bool.and_true, Bool.and_false, Bool.true_or, Bool.false_or, Bool.or_false, Bool.or_true, Bool.not_true, Bool.not_false, Bool.and_self, Bool.or_self, if_true, if_false, Bool.true_eq_false, Bool.false_eq_true, not_true, not_false_eq_true]
  · rw [q1] at hr1
    simp only [decide_true, decide_false, Bool.true_and, Bool.false_and, Bool.and_true, Bool.and_false, Bool.true_or, Bool.false_or, Bool.or_false, Bool.or_true, Bool.not_true, Bool.not_false, Bool.and_self, Bool.or_self, if_true, if_false, Bool.true_eq_false, Bool.false_eq_true, not_true, not_false_eq_true] at hr1
    generalize ht1 : (mj_tk (mj_kl σ c) e mj_wfrom a).2 = t1 at *
    have hat1 : mj_kat (mj_setI σ 44 2 (nI t1)) c t1 e := mj_kat_at h t1e
    obtain ⟨ρ1, F1, ny1, nn1, hn1⟩ := sp_numberOf2 (X := X) (lo := 0) (hi := 11) hat1
    have eL1 : mj_kl (mj_setI σ 44 2 (nI t1)) c = mj_kl σ c := rfl
    rw [eL1, mj_nok_ds] at ny1 nn1 hn1
    have FS1 : mj_Fc 44 [2, 3, 6, 7] σ ρ1 := mj_Fc_tr (mj_Fc_set (by decide) mj_Fc_rf) (mj_Fc_sub (by decide) F1)
    rcases (Bool.eq_false_or_eq_true (mj_dsok (mj_kl σ c) e 11 t1)).symm with q2 | q2
    · have eg : mj_gw2 (mj_kl σ c) e mj_wfrom 11 a = (false, t1, (mj_ds (mj_kl σ c) e t1).2) := by
        unfold mj_gw2
        rw [ht1, q1, q2, Bool.and_false, if_neg mj_ft]
      have es : mj_sp (mj_kl σ c) e kd nb a = (false, t1, 0, 0) := by
        unfold mj_sp
        rw [eg, if_neg mj_ft]
      rw [es]
      have b3 := nn1 q2
      have nb1 := mj_nIm1 (p := t1) (by omega)
      refine ⟨mj_setI ρ1 44 6 (-1), mj_Fc_set (by decide) FS1, fun z => absurd z mj_ft, fun _ => b3, fun d => ?_⟩
      have hnd : mj_ev X (d + 3) 27 [.ref 44, .int 2, .int 0, .int 11] (mj_setI σ 44 2 (nI t1)) = _ := hn1 (d + 1)
      rw [q2] at hnd
      simp only [decide_true, decide_false, Bool.true_and, Bool.false_and, Bool.and_true, Bool.and_false, Bool.true_or, Bool.false_or, Bool.or_false, Bool.or_true, Bool.not_true, Bool.not_false, Bool.and_self, Bool.or_self, if_true, if_false, Bool.true_eq_false, Bool.false_eq_true, not_true, not_false_eq_true] at hnd
      have y3 : (mj_setI ρ1 44 6 (-1)).1 44 3 = nI t1 := b3
      refine st29 ?_
      simp only [u29_0, u29_1, u29_3, u29_6, u29_9, u29_10, u29_11, u29_12, u29_13, u29_14, u29_15, u29_17, u29_20, u29_23, u29_24, u29_27, u29_28, u29_31, u29_32, u29_34, u29_37, u29_40, u29_41, u29_42, u29_43, u29_46, u29_47, u29_48, u29_49, u29_50, u29_51, u29_54, u29_56, u29_59, u29_62, u29_63, u29_66, u29_67, u29_70, u29_71, u29_72, u29_73, u29_74, u29_77, u29_80, u29_83, u29_84, u29_85, u29_88, u29_91, u29_92, u29_95, u29_96, hr1 d, hnd, y3, nb1, mj_zT, mj_zF, mj_n10, mj_cc_v, mj_cc_n, List.all_cons, List.all_nil, mj_noMk_int, mj_noMk_long, mj_noMk_ref, mj_noMk_junk, List.length_nil, List.length_cons, Nat.zero_le, Nat.reduceLeDiff, Nat.reduceAdd, Bool.and_true, Bool.true_and, Bool.and_self, Nat.reduceBNe, true_or, or_true, true_and, and_true, mj_z0, mj_z1, mj_z01, decide_true, decide_false, Bool.true_and, Bool.false_and, Bool.and_true, Bool.and_false, Bool.true_or, Bool.false_or, Bool.or_false, Bool.or_true, Bool.not_true, Bool.not_false, Bool.and_self, Bool.or_self, if_true, if_false, Bool.true_eq_false, Bool.false_eq_true, not_true, not_false_eq_true]
    · have eg : mj_gw2 (mj_kl σ c) e mj_wfrom 11 a = (true, t1 + (mj_ds (mj_kl σ c) e t1).1, (mj_ds (mj_kl σ c) e t1).2) := by
        unfold mj_gw2
        rw [ht1, q1, q2, Bool.and_self, if_pos rfl]
      obtain ⟨b2, b3⟩ := ny1 q2
      have b3' : ρ1.1 44 3 = -1 := by rw [b3]; exact hb
      have hp2 := mj_dsok_le q2
      have q2' : mj_dig (mj_kl σ c) e t1 = true := by
        unfold mj_dsok at q2
        simp only [Bool.and_eq_true] at q2
        exact q2.1
      obtain ⟨nf, hnf, efr⟩ := mj_ds_in q2'
      generalize hfr : (mj_ds (mj_kl σ c) e t1).2 = fr at *
      generalize hp2' : t1 + (mj_ds (mj_kl σ c) e t1).1 = p2 at *
      have hat2 : mj_kat (mj_setI ρ1 44 6 fr) c p2 e := mj_kat_set (mj_kat_Fc FS1 (by decide) h hp2 b2) (by decide)
      have eL2 : mj_kl (mj_setI ρ1 44 6 fr) c = mj_kl σ c := by
        have := mj_kl_Fc (c := c) FS1
        exact this
      have hr2 : ∀ d, mj_ev X (d + 3) 25 [.ref 44, .ref 1107] (mj_setI ρ1 44 6 fr) = _ := fun d => sp_reads (X := X) (d := d + 1) (x := 7) (w := mj_wto) rfl (by decide) hat2
      rw [eL2] at hr2
      have hle2 := (mj_tk_le (L := mj_kl σ c) mj_wto p2 hp2).2
      have FS2 : mj_Fc 44 [2, 3, 6, 7] σ (mj_setI ρ1 44 6 fr) := mj_Fc_set (by decide) FS1
      have hnd1 : ∀ d, mj_ev X (d + 3) 27 [.ref 44, .int 2, .int 0, .int 11] (mj_setI σ 44 2 (nI t1)) = some (some (.int fr), ρ1) := fun d => by
        have := hn1 (d + 1)
        rw [q2] at this
        simp only [decide_true, decide_false, Bool.true_and, Bool.false_and, Bool.and_true, Bool.and_false, Bool.true_or, Bool.false_or, Bool.or_false, Bool.or_true, Bool.not_true, Bool.not_false, Bool.and_self, Bool.or_self, if_true, if_false, Bool.true_eq_false, Bool.false_eq_true, not_true, not_false_eq_true] at this
        exact this
      have y3 : (mj_setI ρ1 44 6 fr).1 44 3 = -1 := b3'
      rcases (Bool.eq_false_or_eq_true (mj_tk (mj_kl σ c) e mj_wto p2).1).symm with q3 | q3
      · have eg2 : mj_gw2 (mj_kl σ c) e mj_wto 11 p2 = (false, (mj_tk (mj_kl σ c) e mj_wto p2).2, (mj_ds (mj_kl σ c) e (mj_tk (mj_kl σ c) e mj_wto p2).2).2) := by
          unfold mj_gw2
          rw [q3, Bool.false_and, if_neg mj_ft]
        have es : mj_sp (mj_kl σ c) e kd nb a = (false, (mj_tk (mj_kl σ c) e mj_wto p2).2, 0, 0) := by
          unfold mj_sp
          rw [eg]
          simp only [if_true]
          rw [eg2, if_neg mj_ft]
        rw [es]
        rw [q3] at hr2
        simp only [decide_true, decide_false, Bool.true_and, Bool.false_and, Bool.and_true, Bool.and_false, Bool.true_or, Bool.false_or, Bool.or_false, Bool.or_true, Bool.not_true, Bool.not_false, Bool.and_self, Bool.or_self, if_true, if_false, Bool.true_eq_false, Bool.false_eq_true, not_true, not_false_eq_true] at hr2
        refine ⟨mj_setI (mj_setI (mj_setI ρ1 44 6 fr) 44 2 (nI (mj_tk (mj_kl σ c) e mj_wto p2).2)) 44 3 (nI (mj_tk (mj_kl σ c) e mj_wto p2).2), mj_Fc_set (by decide) (mj_Fc_set (by decide) FS2), fun z => absurd z mj_ft, fun _ => mj_setI_eq, fun d => ?_⟩
        refine st29 ?_
        simp only [u29_0, u29_1, u29_3, u29_6, u29_9, u29_10, u29_11, u29_12, u29_13, u29_14, u29_15, u29_17, u29_20, u29_23, u29_24, u29_27, u29_28, u29_31, u29_32, u29_34, u29_37, u29_40, u29_41, u29_42, u29_43, u29_46, u29_47, u29_48, u29_49, u29_50, u29_51, u29_54, u29_56, u29_59, u29_62, u29_63, u29_66, u29_67, u29_70, u29_71, u29_72, u29_73, u29_74, u29_77, u29_80, u29_83, u29_84, u29_85, u29_88, u29_91, u29_92, u29_95, u29_96, hr1 d, hnd1 d, y3, hr2 d, mj_zT, mj_zF, mj_n10, mj_cc_v, mj_cc_n, List.all_cons, List.all_nil, mj_noMk_int, mj_noMk_long, mj_noMk_ref, mj_noMk_junk, List.length_nil, List.length_cons, Nat.zero_le, Nat.reduceLeDiff, Nat.reduceAdd, Bool.and_true, Bool.true_and, Bool.and_self, Nat.reduceBNe, true_or, or_true, true_and, and_true, mj_z0, mj_z1, mj_z01, decide_true, decide_false, Bool.true_and, Bool.false_and, Bool.and_true, Bool.and_false, Bool.true_or, Bool.false_or, Bool.or_false, Bool.or_true, Bool.not_true, Bool.not_false, Bool.and_self, Bool.or_self, if_true, if_false, Bool.true_eq_false, Bool.false_eq_true, not_true, not_false_eq_true]
      · rw [q3] at hr2
        simp only [decide_true, decide_false, Bool.true_and, Bool.false_and, Bool.and_true, Bool.and_false, Bool.true_or, Bool.false_or, Bool.or_false, Bool.or_true, Bool.not_true, Bool.not_false, Bool.and_self, Bool.or_self, if_true, if_false, Bool.true_eq_false, Bool.false_eq_true, not_true, not_false_eq_true] at hr2
        generalize ht2 : (mj_tk (mj_kl σ c) e mj_wto p2).2 = t2 at *
        have hat3 : mj_kat (mj_setI (mj_setI ρ1 44 6 fr) 44 2 (nI t2)) c t2 e := mj_kat_at hat2 hle2
        have x6 : (mj_setI (mj_setI ρ1 44 6 fr) 44 2 (nI t2)).1 44 6 = fr := (mj_setI_eq : (mj_setI ρ1 44 6 fr).1 44 6 = fr)
        have x2 : (mj_setI (mj_setI ρ1 44 6 fr) 44 2 (nI t2)).1 44 2 = nI t2 := mj_setI_eq
        obtain ⟨ρ3, F3, ny3, nn3, hn3⟩ := sp_numberOf2 (X := X) (lo := fr) (hi := 11) hat3
        have eL3 : mj_kl (mj_setI (mj_setI ρ1 44 6 fr) 44 2 (nI t2)) c = mj_kl σ c := eL2
        rw [eL3] at ny3 nn3 hn3
        have FS3 : mj_Fc 44 [2, 3, 6, 7] σ ρ3 := mj_Fc_tr (mj_Fc_set (by decide) FS2) (mj_Fc_sub (by decide) F3)
        have nb2 := mj_nIm1 (p := t2) (by omega)
        generalize hbb : (mj_dig (mj_kl σ c) e t2 && (decide (¬ (mj_ds (mj_kl σ c) e t2).2 < fr) && decide (¬ 11 < (mj_ds (mj_kl σ c) e t2).2))) = bb at *
        have x4 : ∀ v, (mj_setI ρ3 44 7 v).1 44 4 = kd := fun v => by rw [mj_setI_i (by decide), FS3.2.2 4 (by decide)]; exact h4
        have x5 : ∀ v, (mj_setI ρ3 44 7 v).1 44 5 = nb := fun v => by rw [mj_setI_i (by decide), FS3.2.2 5 (by decide)]; exact h5
        have z6 : ∀ v, (mj_setI ρ3 44 7 v).1 44 6 = fr := fun v => by rw [mj_setI_i (by decide), F3.2.2 6 (by decide)]; exact x6
        cases bb
        · -- the second number doesn't stand
          have b4 := nn3 rfl
          have es : (mj_sp (mj_kl σ c) e kd nb a).1 = false ∧ (mj_sp (mj_kl σ c) e kd nb a).2.1 = t2 := by
            unfold mj_sp
            rw [eg]
            simp only [if_true]
            by_cases d1 : mj_dsok (mj_kl σ c) e 11 t2 = true
            · have eg2 : mj_gw2 (mj_kl σ c) e mj_wto 11 p2 = (true, t2 + (mj_ds (mj_kl σ c) e t2).1, (mj_ds (mj_kl σ c) e t2).2) := by
                unfold mj_gw2
                rw [ht2, q3, d1, Bool.and_self, if_pos rfl]
              rw [eg2]
              simp only [if_true]
              have dlt : (mj_ds (mj_kl σ c) e t2).2 < fr := by
                apply Classical.byContradiction
                intro z
                unfold mj_dsok at d1
                simp only [Bool.and_eq_true] at d1
                rw [d1.1, d1.2, decide_eq_true z] at hbb
                exact absurd hbb (by decide)
              rw [if_neg (fun z => z.1 dlt)]
              exact ⟨rfl, ht2⟩
            · have eg2 : mj_gw2 (mj_kl σ c) e mj_wto 11 p2 = (false, t2, (mj_ds (mj_kl σ c) e t2).2) := by
                unfold mj_gw2
                rw [ht2, q3, eq_false_of_ne_true d1, Bool.and_false, if_neg mj_ft]
              rw [eg2, if_neg mj_ft]
              exact ⟨rfl, rfl⟩
          rw [es.1, es.2]
          refine ⟨mj_setI ρ3 44 7 (-1), mj_Fc_set (by decide) FS3, fun z => absurd z mj_ft, fun _ => b4, fun d => ?_⟩
          have hnd : mj_ev X (d + 3) 27 [.ref 44, .int 2, .int fr, .int 11] (mj_setI (mj_setI ρ1 44 6 fr) 44 2 (nI t2)) = _ := hn3 (d + 1)
          simp only [decide_true, decide_false, Bool.true_and, Bool.false_and, Bool.and_true, Bool.and_false, Bool.true_or, Bool.false_or, Bool.or_false, Bool.or_true, Bool.not_true, Bool.not_false, Bool.and_self, Bool.or_self, if_true, if_false, Bool.true_eq_false, Bool.false_eq_true, not_true, not_false_eq_true] at hnd
          have y3' : (mj_setI ρ3 44 7 (-1)).1 44 3 = nI t2 := b4
          refine st29 ?_
          simp only [u29_0, u29_1, u29_3, u29_6, u29_9, u29_10, u29_11, u29_12, u29_13, u29_14, u29_15, u29_17, u29_20, u29_23, u29_24, u29_27, u29_28, u29_31, u29_32, u29_34, u29_37, u29_40, u29_41, u29_42, u29_43, u29_46, u29_47, u29_48, u29_49, u29_50, u29_51, u29_54, u29_56, u29_59, u29_62, u29_63, u29_66, u29_67, u29_70, u29_71, u29_72, u29_73, u29_74, u29_77, u29_80, u29_83, u29_84, u29_85, u29_88, u29_91, u29_92, u29_95, u29_96, hr1 d, hnd1 d, y3, hr2 d, x2, x6, hnd, y3', nb2, mj_zT, mj_zF, mj_n10, mj_cc_v, mj_cc_n, List.all_cons, List.all_nil, mj_noMk_int, mj_noMk_long, mj_noMk_ref, mj_noMk_junk, List.length_nil, List.length_cons, Nat.zero_le, Nat.reduceLeDiff, Nat.reduceAdd, Bool.and_true, Bool.true_and, Bool.and_self, Nat.reduceBNe, true_or, or_true, true_and, and_true, mj_z0, mj_z1, mj_z01, decide_true, decide_false, Bool.true_and, Bool.false_and, Bool.and_true, Bool.and_false, Bool.true_or, Bool.false_or, Bool.or_false, Bool.or_true, Bool.not_true, Bool.not_false, Bool.and_self, Bool.or_self, if_true, if_false, Bool.true_eq_false, Bool.false_eq_true, not_true, not_false_eq_true]
        · obtain ⟨b4, b5⟩ := ny3 rfl
          have b5' : ρ3.1 44 3 = -1 := by rw [b5]; exact b3'
          simp only [Bool.and_eq_true, decide_eq_true_eq] at hbb
          have d1 : mj_dsok (mj_kl σ c) e 11 t2 = true := by
            unfold mj_dsok
            rw [hbb.1, decide_eq_true hbb.2.2]
            rfl
          have eg2 : mj_gw2 (mj_kl σ c) e mj_wto 11 p2 = (true, t2 + (mj_ds (mj_kl σ c) e t2).1, (mj_ds (mj_kl σ c) e t2).2) := by
            unfold mj_gw2
            rw [ht2, q3, d1, Bool.and_self, if_pos rfl]
          generalize hto : (mj_ds (mj_kl σ c) e t2).2 = to at *
          have es : mj_sp (mj_kl σ c) e kd nb a = if mj_hlt kd nb fr to = true then (true, t2 + (mj_ds (mj_kl σ c) e t2).1, fr, to) else (false, t2, fr, to) := by
            have ecs := mj_kd_cases hk k1 k6
            have hcond : (¬ to < fr ∧ (if kd = 3 then ¬ 3 < mj_lasts kd nb fr to else if kd < 5 then ¬ to - fr + 1 < nb else True)) = (mj_hlt kd nb fr to = true) := by
              apply propext
              unfold mj_hlt mj_lasts
              by_cases g3 : kd = 3
              · have g5 : ¬ (kd = 5 ∨ kd = 6) := by rw [g3]; decide
                rw [if_pos g3, if_neg g5, if_pos g3, if_pos g3, if_pos (hnb g3), decide_eq_true_eq]
                exact ⟨fun z => z.2, fun z => ⟨hbb.2.1, z⟩⟩
              · rw [if_neg g3, if_neg g3]
                by_cases g5 : kd < 5
                · have g5' : ¬ (kd = 5 ∨ kd = 6) := by rw [ecs]; exact not_not_intro g5
                  rw [if_pos g5, if_neg g5', decide_eq_true_eq]
                  exact ⟨fun z => z.2, fun z => ⟨hbb.2.1, z⟩⟩
                · have g5' : kd = 5 ∨ kd = 6 := by rw [ecs]; exact g5
                  rw [if_neg g5, if_pos g5']
                  exact ⟨fun _ => rfl, fun _ => ⟨hbb.2.1, trivial⟩⟩
            unfold mj_sp
            rw [eg]
            simp only [if_true]
            rw [eg2]
            simp only [if_true]
            rw [ht2]
            by_cases g : mj_hlt kd nb fr to = true
            · rw [if_pos (hcond ▸ g), if_pos g]
            · rw [if_neg (fun z => g (hcond ▸ z)), if_neg g]
          have hhl : ∀ d, mj_ev X (d + 3) 30 [.ref 44, .int to] (mj_setI ρ3 44 7 to) = some (some (.int (mj_z (mj_hlt kd nb fr to))), mj_setI ρ3 44 7 to) := fun d => by
            have := sp_hasLengthTill (X := X) (d := d + 1) (σ := mj_setI ρ3 44 7 to) (x := to)
            rw [x4, x5, z6] at this
            exact this
          have hnd : ∀ d, mj_ev X (d + 3) 27 [.ref 44, .int 2, .int fr, .int 11] (mj_setI (mj_setI ρ1 44 6 fr) 44 2 (nI t2)) = some (some (.int to), ρ3) := fun d => by
            have := hn3 (d + 1)
            simp only [decide_true, decide_false, Bool.true_and, Bool.false_and, Bool.and_true, Bool.and_false, Bool.true_or, Bool.false_or, Bool.or_false, Bool.or_true, Bool.not_true, Bool.not_false, Bool.and_self, Bool.or_self, if_true, if_false, Bool.true_eq_false, Bool.false_eq_true, not_true, not_false_eq_true] at this
            exact this
          have y3' : (mj_setI ρ3 44 7 to).1 44 3 = -1 := b5'
          have y7 : (mj_setI ρ3 44 7 to).1 44 7 = to := mj_setI_eq
          rw [es]
          rcases (Bool.eq_false_or_eq_true (mj_hlt kd nb fr to)).symm with g | g
          · rw [if_neg (by rw [g]; decide)]
            have hbad : ∀ d, mj_ev X (d + 3) 26 [.ref 44, .int (nI t2)] (mj_setI ρ3 44 7 to) = some (some (.int 0), mj_setI (mj_setI ρ3 44 7 to) 44 3 (nI t2)) := fun d => sp_isBadAt (d := d + 2)
            refine ⟨mj_setI (mj_setI ρ3 44 7 to) 44 3 (nI t2), mj_Fc_set (by decide) (mj_Fc_set (by decide) FS3), fun z => absurd z mj_ft, fun _ => mj_setI_eq, fun d => ?_⟩
            have hh := hhl d
            rw [g] at hh
            refine st29 ?_
            simp only [u29_0, u29_1, u29_3, u29_6, u29_9, u29_10, u29_11, u29_12, u29_13, u29_14, u29_15, u29_17, u29_20, u29_23, u29_24, u29_27, u29_28, u29_31, u29_32, u29_34, u29_37, u29_40, u29_41, u29_42, u29_43, u29_46, u29_47, u29_48, u29_49, u29_50, u29_51, u29_54, u29_56, u29_59, u29_62, u29_63, u29_66, u29_67, u29_70, u29_71, u29_72, u29_73, u29_74, u29_77, u29_80, u29_83, u29_84, u29_85, u29_88, u29_91, u29_92, u29_95, u29_96, hr1 d, hnd1 d, y3, hr2 d, x2, x6, hnd d, y3', y7, hh, hbad d, mj_zT, mj_zF, mj_n10, mj_cc_v, mj_cc_n, List.all_cons, List.all_nil, mj_noMk_int, mj_noMk_long, mj_noMk_ref, mj_noMk_junk, List.length_nil, List.length_cons, Nat.zero_le, Nat.reduceLeDiff, Nat.reduceAdd, Bool.and_true, Bool.true_and, Bool.and_self, Nat.reduceBNe, true_or, or_true, true_and, and_true, mj_z0, mj_z1, mj_z01, decide_true, decide_false, Bool.true_and, Bool.false_and, Bool.and_true, Bool.and_false, Bool.true_or, Bool.false_or, Bool.or_false, Bool.or_true, Bool.not_true, Bool.not_false, Bool.and_self, Bool.or_self, if_true, if_false, Bool.true_eq_false, Bool.false_eq_true, not_true, not_false_eq_true]
          · rw [if_pos g]
            refine ⟨mj_setI ρ3 44 7 to, mj_Fc_set (by decide) FS3, fun _ => ⟨b4, b5', z6 to, y7⟩, fun z => absurd z mj_tf, fun d => ?_⟩
            have hh := hhl d
            rw [g] at hh
            refine st29 ?_
            simp only [u29_0, u29_1, u29_3, u29_6, u29_9, u29_10, u29_11, u29_12, u29_13, u29_14, u29_15, u29_17, u29_20, u29_23, u29_24, u29_27, u29_28, u29_31, u29_32, u29_34, u29_37, u29_40, u29_41, u29_42, u29_43, u29_46, u29_47, u29_48, u29_49, u29_50, u29_51, u29_54, u29_56, u29_59, u29_62, u29_63, u29_66, u29_67, u29_70, u29_71, u29_72, u29_73, u29_74, u29_77, u29_80, u29_83, u29_84, u29_85, u29_88, u29_91, u29_92, u29_95, u29_96, hr1 d, hnd1 d, y3, hr2 d, x2, x6, hnd d, y3', y7, hh, mj_zT, mj_n10, mj_cc_v, mj_cc_n, List.all_cons, List.all_nil, mj_noMk_int, mj_noMk_long, mj_noMk_ref, mj_noMk_junk, List.length_nil, List.length_cons, Nat.zero_le, Nat.reduceLeDiff, Nat.reduceAdd, Bool.and_true, Bool.true_and, Bool.and_self, Nat.reduceBNe, true_or, or_true, true_and, and_true, mj_z0, mj_z1, mj_z01, decide_true, decide_false, Bool.true_and, Bool.false_and, Bool.and_true, Bool.and_false, Bool.true_or, Bool.false_or, Bool.or_false, Bool.or_true, Bool.not_true, Bool.not_false, Bool.and_self, Bool.or_self, if_true, if_false, Bool.true_eq_false, Bool.false_eq_true, not_true, not_false_eq_true]
end
