section
variable {X : mj_X} {d : Nat} {σ τ ρ : mj_St}
def mj_sh1 (σ : mj_St) (w k : Nat) : Int32 := mj_it (fun i u => u + σ.1 27 (w + i)) 0 k
def mj_sp1 (σ : mj_St) (o : Int32) (i : Nat) : Bool := mj_wk (σ.1 15 i) && (mj_ask (σ.1 20 i) (σ.1 21 i) o && !(mj_b (σ.1 14 16) i))
def mj_sp2 (σ : mj_St) (o b : Int32) (n : Nat) : Int32 := mj_it (fun i u => if mj_sp1 σ o i = true then u - σ.1 25 i else u) b n
theorem sp_spareN {o : Int32} (h : mj_inb o 8 = false) : mj_ev X (d + 2) 119 [.ref 0, .int o] σ = some (some (.int (-1000)), mj_rfC σ (-6)) := by
  have h1 := sp_isOutcome (X := X) (d := d) (x := o) (σ := σ)
  rw [h] at h1
  have h2 := sp_rf6 (X := X) (d := d) (σ := σ)
  have hr : (mj_rfC σ (-6)).2.2.2.2 = σ.2.2.2.2 := rfl
  refine st119 ?_
  simp only [u119_0, u119_1, u119_4, u119_7, u119_8, u119_10, u119_13, u119_14, u119_17, u119_18, u119_19, u119_20, u119_21, u119_24, u119_27, u119_29, u119_31, u119_34, u119_35, u119_36, u119_39, u119_42, u119_43, u119_44, u119_45, u119_46, u119_49, u119_52, u119_53, u119_55, u119_56, u119_59, u119_62, u119_65, u119_66, u119_69, u119_70, u119_73, u119_76, u119_77, u119_80, u119_81, u119_82, u119_85, u119_88, u119_89, u119_92, u119_93, u119_96, u119_99, u119_100, u119_101, u119_104, u119_107, u119_108, u119_109, u119_110, u119_111, u119_114, u119_117, u119_118, h1, h2, hr, mj_zF, mj_cc_v, mj_cc_n, List.all_cons, List.all_nil, mj_noMk_int, mj_noMk_long, mj_noMk_ref, mj_noMk_junk, List.length_nil, List.length_cons, Nat.zero_le, Nat.reduceLeDiff, Nat.reduceAdd, Bool.and_true, Bool.true_and, Bool.and_self, Nat.reduceBNe, true_or, or_true, true_and, and_true, mj_z0, mj_z1, mj_z01, decide_true, decide_false, Bool.true_and, Bool.false_and, Bool.and_true, Bool.and_false, Bool.true_or, Bool.false_or, Bool.or_false, Bool.or_true, Bool.not_true, Bool.not_false, Bool.and_self, Bool.or_self, if_true, if_false, Bool.true_eq_false, Bool.false_eq_true, not_true, not_false_eq_true]
theorem sp_spareC {N w o : Nat} (hc : mj_pc σ N w) (ho : o < 8) : mj_ev X (d + 3) 119 [.ref 0, .int (nI o)] σ = some (some (.int (mj_sp2 σ (nI o) (mj_sh1 σ w (12 - w)) N)), σ) := by
  obtain ⟨c1, c2, c3, c4, -⟩ := hc
  have h1 := sp_isOutcome (X := X) (d := d + 1) (x := nI o) (σ := σ)
  rw [mj_in_nI (show o < 8 by omega) (by decide)] at h1
  have second : ∀ b : Int32, mj_Runs X (mj_ev X (d + 2)) 5 (some .int) prog_1_method_26_code (54, [.ref 0, .int (nI o), .int b, .int (nI 0)], [], σ) (some (.int (mj_sp2 σ (nI o) b N)), σ) := fun b =>
    mj_count (X := X) (call := mj_ev X (d + 2)) (oc := 5) (ret := (some .int)) (cc := prog_1_method_26_code) (N := N) (S := fun k => (54, [.ref 0, .int (nI o), .int (mj_sp2 σ (nI o) b k), .int (nI k)], [], σ)) (fun k hk hr => by
      have hk9 : k < 9 := by omega
      have q : nI k < nI N := nI_lt hk (by omega)
      have hw := mj_isw (X := X) (d := d) c1 c2 hk
      have ha := sp_isAsked (X := X) (d := d + 1) (σ := σ) (o := nI o) hk9
      have hl := sp_isLost (X := X) (d := d + 1) (σ := σ) hk9
      have e1 : mj_sp2 σ (nI o) b (k + 1) = if mj_sp1 σ (nI o) k = true then mj_sp2 σ (nI o) b k - σ.1 25 k else mj_sp2 σ (nI o) b k := rfl
      rw [e1] at hr
      unfold mj_sp1 at hr
      generalize mj_sp2 σ (nI o) b k = u at *
      refine u119_54.mpr ?_
      cases b1 : mj_wk (σ.1 15 k)
      · rw [b1] at hw hr
        simp only [Bool.false_and, Bool.false_eq_true, if_false] at hr
        simp only [u119_0, u119_1, u119_4, u119_7, u119_8, u119_10, u119_13, u119_14, u119_17, u119_18, u119_19, u119_20, u119_21, u119_24, u119_27, u119_29, u119_31, u119_34, u119_35, u119_36, u119_39, u119_42, u119_43, u119_44, u119_45, u119_46, u119_49, u119_52, u119_53, u119_55, u119_56, u119_59, u119_62, u119_65, u119_66, u119_69, u119_70, u119_73, u119_76, u119_77, u119_80, u119_81, u119_82, u119_85, u119_88, u119_89, u119_92, u119_93, u119_96, u119_99, u119_100, u119_101, u119_104, u119_107, u119_108, u119_109, u119_110, u119_111, u119_114, u119_117, u119_118, c1, q, hw, mj_zF, nI_1, mj_cc_v, mj_cc_n, List.all_cons, List.all_nil, mj_noMk_int, mj_noMk_long, mj_noMk_ref, mj_noMk_junk, List.length_nil, List.length_cons, Nat.zero_le, Nat.reduceLeDiff, Nat.reduceAdd, Bool.and_true, Bool.true_and, Bool.and_self, Nat.reduceBNe, true_or, or_true, true_and, and_true, mj_z0, mj_z1, mj_z01, decide_true, decide_false, Bool.true_and, Bool.false_and, Bool.and_true, Bool.and_false, Bool.true_or, Bool.false_or, Bool.or_false, Bool.or_true, Bool.not_true, Bool.not_false, Bool.and_self, Bool.or_self, if_true, if_false, Bool.true_eq_false, Bool.false_eq_true, not_true, not_false_eq_true]
        exact hr
      · rw [b1] at hw hr
        cases b2 : mj_ask (σ.1 20 k) (σ.1 21 k) (nI o)
        · rw [b2] at ha hr
          simp only [Bool.false_and, Bool.and_false, Bool.false_eq_true, if_false] at hr
          simp only [u119_0, u119_1, u119_4, u119_7, u119_8, u119_10, u119_13, u119_14, u119_17, u119_18, u119_19, u119_20, u119_21, u119_24, u119_27, u119_29, u119_31, u119_34, u119_35, u119_36, u119_39, u119_42, u119_43, u119_44, u119_45, u119_46, u119_49, u119_52, u119_53, u119_55, u119_56, u119_59, u119_62, u119_65, u119_66, u119_69, u119_70, u119_73, u119_76, u119_77, u119_80, u119_81, u119_82, u119_85, u119_88, u119_89, u119_92, u119_93, u119_96, u119_99, u119_100, u119_101, u119_104, u119_107, u119_108, u119_109, u119_110, u119_111, u119_114, u119_117, u119_118, c1, q, hw, ha, mj_zF, mj_zT, mj_n10, nI_1, mj_cc_v, mj_cc_n, List.all_cons, List.all_nil, mj_noMk_int, mj_noMk_long, mj_noMk_ref, mj_noMk_junk, List.length_nil, List.length_cons, Nat.zero_le, Nat.reduceLeDiff, Nat.reduceAdd, Bool.and_true, Bool.true_and, Bool.and_self, Nat.reduceBNe, true_or, or_true, true_and, and_true, mj_z0, mj_z1, mj_z01, decide_true, decide_false, Bool.true_and, Bool.false_and, Bool.and_true, Bool.and_false, Bool.true_or, Bool.false_or, Bool.or_false, Bool.or_true, Bool.not_true, Bool.not_false, Bool.and_self, Bool.or_self, if_true, if_false, Bool.true_eq_false, Bool.false_eq_true, not_true, not_false_eq_true]
          exact hr
        · rw [b2] at ha hr
          cases b3 : mj_b (σ.1 14 16) k
          · rw [b3] at hl hr
            simp only [Bool.not_false, Bool.and_self, if_true] at hr
            simp only [u119_0, u119_1, u119_4, u119_7, u119_8, u119_10, u119_13, u119_14, u119_17, u119_18, u119_19, u119_20, u119_21, u119_24, u119_27, u119_29, u119_31, u119_34, u119_35, u119_36, u119_39, u119_42, u119_43, u119_44, u119_45, u119_46, u119_49, u119_52, u119_53, u119_55, u119_56, u119_59, u119_62, u119_65, u119_66, u119_69, u119_70, u119_73, u119_76, u119_77, u119_80, u119_81, u119_82, u119_85, u119_88, u119_89, u119_92, u119_93, u119_96, u119_99, u119_100, u119_101, u119_104, u119_107, u119_108, u119_109, u119_110, u119_111, u119_114, u119_117, u119_118, c1, q, hw, ha, hl, mj_in_nI hk9 (by decide), mj_nz9 hk9 (by decide), mj_zF, mj_zT, mj_n10, nI_1, mj_cc_v, mj_cc_n, List.all_cons, List.all_nil, mj_noMk_int, mj_noMk_long, mj_noMk_ref, mj_noMk_junk, List.length_nil, List.length_cons, Nat.zero_le, Nat.reduceLeDiff, Nat.reduceAdd, Bool.and_true, Bool.true_and, Bool.and_self, Nat.reduceBNe, true_or, or_true, true_and, and_true, mj_z0, mj_z1, mj_z01, decide_true, decide_false, Bool.true_and, Bool.false_and, Bool.and_true, Bool.and_false, Bool.true_or, Bool.false_or, Bool.or_false, Bool.or_true, Bool.not_true, Bool.not_false, Bool.and_self, Bool.or_self, if_true, if_false, Bool.true_eq_false, Bool.false_eq_true, not_true, not_false_eq_true]
            exact hr
          · rw [b3] at hl hr
            simp only [Bool.not_true, Bool.and_false, Bool.false_eq_true, if_false] at hr
            simp only [u119_0, u119_1, u119_4, u119_7, u119_8, u119_10, u119_13, u119_14, u119_17, u119_18, u119_19, u119_20, u119_21, u119_24, u119_27, u119_29, u119_31, u119_34, u119_35, u119_36, u119_39, u119_42, u119_43, u119_44, u119_45, u119_46, u119_49, u119_52, u119_53, u119_55, u119_56, u119_59, u119_62, u119_65, u119_66, u119_69, u119_70, u119_73, u119_76, u119_77, u119_80, u119_81, u119_82, u119_85, u119_88, u119_89, u119_92, u119_93, u119_96, u119_99, u119_100, u119_101, u119_104, u119_107, u119_108, u119_109, u119_110, u119_111, u119_114, u119_117, u119_118, c1, q, hw, ha, hl, mj_zT, mj_n10, nI_1, mj_cc_v, mj_cc_n, List.all_cons, List.all_nil, mj_noMk_int, mj_noMk_long, mj_noMk_ref, mj_noMk_junk, List.length_nil, List.length_cons, Nat.zero_le, Nat.reduceLeDiff, Nat.reduceAdd, Bool.and_true, Bool.true_and, Bool.and_self, Nat.reduceBNe, true_or, or_true, true_and, and_true, mj_z0, mj_z1, mj_z01, decide_true, decide_false, Bool.true_and, Bool.false_and, Bool.and_true, Bool.and_false, Bool.true_or, Bool.false_or, Bool.or_false, Bool.or_true, Bool.not_true, Bool.not_false, Bool.and_self, Bool.or_self, if_true, if_false, Bool.true_eq_false, Bool.false_eq_true, not_true, not_false_eq_true]
            exact hr) (by
      have q : ¬ nI N < nI N := nI_nlt (Nat.le_refl _) (by omega)
      refine u119_54.mpr ?_
      simp only [u119_0, u119_1, u119_4, u119_7, u119_8, u119_10, u119_13, u119_14, u119_17, u119_18, u119_19, u119_20, u119_21, u119_24, u119_27, u119_29, u119_31, u119_34, u119_35, u119_36, u119_39, u119_42, u119_43, u119_44, u119_45, u119_46, u119_49, u119_52, u119_53, u119_55, u119_56, u119_59, u119_62, u119_65, u119_66, u119_69, u119_70, u119_73, u119_76, u119_77, u119_80, u119_81, u119_82, u119_85, u119_88, u119_89, u119_92, u119_93, u119_96, u119_99, u119_100, u119_101, u119_104, u119_107, u119_108, u119_109, u119_110, u119_111, u119_114, u119_117, u119_118, c1, q, mj_cc_v, mj_cc_n, List.all_cons, List.all_nil, mj_noMk_int, mj_noMk_long, mj_noMk_ref, mj_noMk_junk, List.length_nil, List.length_cons, Nat.zero_le, Nat.reduceLeDiff, Nat.reduceAdd, Bool.and_true, Bool.true_and, Bool.and_self, Nat.reduceBNe, true_or, or_true, true_and, and_true, mj_z0, mj_z1, mj_z01, decide_true, decide_false, Bool.true_and, Bool.false_and, Bool.and_true, Bool.and_false, Bool.true_or, Bool.false_or, Bool.or_false, Bool.or_true, Bool.not_true, Bool.not_false, Bool.and_self, Bool.or_self, if_true, if_false, Bool.true_eq_false, Bool.false_eq_true, not_true, not_false_eq_true]) 0 (Nat.zero_le _)
  have first : mj_Runs X (mj_ev X (d + 2)) 5 (some .int) prog_1_method_26_code (28, [.ref 0, .int (nI o), .int 0, .int (nI (w + 0))], [], σ) (some (.int (mj_sp2 σ (nI o) (mj_sh1 σ w (12 - w)) N)), σ) :=
    mj_count (X := X) (call := mj_ev X (d + 2)) (oc := 5) (ret := (some .int)) (cc := prog_1_method_26_code) (N := 12 - w) (S := fun k => (28, [.ref 0, .int (nI o), .int (mj_sh1 σ w k), .int (nI (w + k))], [], σ)) (fun k hk hr => by
      have q : nI (w + k) < 12 := nI_lt (b := 12) (by omega) (by decide)
      have e1 : mj_sh1 σ w (k + 1) = mj_sh1 σ w k + σ.1 27 (w + k) := rfl
      rw [e1] at hr
      have hr' : mj_Runs X (mj_ev X (d + 2)) 5 (some .int) prog_1_method_26_code (28, [.ref 0, .int (nI o), .int (mj_sh1 σ w k + σ.1 27 (w + k)), .int (nI (w + k + 1))], [], σ) (some (.int (mj_sp2 σ (nI o) (mj_sh1 σ w (12 - w)) N)), σ) := hr
      refine u119_28.mpr ?_
      simp only [u119_0, u119_1, u119_4, u119_7, u119_8, u119_10, u119_13, u119_14, u119_17, u119_18, u119_19, u119_20, u119_21, u119_24, u119_27, u119_29, u119_31, u119_34, u119_35, u119_36, u119_39, u119_42, u119_43, u119_44, u119_45, u119_46, u119_49, u119_52, u119_53, u119_55, u119_56, u119_59, u119_62, u119_65, u119_66, u119_69, u119_70, u119_73, u119_76, u119_77, u119_80, u119_81, u119_82, u119_85, u119_88, u119_89, u119_92, u119_93, u119_96, u119_99, u119_100, u119_101, u119_104, u119_107, u119_108, u119_109, u119_110, u119_111, u119_114, u119_117, u119_118, q, mj_in_nI (show w + k < 12 by omega) (by decide), mj_nz9 (show w + k < 12 by omega) (by decide), nI_1, mj_cc_v, mj_cc_n, List.all_cons, List.all_nil, mj_noMk_int, mj_noMk_long, mj_noMk_ref, mj_noMk_junk, List.length_nil, List.length_cons, Nat.zero_le, Nat.reduceLeDiff, Nat.reduceAdd, Bool.and_true, Bool.true_and, Bool.and_self, Nat.reduceBNe, true_or, or_true, true_and, and_true, mj_z0, mj_z1, mj_z01, decide_true, decide_false, Bool.true_and, Bool.false_and, Bool.and_true, Bool.and_false, Bool.true_or, Bool.false_or, Bool.or_false, Bool.or_true, Bool.not_true, Bool.not_false, Bool.and_self, Bool.or_self, if_true, if_false, Bool.true_eq_false, Bool.false_eq_true, not_true, not_false_eq_true]
      exact hr') (by
      have q : ¬ nI (w + (12 - w)) < 12 := nI_nlt (b := 12) (by omega) (by omega)
      refine u119_28.mpr ?_
      simp only [u119_0, u119_1, u119_4, u119_7, u119_8, u119_10, u119_13, u119_14, u119_17, u119_18, u119_19, u119_20, u119_21, u119_24, u119_27, u119_29, u119_31, u119_34, u119_35, u119_36, u119_39, u119_42, u119_43, u119_44, u119_45, u119_46, u119_49, u119_52, u119_53, u119_55, u119_56, u119_59, u119_62, u119_65, u119_66, u119_69, u119_70, u119_73, u119_76, u119_77, u119_80, u119_81, u119_82, u119_85, u119_88, u119_89, u119_92, u119_93, u119_96, u119_99, u119_100, u119_101, u119_104, u119_107, u119_108, u119_109, u119_110, u119_111, u119_114, u119_117, u119_118, q, mj_cc_v, mj_cc_n, List.all_cons, List.all_nil, mj_noMk_int, mj_noMk_long, mj_noMk_ref, mj_noMk_junk, List.length_nil, List.length_cons, Nat.zero_le, Nat.reduceLeDiff, Nat.reduceAdd, Bool.and_true, Bool.true_and, Bool.and_self, Nat.reduceBNe, true_or, or_true, true_and, and_true, mj_z0, mj_z1, mj_z01, decide_true, decide_false, Bool.true_and, Bool.false_and, Bool.and_true, Bool.and_false, Bool.true_or, Bool.false_or, Bool.or_false, Bool.or_true, Bool.not_true, Bool.not_false, Bool.and_self, Bool.or_self, if_true, if_false, Bool.true_eq_false, Bool.false_eq_true, not_true, not_false_eq_true]
      exact second _) 0 (Nat.zero_le _)
  refine st119 ?_
  simp only [u119_0, u119_1, u119_4, u119_7, u119_8, u119_10, u119_13, u119_14, u119_17, u119_18, u119_19, u119_20, u119_21, u119_24, u119_27, u119_29, u119_31, u119_34, u119_35, u119_36, u119_39, u119_42, u119_43, u119_44, u119_45, u119_46, u119_49, u119_52, u119_53, u119_55, u119_56, u119_59, u119_62, u119_65, u119_66, u119_69, u119_70, u119_73, u119_76, u119_77, u119_80, u119_81, u119_82, u119_85, u119_88, u119_89, u119_92, u119_93, u119_96, u119_99, u119_100, u119_101, u119_104, u119_107, u119_108, u119_109, u119_110, u119_111, u119_114, u119_117, u119_118, h1, c3, mj_zT, mj_n10, mj_cc_v, mj_cc_n, List.all_cons, List.all_nil, mj_noMk_int, mj_noMk_long, mj_noMk_ref, mj_noMk_junk, List.length_nil, List.length_cons, Nat.zero_le, Nat.reduceLeDiff, Nat.reduceAdd, Bool.and_true, Bool.true_and, Bool.and_self, Nat.reduceBNe, true_or, or_true, true_and, and_true, mj_z0, mj_z1, mj_z01, decide_true, decide_false, Bool.true_and, Bool.false_and, Bool.and_true, Bool.and_false, Bool.true_or, Bool.false_or, Bool.or_false, Bool.or_true, Bool.not_true, Bool.not_false, Bool.and_self, Bool.or_self, if_true, if_false, Bool.true_eq_false, Bool.false_eq_true, not_true, not_false_eq_true]
  exact first
-- doomed
theorem sp_doomedN {N w : Nat} {i o : Int32} (hc : mj_pc σ N w) (h : mj_wkC σ i = false) : mj_ev X (d + 3) 120 [.ref 0, .int i, .int o] σ = some (some (.int (-1)), mj_rfC σ (-1)) := by
  have h1 : mj_ev X (d + 2) 37 [.ref 14, .int i] σ = some (some (.int (mj_z (mj_wkC σ i))), σ) := sp_isWork (by rw [hc.1, nI_toInt (by have := hc.2.1; omega)]; have := hc.2.1; omega)
  rw [h] at h1
  have h2 := sp_rf1 (X := X) (d := d + 1) (σ := σ)
  have hr : (mj_rfC σ (-1)).2.2.2.2 = σ.2.2.2.2 := rfl
  refine st120 ?_
  simp only [u120_0, u120_1, u120_4, u120_5, u120_8, u120_11, u120_12, u120_13, u120_16, u120_17, u120_18, u120_21, u120_24, u120_25, u120_27, u120_30, u120_31, u120_32, u120_33, u120_36, u120_37, u120_40, u120_41, u120_44, u120_47, u120_48, u120_51, u120_52, h1, h2, hr, mj_zF, mj_cc_v, mj_cc_n, List.all_cons, List.all_nil, mj_noMk_int, mj_noMk_long, mj_noMk_ref, mj_noMk_junk, List.length_nil, List.length_cons, Nat.zero_le, Nat.reduceLeDiff, Nat.reduceAdd, Bool.and_true, Bool.true_and, Bool.and_self, Nat.reduceBNe, true_or, or_true, true_and, and_true, mj_z0, mj_z1, mj_z01, decide_true, decide_false, Bool.true_and, Bool.false_and, Bool.and_true, Bool.and_false, Bool.true_or, Bool.false_or, Bool.or_false, Bool.or_true, Bool.not_true, Bool.not_false, Bool.and_self, Bool.or_self, if_true, if_false, Bool.true_eq_false, Bool.false_eq_true, not_true, not_false_eq_true]
theorem sp_doomedO {N w : Nat} {i o : Int32} (hc : mj_pc σ N w) (h : mj_wkC σ i = true) (h' : mj_inb o 8 = false) : mj_ev X (d + 3) 120 [.ref 0, .int i, .int o] σ = some (some (.int (-6)), mj_rfC σ (-6)) := by
  have h1 : mj_ev X (d + 2) 37 [.ref 14, .int i] σ = some (some (.int (mj_z (mj_wkC σ i))), σ) := sp_isWork (by rw [hc.1, nI_toInt (by have := hc.2.1; omega)]; have := hc.2.1; omega)
  rw [h] at h1
  have h3 := sp_isOutcome (X := X) (d := d + 1) (x := o) (σ := σ)
  rw [h'] at h3
  have h2 := sp_rf6 (X := X) (d := d + 1) (σ := σ)
  have hr : (mj_rfC σ (-6)).2.2.2.2 = σ.2.2.2.2 := rfl
  refine st120 ?_
  simp only [u120_0, u120_1, u120_4, u120_5, u120_8, u120_11, u120_12, u120_13, u120_16, u120_17, u120_18, u120_21, u120_24, u120_25, u120_27, u120_30, u120_31, u120_32, u120_33, u120_36, u120_37, u120_40, u120_41, u120_44, u120_47, u120_48, u120_51, u120_52, h1, h2, h3, hr, mj_zF, mj_zT, mj_n10, mj_cc_v, mj_cc_n, List.all_cons, List.all_nil, mj_noMk_int, mj_noMk_long, mj_noMk_ref, mj_noMk_junk, List.length_nil, List.length_cons, Nat.zero_le, Nat.reduceLeDiff, Nat.reduceAdd, Bool.and_true, Bool.true_and, Bool.and_self, Nat.reduceBNe, true_or, or_true, true_and, and_true, mj_z0, mj_z1, mj_z01, decide_true, decide_false, Bool.true_and, Bool.false_and, Bool.and_true, Bool.and_false, Bool.true_or, Bool.false_or, Bool.or_false, Bool.or_true, Bool.not_true, Bool.not_false, Bool.and_self, Bool.or_self, if_true, if_false, Bool.true_eq_false, Bool.false_eq_true, not_true, not_false_eq_true]
theorem sp_doomedC {N w o : Nat} {i : Int32} {K : Int32 → Nat → Bool} (hX : mj_XS X) (hc : mj_pc σ N w) (he : mj_pe σ) (hK : mj_KH σ N w K) (ho : o < 8) (h : mj_wkC σ i = true) : ∃ ρ, mj_Fs σ ρ ∧ ∀ d, mj_ev X (d + 42) 120 [.ref 0, .int i, .int (nI o)] σ = some (some (.int (mj_z (!(K (mj_ch (σ.1 19) (σ.1 14 14) 9 i 0) o)))), ρ) := by
  obtain ⟨ρ, G, hk⟩ := sp_keptC (set := mj_ch (σ.1 19) (σ.1 14 14) 9 i 0) (o := nI o) hX hc he
  rw [hK σ mj_Fs_rf _ o ho] at hk
  refine ⟨ρ, G, fun d => ?_⟩
  have h9 : (σ.1 14 14).toInt ≤ 9 := by rw [hc.1, nI_toInt (by have := hc.2.1; omega)]; have := hc.2.1; omega
  have h1 : mj_ev X (d + 41) 37 [.ref 14, .int i] σ = some (some (.int (mj_z (mj_wkC σ i))), σ) := sp_isWork (d := d + 39) h9
  rw [h] at h1
  have h3 := sp_isOutcome (X := X) (d := d + 40) (x := nI o) (σ := σ)
  rw [mj_in_nI (show o < 8 by omega) (by decide)] at h3
  have h4 := sp_chainOf (X := X) (d := d + 39) (σ := σ) (i := i) h9
  have hd := hk d
  refine st120 ?_
  cases b : K (mj_ch (σ.1 19) (σ.1 14 14) 9 i 0) o
  · rw [b] at hd
    simp only [u120_0, u120_1, u120_4, u120_5, u120_8, u120_11, u120_12, u120_13, u120_16, u120_17, u120_18, u120_21, u120_24, u120_25, u120_27, u120_30, u120_31, u120_32, u120_33, u120_36, u120_37, u120_40, u120_41, u120_44, u120_47, u120_48, u120_51, u120_52, h1, h3, h4, hd, mj_zF, mj_zT, mj_n10, mj_cc_v, mj_cc_n, List.all_cons, List.all_nil, mj_noMk_int, mj_noMk_long, mj_noMk_ref, mj_noMk_junk, List.length_nil, List.length_cons, Nat.zero_le, Nat.reduceLeDiff, Nat.reduceAdd, Bool.and_true, Bool.true_and, Bool.and_self, Nat.reduceBNe, true_or, or_true, true_and, and_true, mj_z0, mj_z1, mj_z01, decide_true, decide_false, Bool.true_and, Bool.false_and, Bool.and_true, Bool.and_false, Bool.true_or, Bool.false_or, Bool.or_false, Bool.or_true, Bool.not_true, Bool.not_false, Bool.and_self, Bool.or_self, if_true, if_false, Bool.true_eq_false, Bool.false_eq_true, not_true, not_false_eq_true]
  · rw [b] at hd
    simp only [u120_0, u120_1, u120_4, u120_5, u120_8, u120_11, u120_12, u120_13, u120_16, u120_17, u120_18, u120_21, u120_24, u120_25, u120_27, u120_30, u120_31, u120_32, u120_33, u120_36, u120_37, u120_40, u120_41, u120_44, u120_47, u120_48, u120_51, u120_52, h1, h3, h4, hd, mj_zF, mj_zT, mj_n10, mj_cc_v, mj_cc_n, List.all_cons, List.all_nil, mj_noMk_int, mj_noMk_long, mj_noMk_ref, mj_noMk_junk, List.length_nil, List.length_cons, Nat.zero_le, Nat.reduceLeDiff, Nat.reduceAdd, Bool.and_true, Bool.true_and, Bool.and_self, Nat.reduceBNe, true_or, or_true, true_and, and_true, mj_z0, mj_z1, mj_z01, decide_true, decide_false, Bool.true_and, Bool.false_and, Bool.and_true, Bool.and_false, Bool.true_or, Bool.false_or, Bool.or_false, Bool.or_true, Bool.not_true, Bool.not_false, Bool.and_self, Bool.or_self, if_true, if_false, Bool.true_eq_false, Bool.false_eq_true, not_true, not_false_eq_true]
end
