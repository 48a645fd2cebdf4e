section
variable {X : mj_X} {d : Nat} {σ τ ρ : mj_St}
/-- whether a search succeeds -/
def mj_suc (σ : mj_St) (n w sg st : Nat) : Bool := decide (σ.1 46 4 = 0) && mj_W σ n (12 - w) sg st
theorem sp_succeeds {n w gr sg st : Nat} (hX : mj_XS X) (hd : mj_sd σ n w gr) (hfr : mj_sfr σ gr) (hsg : σ.1 46 7 = nI sg) (hst : σ.1 46 6 = nI st) (hg : sg < gr) (hs : st < 4 ^ n) (hM : σ.1 46 4 = 0 → w < 12 → mj_MI σ n w gr) : ∃ ρ, mj_Fm σ ρ ∧ (σ.1 46 4 = 0 → w < 12 → mj_MI ρ n w gr) ∧ ∀ d, mj_ev X (d + 40) 86 [.ref 46] σ = some (some (.int (mj_z (mj_suc σ n w sg st))), ρ) := by
  have d1 := hd.1
  have d4 := hd.2.2.2.1
  have d5 := hd.2.2.2.2.1
  unfold mj_suc
  by_cases c : σ.1 46 4 = 0
  · rw [decide_eq_true c, Bool.true_and]
    by_cases hw : w < 12
    · obtain ⟨ρ, F, M, hW⟩ := mj_Wok_all hX hd hfr (12 - w) (Nat.le_refl _) σ sg st mj_Fm_rf (hM c hw) hg hs
      refine ⟨ρ, F, fun _ _ => M, fun d => ?_⟩
      have hWd := hW (d + 36 - 3 * (12 - w))
      rw [show d + 36 - 3 * (12 - w) + 3 * (12 - w) + 3 = d + 39 by omega, show 12 - (12 - w) = w by omega] at hWd
      refine st86 ?_
      cases hb : mj_W σ n (12 - w) sg st
      · rw [hb] at hWd
        simp only [u86_0, u86_1, u86_4, u86_4n, u86_7, u86_8, u86_11, u86_14, u86_15, u86_16, u86_19, u86_22, u86_23, u86_26, u86_27, u86_30, u86_33, u86_36, u86_37, u86_40, u86_41, d1, mj_rf_some, mj_rf14, mj_noMk_ref, c, d4, hsg, hst, hWd, mj_zF, mj_cc_v, mj_cc_n, List.all_cons, List.all_nil, mj_noMk_int, mj_noMk_long, mj_noMk_ref, mj_noMk_junk, List.length_nil, List.length_cons, Nat.zero_le, Nat.reduceLeDiff, Nat.reduceAdd, Bool.and_true, Bool.true_and, Bool.and_self, Nat.reduceBNe, true_or, or_true, true_and, and_true, mj_z0, mj_z1, mj_z01, decide_true, decide_false, Bool.true_and, Bool.false_and, Bool.and_true, Bool.and_false, Bool.true_or, Bool.false_or, Bool.or_false, Bool.or_true, Bool.not_true, Bool.not_false, Bool.and_self, Bool.or_self, if_true, if_false, Bool.true_eq_false, Bool.false_eq_true, not_true, not_false_eq_true]
        try simp
      · rw [hb] at hWd
        simp only [u86_0, u86_1, u86_4, u86_4n, u86_7, u86_8, u86_11, u86_14, u86_15, u86_16, u86_19, u86_22, u86_23, u86_26, u86_27, u86_30, u86_33, u86_36, u86_37, u86_40, u86_41, d1, mj_rf_some, mj_rf14, mj_noMk_ref, c, d4, hsg, hst, hWd, mj_zT, mj_n10, mj_cc_v, mj_cc_n, List.all_cons, List.all_nil, mj_noMk_int, mj_noMk_long, mj_noMk_ref, mj_noMk_junk, List.length_nil, List.length_cons, Nat.zero_le, Nat.reduceLeDiff, Nat.reduceAdd, Bool.and_true, Bool.true_and, Bool.and_self, Nat.reduceBNe, true_or, or_true, true_and, and_true, mj_z0, mj_z1, mj_z01, decide_true, decide_false, Bool.true_and, Bool.false_and, Bool.and_true, Bool.and_false, Bool.true_or, Bool.false_or, Bool.or_false, Bool.or_true, Bool.not_true, Bool.not_false, Bool.and_self, Bool.or_self, if_true, if_false, Bool.true_eq_false, Bool.false_eq_true, not_true, not_false_eq_true]
        try simp
    · have hw12 : w = 12 := by omega
      subst hw12
      have e : mj_W σ n (12 - 12) sg st = true := rfl
      refine ⟨σ, mj_Fm_rf, fun _ z => absurd z hw, fun d => ?_⟩
      have q : ¬ nI 12 < 12 := by decide
      have hwd : mj_ev X (d + 39) 87 [.ref 46, .int (nI 12), .int (nI sg), .int (nI st)] σ = some (some (.int 1), σ) := by
        refine st87 ?_
        simp only [u87_0, u87_1, u87_3, u87_6, u87_7, u87_8, u87_9, u87_10, u87_13, u87_16, u87_17, u87_18, u87_21, u87_22, u87_23, u87_24, u87_25, u87_26, u87_29, u87_30, u87_31, u87_32, u87_33, u87_35, u87_37, u87_39, u87_40, u87_42, u87_43, u87_46, u87_48, u87_50, u87_53, u87_55, u87_57, u87_58, u87_59, u87_62, u87_63, u87_66, u87_67, u87_68, u87_69, u87_71, u87_73, u87_74, u87_75, u87_77, u87_78, u87_81, u87_83, u87_84, u87_86, u87_87, u87_88, u87_89, u87_92, u87_93, u87_94, u87_95, u87_98, u87_100, u87_102, u87_103, u87_104, u87_106, u87_107, u87_108, u87_109, u87_112, u87_113, u87_114, u87_115, u87_116, u87_117, u87_118, u87_121, u87_123, u87_125, u87_126, u87_129, u87_130, u87_132, u87_133, u87_134, u87_135, u87_138, u87_141, u87_142, u87_145, u87_146, u87_148, u87_149, u87_152, u87_154, u87_157, u87_159, u87_162, u87_164, u87_166, u87_167, u87_168, u87_169, u87_171, u87_172, u87_173, u87_175, q, mj_cc_v, mj_cc_n, List.all_cons, List.all_nil, mj_noMk_int, mj_noMk_long, mj_noMk_ref, mj_noMk_junk, List.length_nil, List.length_cons, Nat.zero_le, Nat.reduceLeDiff, Nat.reduceAdd, Bool.and_true, Bool.true_and, Bool.and_self, Nat.reduceBNe, true_or, or_true, true_and, and_true, mj_z0, mj_z1, mj_z01, decide_true, decide_false, Bool.true_and, Bool.false_and, Bool.and_true, Bool.and_false, Bool.true_or, Bool.false_or, Bool.or_false, Bool.or_true, Bool.not_true, Bool.not_false, Bool.and_self, Bool.or_self, if_true, if_false, Bool.true_eq_false, Bool.false_eq_true, not_true, not_false_eq_true]
      rw [e]
      refine st86 ?_
      simp only [u86_0, u86_1, u86_4, u86_4n, u86_7, u86_8, u86_11, u86_14, u86_15, u86_16, u86_19, u86_22, u86_23, u86_26, u86_27, u86_30, u86_33, u86_36, u86_37, u86_40, u86_41, d1, mj_rf_some, mj_rf14, mj_noMk_ref, c, d4, hsg, hst, hwd, mj_zT, mj_n10, mj_cc_v, mj_cc_n, List.all_cons, List.all_nil, mj_noMk_int, mj_noMk_long, mj_noMk_ref, mj_noMk_junk, List.length_nil, List.length_cons, Nat.zero_le, Nat.reduceLeDiff, Nat.reduceAdd, Bool.and_true, Bool.true_and, Bool.and_self, Nat.reduceBNe, true_or, or_true, true_and, and_true, mj_z0, mj_z1, mj_z01, decide_true, decide_false, Bool.true_and, Bool.false_and, Bool.and_true, Bool.and_false, Bool.true_or, Bool.false_or, Bool.or_false, Bool.or_true, Bool.not_true, Bool.not_false, Bool.and_self, Bool.or_self, if_true, if_false, Bool.true_eq_false, Bool.false_eq_true, not_true, not_false_eq_true]
      try simp
  · rw [decide_eq_false c, Bool.false_and]
    refine ⟨σ, mj_Fm_rf, fun z => absurd z c, fun d => ?_⟩
    refine st86 ?_
    simp only [u86_0, u86_1, u86_4, u86_4n, u86_7, u86_8, u86_11, u86_14, u86_15, u86_16, u86_19, u86_22, u86_23, u86_26, u86_27, u86_30, u86_33, u86_36, u86_37, u86_40, u86_41, d1, mj_rf_some, mj_rf14, mj_noMk_ref, c, mj_zF, mj_cc_v, mj_cc_n, List.all_cons, List.all_nil, mj_noMk_int, mj_noMk_long, mj_noMk_ref, mj_noMk_junk, List.length_nil, List.length_cons, Nat.zero_le, Nat.reduceLeDiff, Nat.reduceAdd, Bool.and_true, Bool.true_and, Bool.and_self, Nat.reduceBNe, true_or, or_true, true_and, and_true, mj_z0, mj_z1, mj_z01, decide_true, decide_false, Bool.true_and, Bool.false_and, Bool.and_true, Bool.and_false, Bool.true_or, Bool.false_or, Bool.or_false, Bool.or_true, Bool.not_true, Bool.not_false, Bool.and_self, Bool.or_self, if_true, if_false, Bool.true_eq_false, Bool.false_eq_true, not_true, not_false_eq_true]
    try simp
/-- the first set that wins, from one on -/
def mj_nxc (σ : mj_St) (n r g s l : Nat) : Int32 := if mj_mvs σ g (11 - r) s n = -1 then -1 else mj_fst (mj_cho3 σ n r g s (mj_mvs σ g (11 - r) s n)) l (mj_top n + 1 - l)
theorem sp_nextChoice {n w gr r g s l : Nat} (hX : mj_XS X) (hd : mj_sd σ n w gr) (hfr : mj_sfr σ gr) (hr : r + 1 ≤ 12 - w) (F : mj_Fm σ τ) (hM : mj_MI τ n w gr) (hg : g < gr) (hs : s < 4 ^ n) (hl : l ≤ 22) : ∃ ρ, mj_Fm σ ρ ∧ mj_MI ρ n w gr ∧ ∀ d, mj_ev X (d + 40) 97 [.ref 46, .int (nI (11 - r)), .int (nI g), .int (nI s), .int (nI l)] τ = some (some (.int (mj_nxc σ n r g s l)), ρ) := by
  have hn := hd.2.2.1
  have hgr := hd.2.2.2.2.2.2.1
  have hg8 : g < 8 := by rcases hgr with q | q <;> omega
  have hdτ := mj_sd_Fm F hd
  have ht := mj_top_lt hn
  have hs31 : s < 2 ^ 31 := by
    rcases mj_n6 hn with z | z | z | z | z | z | z <;> subst z <;> simp only [Nat.reducePow] at * <;> omega
  have hW := mj_Wok_all hX hd hfr r (by omega)
  have hmi : ∀ d, mj_ev X (d + 39) 88 [.ref 46, .int (nI (11 - r)), .int (nI g), .int (nI s)] τ = some (some (.int (mj_mvs σ g (11 - r) s n)), τ) := fun d => by
    rw [← mj_mvs_1 F.1]
    exact sp_movesIn (d := d + 37) hdτ hg8 (by omega) hs31
  unfold mj_nxc
  generalize hmv : mj_mvs σ g (11 - r) s n = mv at *
  have e1 : nI n * nI (n + 1) = nI (n * (n + 1)) := mj_nI_mul _ _
  have e2 : nI (n * (n + 1)) / 2 = nI (mj_top n) := by
    show nI (n * (n + 1)) / nI 2 = _
    rw [mj_nI_div (by rcases mj_n6 hn with z | z | z | z | z | z | z <;> subst z <;> decide) (by decide)]
    rfl
  have n20 : ¬ (2 : Int32) = 0 := by decide
  by_cases hv : mv = -1
  · refine ⟨τ, F, hM, fun d => ?_⟩
    have hmd := hmi d
    rw [hv] at hmd ⊢
    refine st97 ?_
    simp only [u97_0, u97_1, u97_2, u97_3, u97_4, u97_7, u97_9, u97_11, u97_12, u97_15, u97_16, u97_17, u97_19, u97_23, u97_24, u97_27, u97_28, u97_31, u97_32, u97_33, u97_34, u97_35, u97_36, u97_39, u97_40, u97_42, u97_44, u97_45, u97_48, u97_51, u97_52, u97_53, u97_54, u97_55, u97_58, u97_60, u97_61, u97_62, u97_65, u97_68, u97_70, u97_71, u97_74, u97_77, u97_78, hmd, mj_cc_v, mj_cc_n, List.all_cons, List.all_nil, mj_noMk_int, mj_noMk_long, mj_noMk_ref, mj_noMk_junk, List.length_nil, List.length_cons, Nat.zero_le, Nat.reduceLeDiff, Nat.reduceAdd, Bool.and_true, Bool.true_and, Bool.and_self, Nat.reduceBNe, true_or, or_true, true_and, and_true, mj_z0, mj_z1, mj_z01, decide_true, decide_false, Bool.true_and, Bool.false_and, Bool.and_true, Bool.and_false, Bool.true_or, Bool.false_or, Bool.or_false, Bool.or_true, Bool.not_true, Bool.not_false, Bool.and_self, Bool.or_self, if_true, if_false, Bool.true_eq_false, Bool.false_eq_true, not_true, not_false_eq_true]
  · have loop : ∀ (j k : Nat) (τ : mj_St), k + j = mj_top n + 1 → mj_Fm σ τ → mj_MI τ n w gr → ∃ ρ, mj_Fm σ ρ ∧ mj_MI ρ n w gr ∧ ∀ d, mj_Runs X (mj_ev X (d + 39)) 3 (some .int) prog_5_method_23_code (21, [.ref 46, .int (nI (11 - r)), .int (nI g), .int (nI s), .int (nI l), .int mv, .int (nI k)], [], τ) (some (.int (mj_fst (mj_cho3 σ n r g s mv) k j)), ρ) := by
      intro j
      induction j with
      | zero =>
        intro k τ hk F hM
        have d2 : τ.1 46 5 = nI n := by rw [F.1]; exact hd.2.1
        have q : nI (mj_top n) < nI k := nI_lt (by omega) (by omega)
        refine ⟨τ, F, hM, fun d => ?_⟩
        refine u97_21.mpr ?_
        simp only [u97_0, u97_1, u97_2, u97_3, u97_4, u97_7, u97_9, u97_11, u97_12, u97_15, u97_16, u97_17, u97_19, u97_23, u97_24, u97_27, u97_28, u97_31, u97_32, u97_33, u97_34, u97_35, u97_36, u97_39, u97_40, u97_42, u97_44, u97_45, u97_48, u97_51, u97_52, u97_53, u97_54, u97_55, u97_58, u97_60, u97_61, u97_62, u97_65, u97_68, u97_70, u97_71, u97_74, u97_77, u97_78, d2, nI_1, e1, e2, n20, q, mj_fst, mj_cc_v, mj_cc_n, List.all_cons, List.all_nil, mj_noMk_int, mj_noMk_long, mj_noMk_ref, mj_noMk_junk, List.length_nil, List.length_cons, Nat.zero_le, Nat.reduceLeDiff, Nat.reduceAdd, Bool.and_true, Bool.true_and, Bool.and_self, Nat.reduceBNe, true_or, or_true, true_and, and_true, mj_z0, mj_z1, mj_z01, decide_true, decide_false, Bool.true_and, Bool.false_and, Bool.and_true, Bool.and_false, Bool.true_or, Bool.false_or, Bool.or_false, Bool.or_true, Bool.not_true, Bool.not_false, Bool.and_self, Bool.or_self, if_true, if_false, Bool.true_eq_false, Bool.false_eq_true, not_true, not_false_eq_true]
      | succ j ih =>
        intro k τ hk F hM
        have hdτ := mj_sd_Fm F hd
        have d2 : τ.1 46 5 = nI n := by rw [F.1]; exact hd.2.1
        have q : ¬ nI (mj_top n) < nI k := nI_nlt (by omega) (by omega)
        have hk22 : k < 22 := by omega
        have him : ∀ d, mj_ev X (d + 39) 93 [.ref 46, .int (nI k), .int mv, .int (nI (11 - r))] τ = some (some (.int (mj_z (mj_imv σ k (11 - r) mv))), τ) := fun d => by
          rw [← mj_imv_1 F.1]
          exact sp_isMove (d := d + 37) hX hdτ hk22 (by omega)
        simp only [mj_fst]
        rcases (Bool.eq_false_or_eq_true (mj_imv σ k (11 - r) mv)).symm with c1 | c1
        · have ec : mj_cho3 σ n r g s mv k = false := by
            unfold mj_cho3
            rw [c1, Bool.false_and]
          rw [if_neg (by rw [ec]; decide)]
          obtain ⟨ρ, F2, M2, hlp⟩ := ih (k + 1) τ (by omega) F hM
          refine ⟨ρ, F2, M2, fun d => ?_⟩
          have hid := him d
          have hld := hlp d
          rw [c1] at hid
          refine u97_21.mpr ?_
          simp only [u97_0, u97_1, u97_2, u97_3, u97_4, u97_7, u97_9, u97_11, u97_12, u97_15, u97_16, u97_17, u97_19, u97_23, u97_24, u97_27, u97_28, u97_31, u97_32, u97_33, u97_34, u97_35, u97_36, u97_39, u97_40, u97_42, u97_44, u97_45, u97_48, u97_51, u97_52, u97_53, u97_54, u97_55, u97_58, u97_60, u97_61, u97_62, u97_65, u97_68, u97_70, u97_71, u97_74, u97_77, u97_78, d2, nI_1, e1, e2, n20, q, hid, mj_zF, mj_cc_v, mj_cc_n, List.all_cons, List.all_nil, mj_noMk_int, mj_noMk_long, mj_noMk_ref, mj_noMk_junk, List.length_nil, List.length_cons, Nat.zero_le, Nat.reduceLeDiff, Nat.reduceAdd, Bool.and_true, Bool.true_and, Bool.and_self, Nat.reduceBNe, true_or, or_true, true_and, and_true, mj_z0, mj_z1, mj_z01, decide_true, decide_false, Bool.true_and, Bool.false_and, Bool.and_true, Bool.and_false, Bool.true_or, Bool.false_or, Bool.or_false, Bool.or_true, Bool.not_true, Bool.not_false, Bool.and_self, Bool.or_self, if_true, if_false, Bool.true_eq_false, Bool.false_eq_true, not_true, not_false_eq_true]
          exact hld
        · have hle := mj_imv_le hmv.symm hv c1 hk22 hn
          have es : nI s - nI (mj_tK k) = nI (s - mj_tK k) := mj_nI_sub hle
          obtain ⟨ρ, F2, M2, hfo⟩ := sp_follows hd hfr (by omega) hW (g := g) (s := s - mj_tK k) F hM hg (by omega)
          rcases (Bool.eq_false_or_eq_true (mj_fl σ (mj_W σ n r) r g (s - mj_tK k))).symm with c2 | c2
          · have ec : mj_cho3 σ n r g s mv k = false := by
              unfold mj_cho3
              rw [c1, c2, Bool.and_false]
            rw [if_neg (by rw [ec]; decide)]
            obtain ⟨ρ2, F3, M3, hlp⟩ := ih (k + 1) ρ (by omega) F2 M2
            refine ⟨ρ2, F3, M3, fun d => ?_⟩
            have hid := him d
            have hld := hlp d
            have hfd := hfo (d + 35 - 3 * r)
            rw [show d + 35 - 3 * r + 3 * r + 4 = d + 39 by omega] at hfd
            rw [c1] at hid
            rw [c2] at hfd
            refine u97_21.mpr ?_
            simp only [u97_0, u97_1, u97_2, u97_3, u97_4, u97_7, u97_9, u97_11, u97_12, u97_15, u97_16, u97_17, u97_19, u97_23, u97_24, u97_27, u97_28, u97_31, u97_32, u97_33, u97_34, u97_35, u97_36, u97_39, u97_40, u97_42, u97_44, u97_45, u97_48, u97_51, u97_52, u97_53, u97_54, u97_55, u97_58, u97_60, u97_61, u97_62, u97_65, u97_68, u97_70, u97_71, u97_74, u97_77, u97_78, d2, nI_1, e1, e2, n20, q, hid, mj_kI_T hX hk22, es, hfd, mj_zF, mj_zT, mj_n10, mj_cc_v, mj_cc_n, List.all_cons, List.all_nil, mj_noMk_int, mj_noMk_long, mj_noMk_ref, mj_noMk_junk, List.length_nil, List.length_cons, Nat.zero_le, Nat.reduceLeDiff, Nat.reduceAdd, Bool.and_true, Bool.true_and, Bool.and_self, Nat.reduceBNe, true_or, or_true, true_and, and_true, mj_z0, mj_z1, mj_z01, decide_true, decide_false, Bool.true_and, Bool.false_and, Bool.and_true, Bool.and_false, Bool.true_or, Bool.false_or, Bool.or_false, Bool.or_true, Bool.not_true, Bool.not_false, Bool.and_self, Bool.or_self, if_true, if_false, Bool.true_eq_false, Bool.false_eq_true, not_true, not_false_eq_true]
            exact hld
          · have ec : mj_cho3 σ n r g s mv k = true := by
              unfold mj_cho3
              rw [c1, c2, Bool.and_self]
            rw [if_pos ec]
            refine ⟨ρ, F2, M2, fun d => ?_⟩
            have hid := him d
            have hfd := hfo (d + 35 - 3 * r)
            rw [show d + 35 - 3 * r + 3 * r + 4 = d + 39 by omega] at hfd
            rw [c1] at hid
            rw [c2] at hfd
            refine u97_21.mpr ?_
            simp only [u97_0, u97_1, u97_2, u97_3, u97_4, u97_7, u97_9, u97_11, u97_12, u97_15, u97_16, u97_17, u97_19, u97_23, u97_24, u97_27, u97_28, u97_31, u97_32, u97_33, u97_34, u97_35, u97_36, u97_39, u97_40, u97_42, u97_44, u97_45, u97_48, u97_51, u97_52, u97_53, u97_54, u97_55, u97_58, u97_60, u97_61, u97_62, u97_65, u97_68, u97_70, u97_71, u97_74, u97_77, u97_78, d2, nI_1, e1, e2, n20, q, hid, mj_kI_T hX hk22, es, hfd, mj_zT, mj_n10, mj_cc_v, mj_cc_n, List.all_cons, List.all_nil, mj_noMk_int, mj_noMk_long, mj_noMk_ref, mj_noMk_junk, List.length_nil, List.length_cons, Nat.zero_le, Nat.reduceLeDiff, Nat.reduceAdd, Bool.and_true, Bool.true_and, Bool.and_self, Nat.reduceBNe, true_or, or_true, true_and, and_true, mj_z0, mj_z1, mj_z01, decide_true, decide_false, Bool.true_and, Bool.false_and, Bool.and_true, Bool.and_false, Bool.true_or, Bool.false_or, Bool.or_false, Bool.or_true, Bool.not_true, Bool.not_false, Bool.and_self, Bool.or_self, if_true, if_false, Bool.true_eq_false, Bool.false_eq_true, not_true, not_false_eq_true]
    rw [if_neg hv]
    by_cases hlt : l ≤ mj_top n + 1
    · obtain ⟨ρ, F2, M2, hlp⟩ := loop (mj_top n + 1 - l) l τ (by omega) F hM
      refine ⟨ρ, F2, M2, fun d => ?_⟩
      have hmd := hmi d
      have hld := hlp d
      refine st97 ?_
      simp only [u97_0, u97_1, u97_2, u97_3, u97_4, u97_7, u97_9, u97_11, u97_12, u97_15, u97_16, u97_17, u97_19, u97_23, u97_24, u97_27, u97_28, u97_31, u97_32, u97_33, u97_34, u97_35, u97_36, u97_39, u97_40, u97_42, u97_44, u97_45, u97_48, u97_51, u97_52, u97_53, u97_54, u97_55, u97_58, u97_60, u97_61, u97_62, u97_65, u97_68, u97_70, u97_71, u97_74, u97_77, u97_78, hmd, eq_false hv, mj_cc_v, mj_cc_n, List.all_cons, List.all_nil, mj_noMk_int, mj_noMk_long, mj_noMk_ref, mj_noMk_junk, List.length_nil, List.length_cons, Nat.zero_le, Nat.reduceLeDiff, Nat.reduceAdd, Bool.and_true, Bool.true_and, Bool.and_self, Nat.reduceBNe, true_or, or_true, true_and, and_true, mj_z0, mj_z1, mj_z01, decide_true, decide_false, Bool.true_and, Bool.false_and, Bool.and_true, Bool.and_false, Bool.true_or, Bool.false_or, Bool.or_false, Bool.or_true, Bool.not_true, Bool.not_false, Bool.and_self, Bool.or_self, if_true, if_false, Bool.true_eq_false, Bool.false_eq_true, not_true, not_false_eq_true]
      exact hld
    · refine ⟨τ, F, hM, fun d => ?_⟩
      have hmd := hmi d
      have d2 : τ.1 46 5 = nI n := by rw [F.1]; exact hd.2.1
      have q : nI (mj_top n) < nI l := nI_lt (by omega) (by omega)
      rw [show mj_top n + 1 - l = 0 by omega]
      refine st97 ?_
      simp only [u97_0, u97_1, u97_2, u97_3, u97_4, u97_7, u97_9, u97_11, u97_12, u97_15, u97_16, u97_17, u97_19, u97_23, u97_24, u97_27, u97_28, u97_31, u97_32, u97_33, u97_34, u97_35, u97_36, u97_39, u97_40, u97_42, u97_44, u97_45, u97_48, u97_51, u97_52, u97_53, u97_54, u97_55, u97_58, u97_60, u97_61, u97_62, u97_65, u97_68, u97_70, u97_71, u97_74, u97_77, u97_78, hmd, eq_false hv, mj_cc_v, mj_cc_n, List.all_cons, List.all_nil, mj_noMk_int, mj_noMk_long, mj_noMk_ref, mj_noMk_junk, List.length_nil, List.length_cons, Nat.zero_le, Nat.reduceLeDiff, Nat.reduceAdd, Bool.and_true, Bool.true_and, Bool.and_self, Nat.reduceBNe, true_or, or_true, true_and, and_true, mj_z0, mj_z1, mj_z01, decide_true, decide_false, Bool.true_and, Bool.false_and, Bool.and_true, Bool.and_false, Bool.true_or, Bool.false_or, Bool.or_false, Bool.or_true, Bool.not_true, Bool.not_false, Bool.and_self, Bool.or_self, if_true, if_false, Bool.true_eq_false, Bool.false_eq_true, not_true, not_false_eq_true]
      refine u97_21.mpr ?_
      simp only [u97_0, u97_1, u97_2, u97_3, u97_4, u97_7, u97_9, u97_11, u97_12, u97_15, u97_16, u97_17, u97_19, u97_23, u97_24, u97_27, u97_28, u97_31, u97_32, u97_33, u97_34, u97_35, u97_36, u97_39, u97_40, u97_42, u97_44, u97_45, u97_48, u97_51, u97_52, u97_53, u97_54, u97_55, u97_58, u97_60, u97_61, u97_62, u97_65, u97_68, u97_70, u97_71, u97_74, u97_77, u97_78, d2, nI_1, e1, e2, n20, q, mj_fst, mj_cc_v, mj_cc_n, List.all_cons, List.all_nil, mj_noMk_int, mj_noMk_long, mj_noMk_ref, mj_noMk_junk, List.length_nil, List.length_cons, Nat.zero_le, Nat.reduceLeDiff, Nat.reduceAdd, Bool.and_true, Bool.true_and, Bool.and_self, Nat.reduceBNe, true_or, or_true, true_and, and_true, mj_z0, mj_z1, mj_z01, decide_true, decide_false, Bool.true_and, Bool.false_and, Bool.and_true, Bool.and_false, Bool.true_or, Bool.false_or, Bool.or_false, Bool.or_true, Bool.not_true, Bool.not_false, Bool.and_self, Bool.or_self, if_true, if_false, Bool.true_eq_false, Bool.false_eq_true, not_true, not_false_eq_true]
end
