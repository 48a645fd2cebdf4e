section
variable {X : mj_X} {d : Nat} {σ τ ρ : mj_St}
theorem mj_isw {i N : Nat} (hN : σ.1 14 14 = nI N) (h9 : N ≤ 9) (hi : i < N) : mj_ev X (d + 2) 37 [.ref 14, .int (nI i)] σ = some (some (.int (mj_z (mj_wk (σ.1 15 i)))), σ) := by
  have h := sp_isWork (X := X) (d := d) (x := nI i) (σ := σ) (by rw [hN, nI_toInt (by omega)]; omega)
  have a : ¬ nI i < 0 := nI_nlt (b := 0) (Nat.zero_le _) (by omega)
  have b : nI i < nI N := nI_lt hi (by omega)
  have e : mj_lt0 (nI i) (σ.1 14 14) = true := by
    unfold mj_lt0
    rw [hN, decide_eq_false a, decide_eq_true b]
    rfl
  rw [e, Bool.true_and, nI_clamp (by omega)] at h
  exact h
-- what FREE and NEVER ones close
def mj_cls (σ : mj_St) (g h : Int32) (i : Nat) : Bool := mj_b (σ.1 46 1) i && (!mj_wk (σ.1 15 i) && (mj_cov (σ.1 16 i) (σ.1 17 i) h && decide (¬ mj_stg σ i g h = 0)))
def mj_clc (σ : mj_St) (i p : Nat) : Bool := decide (σ.1 15 i = 6) || decide (σ.1 18 (σ.1 47 p).toNatClampNeg = σ.1 18 i)
def mj_clp (σ : mj_St) (i : Nat) (u : Int32) (n : Nat) : Int32 := mj_it (fun p v => if mj_clc σ i p = true then v ||| 1 <<< (nI p &&& 31) else v) u n
def mj_clo (σ : mj_St) (g h : Int32) (n N : Nat) : Int32 := mj_it (fun i u => if mj_cls σ g h i = true then mj_clp σ i u n else u) 0 N
theorem sp_closedPlaces {N w gr n : Nat} {g h : Int32} (hd : mj_pd σ N w gr) (hn : mj_pn σ n) : mj_ev X (d + 3) 77 [.ref 46, .int g, .int h] σ = some (some (.int (mj_clo σ g h n N)), σ) := by
  obtain ⟨d1, d2, d3, d4, d5, d6, d7, d8⟩ := hd
  obtain ⟨n1, n2, n3⟩ := hn
  have inner : ∀ (i : Nat) (u : Int32) (r : mj_Rs), i < 9 → mj_Runs X (mj_ev X (d + 2)) 3 (some .int) prog_5_method_13_code (5, [.ref 46, .int g, .int h, .int (mj_clp σ i u n), .int (nI (i + 1)), .int (nI n)], [], σ) r → mj_Runs X (mj_ev X (d + 2)) 3 (some .int) prog_5_method_13_code (68, [.ref 46, .int g, .int h, .int u, .int (nI i), .int (nI 0)], [], σ) r := by
    intro i u r hi hr
    exact mj_count (X := X) (call := mj_ev X (d + 2)) (oc := 3) (ret := (some .int)) (cc := prog_5_method_13_code) (N := n) (S := fun p => (68, [.ref 46, .int g, .int h, .int (mj_clp σ i u p), .int (nI i), .int (nI p)], [], σ)) (fun k hk hr => by
        have q : nI k < nI n := nI_lt hk (by omega)
        obtain ⟨m, hm, em⟩ := mj_nI_of (n3 k hk) (by decide)
        have em' : (σ.1 47 k).toNatClampNeg = m := by rw [em]; exact nI_clamp (by omega)
        have e1 : mj_clp σ i u (k + 1) = if mj_clc σ i k = true then mj_clp σ i u k ||| 1 <<< (nI k &&& 31) else mj_clp σ i u k := rfl
        rw [e1] at hr
        unfold mj_clc at hr
        rw [em'] at hr
        generalize mj_clp σ i u k = va at *
        refine u77_68.mpr ?_
        by_cases c1 : σ.1 15 i = 6
        · rw [if_pos (by rw [decide_eq_true c1]; rfl)] at hr
          simp only [u77_0, u77_1, u77_2, u77_3, u77_7, u77_8, u77_11, u77_14, u77_17, u77_18, u77_20, u77_23, u77_26, u77_27, u77_30, u77_32, u77_35, u77_38, u77_39, u77_42, u77_44, u77_45, u77_48, u77_51, u77_52, u77_54, u77_55, u77_56, u77_59, u77_62, u77_65, u77_66, u77_70, u77_71, u77_74, u77_77, u77_78, u77_81, u77_84, u77_86, u77_87, u77_89, u77_92, u77_93, u77_96, u77_99, u77_100, u77_103, u77_105, u77_106, u77_107, u77_108, u77_111, u77_114, u77_116, u77_117, u77_120, u77_121, u77_122, u77_124, u77_125, u77_126, u77_127, u77_130, u77_133, u77_136, u77_139, u77_140, n1, q, d1, mj_rf_some, mj_rf14, mj_in_nI (show k < 6 by omega) (by decide), mj_nz9 (show k < 6 by omega) (by decide), mj_in_nI hi (by decide), mj_nz9 hi (by decide), eq_true c1, nI_1, mj_cc_v, mj_cc_n, List.all_cons, List.all_nil, mj_noMk_int, mj_noMk_long, mj_noMk_ref, mj_noMk_junk, List.length_nil, List.length_cons, Nat.zero_le, Nat.reduceLeDiff, Nat.reduceAdd, Bool.and_true, Bool.true_and, Bool.and_self, Nat.reduceBNe, true_or, or_true, true_and, and_true, mj_z0, mj_z1, mj_z01, decide_true, decide_false, Bool.true_and, Bool.false_and, Bool.and_true, Bool.and_false, Bool.true_or, Bool.false_or, Bool.or_false, Bool.or_true, Bool.not_true, Bool.not_false, Bool.and_self, Bool.or_self, if_true, if_false, Bool.true_eq_false, Bool.false_eq_true, not_true, not_false_eq_true]
          exact hr
        · by_cases c2 : σ.1 18 m = σ.1 18 i
          · rw [if_pos (by rw [decide_eq_true c2, Bool.or_true])] at hr
            simp only [u77_0, u77_1, u77_2, u77_3, u77_7, u77_8, u77_11, u77_14, u77_17, u77_18, u77_20, u77_23, u77_26, u77_27, u77_30, u77_32, u77_35, u77_38, u77_39, u77_42, u77_44, u77_45, u77_48, u77_51, u77_52, u77_54, u77_55, u77_56, u77_59, u77_62, u77_65, u77_66, u77_70, u77_71, u77_74, u77_77, u77_78, u77_81, u77_84, u77_86, u77_87, u77_89, u77_92, u77_93, u77_96, u77_99, u77_100, u77_103, u77_105, u77_106, u77_107, u77_108, u77_111, u77_114, u77_116, u77_117, u77_120, u77_121, u77_122, u77_124, u77_125, u77_126, u77_127, u77_130, u77_133, u77_136, u77_139, u77_140, n1, q, d1, mj_rf_some, mj_rf14, mj_in_nI (show k < 6 by omega) (by decide), mj_nz9 (show k < 6 by omega) (by decide), mj_in_nI hi (by decide), mj_nz9 hi (by decide), em, mj_in_nI hm (by decide), mj_nz9 hm (by decide), eq_false c1, eq_true c2, nI_1, mj_cc_v, mj_cc_n, List.all_cons, List.all_nil, mj_noMk_int, mj_noMk_long, mj_noMk_ref, mj_noMk_junk, List.length_nil, List.length_cons, Nat.zero_le, Nat.reduceLeDiff, Nat.reduceAdd, Bool.and_true, Bool.true_and, Bool.and_self, Nat.reduceBNe, true_or, or_true, true_and, and_true, mj_z0, mj_z1, mj_z01, decide_true, decide_false, Bool.true_and, Bool.false_and, Bool.and_true, Bool.and_false, Bool.true_or, Bool.false_or, Bool.or_false, Bool.or_true, Bool.not_true, Bool.not_false, Bool.and_self, Bool.or_self, if_true, if_false, Bool.true_eq_false, Bool.false_eq_true, not_true, not_false_eq_true]
            exact hr
          · rw [if_neg (by rw [decide_eq_false c1, decide_eq_false c2]; decide)] at hr
            simp only [u77_0, u77_1, u77_2, u77_3, u77_7, u77_8, u77_11, u77_14, u77_17, u77_18, u77_20, u77_23, u77_26, u77_27, u77_30, u77_32, u77_35, u77_38, u77_39, u77_42, u77_44, u77_45, u77_48, u77_51, u77_52, u77_54, u77_55, u77_56, u77_59, u77_62, u77_65, u77_66, u77_70, u77_71, u77_74, u77_77, u77_78, u77_81, u77_84, u77_86, u77_87, u77_89, u77_92, u77_93, u77_96, u77_99, u77_100, u77_103, u77_105, u77_106, u77_107, u77_108, u77_111, u77_114, u77_116, u77_117, u77_120, u77_121, u77_122, u77_124, u77_125, u77_126, u77_127, u77_130, u77_133, u77_136, u77_139, u77_140, n1, q, d1, mj_rf_some, mj_rf14, mj_in_nI (show k < 6 by omega) (by decide), mj_nz9 (show k < 6 by omega) (by decide), mj_in_nI hi (by decide), mj_nz9 hi (by decide), em, mj_in_nI hm (by decide), mj_nz9 hm (by decide), eq_false c1, eq_false c2, nI_1, mj_cc_v, mj_cc_n, List.all_cons, List.all_nil, mj_noMk_int, mj_noMk_long, mj_noMk_ref, mj_noMk_junk, List.length_nil, List.length_cons, Nat.zero_le, Nat.reduceLeDiff, Nat.reduceAdd, Bool.and_true, Bool.true_and, Bool.and_self, Nat.reduceBNe, true_or, or_true, true_and, and_true, mj_z0, mj_z1, mj_z01, decide_true, decide_false, Bool.true_and, Bool.false_and, Bool.and_true, Bool.and_false, Bool.true_or, Bool.false_or, Bool.or_false, Bool.or_true, Bool.not_true, Bool.not_false, Bool.and_self, Bool.or_self, if_true, if_false, Bool.true_eq_false, Bool.false_eq_true, not_true, not_false_eq_true]
            exact hr) (by
        have q : ¬ nI n < nI n := nI_nlt (Nat.le_refl _) (by omega)
        refine u77_68.mpr ?_
        simp only [u77_0, u77_1, u77_2, u77_3, u77_7, u77_8, u77_11, u77_14, u77_17, u77_18, u77_20, u77_23, u77_26, u77_27, u77_30, u77_32, u77_35, u77_38, u77_39, u77_42, u77_44, u77_45, u77_48, u77_51, u77_52, u77_54, u77_55, u77_56, u77_59, u77_62, u77_65, u77_66, u77_70, u77_71, u77_74, u77_77, u77_78, u77_81, u77_84, u77_86, u77_87, u77_89, u77_92, u77_93, u77_96, u77_99, u77_100, u77_103, u77_105, u77_106, u77_107, u77_108, u77_111, u77_114, u77_116, u77_117, u77_120, u77_121, u77_122, u77_124, u77_125, u77_126, u77_127, u77_130, u77_133, u77_136, u77_139, u77_140, n1, q, nI_1, mj_cc_v, mj_cc_n, List.all_cons, List.all_nil, mj_noMk_int, mj_noMk_long, mj_noMk_ref, mj_noMk_junk, List.length_nil, List.length_cons, Nat.zero_le, Nat.reduceLeDiff, Nat.reduceAdd, Bool.and_true, Bool.true_and, Bool.and_self, Nat.reduceBNe, true_or, or_true, true_and, and_true, mj_z0, mj_z1, mj_z01, decide_true, decide_false, Bool.true_and, Bool.false_and, Bool.and_true, Bool.and_false, Bool.true_or, Bool.false_or, Bool.or_false, Bool.or_true, Bool.not_true, Bool.not_false, Bool.and_self, Bool.or_self, if_true, if_false, Bool.true_eq_false, Bool.false_eq_true, not_true, not_false_eq_true]
        exact hr) 0 (Nat.zero_le _)
  have loop : ∀ (j k : Nat) (v5 : Value), mj_noMk v5 = true → k + j = N → mj_Runs X (mj_ev X (d + 2)) 3 (some .int) prog_5_method_13_code (5, [.ref 46, .int g, .int h, .int (mj_clo σ g h n k), .int (nI k), v5], [], σ) (some (.int (mj_clo σ g h n N)), σ) := by
    intro j
    induction j with
    | zero =>
      intro k v5 m5 hk
      have hk' : k = N := by omega
      subst hk'
      have q : ¬ nI k < nI k := nI_nlt (Nat.le_refl _) (by omega)
      refine u77_5.mpr ?_
      simp only [u77_0, u77_1, u77_2, u77_3, u77_7, u77_8, u77_11, u77_14, u77_17, u77_18, u77_20, u77_23, u77_26, u77_27, u77_30, u77_32, u77_35, u77_38, u77_39, u77_42, u77_44, u77_45, u77_48, u77_51, u77_52, u77_54, u77_55, u77_56, u77_59, u77_62, u77_65, u77_66, u77_70, u77_71, u77_74, u77_77, u77_78, u77_81, u77_84, u77_86, u77_87, u77_89, u77_92, u77_93, u77_96, u77_99, u77_100, u77_103, u77_105, u77_106, u77_107, u77_108, u77_111, u77_114, u77_116, u77_117, u77_120, u77_121, u77_122, u77_124, u77_125, u77_126, u77_127, u77_130, u77_133, u77_136, u77_139, u77_140, d1, d2, mj_rf_some, mj_rf14, q, mj_cc_v, mj_cc_n, List.all_cons, List.all_nil, mj_noMk_int, mj_noMk_long, mj_noMk_ref, mj_noMk_junk, List.length_nil, List.length_cons, Nat.zero_le, Nat.reduceLeDiff, Nat.reduceAdd, Bool.and_true, Bool.true_and, Bool.and_self, Nat.reduceBNe, true_or, or_true, true_and, and_true, mj_z0, mj_z1, mj_z01, decide_true, decide_false, Bool.true_and, Bool.false_and, Bool.and_true, Bool.and_false, Bool.true_or, Bool.false_or, Bool.or_false, Bool.or_true, Bool.not_true, Bool.not_false, Bool.and_self, Bool.or_self, if_true, if_false, Bool.true_eq_false, Bool.false_eq_true, not_true, not_false_eq_true]
    | succ j ih =>
      intro k v5 m5 hk
      have hk9 : k < 9 := by omega
      have q : nI k < nI N := nI_lt (by omega) (by omega)
      have hm := sp_isMeant (X := X) (d := d + 1) (σ := σ) (k := k) (by omega)
      have hw := mj_isw (X := X) (d := d) d2 d3 (show k < N by omega)
      have hc := sp_covers (X := X) (d := d + 1) (σ := σ) (h := h) hk9
      have hs := sp_standing (X := X) (d := d) (g := g) (h := h) d1 hk9 (d8 k hk9)
      have e1 : mj_clo σ g h n (k + 1) = if mj_cls σ g h k = true then mj_clp σ k (mj_clo σ g h n k) n else mj_clo σ g h n k := rfl
      have hi := ih (k + 1)
      rw [e1] at hi
      unfold mj_cls at hi
      generalize mj_clo σ g h n k = va at *
      refine u77_5.mpr ?_
      cases c1 : mj_b (σ.1 46 1) k
      · rw [c1] at hm hi
        simp only [Bool.false_and, Bool.false_eq_true, if_false] at hi
        simp only [u77_0, u77_1, u77_2, u77_3, u77_7, u77_8, u77_11, u77_14, u77_17, u77_18, u77_20, u77_23, u77_26, u77_27, u77_30, u77_32, u77_35, u77_38, u77_39, u77_42, u77_44, u77_45, u77_48, u77_51, u77_52, u77_54, u77_55, u77_56, u77_59, u77_62, u77_65, u77_66, u77_70, u77_71, u77_74, u77_77, u77_78, u77_81, u77_84, u77_86, u77_87, u77_89, u77_92, u77_93, u77_96, u77_99, u77_100, u77_103, u77_105, u77_106, u77_107, u77_108, u77_111, u77_114, u77_116, u77_117, u77_120, u77_121, u77_122, u77_124, u77_125, u77_126, u77_127, u77_130, u77_133, u77_136, u77_139, u77_140, d1, d2, mj_rf_some, mj_rf14, q, hm, mj_zF, m5, nI_1, mj_cc_v, mj_cc_n, List.all_cons, List.all_nil, mj_noMk_int, mj_noMk_long, mj_noMk_ref, mj_noMk_junk, List.length_nil, List.length_cons, Nat.zero_le, Nat.reduceLeDiff, Nat.reduceAdd, Bool.and_true, Bool.true_and, Bool.and_self, Nat.reduceBNe, true_or, or_true, true_and, and_true, mj_z0, mj_z1, mj_z01, decide_true, decide_false, Bool.true_and, Bool.false_and, Bool.and_true, Bool.and_false, Bool.true_or, Bool.false_or, Bool.or_false, Bool.or_true, Bool.not_true, Bool.not_false, Bool.and_self, Bool.or_self, if_true, if_false, Bool.true_eq_false, Bool.false_eq_true, not_true, not_false_eq_true]
        exact hi v5 m5 (by omega)
      · rw [c1] at hm hi
        cases c2 : mj_wk (σ.1 15 k)
        · rw [c2] at hw hi
          cases c3 : mj_cov (σ.1 16 k) (σ.1 17 k) h
          · rw [c3] at hc hi
            simp only [Bool.false_and, Bool.and_false, Bool.false_eq_true, if_false] at hi
            simp only [u77_0, u77_1, u77_2, u77_3, u77_7, u77_8, u77_11, u77_14, u77_17, u77_18, u77_20, u77_23, u77_26, u77_27, u77_30, u77_32, u77_35, u77_38, u77_39, u77_42, u77_44, u77_45, u77_48, u77_51, u77_52, u77_54, u77_55, u77_56, u77_59, u77_62, u77_65, u77_66, u77_70, u77_71, u77_74, u77_77, u77_78, u77_81, u77_84, u77_86, u77_87, u77_89, u77_92, u77_93, u77_96, u77_99, u77_100, u77_103, u77_105, u77_106, u77_107, u77_108, u77_111, u77_114, u77_116, u77_117, u77_120, u77_121, u77_122, u77_124, u77_125, u77_126, u77_127, u77_130, u77_133, u77_136, u77_139, u77_140, d1, d2, mj_rf_some, mj_rf14, q, hm, hw, hc, mj_zF, mj_zT, mj_n10, m5, nI_1, mj_cc_v, mj_cc_n, List.all_cons, List.all_nil, mj_noMk_int, mj_noMk_long, mj_noMk_ref, mj_noMk_junk, List.length_nil, List.length_cons, Nat.zero_le, Nat.reduceLeDiff, Nat.reduceAdd, Bool.and_true, Bool.true_and, Bool.and_self, Nat.reduceBNe, true_or, or_true, true_and, and_true, mj_z0, mj_z1, mj_z01, decide_true, decide_false, Bool.true_and, Bool.false_and, Bool.and_true, Bool.and_false, Bool.true_or, Bool.false_or, Bool.or_false, Bool.or_true, Bool.not_true, Bool.not_false, Bool.and_self, Bool.or_self, if_true, if_false, Bool.true_eq_false, Bool.false_eq_true, not_true, not_false_eq_true]
            exact hi v5 m5 (by omega)
          · rw [c3] at hc hi
            by_cases c4 : mj_stg σ k g h = 0
            · rw [c4] at hs hi
              simp only [not_true, decide_false, Bool.and_false, Bool.false_eq_true, if_false] at hi
              simp only [u77_0, u77_1, u77_2, u77_3, u77_7, u77_8, u77_11, u77_14, u77_17, u77_18, u77_20, u77_23, u77_26, u77_27, u77_30, u77_32, u77_35, u77_38, u77_39, u77_42, u77_44, u77_45, u77_48, u77_51, u77_52, u77_54, u77_55, u77_56, u77_59, u77_62, u77_65, u77_66, u77_70, u77_71, u77_74, u77_77, u77_78, u77_81, u77_84, u77_86, u77_87, u77_89, u77_92, u77_93, u77_96, u77_99, u77_100, u77_103, u77_105, u77_106, u77_107, u77_108, u77_111, u77_114, u77_116, u77_117, u77_120, u77_121, u77_122, u77_124, u77_125, u77_126, u77_127, u77_130, u77_133, u77_136, u77_139, u77_140, d1, d2, mj_rf_some, mj_rf14, q, hm, hw, hc, hs, mj_zF, mj_zT, mj_n10, m5, nI_1, mj_cc_v, mj_cc_n, List.all_cons, List.all_nil, mj_noMk_int, mj_noMk_long, mj_noMk_ref, mj_noMk_junk, List.length_nil, List.length_cons, Nat.zero_le, Nat.reduceLeDiff, Nat.reduceAdd, Bool.and_true, Bool.true_and, Bool.and_self, Nat.reduceBNe, true_or, or_true, true_and, and_true, mj_z0, mj_z1, mj_z01, decide_true, decide_false, Bool.true_and, Bool.false_and, Bool.and_true, Bool.and_false, Bool.true_or, Bool.false_or, Bool.or_false, Bool.or_true, Bool.not_true, Bool.not_false, Bool.and_self, Bool.or_self, if_true, if_false, Bool.true_eq_false, Bool.false_eq_true, not_true, not_false_eq_true]
              exact hi v5 m5 (by omega)
            · rw [decide_eq_true c4] at hi
              simp only [Bool.not_false, Bool.and_self, Bool.true_and, if_true] at hi
              simp only [u77_0, u77_1, u77_2, u77_3, u77_7, u77_8, u77_11, u77_14, u77_17, u77_18, u77_20, u77_23, u77_26, u77_27, u77_30, u77_32, u77_35, u77_38, u77_39, u77_42, u77_44, u77_45, u77_48, u77_51, u77_52, u77_54, u77_55, u77_56, u77_59, u77_62, u77_65, u77_66, u77_70, u77_71, u77_74, u77_77, u77_78, u77_81, u77_84, u77_86, u77_87, u77_89, u77_92, u77_93, u77_96, u77_99, u77_100, u77_103, u77_105, u77_106, u77_107, u77_108, u77_111, u77_114, u77_116, u77_117, u77_120, u77_121, u77_122, u77_124, u77_125, u77_126, u77_127, u77_130, u77_133, u77_136, u77_139, u77_140, d1, d2, mj_rf_some, mj_rf14, q, hm, hw, hc, hs, mj_zF, mj_zT, mj_n10, eq_false c4, m5, nI_1, mj_cc_v, mj_cc_n, List.all_cons, List.all_nil, mj_noMk_int, mj_noMk_long, mj_noMk_ref, mj_noMk_junk, List.length_nil, List.length_cons, Nat.zero_le, Nat.reduceLeDiff, Nat.reduceAdd, Bool.and_true, Bool.true_and, Bool.and_self, Nat.reduceBNe, true_or, or_true, true_and, and_true, mj_z0, mj_z1, mj_z01, decide_true, decide_false, Bool.true_and, Bool.false_and, Bool.and_true, Bool.and_false, Bool.true_or, Bool.false_or, Bool.or_false, Bool.or_true, Bool.not_true, Bool.not_false, Bool.and_self, Bool.or_self, if_true, if_false, Bool.true_eq_false, Bool.false_eq_true, not_true, not_false_eq_true]
              exact inner k va _ hk9 (hi (.int (nI n)) rfl (by omega))
        · rw [c2] at hw hi
          simp only [Bool.not_true, Bool.false_and, Bool.and_false, Bool.false_eq_true, if_false] at hi
          simp only [u77_0, u77_1, u77_2, u77_3, u77_7, u77_8, u77_11, u77_14, u77_17, u77_18, u77_20, u77_23, u77_26, u77_27, u77_30, u77_32, u77_35, u77_38, u77_39, u77_42, u77_44, u77_45, u77_48, u77_51, u77_52, u77_54, u77_55, u77_56, u77_59, u77_62, u77_65, u77_66, u77_70, u77_71, u77_74, u77_77, u77_78, u77_81, u77_84, u77_86, u77_87, u77_89, u77_92, u77_93, u77_96, u77_99, u77_100, u77_103, u77_105, u77_106, u77_107, u77_108, u77_111, u77_114, u77_116, u77_117, u77_120, u77_121, u77_122, u77_124, u77_125, u77_126, u77_127, u77_130, u77_133, u77_136, u77_139, u77_140, d1, d2, mj_rf_some, mj_rf14, q, hm, hw, mj_zT, mj_n10, m5, nI_1, mj_cc_v, mj_cc_n, List.all_cons, List.all_nil, mj_noMk_int, mj_noMk_long, mj_noMk_ref, mj_noMk_junk, List.length_nil, List.length_cons, Nat.zero_le, Nat.reduceLeDiff, Nat.reduceAdd, Bool.and_true, Bool.true_and, Bool.and_self, Nat.reduceBNe, true_or, or_true, true_and, and_true, mj_z0, mj_z1, mj_z01, decide_true, decide_false, Bool.true_and, Bool.false_and, Bool.and_true, Bool.and_false, Bool.true_or, Bool.false_or, Bool.or_false, Bool.or_true, Bool.not_true, Bool.not_false, Bool.and_self, Bool.or_self, if_true, if_false, Bool.true_eq_false, Bool.false_eq_true, not_true, not_false_eq_true]
          exact hi v5 m5 (by omega)
  refine st77 ?_
  simp only [u77_0, u77_1, u77_2, u77_3, u77_7, u77_8, u77_11, u77_14, u77_17, u77_18, u77_20, u77_23, u77_26, u77_27, u77_30, u77_32, u77_35, u77_38, u77_39, u77_42, u77_44, u77_45, u77_48, u77_51, u77_52, u77_54, u77_55, u77_56, u77_59, u77_62, u77_65, u77_66, u77_70, u77_71, u77_74, u77_77, u77_78, u77_81, u77_84, u77_86, u77_87, u77_89, u77_92, u77_93, u77_96, u77_99, u77_100, u77_103, u77_105, u77_106, u77_107, u77_108, u77_111, u77_114, u77_116, u77_117, u77_120, u77_121, u77_122, u77_124, u77_125, u77_126, u77_127, u77_130, u77_133, u77_136, u77_139, u77_140, mj_cc_v, mj_cc_n, List.all_cons, List.all_nil, mj_noMk_int, mj_noMk_long, mj_noMk_ref, mj_noMk_junk, List.length_nil, List.length_cons, Nat.zero_le, Nat.reduceLeDiff, Nat.reduceAdd, Bool.and_true, Bool.true_and, Bool.and_self, Nat.reduceBNe, true_or, or_true, true_and, and_true, mj_z0, mj_z1, mj_z01, decide_true, decide_false, Bool.true_and, Bool.false_and, Bool.and_true, Bool.and_false, Bool.true_or, Bool.false_or, Bool.or_false, Bool.or_true, Bool.not_true, Bool.not_false, Bool.and_self, Bool.or_self, if_true, if_false, Bool.true_eq_false, Bool.false_eq_true, not_true, not_false_eq_true]
  exact loop N 0 mj_junk rfl (by omega)
-- how the places stand
def mj_stb (σ : mj_St) (g h cl : Int32) (p : Nat) : Bool := decide (mj_stg σ (σ.1 47 p).toNatClampNeg g h = 3) && (mj_cov (σ.1 16 (σ.1 47 p).toNatClampNeg) (σ.1 17 (σ.1 47 p).toNatClampNeg) h && (decide (cl &&& 1 <<< (nI p &&& 31) = 0) && decide (¬ σ.1 48 p = -2)))
def mj_sti (σ : mj_St) (g h cl : Int32) (p : Nat) (u : Int32) : Int32 :=
  if mj_stb σ g h cl p = true then ((u ||| (if mj_stg σ (σ.1 47 p).toNatClampNeg g h < 1 then (0 : Int32) else ((1 : Int32) <<< (nI p &&& 31)) <<< ((6 : Int32) &&& 31))) ||| (if mj_stg σ (σ.1 47 p).toNatClampNeg g h < 2 then (0 : Int32) else ((1 : Int32) <<< (nI p &&& 31)) <<< ((12 : Int32) &&& 31))) ||| 1 <<< (nI p &&& 31)
  else (u ||| (if mj_stg σ (σ.1 47 p).toNatClampNeg g h < 1 then (0 : Int32) else ((1 : Int32) <<< (nI p &&& 31)) <<< ((6 : Int32) &&& 31))) ||| (if mj_stg σ (σ.1 47 p).toNatClampNeg g h < 2 then (0 : Int32) else ((1 : Int32) <<< (nI p &&& 31)) <<< ((12 : Int32) &&& 31))
def mj_stv (σ : mj_St) (g h cl : Int32) (n : Nat) : Int32 := mj_it (mj_sti σ g h cl) 0 n
theorem mj_stg_c {k : Nat} {g h : Int32} : mj_stg σ k g h = 0 ∨ mj_stg σ k g h = 1 ∨ mj_stg σ k g h = 2 ∨ mj_stg σ k g h = 3 := by
  unfold mj_stg
  by_cases c1 : σ.1 46 2 = 1
  · rw [if_pos c1]
    by_cases c2 : mj_ask (σ.1 20 k) (σ.1 21 k) (σ.1 46 3) = true
    · rw [if_pos c2]
      by_cases c3 : mj_kn σ k h = true
      · rw [if_pos c3]; exact Or.inr (Or.inr (Or.inr rfl))
      · rw [if_neg c3]; exact Or.inr (Or.inr (Or.inl rfl))
    · rw [if_neg c2]; exact Or.inl rfl
  · rw [if_neg c1]
    by_cases c3 : mj_kn σ k h = true
    · rw [if_pos c3]
      by_cases c2 : mj_ask (σ.1 20 k) (σ.1 21 k) g = true
      · rw [if_pos c2]; exact Or.inr (Or.inr (Or.inr rfl))
      · rw [if_neg c2]; exact Or.inl rfl
    · rw [if_neg c3]; exact Or.inr (Or.inl rfl)
theorem sp_standingsIn {N w gr n : Nat} {g h cl : Int32} (hd : mj_pd σ N w gr) (hn : mj_pn σ n) : mj_ev X (d + 3) 78 [.ref 46, .int g, .int h, .int cl] σ = some (some (.int (mj_stv σ g h cl n)), σ) := by
  obtain ⟨d1, d2, d3, d4, d5, d6, d7, d8⟩ := hd
  obtain ⟨n1, n2, n3⟩ := hn
  have l01 : (0 : Int32) < 1 := by decide
  have l02 : (0 : Int32) < 2 := by decide
  have l03 : ¬ (0 : Int32) = 3 := by decide
  have l11 : ¬ (1 : Int32) < 1 := by decide
  have l12 : (1 : Int32) < 2 := by decide
  have l13 : ¬ (1 : Int32) = 3 := by decide
  have l21 : ¬ (2 : Int32) < 1 := by decide
  have l22 : ¬ (2 : Int32) < 2 := by decide
  have l23 : ¬ (2 : Int32) = 3 := by decide
  have l31 : ¬ (3 : Int32) < 1 := by decide
  have l32 : ¬ (3 : Int32) < 2 := by decide
  have loop : ∀ (j k : Nat) (v6 v7 v8 : Value), mj_noMk v6 = true → mj_noMk v7 = true → mj_noMk v8 = true → k + j = n → mj_Runs X (mj_ev X (d + 2)) 3 (some .int) prog_5_method_12_code (6, [.ref 46, .int g, .int h, .int cl, .int (mj_stv σ g h cl k), .int (nI k), v6, v7, v8], [], σ) (some (.int (mj_stv σ g h cl n)), σ) := by
    intro j
    induction j with
    | zero =>
      intro k v6 v7 v8 m6 m7 m8 hk
      have hk' : k = n := by omega
      subst hk'
      have q : ¬ nI k < nI k := nI_nlt (Nat.le_refl _) (by omega)
      refine u78_6.mpr ?_
      simp only [u78_0, u78_1, u78_3, u78_4, u78_8, u78_9, u78_12, u78_15, u78_16, u78_19, u78_21, u78_22, u78_24, u78_25, u78_27, u78_28, u78_29, u78_32, u78_34, u78_35, u78_37, u78_38, u78_40, u78_42, u78_44, u78_45, u78_48, u78_50, u78_52, u78_53, u78_56, u78_57, u78_58, u78_60, u78_62, u78_64, u78_65, u78_68, u78_70, u78_72, u78_73, u78_76, u78_77, u78_78, u78_80, u78_82, u78_83, u78_86, u78_87, u78_90, u78_92, u78_93, u78_96, u78_99, u78_100, u78_102, u78_103, u78_106, u78_107, u78_110, u78_112, u78_113, u78_115, u78_118, u78_120, u78_122, u78_123, u78_125, u78_128, u78_131, u78_133, n1, q, mj_cc_v, mj_cc_n, List.all_cons, List.all_nil, mj_noMk_int, mj_noMk_long, mj_noMk_ref, mj_noMk_junk, List.length_nil, List.length_cons, Nat.zero_le, Nat.reduceLeDiff, Nat.reduceAdd, Bool.and_true, Bool.true_and, Bool.and_self, Nat.reduceBNe, true_or, or_true, true_and, and_true, mj_z0, mj_z1, mj_z01, decide_true, decide_false, Bool.true_and, Bool.false_and, Bool.and_true, Bool.and_false, Bool.true_or, Bool.false_or, Bool.or_false, Bool.or_true, Bool.not_true, Bool.not_false, Bool.and_self, Bool.or_self, if_true, if_false, Bool.true_eq_false, Bool.false_eq_true, not_true, not_false_eq_true]
    | succ j ih =>
      intro k v6 v7 v8 m6 m7 m8 hk
      have hk6 : k < 6 := by omega
      have q : nI k < nI n := nI_lt (by omega) (by omega)
      obtain ⟨m, hm, em⟩ := mj_nI_of (n3 k (by omega)) (by decide)
      have em' : (σ.1 47 k).toNatClampNeg = m := by rw [em]; exact nI_clamp (by omega)
      have hs := sp_standing (X := X) (d := d) (g := g) (h := h) d1 hm (d8 m hm)
      have hc := sp_covers (X := X) (d := d + 1) (σ := σ) (h := h) hm
      have e1 : mj_stv σ g h cl (k + 1) = mj_sti σ g h cl k (mj_stv σ g h cl k) := rfl
      have hi := ih (k + 1) (.int (nI m)) (.int (mj_stg σ m g h)) (.int (1 <<< (nI k &&& 31))) rfl rfl rfl (by omega)
      rw [e1] at hi
      unfold mj_sti mj_stb at hi
      rw [em'] at hi
      generalize mj_stv σ g h cl k = va at *
      refine u78_6.mpr ?_
      rcases mj_stg_c (σ := σ) (k := m) (g := g) (h := h) with z | z | z | z
      · rw [z] at hs hi
        simp only [l01, l02, l03, decide_false, Bool.false_and, Bool.false_eq_true, if_true, if_false] at hi
        simp only [u78_0, u78_1, u78_3, u78_4, u78_8, u78_9, u78_12, u78_15, u78_16, u78_19, u78_21, u78_22, u78_24, u78_25, u78_27, u78_28, u78_29, u78_32, u78_34, u78_35, u78_37, u78_38, u78_40, u78_42, u78_44, u78_45, u78_48, u78_50, u78_52, u78_53, u78_56, u78_57, u78_58, u78_60, u78_62, u78_64, u78_65, u78_68, u78_70, u78_72, u78_73, u78_76, u78_77, u78_78, u78_80, u78_82, u78_83, u78_86, u78_87, u78_90, u78_92, u78_93, u78_96, u78_99, u78_100, u78_102, u78_103, u78_106, u78_107, u78_110, u78_112, u78_113, u78_115, u78_118, u78_120, u78_122, u78_123, u78_125, u78_128, u78_131, u78_133, n1, q, mj_in_nI hk6 (by decide), mj_nz9 hk6 (by decide), em, hs, l01, l02, l03, m6, m7, m8, nI_1, mj_cc_v, mj_cc_n, List.all_cons, List.all_nil, mj_noMk_int, mj_noMk_long, mj_noMk_ref, mj_noMk_junk, List.length_nil, List.length_cons, Nat.zero_le, Nat.reduceLeDiff, Nat.reduceAdd, Bool.and_true, Bool.true_and, Bool.and_self, Nat.reduceBNe, true_or, or_true, true_and, and_true, mj_z0, mj_z1, mj_z01, decide_true, decide_false, Bool.true_and, Bool.false_and, Bool.and_true, Bool.and_false, Bool.true_or, Bool.false_or, Bool.or_false, Bool.or_true, Bool.not_true, Bool.not_false, Bool.and_self, Bool.or_self, if_true, if_false, Bool.true_eq_false, Bool.false_eq_true, not_true, not_false_eq_true]
        exact hi
      · rw [z] at hs hi
        simp only [l11, l12, l13, decide_false, Bool.false_and, Bool.false_eq_true, if_true, if_false] at hi
        simp only [u78_0, u78_1, u78_3, u78_4, u78_8, u78_9, u78_12, u78_15, u78_16, u78_19, u78_21, u78_22, u78_24, u78_25, u78_27, u78_28, u78_29, u78_32, u78_34, u78_35, u78_37, u78_38, u78_40, u78_42, u78_44, u78_45, u78_48, u78_50, u78_52, u78_53, u78_56, u78_57, u78_58, u78_60, u78_62, u78_64, u78_65, u78_68, u78_70, u78_72, u78_73, u78_76, u78_77, u78_78, u78_80, u78_82, u78_83, u78_86, u78_87, u78_90, u78_92, u78_93, u78_96, u78_99, u78_100, u78_102, u78_103, u78_106, u78_107, u78_110, u78_112, u78_113, u78_115, u78_118, u78_120, u78_122, u78_123, u78_125, u78_128, u78_131, u78_133, n1, q, mj_in_nI hk6 (by decide), mj_nz9 hk6 (by decide), em, hs, l11, l12, l13, m6, m7, m8, nI_1, mj_cc_v, mj_cc_n, List.all_cons, List.all_nil, mj_noMk_int, mj_noMk_long, mj_noMk_ref, mj_noMk_junk, List.length_nil, List.length_cons, Nat.zero_le, Nat.reduceLeDiff, Nat.reduceAdd, Bool.and_true, Bool.true_and, Bool.and_self, Nat.reduceBNe, true_or, or_true, true_and, and_true, mj_z0, mj_z1, mj_z01, decide_true, decide_false, Bool.true_and, Bool.false_and, Bool.and_true, Bool.and_false, Bool.true_or, Bool.false_or, Bool.or_false, Bool.or_true, Bool.not_true, Bool.not_false, Bool.and_self, Bool.or_self, if_true, if_false, Bool.true_eq_false, Bool.false_eq_true, not_true, not_false_eq_true]
        exact hi
      · rw [z] at hs hi
        simp only [l21, l22, l23, decide_false, Bool.false_and, Bool.false_eq_true, if_true, if_false] at hi
        simp only [u78_0, u78_1, u78_3, u78_4, u78_8, u78_9, u78_12, u78_15, u78_16, u78_19, u78_21, u78_22, u78_24, u78_25, u78_27, u78_28, u78_29, u78_32, u78_34, u78_35, u78_37, u78_38, u78_40, u78_42, u78_44, u78_45, u78_48, u78_50, u78_52, u78_53, u78_56, u78_57, u78_58, u78_60, u78_62, u78_64, u78_65, u78_68, u78_70, u78_72, u78_73, u78_76, u78_77, u78_78, u78_80, u78_82, u78_83, u78_86, u78_87, u78_90, u78_92, u78_93, u78_96, u78_99, u78_100, u78_102, u78_103, u78_106, u78_107, u78_110, u78_112, u78_113, u78_115, u78_118, u78_120, u78_122, u78_123, u78_125, u78_128, u78_131, u78_133, n1, q, mj_in_nI hk6 (by decide), mj_nz9 hk6 (by decide), em, hs, l21, l22, l23, m6, m7, m8, nI_1, mj_cc_v, mj_cc_n, List.all_cons, List.all_nil, mj_noMk_int, mj_noMk_long, mj_noMk_ref, mj_noMk_junk, List.length_nil, List.length_cons, Nat.zero_le, Nat.reduceLeDiff, Nat.reduceAdd, Bool.and_true, Bool.true_and, Bool.and_self, Nat.reduceBNe, true_or, or_true, true_and, and_true, mj_z0, mj_z1, mj_z01, decide_true, decide_false, Bool.true_and, Bool.false_and, Bool.and_true, Bool.and_false, Bool.true_or, Bool.false_or, Bool.or_false, Bool.or_true, Bool.not_true, Bool.not_false, Bool.and_self, Bool.or_self, if_true, if_false, Bool.true_eq_false, Bool.false_eq_true, not_true, not_false_eq_true]
        exact hi
      · rw [z] at hs hi
        cases c2 : mj_cov (σ.1 16 m) (σ.1 17 m) h
        · rw [c2] at hc hi
          simp only [l31, l32, decide_true, Bool.true_and, Bool.false_and, Bool.false_eq_true, if_true, if_false] at hi
          simp only [u78_0, u78_1, u78_3, u78_4, u78_8, u78_9, u78_12, u78_15, u78_16, u78_19, u78_21, u78_22, u78_24, u78_25, u78_27, u78_28, u78_29, u78_32, u78_34, u78_35, u78_37, u78_38, u78_40, u78_42, u78_44, u78_45, u78_48, u78_50, u78_52, u78_53, u78_56, u78_57, u78_58, u78_60, u78_62, u78_64, u78_65, u78_68, u78_70, u78_72, u78_73, u78_76, u78_77, u78_78, u78_80, u78_82, u78_83, u78_86, u78_87, u78_90, u78_92, u78_93, u78_96, u78_99, u78_100, u78_102, u78_103, u78_106, u78_107, u78_110, u78_112, u78_113, u78_115, u78_118, u78_120, u78_122, u78_123, u78_125, u78_128, u78_131, u78_133, n1, q, mj_in_nI hk6 (by decide), mj_nz9 hk6 (by decide), em, hs, hc, d1, mj_rf_some, mj_rf14, l31, l32, mj_zF, m6, m7, m8, nI_1, mj_cc_v, mj_cc_n, List.all_cons, List.all_nil, mj_noMk_int, mj_noMk_long, mj_noMk_ref, mj_noMk_junk, List.length_nil, List.length_cons, Nat.zero_le, Nat.reduceLeDiff, Nat.reduceAdd, Bool.and_true, Bool.true_and, Bool.and_self, Nat.reduceBNe, true_or, or_true, true_and, and_true, mj_z0, mj_z1, mj_z01, decide_true, decide_false, Bool.true_and, Bool.false_and, Bool.and_true, Bool.and_false, Bool.true_or, Bool.false_or, Bool.or_false, Bool.or_true, Bool.not_true, Bool.not_false, Bool.and_self, Bool.or_self, if_true, if_false, Bool.true_eq_false, Bool.false_eq_true, not_true, not_false_eq_true]
          exact hi
        · rw [c2] at hc hi
          by_cases c3 : cl &&& 1 <<< (nI k &&& 31) = 0
          · by_cases c4 : σ.1 48 k = -2
            · simp only [l31, l32, eq_true c3, eq_true c4, not_true, decide_true, decide_false, Bool.true_and, Bool.and_false, Bool.false_eq_true, if_true, if_false] at hi
              simp only [u78_0, u78_1, u78_3, u78_4, u78_8, u78_9, u78_12, u78_15, u78_16, u78_19, u78_21, u78_22, u78_24, u78_25, u78_27, u78_28, u78_29, u78_32, u78_34, u78_35, u78_37, u78_38, u78_40, u78_42, u78_44, u78_45, u78_48, u78_50, u78_52, u78_53, u78_56, u78_57, u78_58, u78_60, u78_62, u78_64, u78_65, u78_68, u78_70, u78_72, u78_73, u78_76, u78_77, u78_78, u78_80, u78_82, u78_83, u78_86, u78_87, u78_90, u78_92, u78_93, u78_96, u78_99, u78_100, u78_102, u78_103, u78_106, u78_107, u78_110, u78_112, u78_113, u78_115, u78_118, u78_120, u78_122, u78_123, u78_125, u78_128, u78_131, u78_133, n1, q, mj_in_nI hk6 (by decide), mj_nz9 hk6 (by decide), em, hs, hc, d1, mj_rf_some, mj_rf14, l31, l32, mj_zT, mj_n10, eq_true c3, eq_true c4, m6, m7, m8, nI_1, mj_cc_v, mj_cc_n, List.all_cons, List.all_nil, mj_noMk_int, mj_noMk_long, mj_noMk_ref, mj_noMk_junk, List.length_nil, List.length_cons, Nat.zero_le, Nat.reduceLeDiff, Nat.reduceAdd, Bool.and_true, Bool.true_and, Bool.and_self, Nat.reduceBNe, true_or, or_true, true_and, and_true, mj_z0, mj_z1, mj_z01, decide_true, decide_false, Bool.true_and, Bool.false_and, Bool.and_true, Bool.and_false, Bool.true_or, Bool.false_or, Bool.or_false, Bool.or_true, Bool.not_true, Bool.not_false, Bool.and_self, Bool.or_self, if_true, if_false, Bool.true_eq_false, Bool.false_eq_true, not_true, not_false_eq_true]
              exact hi
            · simp only [l31, l32, eq_true c3, eq_false c4, not_false_eq_true, decide_true, Bool.true_and, Bool.and_self, if_true, if_false] at hi
              simp only [u78_0, u78_1, u78_3, u78_4, u78_8, u78_9, u78_12, u78_15, u78_16, u78_19, u78_21, u78_22, u78_24, u78_25, u78_27, u78_28, u78_29, u78_32, u78_34, u78_35, u78_37, u78_38, u78_40, u78_42, u78_44, u78_45, u78_48, u78_50, u78_52, u78_53, u78_56, u78_57, u78_58, u78_60, u78_62, u78_64, u78_65, u78_68, u78_70, u78_72, u78_73, u78_76, u78_77, u78_78, u78_80, u78_82, u78_83, u78_86, u78_87, u78_90, u78_92, u78_93, u78_96, u78_99, u78_100, u78_102, u78_103, u78_106, u78_107, u78_110, u78_112, u78_113, u78_115, u78_118, u78_120, u78_122, u78_123, u78_125, u78_128, u78_131, u78_133, n1, q, mj_in_nI hk6 (by decide), mj_nz9 hk6 (by decide), em, hs, hc, d1, mj_rf_some, mj_rf14, l31, l32, mj_zT, mj_n10, eq_true c3, eq_false c4, m6, m7, m8, nI_1, mj_cc_v, mj_cc_n, List.all_cons, List.all_nil, mj_noMk_int, mj_noMk_long, mj_noMk_ref, mj_noMk_junk, List.length_nil, List.length_cons, Nat.zero_le, Nat.reduceLeDiff, Nat.reduceAdd, Bool.and_true, Bool.true_and, Bool.and_self, Nat.reduceBNe, true_or, or_true, true_and, and_true, mj_z0, mj_z1, mj_z01, decide_true, decide_false, Bool.true_and, Bool.false_and, Bool.and_true, Bool.and_false, Bool.true_or, Bool.false_or, Bool.or_false, Bool.or_true, Bool.not_true, Bool.not_false, Bool.and_self, Bool.or_self, if_true, if_false, Bool.true_eq_false, Bool.false_eq_true, not_true, not_false_eq_true]
              exact hi
          · simp only [l31, l32, eq_false c3, decide_true, decide_false, Bool.true_and, Bool.false_and, Bool.false_eq_true, if_true, if_false] at hi
            simp only [u78_0, u78_1, u78_3, u78_4, u78_8, u78_9, u78_12, u78_15, u78_16, u78_19, u78_21, u78_22, u78_24, u78_25, u78_27, u78_28, u78_29, u78_32, u78_34, u78_35, u78_37, u78_38, u78_40, u78_42, u78_44, u78_45, u78_48, u78_50, u78_52, u78_53, u78_56, u78_57, u78_58, u78_60, u78_62, u78_64, u78_65, u78_68, u78_70, u78_72, u78_73, u78_76, u78_77, u78_78, u78_80, u78_82, u78_83, u78_86, u78_87, u78_90, u78_92, u78_93, u78_96, u78_99, u78_100, u78_102, u78_103, u78_106, u78_107, u78_110, u78_112, u78_113, u78_115, u78_118, u78_120, u78_122, u78_123, u78_125, u78_128, u78_131, u78_133, n1, q, mj_in_nI hk6 (by decide), mj_nz9 hk6 (by decide), em, hs, hc, d1, mj_rf_some, mj_rf14, l31, l32, mj_zT, mj_n10, eq_false c3, m6, m7, m8, nI_1, mj_cc_v, mj_cc_n, List.all_cons, List.all_nil, mj_noMk_int, mj_noMk_long, mj_noMk_ref, mj_noMk_junk, List.length_nil, List.length_cons, Nat.zero_le, Nat.reduceLeDiff, Nat.reduceAdd, Bool.and_true, Bool.true_and, Bool.and_self, Nat.reduceBNe, true_or, or_true, true_and, and_true, mj_z0, mj_z1, mj_z01, decide_true, decide_false, Bool.true_and, Bool.false_and, Bool.and_true, Bool.and_false, Bool.true_or, Bool.false_or, Bool.or_false, Bool.or_true, Bool.not_true, Bool.not_false, Bool.and_self, Bool.or_self, if_true, if_false, Bool.true_eq_false, Bool.false_eq_true, not_true, not_false_eq_true]
            exact hi
  refine st78 ?_
  simp only [u78_0, u78_1, u78_3, u78_4, u78_8, u78_9, u78_12, u78_15, u78_16, u78_19, u78_21, u78_22, u78_24, u78_25, u78_27, u78_28, u78_29, u78_32, u78_34, u78_35, u78_37, u78_38, u78_40, u78_42, u78_44, u78_45, u78_48, u78_50, u78_52, u78_53, u78_56, u78_57, u78_58, u78_60, u78_62, u78_64, u78_65, u78_68, u78_70, u78_72, u78_73, u78_76, u78_77, u78_78, u78_80, u78_82, u78_83, u78_86, u78_87, u78_90, u78_92, u78_93, u78_96, u78_99, u78_100, u78_102, u78_103, u78_106, u78_107, u78_110, u78_112, u78_113, u78_115, u78_118, u78_120, u78_122, u78_123, u78_125, u78_128, u78_131, u78_133, mj_cc_v, mj_cc_n, List.all_cons, List.all_nil, mj_noMk_int, mj_noMk_long, mj_noMk_ref, mj_noMk_junk, List.length_nil, List.length_cons, Nat.zero_le, Nat.reduceLeDiff, Nat.reduceAdd, Bool.and_true, Bool.true_and, Bool.and_self, Nat.reduceBNe, true_or, or_true, true_and, and_true, mj_z0, mj_z1, mj_z01, decide_true, decide_false, Bool.true_and, Bool.false_and, Bool.and_true, Bool.and_false, Bool.true_or, Bool.false_or, Bool.or_false, Bool.or_true, Bool.not_true, Bool.not_false, Bool.and_self, Bool.or_self, if_true, if_false, Bool.true_eq_false, Bool.false_eq_true, not_true, not_false_eq_true]
  exact loop n 0 mj_junk mj_junk mj_junk rfl rfl rfl (by omega)
end
