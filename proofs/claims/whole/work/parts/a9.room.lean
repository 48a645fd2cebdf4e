section
variable {X : mj_X} {d : Nat} {σ τ ρ : mj_St}
-- how much may be done ahead of each hour
def mj_mst (σ : mj_St) (h gr : Nat) : Int32 := mj_it (fun g u => if u < mj_pop (σ.1 51 (g * 12 + h) &&& 63) then mj_pop (σ.1 51 (g * 12 + h) &&& 63) else u) 0 gr
def mj_rb (σ : mj_St) (w gr : Nat) (k : Nat) : Int32 := mj_it (fun i u => u + (if σ.1 27 (w + i) < mj_mst σ (w + i) gr then σ.1 27 (w + i) else mj_mst σ (w + i) gr)) 0 k
def mj_rbS (σ : mj_St) (w gr k : Nat) : mj_St := (fun c i => if c = 54 ∧ w ≤ i ∧ i ≤ w + k then mj_rb σ w gr (i - w) else σ.1 c i, σ.2)
theorem mj_rbS_o {w gr k c : Nat} (a : c ≠ 54) : (mj_rbS σ w gr k).1 c = σ.1 c := by
  funext i
  simp [mj_rbS, a]
theorem mj_rbS_0 {w gr : Nat} : mj_setI σ 54 w 0 = mj_rbS σ w gr 0 := by
  refine Prod.ext ?_ rfl
  funext c i
  simp only [mj_setI, mj_rbS]
  by_cases c1 : c = 54
  · by_cases c2 : i = w
    · subst c2
      simp [c1, mj_rb, mj_it]
    · have : ¬ (w ≤ i ∧ i ≤ w + 0) := by omega
      simp [c1, c2, this]
      intro a b
      omega
  · simp [c1]
theorem mj_rbS_s {w gr k : Nat} : mj_setI (mj_rbS σ w gr k) 54 (w + k + 1) (mj_rb σ w gr (k + 1)) = mj_rbS σ w gr (k + 1) := by
  refine Prod.ext ?_ rfl
  funext c i
  simp only [mj_setI, mj_rbS]
  by_cases c1 : c = 54
  · by_cases c2 : i = w + k + 1
    · subst c2
      have e : w ≤ w + k + 1 ∧ w + k + 1 ≤ w + (k + 1) := by omega
      rw [if_pos ⟨c1, rfl⟩, if_pos ⟨c1, e⟩, show w + k + 1 - w = k + 1 by omega]
    · have e : (w ≤ i ∧ i ≤ w + (k + 1)) = (w ≤ i ∧ i ≤ w + k) := by apply propext; omega
      simp only [c1, c2, e, and_false, if_false]
  · simp [c1]
theorem sp_countRoom {N w gr : Nat} (hd : mj_pd σ N w gr) : mj_ev X (d + 2) 80 [.ref 46] σ = some (none, mj_rbS σ w gr (12 - w)) := by
  obtain ⟨d1, d2, d3, d4, d5, d6, d7, d8⟩ := hd
  have hb := fun (S : mj_St) (x : Int32) => sp_bitCount (X := X) (d := d) (σ := S) (x := x)
  have g8 : gr ≤ 8 := by omega
  have inner : ∀ (h k : Nat) (r : mj_Rs), h < 12 → mj_Runs X (mj_ev X (d + 1)) 3 none prog_5_method_15_code (67, [.ref 46, .int (nI h), .int (mj_mst σ h gr), .int (nI gr)], [], mj_rbS σ w gr k) r → mj_Runs X (mj_ev X (d + 1)) 3 none prog_5_method_15_code (31, [.ref 46, .int (nI h), .int 0, .int (nI 0)], [], mj_rbS σ w gr k) r := by
    intro h k r hh hr
    have o46 : (mj_rbS σ w gr k).1 46 = σ.1 46 := mj_rbS_o (by decide)
    have o51 : (mj_rbS σ w gr k).1 51 = σ.1 51 := mj_rbS_o (by decide)
    exact mj_count (X := X) (call := mj_ev X (d + 1)) (oc := 3) (ret := none) (cc := prog_5_method_15_code) (N := gr) (S := fun g => (31, [.ref 46, .int (nI h), .int (mj_it (fun g u => if u < mj_pop (σ.1 51 (g * 12 + h) &&& 63) then mj_pop (σ.1 51 (g * 12 + h) &&& 63) else u) 0 g), .int (nI g)], [], mj_rbS σ w gr k)) (fun g hg hr => by
        have q : nI g < nI gr := nI_lt hg (by omega)
        have ek : nI g * 12 = nI (g * 12) := mj_nI_mul g 12
        have k96 : g * 12 + h < 96 := by omega
        simp only [mj_it] at hr
        refine u80_31.mpr ?_
        simp only [u80_0, u80_1, u80_4, u80_5, u80_8, u80_11, u80_12, u80_13, u80_14, u80_17, u80_20, u80_22, u80_24, u80_27, u80_28, u80_29, u80_30, u80_32, u80_33, u80_36, u80_39, u80_40, u80_41, u80_44, u80_45, u80_47, u80_48, u80_49, u80_50, u80_51, u80_53, u80_54, u80_57, u80_60, u80_61, u80_64, u80_68, u80_71, u80_72, u80_73, u80_74, u80_75, u80_78, u80_79, u80_80, u80_81, u80_82, u80_85, u80_88, u80_89, u80_90, u80_93, u80_94, u80_95, u80_98, u80_101, o46, o51, d6, q, ek, nI_add, mj_in_nI k96 (by decide), mj_nz9 k96 (by decide), hb, nI_1, mj_cc_v, mj_cc_n, List.all_cons, List.all_nil, mj_noMk_int, mj_noMk_long, mj_noMk_ref, mj_noMk_junk, List.length_nil, List.length_cons, Nat.zero_le, Nat.reduceLeDiff, Nat.reduceAdd, Bool.and_true, Bool.true_and, Bool.and_self, Nat.reduceBNe, true_or, or_true, true_and, and_true, mj_z0, mj_z1, mj_z01, decide_true, decide_false, Bool.true_and, Bool.false_and, Bool.and_true, Bool.and_false, Bool.true_or, Bool.false_or, Bool.or_false, Bool.or_true, Bool.not_true, Bool.not_false, Bool.and_self, Bool.or_self, if_true, if_false, Bool.true_eq_false, Bool.false_eq_true, not_true, not_false_eq_true]
        exact hr) (by
        have q : ¬ nI gr < nI gr := nI_nlt (Nat.le_refl _) (by omega)
        refine u80_31.mpr ?_
        simp only [u80_0, u80_1, u80_4, u80_5, u80_8, u80_11, u80_12, u80_13, u80_14, u80_17, u80_20, u80_22, u80_24, u80_27, u80_28, u80_29, u80_30, u80_32, u80_33, u80_36, u80_39, u80_40, u80_41, u80_44, u80_45, u80_47, u80_48, u80_49, u80_50, u80_51, u80_53, u80_54, u80_57, u80_60, u80_61, u80_64, u80_68, u80_71, u80_72, u80_73, u80_74, u80_75, u80_78, u80_79, u80_80, u80_81, u80_82, u80_85, u80_88, u80_89, u80_90, u80_93, u80_94, u80_95, u80_98, u80_101, o46, o51, d6, q, mj_cc_v, mj_cc_n, List.all_cons, List.all_nil, mj_noMk_int, mj_noMk_long, mj_noMk_ref, mj_noMk_junk, List.length_nil, List.length_cons, Nat.zero_le, Nat.reduceLeDiff, Nat.reduceAdd, Bool.and_true, Bool.true_and, Bool.and_self, Nat.reduceBNe, true_or, or_true, true_and, and_true, mj_z0, mj_z1, mj_z01, decide_true, decide_false, Bool.true_and, Bool.false_and, Bool.and_true, Bool.and_false, Bool.true_or, Bool.false_or, Bool.or_false, Bool.or_true, Bool.not_true, Bool.not_false, Bool.and_self, Bool.or_self, if_true, if_false, Bool.true_eq_false, Bool.false_eq_true, not_true, not_false_eq_true]
        exact hr) 0 (Nat.zero_le _)
  have loop : ∀ (j k : Nat) (v2 v3 : Value), w + k + j = 12 → mj_Runs X (mj_ev X (d + 1)) 3 none prog_5_method_15_code (21, [.ref 46, .int (nI (w + k)), v2, v3], [], mj_rbS σ w gr k) (none, mj_rbS σ w gr (12 - w)) := by
    intro j
    induction j with
    | zero =>
      intro k v2 v3 hk
      have e : k = 12 - w := by omega
      have q : ¬ nI (w + k) < 12 := nI_nlt (b := 12) (by omega) (by omega)
      rw [← e]
      refine u80_21.mpr ?_
      simp only [u80_0, u80_1, u80_4, u80_5, u80_8, u80_11, u80_12, u80_13, u80_14, u80_17, u80_20, u80_22, u80_24, u80_27, u80_28, u80_29, u80_30, u80_32, u80_33, u80_36, u80_39, u80_40, u80_41, u80_44, u80_45, u80_47, u80_48, u80_49, u80_50, u80_51, u80_53, u80_54, u80_57, u80_60, u80_61, u80_64, u80_68, u80_71, u80_72, u80_73, u80_74, u80_75, u80_78, u80_79, u80_80, u80_81, u80_82, u80_85, u80_88, u80_89, u80_90, u80_93, u80_94, u80_95, u80_98, u80_101, q, mj_cc_v, mj_cc_n, List.all_cons, List.all_nil, mj_noMk_int, mj_noMk_long, mj_noMk_ref, mj_noMk_junk, List.length_nil, List.length_cons, Nat.zero_le, Nat.reduceLeDiff, Nat.reduceAdd, Bool.and_true, Bool.true_and, Bool.and_self, Nat.reduceBNe, true_or, or_true, true_and, and_true, mj_z0, mj_z1, mj_z01, decide_true, decide_false, Bool.true_and, Bool.false_and, Bool.and_true, Bool.and_false, Bool.true_or, Bool.false_or, Bool.or_false, Bool.or_true, Bool.not_true, Bool.not_false, Bool.and_self, Bool.or_self, if_true, if_false, Bool.true_eq_false, Bool.false_eq_true, not_true, not_false_eq_true]
    | succ j ih =>
      intro k v2 v3 hk
      have q : nI (w + k) < 12 := nI_lt (b := 12) (by omega) (by decide)
      have h12 : w + k < 12 := by omega
      have o46 : (mj_rbS σ w gr k).2 = σ.2 := rfl
      have o14 : (mj_rbS σ w gr k).1 27 = σ.1 27 := mj_rbS_o (by decide)
      have o54 : (mj_rbS σ w gr k).1 54 (w + k) = mj_rb σ w gr k := by
        show (if (54 : Nat) = 54 ∧ w ≤ w + k ∧ w + k ≤ w + k then mj_rb σ w gr (w + k - w) else _) = _
        rw [if_pos ⟨rfl, by omega, Nat.le_refl _⟩, show w + k - w = k by omega]
      have hl := ih (k + 1) (.int (mj_mst σ (w + k) gr)) (.int (nI gr)) (by omega)
      rw [← mj_rbS_s] at hl
      have e1 : mj_rb σ w gr (k + 1) = mj_rb σ w gr k + (if σ.1 27 (w + k) < mj_mst σ (w + k) gr then σ.1 27 (w + k) else mj_mst σ (w + k) gr) := rfl
      rw [e1] at hl
      refine u80_21.mpr ?_
      simp only [u80_0, u80_1, u80_4, u80_5, u80_8, u80_11, u80_12, u80_13, u80_14, u80_17, u80_20, u80_22, u80_24, u80_27, u80_28, u80_29, u80_30, u80_32, u80_33, u80_36, u80_39, u80_40, u80_41, u80_44, u80_45, u80_47, u80_48, u80_49, u80_50, u80_51, u80_53, u80_54, u80_57, u80_60, u80_61, u80_64, u80_68, u80_71, u80_72, u80_73, u80_74, u80_75, u80_78, u80_79, u80_80, u80_81, u80_82, u80_85, u80_88, u80_89, u80_90, u80_93, u80_94, u80_95, u80_98, u80_101, q, mj_cc_v, mj_cc_n, List.all_cons, List.all_nil, mj_noMk_int, mj_noMk_long, mj_noMk_ref, mj_noMk_junk, List.length_nil, List.length_cons, Nat.zero_le, Nat.reduceLeDiff, Nat.reduceAdd, Bool.and_true, Bool.true_and, Bool.and_self, Nat.reduceBNe, true_or, or_true, true_and, and_true, mj_z0, mj_z1, mj_z01, decide_true, decide_false, Bool.true_and, Bool.false_and, Bool.and_true, Bool.and_false, Bool.true_or, Bool.false_or, Bool.or_false, Bool.or_true, Bool.not_true, Bool.not_false, Bool.and_self, Bool.or_self, if_true, if_false, Bool.true_eq_false, Bool.false_eq_true, not_true, not_false_eq_true]
      refine inner (w + k) k _ h12 ?_
      refine u80_67.mpr ?_
      simp only [u80_0, u80_1, u80_4, u80_5, u80_8, u80_11, u80_12, u80_13, u80_14, u80_17, u80_20, u80_22, u80_24, u80_27, u80_28, u80_29, u80_30, u80_32, u80_33, u80_36, u80_39, u80_40, u80_41, u80_44, u80_45, u80_47, u80_48, u80_49, u80_50, u80_51, u80_53, u80_54, u80_57, u80_60, u80_61, u80_64, u80_68, u80_71, u80_72, u80_73, u80_74, u80_75, u80_78, u80_79, u80_80, u80_81, u80_82, u80_85, u80_88, u80_89, u80_90, u80_93, u80_94, u80_95, u80_98, u80_101, nI_1, o46, o14, o54, d1, mj_rf_some, mj_rf14, mj_in_nI (show w + k < 13 by omega) (by decide), mj_nz9 (show w + k < 13 by omega) (by decide), mj_in_nI (show w + k < 12 by omega) (by decide), mj_nz9 (show w + k < 12 by omega) (by decide), mj_in_nI (show w + k + 1 < 13 by omega) (by decide), mj_nz9 (show w + k + 1 < 13 by omega) (by decide), mj_cc_v, mj_cc_n, List.all_cons, List.all_nil, mj_noMk_int, mj_noMk_long, mj_noMk_ref, mj_noMk_junk, List.length_nil, List.length_cons, Nat.zero_le, Nat.reduceLeDiff, Nat.reduceAdd, Bool.and_true, Bool.true_and, Bool.and_self, Nat.reduceBNe, true_or, or_true, true_and, and_true, mj_z0, mj_z1, mj_z01, decide_true, decide_false, Bool.true_and, Bool.false_and, Bool.and_true, Bool.and_false, Bool.true_or, Bool.false_or, Bool.or_false, Bool.or_true, Bool.not_true, Bool.not_false, Bool.and_self, Bool.or_self, if_true, if_false, Bool.true_eq_false, Bool.false_eq_true, not_true, not_false_eq_true]
      exact hl
  refine st80 ?_
  have h0 := loop (12 - w) 0 mj_junk mj_junk (by omega)
  have ew : ∀ (x : Int32), (mj_setI σ 54 w x).1 14 = σ.1 14 := fun x => mj_setI_ne σ w x (by decide)
  have ew2 : ∀ (x : Int32), (mj_setI σ 54 w x).2 = σ.2 := fun x => rfl
  rw [← mj_rbS_0] at h0
  simp only [u80_0, u80_1, u80_4, u80_5, u80_8, u80_11, u80_12, u80_13, u80_14, u80_17, u80_20, u80_22, u80_24, u80_27, u80_28, u80_29, u80_30, u80_32, u80_33, u80_36, u80_39, u80_40, u80_41, u80_44, u80_45, u80_47, u80_48, u80_49, u80_50, u80_51, u80_53, u80_54, u80_57, u80_60, u80_61, u80_64, u80_68, u80_71, u80_72, u80_73, u80_74, u80_75, u80_78, u80_79, u80_80, u80_81, u80_82, u80_85, u80_88, u80_89, u80_90, u80_93, u80_94, u80_95, u80_98, u80_101, d1, d4, mj_rf_some, mj_rf14, mj_in_nI (show w < 13 by omega) (by decide), mj_nz9 (show w < 13 by omega) (by decide), ew, ew2, mj_cc_v, mj_cc_n, List.all_cons, List.all_nil, mj_noMk_int, mj_noMk_long, mj_noMk_ref, mj_noMk_junk, List.length_nil, List.length_cons, Nat.zero_le, Nat.reduceLeDiff, Nat.reduceAdd, Bool.and_true, Bool.true_and, Bool.and_self, Nat.reduceBNe, true_or, or_true, true_and, and_true, mj_z0, mj_z1, mj_z01, decide_true, decide_false, Bool.true_and, Bool.false_and, Bool.and_true, Bool.and_false, Bool.true_or, Bool.false_or, Bool.or_false, Bool.or_true, Bool.not_true, Bool.not_false, Bool.and_self, Bool.or_self, if_true, if_false, Bool.true_eq_false, Bool.false_eq_true, not_true, not_false_eq_true]
  exact h0
-- whether a place has too few hours
def mj_hup (σ : mj_St) (w p k : Nat) : Int32 := mj_it (fun i u => u + mj_z (mj_b (σ.1 51 (w + i)) p)) 0 k
def mj_lkh (σ : mj_St) (w n : Nat) : Bool := mj_anyF (fun p => decide (mj_hup σ w p (12 - w) < σ.1 25 (σ.1 47 p).toNatClampNeg)) 0 n
theorem sp_lacksHours {N w gr n : Nat} (hd : mj_pd σ N w gr) (hn : mj_pn σ n) : mj_ev X (d + 1) 81 [.ref 46] σ = some (some (.int (mj_z (mj_lkh σ w n))), σ) := by
  obtain ⟨d1, d2, d3, d4, d5, d6, d7, d8⟩ := hd
  obtain ⟨n1, n2, n3⟩ := hn
  have inner : ∀ (p : Nat) (r : mj_Rs), p < 6 → mj_Runs X (mj_ev X d) 3 (some .boolean) prog_5_method_16_code (45, [.ref 46, .int (nI p), .int (mj_hup σ w p (12 - w)), .int (nI (w + (12 - w)))], [], σ) r → mj_Runs X (mj_ev X d) 3 (some .boolean) prog_5_method_16_code (20, [.ref 46, .int (nI p), .int 0, .int (nI (w + 0))], [], σ) r := by
    intro p r hp hr
    exact mj_count (X := X) (call := mj_ev X d) (oc := 3) (ret := (some .boolean)) (cc := prog_5_method_16_code) (N := 12 - w) (S := fun i => (20, [.ref 46, .int (nI p), .int (mj_hup σ w p i), .int (nI (w + i))], [], σ)) (fun i hi hr => by
        have q : nI (w + i) < 12 := nI_lt (b := 12) (by omega) (by decide)
        have hbt : (σ.1 51 (w + i) >>> (nI p &&& 31)) &&& 1 = mj_z (mj_b (σ.1 51 (w + i)) p) := mj_bt (by omega)
        have e1 : mj_hup σ w p (i + 1) = mj_hup σ w p i + mj_z (mj_b (σ.1 51 (w + i)) p) := rfl
        have hr' : mj_Runs X (mj_ev X d) 3 (some .boolean) prog_5_method_16_code (20, [.ref 46, .int (nI p), .int (mj_hup σ w p i + mj_z (mj_b (σ.1 51 (w + i)) p)), .int (nI (w + i + 1))], [], σ) r := hr
        refine u81_20.mpr ?_
        simp only [u81_0, u81_1, u81_3, u81_4, u81_7, u81_10, u81_11, u81_12, u81_13, u81_16, u81_19, u81_21, u81_23, u81_26, u81_27, u81_28, u81_31, u81_32, u81_33, u81_34, u81_35, u81_36, u81_37, u81_38, u81_39, u81_42, u81_46, u81_47, u81_50, u81_53, u81_54, u81_57, u81_58, u81_59, u81_60, u81_63, u81_64, u81_65, u81_68, u81_71, u81_72, q, mj_in_nI (show w + i < 96 by omega) (by decide), mj_nz9 (show w + i < 96 by omega) (by decide), hbt, nI_1, mj_cc_v, mj_cc_n, List.all_cons, List.all_nil, mj_noMk_int, mj_noMk_long, mj_noMk_ref, mj_noMk_junk, List.length_nil, List.length_cons, Nat.zero_le, Nat.reduceLeDiff, Nat.reduceAdd, Bool.and_true, Bool.true_and, Bool.and_self, Nat.reduceBNe, true_or, or_true, true_and, and_true, mj_z0, mj_z1, mj_z01, decide_true, decide_false, Bool.true_and, Bool.false_and, Bool.and_true, Bool.and_false, Bool.true_or, Bool.false_or, Bool.or_false, Bool.or_true, Bool.not_true, Bool.not_false, Bool.and_self, Bool.or_self, if_true, if_false, Bool.true_eq_false, Bool.false_eq_true, not_true, not_false_eq_true]
        exact hr') (by
        have q : ¬ nI (w + (12 - w)) < 12 := nI_nlt (b := 12) (by omega) (by omega)
        refine u81_20.mpr ?_
        simp only [u81_0, u81_1, u81_3, u81_4, u81_7, u81_10, u81_11, u81_12, u81_13, u81_16, u81_19, u81_21, u81_23, u81_26, u81_27, u81_28, u81_31, u81_32, u81_33, u81_34, u81_35, u81_36, u81_37, u81_38, u81_39, u81_42, u81_46, u81_47, u81_50, u81_53, u81_54, u81_57, u81_58, u81_59, u81_60, u81_63, u81_64, u81_65, u81_68, u81_71, u81_72, q, mj_cc_v, mj_cc_n, List.all_cons, List.all_nil, mj_noMk_int, mj_noMk_long, mj_noMk_ref, mj_noMk_junk, List.length_nil, List.length_cons, Nat.zero_le, Nat.reduceLeDiff, Nat.reduceAdd, Bool.and_true, Bool.true_and, Bool.and_self, Nat.reduceBNe, true_or, or_true, true_and, and_true, mj_z0, mj_z1, mj_z01, decide_true, decide_false, Bool.true_and, Bool.false_and, Bool.and_true, Bool.and_false, Bool.true_or, Bool.false_or, Bool.or_false, Bool.or_true, Bool.not_true, Bool.not_false, Bool.and_self, Bool.or_self, if_true, if_false, Bool.true_eq_false, Bool.false_eq_true, not_true, not_false_eq_true]
        exact hr) 0 (Nat.zero_le _)
  have loop : ∀ (j k : Nat) (v2 v3 : Value), k + j = n → mj_Runs X (mj_ev X d) 3 (some .boolean) prog_5_method_16_code (2, [.ref 46, .int (nI k), v2, v3], [], σ) (some (.int (mj_z (mj_anyF (fun p => decide (mj_hup σ w p (12 - w) < σ.1 25 (σ.1 47 p).toNatClampNeg)) k j))), σ) := by
    intro j
    induction j with
    | zero =>
      intro k v2 v3 hk
      have q : ¬ nI k < nI n := nI_nlt (by omega) (by omega)
      refine u81_2.mpr ?_
      simp only [u81_0, u81_1, u81_3, u81_4, u81_7, u81_10, u81_11, u81_12, u81_13, u81_16, u81_19, u81_21, u81_23, u81_26, u81_27, u81_28, u81_31, u81_32, u81_33, u81_34, u81_35, u81_36, u81_37, u81_38, u81_39, u81_42, u81_46, u81_47, u81_50, u81_53, u81_54, u81_57, u81_58, u81_59, u81_60, u81_63, u81_64, u81_65, u81_68, u81_71, u81_72, n1, q, mj_anyF, mj_zF, mj_cc_v, mj_cc_n, List.all_cons, List.all_nil, mj_noMk_int, mj_noMk_long, mj_noMk_ref, mj_noMk_junk, List.length_nil, List.length_cons, Nat.zero_le, Nat.reduceLeDiff, Nat.reduceAdd, Bool.and_true, Bool.true_and, Bool.and_self, Nat.reduceBNe, true_or, or_true, true_and, and_true, mj_z0, mj_z1, mj_z01, decide_true, decide_false, Bool.true_and, Bool.false_and, Bool.and_true, Bool.and_false, Bool.true_or, Bool.false_or, Bool.or_false, Bool.or_true, Bool.not_true, Bool.not_false, Bool.and_self, Bool.or_self, if_true, if_false, Bool.true_eq_false, Bool.false_eq_true, not_true, not_false_eq_true]
    | succ j ih =>
      intro k v2 v3 hk
      have hk6 : k < 6 := by omega
      have q : nI k < nI n := nI_lt (by omega) (by omega)
      obtain ⟨m, hm, em⟩ := mj_nI_of (n3 k (by omega)) (by decide)
      have em' : (σ.1 47 k).toNatClampNeg = m := by rw [em]; exact nI_clamp (by omega)
      refine u81_2.mpr ?_
      simp only [u81_0, u81_1, u81_3, u81_4, u81_7, u81_10, u81_11, u81_12, u81_13, u81_16, u81_19, u81_21, u81_23, u81_26, u81_27, u81_28, u81_31, u81_32, u81_33, u81_34, u81_35, u81_36, u81_37, u81_38, u81_39, u81_42, u81_46, u81_47, u81_50, u81_53, u81_54, u81_57, u81_58, u81_59, u81_60, u81_63, u81_64, u81_65, u81_68, u81_71, u81_72, n1, q, d1, d4, mj_rf_some, mj_rf14, mj_cc_v, mj_cc_n, List.all_cons, List.all_nil, mj_noMk_int, mj_noMk_long, mj_noMk_ref, mj_noMk_junk, List.length_nil, List.length_cons, Nat.zero_le, Nat.reduceLeDiff, Nat.reduceAdd, Bool.and_true, Bool.true_and, Bool.and_self, Nat.reduceBNe, true_or, or_true, true_and, and_true, mj_z0, mj_z1, mj_z01, decide_true, decide_false, Bool.true_and, Bool.false_and, Bool.and_true, Bool.and_false, Bool.true_or, Bool.false_or, Bool.or_false, Bool.or_true, Bool.not_true, Bool.not_false, Bool.and_self, Bool.or_self, if_true, if_false, Bool.true_eq_false, Bool.false_eq_true, not_true, not_false_eq_true]
      refine inner k _ hk6 ?_
      have hl := ih (k + 1) (.int (mj_hup σ w k (12 - w))) (.int (nI (w + (12 - w)))) (by omega)
      simp only [mj_anyF]
      rw [em']
      refine u81_45.mpr ?_
      by_cases c : mj_hup σ w k (12 - w) < σ.1 25 m
      · rw [decide_eq_true c, Bool.true_or]
        simp only [u81_0, u81_1, u81_3, u81_4, u81_7, u81_10, u81_11, u81_12, u81_13, u81_16, u81_19, u81_21, u81_23, u81_26, u81_27, u81_28, u81_31, u81_32, u81_33, u81_34, u81_35, u81_36, u81_37, u81_38, u81_39, u81_42, u81_46, u81_47, u81_50, u81_53, u81_54, u81_57, u81_58, u81_59, u81_60, u81_63, u81_64, u81_65, u81_68, u81_71, u81_72, d1, mj_rf_some, mj_rf14, mj_in_nI hk6 (by decide), mj_nz9 hk6 (by decide), em, mj_in_nI hm (by decide), mj_nz9 hm (by decide), eq_true c, mj_zT, mj_cc_v, mj_cc_n, List.all_cons, List.all_nil, mj_noMk_int, mj_noMk_long, mj_noMk_ref, mj_noMk_junk, List.length_nil, List.length_cons, Nat.zero_le, Nat.reduceLeDiff, Nat.reduceAdd, Bool.and_true, Bool.true_and, Bool.and_self, Nat.reduceBNe, true_or, or_true, true_and, and_true, mj_z0, mj_z1, mj_z01, decide_true, decide_false, Bool.true_and, Bool.false_and, Bool.and_true, Bool.and_false, Bool.true_or, Bool.false_or, Bool.or_false, Bool.or_true, Bool.not_true, Bool.not_false, Bool.and_self, Bool.or_self, if_true, if_false, Bool.true_eq_false, Bool.false_eq_true, not_true, not_false_eq_true]
      · rw [decide_eq_false c, Bool.false_or]
        simp only [u81_0, u81_1, u81_3, u81_4, u81_7, u81_10, u81_11, u81_12, u81_13, u81_16, u81_19, u81_21, u81_23, u81_26, u81_27, u81_28, u81_31, u81_32, u81_33, u81_34, u81_35, u81_36, u81_37, u81_38, u81_39, u81_42, u81_46, u81_47, u81_50, u81_53, u81_54, u81_57, u81_58, u81_59, u81_60, u81_63, u81_64, u81_65, u81_68, u81_71, u81_72, d1, mj_rf_some, mj_rf14, mj_in_nI hk6 (by decide), mj_nz9 hk6 (by decide), em, mj_in_nI hm (by decide), mj_nz9 hm (by decide), eq_false c, nI_1, mj_cc_v, mj_cc_n, List.all_cons, List.all_nil, mj_noMk_int, mj_noMk_long, mj_noMk_ref, mj_noMk_junk, List.length_nil, List.length_cons, Nat.zero_le, Nat.reduceLeDiff, Nat.reduceAdd, Bool.and_true, Bool.true_and, Bool.and_self, Nat.reduceBNe, true_or, or_true, true_and, and_true, mj_z0, mj_z1, mj_z01, decide_true, decide_false, Bool.true_and, Bool.false_and, Bool.and_true, Bool.and_false, Bool.true_or, Bool.false_or, Bool.or_false, Bool.or_true, Bool.not_true, Bool.not_false, Bool.and_self, Bool.or_self, if_true, if_false, Bool.true_eq_false, Bool.false_eq_true, not_true, not_false_eq_true]
        exact hl
  refine st81 ?_
  simp only [u81_0, u81_1, u81_3, u81_4, u81_7, u81_10, u81_11, u81_12, u81_13, u81_16, u81_19, u81_21, u81_23, u81_26, u81_27, u81_28, u81_31, u81_32, u81_33, u81_34, u81_35, u81_36, u81_37, u81_38, u81_39, u81_42, u81_46, u81_47, u81_50, u81_53, u81_54, u81_57, u81_58, u81_59, u81_60, u81_63, u81_64, u81_65, u81_68, u81_71, u81_72, mj_cc_v, mj_cc_n, List.all_cons, List.all_nil, mj_noMk_int, mj_noMk_long, mj_noMk_ref, mj_noMk_junk, List.length_nil, List.length_cons, Nat.zero_le, Nat.reduceLeDiff, Nat.reduceAdd, Bool.and_true, Bool.true_and, Bool.and_self, Nat.reduceBNe, true_or, or_true, true_and, and_true, mj_z0, mj_z1, mj_z01, decide_true, decide_false, Bool.true_and, Bool.false_and, Bool.and_true, Bool.and_false, Bool.true_or, Bool.false_or, Bool.or_false, Bool.or_true, Bool.not_true, Bool.not_false, Bool.and_self, Bool.or_self, if_true, if_false, Bool.true_eq_false, Bool.false_eq_true, not_true, not_false_eq_true]
  exact loop n 0 mj_junk mj_junk (by omega)
-- whom each is after, as a place
def mj_afv (σ : mj_St) (ring : Int32) (n p : Nat) : Int32 :=
  if mj_b ring (σ.1 47 p).toNatClampNeg = true then -2
  else if mj_lt0 (σ.1 19 (σ.1 47 p).toNatClampNeg) (σ.1 14 14) = true then (if mj_b (σ.1 46 1) (σ.1 19 (σ.1 47 p).toNatClampNeg).toNatClampNeg = true then (if σ.1 25 (σ.1 19 (σ.1 47 p).toNatClampNeg).toNatClampNeg = 0 then -1 else mj_plc σ (σ.1 19 (σ.1 47 p).toNatClampNeg) n 0) else -2) else -1
def mj_afS (σ : mj_St) (ring : Int32) (n k : Nat) : mj_St := (fun c i => if c = 48 ∧ i < k then mj_afv σ ring n i else σ.1 c i, σ.2)
theorem mj_afS_0 {ring : Int32} {n : Nat} : mj_afS σ ring n 0 = σ := by
  refine Prod.ext ?_ rfl
  funext c i
  simp [mj_afS]
theorem mj_afS_o {ring : Int32} {n k c : Nat} (a : c ≠ 48) : (mj_afS σ ring n k).1 c = σ.1 c := by
  funext i
  simp [mj_afS, a]
theorem mj_afS_s {ring : Int32} {n k : Nat} : mj_setI (mj_afS σ ring n k) 48 k (mj_afv σ ring n k) = mj_afS σ ring n (k + 1) := by
  refine Prod.ext ?_ rfl
  funext c i
  simp only [mj_setI, mj_afS]
  by_cases c1 : c = 48
  · by_cases c2 : i = k
    · simp [c1, c2]
    · have e : (i < k + 1) = (i < k) := by apply propext; omega
      simp only [c1, c2, e, and_false, if_false]
  · simp [c1]
theorem mj_plc_o (h : τ.1 47 = σ.1 47) : mj_plc τ = mj_plc σ := by
  funext x j
  induction j with
  | zero => rfl
  | succ j ih =>
    funext k
    simp only [mj_plc]
    rw [h, ih]
theorem sp_findAfters {N w gr n : Nat} {ring : Int32} (hd : mj_pd σ N w gr) (hn : mj_pn σ n) : mj_ev X (d + 2) 65 [.ref 46, .int ring] σ = some (none, mj_afS σ ring n n) := by
  obtain ⟨d1, d2, d3, d4, d5, d6, d7, d8⟩ := hd
  obtain ⟨n1, n2, n3⟩ := hn
  have loop : ∀ (j k : Nat) (v3 v4 : Value), k + j = n → mj_Runs X (mj_ev X (d + 1)) 3 none prog_5_method_8_code (2, [.ref 46, .int ring, .int (nI k), v3, v4], [], mj_afS σ ring n k) (none, mj_afS σ ring n n) := by
    intro j
    induction j with
    | zero =>
      intro k v3 v4 hk
      have hk' : k = n := by omega
      subst hk'
      have o : (mj_afS σ ring k k).1 46 5 = nI k := by rw [mj_afS_o (by decide)]; exact n1
      have q : ¬ nI k < nI k := nI_nlt (Nat.le_refl _) (by omega)
      refine u65_2.mpr ?_
      simp only [u65_0, u65_1, u65_3, u65_4, u65_7, u65_10, u65_11, u65_14, u65_15, u65_16, u65_17, u65_18, u65_21, u65_24, u65_25, u65_26, u65_28, u65_29, u65_30, u65_31, u65_32, u65_33, u65_36, u65_37, u65_40, u65_41, u65_43, u65_44, u65_47, u65_48, u65_51, u65_53, u65_56, u65_59, u65_60, u65_63, u65_64, u65_65, u65_66, u65_69, u65_70, u65_72, u65_75, u65_78, u65_79, u65_82, u65_83, u65_85, u65_86, u65_89, u65_90, u65_93, u65_94, u65_95, u65_98, u65_101, u65_103, u65_104, u65_107, u65_108, u65_111, u65_112, u65_114, u65_117, u65_118, u65_121, u65_124, o, q, mj_cc_v, mj_cc_n, List.all_cons, List.all_nil, mj_noMk_int, mj_noMk_long, mj_noMk_ref, mj_noMk_junk, List.length_nil, List.length_cons, Nat.zero_le, Nat.reduceLeDiff, Nat.reduceAdd, Bool.and_true, Bool.true_and, Bool.and_self, Nat.reduceBNe, true_or, or_true, true_and, and_true, mj_z0, mj_z1, mj_z01, decide_true, decide_false, Bool.true_and, Bool.false_and, Bool.and_true, Bool.and_false, Bool.true_or, Bool.false_or, Bool.or_false, Bool.or_true, Bool.not_true, Bool.not_false, Bool.and_self, Bool.or_self, if_true, if_false, Bool.true_eq_false, Bool.false_eq_true, not_true, not_false_eq_true]
    | succ j ih =>
      intro k v3 v4 hk
      have hk6 : k < 6 := by omega
      have q : nI k < nI n := nI_lt (by omega) (by omega)
      obtain ⟨m, hm, em⟩ := mj_nI_of (n3 k (by omega)) (by decide)
      have em' : (σ.1 47 k).toNatClampNeg = m := by rw [em]; exact nI_clamp (by omega)
      have o : ∀ c, c < 48 → (mj_afS σ ring n k).1 c = σ.1 c := fun c hc => mj_afS_o (by omega)
      have oo : (mj_afS σ ring n k).2 = σ.2 := rfl
      have hbt : (ring >>> (nI m &&& 31)) &&& 1 = mj_z (mj_b ring m) := mj_bt (by omega)
      have hh : mj_ev X (d + 1) 13 [.ref 14, .int (σ.1 19 m)] (mj_afS σ ring n k) = some (some (.int (mj_z (mj_lt0 (σ.1 19 m) (σ.1 14 14)))), mj_afS σ ring n k) := by
        rw [← o 14 (by decide)]
        exact sp_has (d := d)
      have hl := ih (k + 1) (.int (nI m)) (.int (σ.1 19 m)) (by omega)
      rw [← mj_afS_s] at hl
      unfold mj_afv at hl
      rw [em'] at hl
      refine u65_2.mpr ?_
      cases c1 : mj_b ring m
      · rw [c1] at hbt hl
        simp only [Bool.false_eq_true, if_false] at hl
        cases c2 : mj_lt0 (σ.1 19 m) (σ.1 14 14)
        · rw [c2] at hh hl
          simp only [Bool.false_eq_true, if_false] at hl
          simp only [u65_0, u65_1, u65_3, u65_4, u65_7, u65_10, u65_11, u65_14, u65_15, u65_16, u65_17, u65_18, u65_21, u65_24, u65_25, u65_26, u65_28, u65_29, u65_30, u65_31, u65_32, u65_33, u65_36, u65_37, u65_40, u65_41, u65_43, u65_44, u65_47, u65_48, u65_51, u65_53, u65_56, u65_59, u65_60, u65_63, u65_64, u65_65, u65_66, u65_69, u65_70, u65_72, u65_75, u65_78, u65_79, u65_82, u65_83, u65_85, u65_86, u65_89, u65_90, u65_93, u65_94, u65_95, u65_98, u65_101, u65_103, u65_104, u65_107, u65_108, u65_111, u65_112, u65_114, u65_117, u65_118, u65_121, u65_124, o 46 (by decide), o 47 (by decide), o 19 (by decide), oo, n1, q, mj_in_nI hk6 (by decide), mj_nz9 hk6 (by decide), em, mj_in_nI hm (by decide), mj_nz9 hm (by decide), d1, mj_rf_some, mj_rf14, hbt, hh, mj_zF, nI_1, mj_cc_v, mj_cc_n, List.all_cons, List.all_nil, mj_noMk_int, mj_noMk_long, mj_noMk_ref, mj_noMk_junk, List.length_nil, List.length_cons, Nat.zero_le, Nat.reduceLeDiff, Nat.reduceAdd, Bool.and_true, Bool.true_and, Bool.and_self, Nat.reduceBNe, true_or, or_true, true_and, and_true, mj_z0, mj_z1, mj_z01, decide_true, decide_false, Bool.true_and, Bool.false_and, Bool.and_true, Bool.and_false, Bool.true_or, Bool.false_or, Bool.or_false, Bool.or_true, Bool.not_true, Bool.not_false, Bool.and_self, Bool.or_self, if_true, if_false, Bool.true_eq_false, Bool.false_eq_true, not_true, not_false_eq_true]
          exact hl
        · have hin := mj_lt0_in (k := 9) c2 (by rw [d2, nI_toInt (by omega)]; omega)
          obtain ⟨t, ht, et⟩ := mj_nI_of hin (by decide)
          have et' : (σ.1 19 m).toNatClampNeg = t := by rw [et]; exact nI_clamp (by omega)
          rw [c2] at hh hl
          rw [et'] at hl
          have hmt : mj_ev X (d + 1) 59 [.ref 46, .int (σ.1 19 m)] (mj_afS σ ring n k) = some (some (.int (mj_z (mj_b (σ.1 46 1) t))), mj_afS σ ring n k) := by
            rw [← o 46 (by decide), et]
            exact sp_isMeant (d := d) (by omega)
          have hpl : mj_ev X (d + 1) 66 [.ref 46, .int (σ.1 19 m)] (mj_afS σ ring n k) = some (some (.int (mj_plc σ (σ.1 19 m) n 0)), mj_afS σ ring n k) := by
            rw [← mj_plc_o (o 47 (by decide))]
            exact sp_placeOf (d := d) (by rw [o 46 (by decide)]; exact n1) n2
          have it : mj_inb (σ.1 19 m) 9 = true := hin
          simp only [if_true] at hl
          cases c3 : mj_b (σ.1 46 1) t
          · rw [c3] at hmt hl
            simp only [Bool.false_eq_true, if_false] at hl
            simp only [u65_0, u65_1, u65_3, u65_4, u65_7, u65_10, u65_11, u65_14, u65_15, u65_16, u65_17, u65_18, u65_21, u65_24, u65_25, u65_26, u65_28, u65_29, u65_30, u65_31, u65_32, u65_33, u65_36, u65_37, u65_40, u65_41, u65_43, u65_44, u65_47, u65_48, u65_51, u65_53, u65_56, u65_59, u65_60, u65_63, u65_64, u65_65, u65_66, u65_69, u65_70, u65_72, u65_75, u65_78, u65_79, u65_82, u65_83, u65_85, u65_86, u65_89, u65_90, u65_93, u65_94, u65_95, u65_98, u65_101, u65_103, u65_104, u65_107, u65_108, u65_111, u65_112, u65_114, u65_117, u65_118, u65_121, u65_124, o 46 (by decide), o 47 (by decide), o 19 (by decide), oo, n1, q, mj_in_nI hk6 (by decide), mj_nz9 hk6 (by decide), em, mj_in_nI hm (by decide), mj_nz9 hm (by decide), d1, mj_rf_some, mj_rf14, hbt, hh, hmt, mj_zF, mj_zT, mj_n10, nI_1, mj_cc_v, mj_cc_n, List.all_cons, List.all_nil, mj_noMk_int, mj_noMk_long, mj_noMk_ref, mj_noMk_junk, List.length_nil, List.length_cons, Nat.zero_le, Nat.reduceLeDiff, Nat.reduceAdd, Bool.and_true, Bool.true_and, Bool.and_self, Nat.reduceBNe, true_or, or_true, true_and, and_true, mj_z0, mj_z1, mj_z01, decide_true, decide_false, Bool.true_and, Bool.false_and, Bool.and_true, Bool.and_false, Bool.true_or, Bool.false_or, Bool.or_false, Bool.or_true, Bool.not_true, Bool.not_false, Bool.and_self, Bool.or_self, if_true, if_false, Bool.true_eq_false, Bool.false_eq_true, not_true, not_false_eq_true]
            exact hl
          · rw [c3] at hmt hl
            simp only [if_true] at hl
            by_cases c4 : σ.1 25 t = 0
            · rw [if_pos c4] at hl
              simp only [u65_0, u65_1, u65_3, u65_4, u65_7, u65_10, u65_11, u65_14, u65_15, u65_16, u65_17, u65_18, u65_21, u65_24, u65_25, u65_26, u65_28, u65_29, u65_30, u65_31, u65_32, u65_33, u65_36, u65_37, u65_40, u65_41, u65_43, u65_44, u65_47, u65_48, u65_51, u65_53, u65_56, u65_59, u65_60, u65_63, u65_64, u65_65, u65_66, u65_69, u65_70, u65_72, u65_75, u65_78, u65_79, u65_82, u65_83, u65_85, u65_86, u65_89, u65_90, u65_93, u65_94, u65_95, u65_98, u65_101, u65_103, u65_104, u65_107, u65_108, u65_111, u65_112, u65_114, u65_117, u65_118, u65_121, u65_124, o 46 (by decide), o 47 (by decide), o 19 (by decide), o 25 (by decide), oo, n1, q, mj_in_nI hk6 (by decide), mj_nz9 hk6 (by decide), em, mj_in_nI hm (by decide), mj_nz9 hm (by decide), d1, mj_rf_some, mj_rf14, hbt, hh, hmt, it, et', eq_true c4, mj_zF, mj_zT, mj_n10, nI_1, mj_cc_v, mj_cc_n, List.all_cons, List.all_nil, mj_noMk_int, mj_noMk_long, mj_noMk_ref, mj_noMk_junk, List.length_nil, List.length_cons, Nat.zero_le, Nat.reduceLeDiff, Nat.reduceAdd, Bool.and_true, Bool.true_and, Bool.and_self, Nat.reduceBNe, true_or, or_true, true_and, and_true, mj_z0, mj_z1, mj_z01, decide_true, decide_false, Bool.true_and, Bool.false_and, Bool.and_true, Bool.and_false, Bool.true_or, Bool.false_or, Bool.or_false, Bool.or_true, Bool.not_true, Bool.not_false, Bool.and_self, Bool.or_self, if_true, if_false, Bool.true_eq_false, Bool.false_eq_true, not_true, not_false_eq_true]
              exact hl
            · rw [if_neg c4] at hl
              simp only [u65_0, u65_1, u65_3, u65_4, u65_7, u65_10, u65_11, u65_14, u65_15, u65_16, u65_17, u65_18, u65_21, u65_24, u65_25, u65_26, u65_28, u65_29, u65_30, u65_31, u65_32, u65_33, u65_36, u65_37, u65_40, u65_41, u65_43, u65_44, u65_47, u65_48, u65_51, u65_53, u65_56, u65_59, u65_60, u65_63, u65_64, u65_65, u65_66, u65_69, u65_70, u65_72, u65_75, u65_78, u65_79, u65_82, u65_83, u65_85, u65_86, u65_89, u65_90, u65_93, u65_94, u65_95, u65_98, u65_101, u65_103, u65_104, u65_107, u65_108, u65_111, u65_112, u65_114, u65_117, u65_118, u65_121, u65_124, o 46 (by decide), o 47 (by decide), o 19 (by decide), o 25 (by decide), oo, n1, q, mj_in_nI hk6 (by decide), mj_nz9 hk6 (by decide), em, mj_in_nI hm (by decide), mj_nz9 hm (by decide), d1, mj_rf_some, mj_rf14, hbt, hh, hmt, hpl, it, et', eq_false c4, mj_zF, mj_zT, mj_n10, nI_1, mj_cc_v, mj_cc_n, List.all_cons, List.all_nil, mj_noMk_int, mj_noMk_long, mj_noMk_ref, mj_noMk_junk, List.length_nil, List.length_cons, Nat.zero_le, Nat.reduceLeDiff, Nat.reduceAdd, Bool.and_true, Bool.true_and, Bool.and_self, Nat.reduceBNe, true_or, or_true, true_and, and_true, mj_z0, mj_z1, mj_z01, decide_true, decide_false, Bool.true_and, Bool.false_and, Bool.and_true, Bool.and_false, Bool.true_or, Bool.false_or, Bool.or_false, Bool.or_true, Bool.not_true, Bool.not_false, Bool.and_self, Bool.or_self, if_true, if_false, Bool.true_eq_false, Bool.false_eq_true, not_true, not_false_eq_true]
              exact hl
      · rw [c1] at hbt hl
        simp only [if_true] at hl
        simp only [u65_0, u65_1, u65_3, u65_4, u65_7, u65_10, u65_11, u65_14, u65_15, u65_16, u65_17, u65_18, u65_21, u65_24, u65_25, u65_26, u65_28, u65_29, u65_30, u65_31, u65_32, u65_33, u65_36, u65_37, u65_40, u65_41, u65_43, u65_44, u65_47, u65_48, u65_51, u65_53, u65_56, u65_59, u65_60, u65_63, u65_64, u65_65, u65_66, u65_69, u65_70, u65_72, u65_75, u65_78, u65_79, u65_82, u65_83, u65_85, u65_86, u65_89, u65_90, u65_93, u65_94, u65_95, u65_98, u65_101, u65_103, u65_104, u65_107, u65_108, u65_111, u65_112, u65_114, u65_117, u65_118, u65_121, u65_124, o 46 (by decide), o 47 (by decide), o 19 (by decide), oo, n1, q, mj_in_nI hk6 (by decide), mj_nz9 hk6 (by decide), em, mj_in_nI hm (by decide), mj_nz9 hm (by decide), d1, mj_rf_some, mj_rf14, hbt, mj_zT, mj_n10, nI_1, mj_cc_v, mj_cc_n, List.all_cons, List.all_nil, mj_noMk_int, mj_noMk_long, mj_noMk_ref, mj_noMk_junk, List.length_nil, List.length_cons, Nat.zero_le, Nat.reduceLeDiff, Nat.reduceAdd, Bool.and_true, Bool.true_and, Bool.and_self, Nat.reduceBNe, true_or, or_true, true_and, and_true, mj_z0, mj_z1, mj_z01, decide_true, decide_false, Bool.true_and, Bool.false_and, Bool.and_true, Bool.and_false, Bool.true_or, Bool.false_or, Bool.or_false, Bool.or_true, Bool.not_true, Bool.not_false, Bool.and_self, Bool.or_self, if_true, if_false, Bool.true_eq_false, Bool.false_eq_true, not_true, not_false_eq_true]
        exact hl
  refine st65 ?_
  have h0 := loop n 0 mj_junk mj_junk (by omega)
  rw [mj_afS_0] at h0
  simp only [u65_0, u65_1, u65_3, u65_4, u65_7, u65_10, u65_11, u65_14, u65_15, u65_16, u65_17, u65_18, u65_21, u65_24, u65_25, u65_26, u65_28, u65_29, u65_30, u65_31, u65_32, u65_33, u65_36, u65_37, u65_40, u65_41, u65_43, u65_44, u65_47, u65_48, u65_51, u65_53, u65_56, u65_59, u65_60, u65_63, u65_64, u65_65, u65_66, u65_69, u65_70, u65_72, u65_75, u65_78, u65_79, u65_82, u65_83, u65_85, u65_86, u65_89, u65_90, u65_93, u65_94, u65_95, u65_98, u65_101, u65_103, u65_104, u65_107, u65_108, u65_111, u65_112, u65_114, u65_117, u65_118, u65_121, u65_124, mj_cc_v, mj_cc_n, List.all_cons, List.all_nil, mj_noMk_int, mj_noMk_long, mj_noMk_ref, mj_noMk_junk, List.length_nil, List.length_cons, Nat.zero_le, Nat.reduceLeDiff, Nat.reduceAdd, Bool.and_true, Bool.true_and, Bool.and_self, Nat.reduceBNe, true_or, or_true, true_and, and_true, mj_z0, mj_z1, mj_z01, decide_true, decide_false, Bool.true_and, Bool.false_and, Bool.and_true, Bool.and_false, Bool.true_or, Bool.false_or, Bool.or_false, Bool.or_true, Bool.not_true, Bool.not_false, Bool.and_self, Bool.or_self, if_true, if_false, Bool.true_eq_false, Bool.false_eq_true, not_true, not_false_eq_true]
  exact h0
end
