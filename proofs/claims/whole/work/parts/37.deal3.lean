section
variable {X : mj_X} {d : Nat} {σ : mj_St}
theorem mj_b0 {m : Int32} {k : Nat} (hk : k < 32) : (((m >>> (nI k &&& 31)) &&& 1) = 0) = (mj_b m k = false) := by
  rw [mj_bt hk, mj_z0]
def mj_owed (σ : mj_St) (c1 c2 : Nat) (p : Int32) (B : Nat → Bool) (N : Nat) : Int32 := mj_it (fun i u => if B i = true ∧ σ.1 c1 i = p then u + σ.1 c2 i else u) 0 N
theorem sp_owedBy {N : Nat} {m p : Int32} (hN : σ.1 14 14 = nI N) (h9 : N ≤ 9) : mj_ev X (d + 1) 140 [.ref 14, .int m, .int p] σ = some (some (.int (mj_owed σ 23 22 p (mj_b m) N)), σ) := by
  refine st140 ?_
  simp only [u140_0, u140_1, u140_2, u140_3, u140_7, u140_8, u140_11, u140_14, u140_15, u140_17, u140_18, u140_19, u140_20, u140_23, u140_24, u140_27, u140_29, u140_30, u140_31, u140_34, u140_35, u140_36, u140_39, u140_41, u140_42, u140_43, u140_44, u140_47, u140_50, u140_51]
  exact mj_count (X := X) (call := mj_ev X d) (oc := 1) (ret := (some .int)) (cc := prog_3_method_22_code) (N := N) (S := fun k => (5, [.ref 14, .int m, .int p, .int (mj_owed σ 23 22 p (mj_b m) k), .int (nI k)], [], σ)) (fun k hk hr => by
      refine u140_5.mpr ?_
      have h1 : nI k < σ.1 14 14 := by rw [hN]; exact nI_lt hk (by omega)
      simp only [u140_0, u140_1, u140_2, u140_3, u140_7, u140_8, u140_11, u140_14, u140_15, u140_17, u140_18, u140_19, u140_20, u140_23, u140_24, u140_27, u140_29, u140_30, u140_31, u140_34, u140_35, u140_36, u140_39, u140_41, u140_42, u140_43, u140_44, u140_47, u140_50, u140_51, h1, if_true, mj_in_nI (show k < 9 by omega) (by decide), mj_nz9 (show k < 9 by omega) (by decide), true_and, nI_1, mj_b0 (show k < 32 by omega)]
      simp only [mj_owed, mj_it] at hr ⊢
      cases hb : mj_b m k
      · simp only [hb, Bool.false_eq_true, false_and, if_false, if_true] at hr ⊢
        exact hr
      · by_cases hp : σ.1 23 k = p
        · simp only [hb, hp, and_self, if_true, Bool.true_eq_false, if_false] at hr ⊢
          exact hr
        · simp only [hb, hp, and_false, if_true, Bool.true_eq_false, if_false] at hr ⊢
          exact hr) (by
      refine u140_5.mpr ?_
      have h1 : ¬ nI N < σ.1 14 14 := by rw [hN]; exact nI_nlt (Nat.le_refl _) (by omega)
      simp only [u140_0, u140_1, u140_2, u140_3, u140_7, u140_8, u140_11, u140_14, u140_15, u140_17, u140_18, u140_19, u140_20, u140_23, u140_24, u140_27, u140_29, u140_30, u140_31, u140_34, u140_35, u140_36, u140_39, u140_41, u140_42, u140_43, u140_44, u140_47, u140_50, u140_51, h1, if_false]) 0 (Nat.zero_le _)
def mj_things (th : Nat → Int32) (B : Nat → Bool) (N : Nat) : Int32 := mj_it (fun i u => if B i = true ∧ ¬ th i = -1 then u ||| 1 <<< (th i &&& 31) else u) 0 N
theorem sp_thingsOf {N : Nat} {m : Int32} (hN : σ.1 14 14 = nI N) (h9 : N ≤ 9) : mj_ev X (d + 1) 134 [.ref 14, .int m] σ = some (some (.int (mj_things (σ.1 18) (mj_b m) N)), σ) := by
  refine st134 ?_
  simp only [u134_0, u134_1, u134_2, u134_3, u134_5, u134_6, u134_9, u134_12, u134_13, u134_14, u134_15, u134_16, u134_17, u134_20, u134_21, u134_24, u134_25, u134_26, u134_27, u134_30, u134_31, u134_32, u134_33, u134_36, u134_37, u134_38, u134_39, u134_40, u134_41, u134_44, u134_47, u134_48]
  exact mj_count (X := X) (call := mj_ev X d) (oc := 1) (ret := (some .int)) (cc := prog_3_method_26_code) (N := N) (S := fun k => (4, [.ref 14, .int m, .int (mj_things (σ.1 18) (mj_b m) k), .int (nI k)], [], σ)) (fun k hk hr => by
      refine u134_4.mpr ?_
      have h1 : nI k < σ.1 14 14 := by rw [hN]; exact nI_lt hk (by omega)
      simp only [u134_0, u134_1, u134_2, u134_3, u134_5, u134_6, u134_9, u134_12, u134_13, u134_14, u134_15, u134_16, u134_17, u134_20, u134_21, u134_24, u134_25, u134_26, u134_27, u134_30, u134_31, u134_32, u134_33, u134_36, u134_37, u134_38, u134_39, u134_40, u134_41, u134_44, u134_47, u134_48, h1, if_true, mj_in_nI (show k < 9 by omega) (by decide), mj_nz9 (show k < 9 by omega) (by decide), true_and, nI_1, mj_b0 (show k < 32 by omega)]
      simp only [mj_things, mj_it] at hr ⊢
      cases hb : mj_b m k
      · simp only [hb, Bool.false_eq_true, false_and, if_false, if_true] at hr ⊢
        exact hr
      · by_cases hp : σ.1 18 k = -1
        · simp only [hb, hp, not_true, and_false, if_true, Bool.true_eq_false, if_false] at hr ⊢
          exact hr
        · simp only [hb, hp, not_false_eq_true, and_self, if_true, Bool.true_eq_false, if_false] at hr ⊢
          exact hr) (by
      refine u134_4.mpr ?_
      have h1 : ¬ nI N < σ.1 14 14 := by rw [hN]; exact nI_nlt (Nat.le_refl _) (by omega)
      simp only [u134_0, u134_1, u134_2, u134_3, u134_5, u134_6, u134_9, u134_12, u134_13, u134_14, u134_15, u134_16, u134_17, u134_20, u134_21, u134_24, u134_25, u134_26, u134_27, u134_30, u134_31, u134_32, u134_33, u134_36, u134_37, u134_38, u134_39, u134_40, u134_41, u134_44, u134_47, u134_48, h1, if_false]) 0 (Nat.zero_le _)
def mj_brk (σ : mj_St) (a set h o : Int32) (N : Nat) (i : Nat) : Bool := decide (σ.1 15 i = a) && (mj_cov (σ.1 16 i) (σ.1 17 i) h && (mj_ask (σ.1 20 i) (σ.1 21 i) o && (decide (a = 6) || decide (¬ (mj_things (σ.1 18) (mj_b set) N >>> (σ.1 18 i &&& 31)) &&& 1 = 0))))
def mj_broken (σ : mj_St) (a set h o : Int32) (N n : Nat) : Int32 := mj_it (fun i u => if mj_brk σ a set h o N i = true then u ||| 1 <<< (nI i &&& 31) else u) 0 n
theorem sp_brokenOnes {N : Nat} {a set h o : Int32} (hN : σ.1 14 14 = nI N) (h9 : N ≤ 9) : mj_ev X (d + 2) 135 [.ref 14, .int a, .int set, .int h, .int o] σ = some (some (.int (mj_broken σ a set h o N N)), σ) := by
  refine st135 ?_
  simp only [u135_0, u135_1, u135_3, u135_4, u135_5, u135_8, u135_10, u135_11, u135_15, u135_16, u135_19, u135_22, u135_23, u135_26, u135_28, u135_29, u135_30, u135_33, u135_34, u135_36, u135_37, u135_40, u135_43, u135_44, u135_46, u135_48, u135_51, u135_54, u135_55, u135_57, u135_60, u135_62, u135_63, u135_66, u135_68, u135_69, u135_70, u135_71, u135_72, u135_75, u135_77, u135_78, u135_80, u135_81, u135_82, u135_84, u135_87, u135_90, u135_92, sp_thingsOf hN h9, mj_cc_v, mj_cc_n, List.all_cons, List.all_nil, mj_noMk_int, mj_noMk_long, mj_noMk_ref, mj_noMk_junk, List.length_nil, List.length_cons, Nat.zero_le, Nat.reduceLeDiff, Nat.reduceAdd, Bool.and_true, Bool.true_and, Bool.and_self, Nat.reduceBNe, true_or, true_and, and_true, mj_z0, mj_z1, mj_z01]
  exact mj_count (X := X) (call := mj_ev X (d + 1)) (oc := 1) (ret := (some .int)) (cc := prog_3_method_28_code) (N := N) (S := fun k => (13, [.ref 14, .int a, .int set, .int h, .int o, .int (mj_broken σ a set h o N k), .int (mj_things (σ.1 18) (mj_b set) N), .int (nI k)], [], σ)) (fun k hk hr => by
      refine u135_13.mpr ?_
      have h1 : nI k < σ.1 14 14 := by rw [hN]; exact nI_lt hk (by omega)
      simp only [u135_0, u135_1, u135_3, u135_4, u135_5, u135_8, u135_10, u135_11, u135_15, u135_16, u135_19, u135_22, u135_23, u135_26, u135_28, u135_29, u135_30, u135_33, u135_34, u135_36, u135_37, u135_40, u135_43, u135_44, u135_46, u135_48, u135_51, u135_54, u135_55, u135_57, u135_60, u135_62, u135_63, u135_66, u135_68, u135_69, u135_70, u135_71, u135_72, u135_75, u135_77, u135_78, u135_80, u135_81, u135_82, u135_84, u135_87, u135_90, u135_92, h1, if_true, sp_covers (show k < 9 by omega), sp_isAsked (show k < 9 by omega), mj_in_nI (show k < 9 by omega) (by decide), mj_nz9 (show k < 9 by omega) (by decide), mj_cc_v, mj_cc_n, List.all_cons, List.all_nil, mj_noMk_int, mj_noMk_long, mj_noMk_ref, mj_noMk_junk, List.length_nil, List.length_cons, Nat.zero_le, Nat.reduceLeDiff, Nat.reduceAdd, Bool.and_true, Bool.true_and, Bool.and_self, Nat.reduceBNe, true_or, true_and, and_true, mj_z0, mj_z1, mj_z01, nI_1]
      simp only [mj_broken, mj_it, mj_brk] at hr ⊢
      by_cases hk1 : σ.1 15 k = a
      · cases hc : mj_cov (σ.1 16 k) (σ.1 17 k) h
        · simp only [hk1, hc, decide_true, Bool.true_and, Bool.false_and, Bool.false_eq_true, if_false, if_true] at hr ⊢
          exact hr
        · cases ha : mj_ask (σ.1 20 k) (σ.1 21 k) o
          · simp only [hk1, hc, ha, decide_true, Bool.true_and, Bool.false_and, Bool.false_eq_true, Bool.true_eq_false, if_false, if_true] at hr ⊢
            exact hr
          · by_cases h6 : a = 6
            · simp only [hk1, hc, ha, h6, decide_true, Bool.true_and, Bool.true_or, Bool.true_eq_false, if_false, if_true] at hr ⊢
              exact hr
            · by_cases ht : (mj_things (σ.1 18) (mj_b set) N >>> (σ.1 18 k &&& 31)) &&& 1 = 0
              · simp only [hk1, hc, ha, h6, ht, not_true, decide_true, decide_false, Bool.true_and, Bool.or_self, Bool.false_eq_true, Bool.true_eq_false, if_false, if_true] at hr ⊢
                exact hr
              · simp only [hk1, hc, ha, h6, ht, not_false_eq_true, decide_true, decide_false, Bool.true_and, Bool.or_true, Bool.true_eq_false, if_false, if_true] at hr ⊢
                exact hr
      · simp only [hk1, decide_false, Bool.false_and, Bool.false_eq_true, if_false] at hr ⊢
        exact hr) (by
      refine u135_13.mpr ?_
      have h1 : ¬ nI N < σ.1 14 14 := by rw [hN]; exact nI_nlt (Nat.le_refl _) (by omega)
      simp only [u135_0, u135_1, u135_3, u135_4, u135_5, u135_8, u135_10, u135_11, u135_15, u135_16, u135_19, u135_22, u135_23, u135_26, u135_28, u135_29, u135_30, u135_33, u135_34, u135_36, u135_37, u135_40, u135_43, u135_44, u135_46, u135_48, u135_51, u135_54, u135_55, u135_57, u135_60, u135_62, u135_63, u135_66, u135_68, u135_69, u135_70, u135_71, u135_72, u135_75, u135_77, u135_78, u135_80, u135_81, u135_82, u135_84, u135_87, u135_90, u135_92, h1, if_false]) 0 (Nat.zero_le _)
theorem mj_rowI9 {a : Nat} (h : mj_shp a = (1, 9, [])) : mj_rowI X σ a = some (9, σ.1 a) := by
  have hlt : a < mj_NC := mj_shp_lt (by rw [h]; show (1 : Nat) ≠ 9; decide)
  unfold mj_rowI
  unfold mj_NC at hlt
  rw [if_neg (by omega), h]
  rfl
/-- may a work be done in an hour -/
def mj_opn (σ : mj_St) (a : Nat) (g h o : Int32) (k : Nat) : Bool := mj_cov (σ.1 16 k) (σ.1 17 k) h && (mj_ask (σ.1 20 k) (σ.1 21 k) o && ((decide (σ.1 20 k = -1) || decide (¬ h < σ.1 28 (σ.1 20 k).toNatClampNeg)) && (decide (0 < σ.1 a k) && (!(mj_b g k) &&
  (!(mj_lt0 (σ.1 19 k) (σ.1 14 14) && (decide (0 < σ.1 a (σ.1 19 k).toNatClampNeg) || mj_b g (σ.1 19 k).toNatClampNeg)) && (!(decide (σ.1 15 k = 3)) || decide (σ.1 24 k - σ.1 a k = mj_spn (σ.1 26 k) (σ.1 16 k) h)))))))
theorem sp_isOpen {k a : Nat} {g h o : Int32} (hk : k < 9) (ha : mj_shp a = (1, 9, [])) (h9 : (σ.1 14 14).toInt ≤ 9) (hf : σ.1 20 k = -1 ∨ mj_inb (σ.1 20 k) 3 = true) : mj_ev X (d + 2) 132 [.ref 14, .int (nI k), .int h, .int o, .ref a, .int g] σ = some (some (.int (mj_z (mj_opn σ a g h o k))), σ) := by
  refine st132 ?_
  simp only [u132_0, u132_1, u132_2, u132_3, u132_6, u132_9, u132_10, u132_11, u132_12, u132_15, u132_18, u132_19, u132_20, u132_21, u132_24, u132_27, u132_29, u132_30, u132_31, u132_34, u132_36, u132_37, u132_38, u132_39, u132_40, u132_43, u132_44, u132_45, u132_46, u132_49, u132_50, u132_51, u132_53, u132_54, u132_56, u132_59, u132_62, u132_64, u132_66, u132_67, u132_70, u132_72, u132_74, u132_75, u132_76, u132_77, u132_80, u132_81, u132_82, u132_83, u132_86, u132_87, u132_88, u132_89, u132_92, u132_93, u132_96, u132_97, u132_98, u132_100, u132_101, u132_102, u132_103, u132_104, u132_105, u132_106, u132_109, u132_112, u132_113, u132_116, u132_117, sp_covers hk, sp_isAsked hk, sp_isKnownIn hk hf, sp_has, sp_spanAt hk, mj_in_nI hk (by decide), mj_nz9 hk (by decide), mj_kI, mj_rowI9 ha, mj_b0 (show k < 32 by omega), mj_cc_v, mj_cc_n, List.all_cons, List.all_nil, mj_noMk_int, mj_noMk_long, mj_noMk_ref, mj_noMk_junk, List.length_nil, List.length_cons, Nat.zero_le, Nat.reduceLeDiff, Nat.reduceAdd, Bool.and_true, Bool.true_and, Bool.and_self, Nat.reduceBNe, true_or, true_and, and_true, mj_z0, mj_z1, mj_z01]
  unfold mj_opn
  cases hc : mj_cov (σ.1 16 k) (σ.1 17 k) h
  · simp [mj_z]
  · cases hq : mj_ask (σ.1 20 k) (σ.1 21 k) o
    · simp [mj_z]
    · cases hn : (decide (σ.1 20 k = -1) || decide (¬ h < σ.1 28 (σ.1 20 k).toNatClampNeg))
      · simp [mj_z]
      · by_cases hl : 0 < σ.1 a k
        · cases hg : mj_b g k
          · cases hh : mj_lt0 (σ.1 19 k) (σ.1 14 14)
            · simp only [hl]
              by_cases h3 : σ.1 15 k = 3
              · by_cases h4 : σ.1 24 k - σ.1 a k = mj_spn (σ.1 26 k) (σ.1 16 k) h <;> simp [h3, h4, mj_z]
              · simp [h3, mj_z]
            · have hin := mj_lt0_in (k := 9) hh h9
              have e := mj_in_eq hin (by decide)
              have hlt := mj_in_lt hin
              by_cases hlo : 0 < σ.1 a (σ.1 19 k).toNatClampNeg
              · simp [hl, hin, hlo, mj_z]
              · have eb : (((g >>> (σ.1 19 k &&& 31)) &&& 1) = 0) = (mj_b g (σ.1 19 k).toNatClampNeg = false) := by
                  have := mj_b0 (m := g) (k := (σ.1 19 k).toNatClampNeg) (by omega)
                  rwa [← e] at this
                simp only [eb]
                cases hgo : mj_b g (σ.1 19 k).toNatClampNeg
                · by_cases h3 : σ.1 15 k = 3
                  · by_cases h4 : σ.1 24 k - σ.1 a k = mj_spn (σ.1 26 k) (σ.1 16 k) h <;> simp [hl, hin, hlo, h3, h4, mj_z]
                  · simp [hl, hin, hlo, h3, mj_z]
                · simp [hl, hin, hlo, mj_z]
          · simp [hl, mj_z]
        · simp [hl, mj_z]
end
