section
variable {X : mj_X} {d : Nat} {σ : mj_St}
/-- the hours left behind the sets' work, below n -/
def mj_psS (σ : mj_St) (a : Nat) (set : Int32) (n : Nat) : mj_St := (fun c i => if c = a ∧ i < n then σ.1 a i - mj_z (mj_b set i) else σ.1 c i, σ.2)
theorem mj_psS_0 {a : Nat} {set : Int32} : mj_psS σ a set 0 = σ := by
  refine Prod.ext ?_ rfl
  funext c i
  simp [mj_psS]
theorem mj_psS_s {a n : Nat} {set : Int32} : mj_setI (mj_psS σ a set n) a n (σ.1 a n - mj_z (mj_b set n)) = mj_psS σ a set (n + 1) := by
  refine Prod.ext ?_ rfl
  funext c i
  simp only [mj_setI, mj_psS]
  by_cases h1 : c = a
  · by_cases h2 : i = n
    · simp [h1, h2]
    · have : (i < n) = (i < n + 1) := by simp; omega
      simp [h1, h2, this]
  · simp [h1]
theorem mj_psS_o {a c n : Nat} {set : Int32} (h : c ≠ a) : (mj_psS σ a set n).1 c = σ.1 c := by
  funext i
  simp [mj_psS, h]
theorem mj_psS_a {a n : Nat} {set : Int32} : (mj_psS σ a set n).1 a n = σ.1 a n := by
  simp [mj_psS]
theorem mj_psS_2 {a n : Nat} {set : Int32} : (mj_psS σ a set n).2 = σ.2 := rfl
/-- a work gets lost -/
def mj_pl (σ : mj_St) (a : Nat) (set h o g : Int32) (i : Nat) : Bool :=
  mj_wk (σ.1 15 i) && (mj_ask (σ.1 20 i) (σ.1 21 i) o && (decide (0 < σ.1 a i - mj_z (mj_b set i)) && (!(mj_b g i) &&
    (decide (σ.1 17 i = h) || ((decide (σ.1 15 i = 2) && (decide (σ.1 a i < σ.1 24 i) && !(mj_b set i))) || (decide (σ.1 15 i = 3) && (mj_ends (σ.1 26 i) (σ.1 16 i) (σ.1 17 i) h && decide (¬ mj_spn (σ.1 26 i) (σ.1 16 i) h < σ.1 24 i - (σ.1 a i - mj_z (mj_b set i))))))))))
def mj_pls (σ : mj_St) (a : Nat) (set h o g : Int32) (n : Nat) : Int32 := mj_it (fun i u => if mj_pl σ a set h o g i = true then u ||| 1 <<< (nI i &&& 31) else u) 0 n
theorem mj_kS9 {a : Nat} {i : Int32} {P : Prop} (h : mj_shp a = (1, 9, [])) : mj_kS a i P = (mj_inb i 9 = true ∧ P) := by
  unfold mj_kS
  rw [h]
  rfl
theorem mj_noMk_9 {a : Nat} (h : mj_shp a = (1, 9, [])) : (a != 999) = true := by
  have hlt : a < mj_NC := mj_shp_lt (by rw [h]; show (1 : Nat) ≠ 9; decide)
  unfold mj_NC at hlt
  simp
  omega
theorem sp_pass {N a : Nat} {set h o g : Int32} (hN : σ.1 14 14 = nI N) (h9 : N ≤ 9) (ha : a = 25 ∨ a = 60) : mj_ev X (d + 4) 136 [.ref 14, .int set, .int h, .int o, .ref a, .int g] σ = some (some (.int (mj_pls σ a set h o g N)), mj_psS σ a set N) := by
  have hsh : mj_shp a = (1, 9, []) := by rcases ha with rfl | rfl <;> decide +kernel
  have n14 : 14 ≠ a := by rcases ha with rfl | rfl <;> decide
  have n15 : 15 ≠ a := by rcases ha with rfl | rfl <;> decide
  have n16 : 16 ≠ a := by rcases ha with rfl | rfl <;> decide
  have n17 : 17 ≠ a := by rcases ha with rfl | rfl <;> decide
  have n20 : 20 ≠ a := by rcases ha with rfl | rfl <;> decide
  have n21 : 21 ≠ a := by rcases ha with rfl | rfl <;> decide
  have n24 : 24 ≠ a := by rcases ha with rfl | rfl <;> decide
  have n26 : 26 ≠ a := by rcases ha with rfl | rfl <;> decide
  have h9' : ∀ k, ((mj_psS σ a set k).1 14 14).toInt ≤ 9 := by intro k; rw [mj_psS_o n14, hN, nI_toInt (by omega)]; omega
  refine st136 ?_
  simp only [u136_0, u136_1, u136_3, u136_4, u136_8, u136_9, u136_12, u136_15, u136_16, u136_18, u136_19, u136_20, u136_21, u136_24, u136_25, u136_28, u136_29, u136_31, u136_33, u136_35, u136_36, u136_37, u136_40, u136_42, u136_43, u136_46, u136_47, u136_50, u136_51, u136_53, u136_55, u136_57, u136_58, u136_59, u136_61, u136_64, u136_65, u136_68, u136_69, u136_70, u136_71, u136_72, u136_74, u136_77, u136_80, u136_81, u136_83, u136_84, u136_87, u136_90, u136_92, u136_94, u136_95, u136_98, u136_100, u136_102, u136_103, u136_104, u136_105, u136_108, u136_109, u136_112, u136_114, u136_115, u136_116, u136_119, u136_120, u136_123, u136_125, u136_126, u136_127, u136_130, u136_132, u136_135, u136_137, u136_140, u136_141, u136_143, u136_144, u136_146, u136_148, u136_149, u136_152, u136_155, u136_157, u136_158, u136_160, u136_161, u136_162, u136_164, u136_167, u136_170, u136_172]
  have L71 : ∀ k, k < N → (∀ v8 v9 : Value, mj_noMk v8 = true → mj_noMk v9 = true → mj_Runs X (mj_ev X (d + 3)) 1 (some .int) prog_3_method_29_code (6, [.ref 14, .int set, .int h, .int o, .ref a, .int g, .int (mj_pls σ a set h o g (k + 1)), .int (nI (k + 1)), v8, v9], [], mj_psS σ a set (k + 1)) (some (.int (mj_pls σ a set h o g N)), mj_psS σ a set N)) →
      mj_Runs X (mj_ev X (d + 3)) 1 (some .int) prog_3_method_29_code (71, [.ref 14, .int set, .int h, .int o, .ref a, .int g, .int (mj_pls σ a set h o g k), .int (nI k), .int (mj_z (mj_b set k)), .int (mj_z (decide (σ.1 a k < σ.1 24 k)))], [], mj_psS σ a set (k + 1)) (some (.int (mj_pls σ a set h o g N)), mj_psS σ a set N) := by
    intro k hk hr0
    have hr := hr0 (.int (mj_z (mj_b set k))) (.int (mj_z (decide (σ.1 a k < σ.1 24 k)))) rfl rfl
    have hk9 : k < 9 := by omega
    have hl := mj_lt0_nI hk (show N < 2147483648 by omega)
    rw [← hN] at hl
    have hrd : (mj_psS σ a set (k + 1)).1 a k = σ.1 a k - mj_z (mj_b set k) := by simp [mj_psS]
    simp only [u136_0, u136_1, u136_3, u136_4, u136_8, u136_9, u136_12, u136_15, u136_16, u136_18, u136_19, u136_20, u136_21, u136_24, u136_25, u136_28, u136_29, u136_31, u136_33, u136_35, u136_36, u136_37, u136_40, u136_42, u136_43, u136_46, u136_47, u136_50, u136_51, u136_53, u136_55, u136_57, u136_58, u136_59, u136_61, u136_64, u136_65, u136_68, u136_69, u136_70, u136_71, u136_72, u136_74, u136_77, u136_80, u136_81, u136_83, u136_84, u136_87, u136_90, u136_92, u136_94, u136_95, u136_98, u136_100, u136_102, u136_103, u136_104, u136_105, u136_108, u136_109, u136_112, u136_114, u136_115, u136_116, u136_119, u136_120, u136_123, u136_125, u136_126, u136_127, u136_130, u136_132, u136_135, u136_137, u136_140, u136_141, u136_143, u136_144, u136_146, u136_148, u136_149, u136_152, u136_155, u136_157, u136_158, u136_160, u136_161, u136_162, u136_164, u136_167, u136_170, u136_172, sp_isWork (h9' (k + 1)), mj_psS_o n14, mj_psS_o n15, mj_psS_o n16, mj_psS_o n17, mj_psS_o n20, mj_psS_o n21, mj_psS_o n24, mj_psS_o n26, hl, sp_isAsked hk9, sp_missesSpan hk9, mj_kI, mj_rowI9 hsh, hrd, mj_in_nI hk9 (by decide), mj_nz9 hk9 (by decide), mj_b0 (show k < 32 by omega), mj_noMk_9 hsh, mj_cc_v, mj_cc_n, List.all_cons, List.all_nil, mj_noMk_int, mj_noMk_long, mj_noMk_ref, mj_noMk_junk, List.length_nil, List.length_cons, Nat.zero_le, Nat.reduceLeDiff, Nat.reduceAdd, Bool.and_true, Bool.true_and, Bool.and_self, Nat.reduceBNe, true_or, or_true, true_and, and_true, mj_z0, mj_z1, mj_z01, nI_1]
    have e1 : mj_pls σ a set h o g (k + 1) = if mj_pl σ a set h o g k = true then mj_pls σ a set h o g k ||| 1 <<< (nI k &&& 31) else mj_pls σ a set h o g k := rfl
    rw [e1] at hr
    unfold mj_pl at hr
    cases c1 : mj_wk (σ.1 15 k)
    · simp only [c1, decide_true, decide_false, Bool.true_and, Bool.false_and, Bool.and_true, Bool.and_false, Bool.true_or, Bool.false_or, Bool.or_false, Bool.or_true, Bool.not_true, Bool.not_false, Bool.and_self, Bool.or_self, if_true, if_false, Bool.true_eq_false, Bool.false_eq_true, not_true, not_false_eq_true] at hr ⊢
      exact hr
    · cases c2 : mj_ask (σ.1 20 k) (σ.1 21 k) o
      · simp only [c1, c2, decide_true, decide_false, Bool.true_and, Bool.false_and, Bool.and_true, Bool.and_false, Bool.true_or, Bool.false_or, Bool.or_false, Bool.or_true, Bool.not_true, Bool.not_false, Bool.and_self, Bool.or_self, if_true, if_false, Bool.true_eq_false, Bool.false_eq_true, not_true, not_false_eq_true] at hr ⊢
        exact hr
      · by_cases c3 : 0 < σ.1 a k - mj_z (mj_b set k)
        · cases c4 : mj_b g k
          · by_cases c5 : σ.1 17 k = h
            · simp only [c1, c2, c3, c4, c5, decide_true, decide_false, Bool.true_and, Bool.false_and, Bool.and_true, Bool.and_false, Bool.true_or, Bool.false_or, Bool.or_false, Bool.or_true, Bool.not_true, Bool.not_false, Bool.and_self, Bool.or_self, if_true, if_false, Bool.true_eq_false, Bool.false_eq_true, not_true, not_false_eq_true] at hr ⊢
              exact hr
            · by_cases c6 : σ.1 15 k = 2
              · by_cases c7 : σ.1 a k < σ.1 24 k
                · cases c8 : mj_b set k
                  · simp only [c1, c2, c3, c4, c5, c6, c7, c8, decide_true, decide_false, Bool.true_and, Bool.false_and, Bool.and_true, Bool.and_false, Bool.true_or, Bool.false_or, Bool.or_false, Bool.or_true, Bool.not_true, Bool.not_false, Bool.and_self, Bool.or_self, if_true, if_false, Bool.true_eq_false, Bool.false_eq_true, not_true, not_false_eq_true] at hr ⊢
                    rw [c8] at c3
                    simp only [c3, decide_true, decide_false, Bool.true_and, Bool.false_and, Bool.and_true, Bool.and_false, Bool.true_or, Bool.false_or, Bool.or_false, Bool.or_true, Bool.not_true, Bool.not_false, Bool.and_self, Bool.or_self, if_true, if_false, Bool.true_eq_false, Bool.false_eq_true, not_true, not_false_eq_true] at hr ⊢
                    exact hr
                  · rw [c8] at c3
                    have c9 : ¬ (2 : Int32) = 3 := by decide
                    simp only [c1, c2, c3, c4, c5, c6, c7, c8, c9, decide_true, decide_false, Bool.true_and, Bool.false_and, Bool.and_true, Bool.and_false, Bool.true_or, Bool.false_or, Bool.or_false, Bool.or_true, Bool.not_true, Bool.not_false, Bool.and_self, Bool.or_self, if_true, if_false, Bool.true_eq_false, Bool.false_eq_true, not_true, not_false_eq_true] at hr ⊢
                    exact hr
                · have c9 : ¬ (2 : Int32) = 3 := by decide
                  simp only [c1, c2, c3, c4, c5, c6, c7, c9, decide_true, decide_false, Bool.true_and, Bool.false_and, Bool.and_true, Bool.and_false, Bool.true_or, Bool.false_or, Bool.or_false, Bool.or_true, Bool.not_true, Bool.not_false, Bool.and_self, Bool.or_self, if_true, if_false, Bool.true_eq_false, Bool.false_eq_true, not_true, not_false_eq_true] at hr ⊢
                  exact hr
              · cases c9 : (decide (σ.1 15 k = 3) && (mj_ends (σ.1 26 k) (σ.1 16 k) (σ.1 17 k) h && decide (¬ mj_spn (σ.1 26 k) (σ.1 16 k) h < σ.1 24 k - (σ.1 a k - mj_z (mj_b set k)))))
                · simp only [c1, c2, c3, c4, c5, c6, c9, decide_true, decide_false, Bool.true_and, Bool.false_and, Bool.and_true, Bool.and_false, Bool.true_or, Bool.false_or, Bool.or_false, Bool.or_true, Bool.not_true, Bool.not_false, Bool.and_self, Bool.or_self, if_true, if_false, Bool.true_eq_false, Bool.false_eq_true, not_true, not_false_eq_true] at hr ⊢
                  exact hr
                · simp only [c1, c2, c3, c4, c5, c6, c9, decide_true, decide_false, Bool.true_and, Bool.false_and, Bool.and_true, Bool.and_false, Bool.true_or, Bool.false_or, Bool.or_false, Bool.or_true, Bool.not_true, Bool.not_false, Bool.and_self, Bool.or_self, if_true, if_false, Bool.true_eq_false, Bool.false_eq_true, not_true, not_false_eq_true] at hr ⊢
                  exact hr
          · simp only [c1, c2, c3, c4, decide_true, decide_false, Bool.true_and, Bool.false_and, Bool.and_true, Bool.and_false, Bool.true_or, Bool.false_or, Bool.or_false, Bool.or_true, Bool.not_true, Bool.not_false, Bool.and_self, Bool.or_self, if_true, if_false, Bool.true_eq_false, Bool.false_eq_true, not_true, not_false_eq_true] at hr ⊢
            exact hr
        · simp only [c1, c2, c3, decide_true, decide_false, Bool.true_and, Bool.false_and, Bool.and_true, Bool.and_false, Bool.true_or, Bool.false_or, Bool.or_false, Bool.or_true, Bool.not_true, Bool.not_false, Bool.and_self, Bool.or_self, if_true, if_false, Bool.true_eq_false, Bool.false_eq_true, not_true, not_false_eq_true] at hr ⊢
          exact hr
  have key : ∀ j k : Nat, k + j = N → ∀ v8 v9 : Value, mj_noMk v8 = true → mj_noMk v9 = true → mj_Runs X (mj_ev X (d + 3)) 1 (some .int) prog_3_method_29_code (6, [.ref 14, .int set, .int h, .int o, .ref a, .int g, .int (mj_pls σ a set h o g k), .int (nI k), v8, v9], [], mj_psS σ a set k) (some (.int (mj_pls σ a set h o g N)), mj_psS σ a set N) := by
    intro j
    induction j with
    | zero =>
      intro k hk v8 v9 _ _
      have hkN : k = N := by omega
      subst hkN
      refine u136_6.mpr ?_
      simp only [u136_0, u136_1, u136_3, u136_4, u136_8, u136_9, u136_12, u136_15, u136_16, u136_18, u136_19, u136_20, u136_21, u136_24, u136_25, u136_28, u136_29, u136_31, u136_33, u136_35, u136_36, u136_37, u136_40, u136_42, u136_43, u136_46, u136_47, u136_50, u136_51, u136_53, u136_55, u136_57, u136_58, u136_59, u136_61, u136_64, u136_65, u136_68, u136_69, u136_70, u136_71, u136_72, u136_74, u136_77, u136_80, u136_81, u136_83, u136_84, u136_87, u136_90, u136_92, u136_94, u136_95, u136_98, u136_100, u136_102, u136_103, u136_104, u136_105, u136_108, u136_109, u136_112, u136_114, u136_115, u136_116, u136_119, u136_120, u136_123, u136_125, u136_126, u136_127, u136_130, u136_132, u136_135, u136_137, u136_140, u136_141, u136_143, u136_144, u136_146, u136_148, u136_149, u136_152, u136_155, u136_157, u136_158, u136_160, u136_161, u136_162, u136_164, u136_167, u136_170, u136_172, mj_psS_o n14, hN, nI_nlt (Nat.le_refl k) (show k < 2 ^ 31 by omega), if_false]
    | succ j ih =>
      intro k hk v8 v9 hv8 hv9
      have hr := ih (k + 1) (by omega)
      have hl := mj_lt0_nI (show k < N by omega) (show N < 2147483648 by omega)
      rw [← hN] at hl
      have hlt : nI k < σ.1 14 14 := by rw [hN]; exact nI_lt (by omega) (by omega)
      have hk9 : k < 9 := by omega
      refine u136_6.mpr ?_
      have q71 := L71 k (by omega) hr
      have hst : ∀ x, mj_setI (mj_psS σ a set k) a k (σ.1 a k - x) = mj_setI (mj_psS σ a set k) a k (σ.1 a k - x) := fun _ => rfl
      have e71 := mj_psS_s (σ := σ) (a := a) (n := k) (set := set)
      cases hb : mj_b set k
      · by_cases hc : σ.1 a k < σ.1 24 k
        · simp only [hb, hc, mj_zT, mj_zF, decide_true] at q71 e71
          simp only [u136_0, u136_1, u136_3, u136_4, u136_8, u136_9, u136_12, u136_15, u136_16, u136_18, u136_19, u136_20, u136_21, u136_24, u136_25, u136_28, u136_29, u136_31, u136_33, u136_35, u136_36, u136_37, u136_40, u136_42, u136_43, u136_46, u136_47, u136_50, u136_51, u136_53, u136_55, u136_57, u136_58, u136_59, u136_61, u136_64, u136_65, u136_68, u136_69, u136_70, u136_72, u136_74, u136_77, u136_80, u136_81, u136_83, u136_84, u136_87, u136_90, u136_92, u136_94, u136_95, u136_98, u136_100, u136_102, u136_103, u136_104, u136_105, u136_108, u136_109, u136_112, u136_114, u136_115, u136_116, u136_119, u136_120, u136_123, u136_125, u136_126, u136_127, u136_130, u136_132, u136_135, u136_137, u136_140, u136_141, u136_143, u136_144, u136_146, u136_148, u136_149, u136_152, u136_155, u136_157, u136_158, u136_160, u136_161, u136_162, u136_164, u136_167, u136_170, u136_172, mj_psS_o n14, mj_psS_o n24, hlt, hb, hc, mj_kI, mj_rowI9 hsh, mj_kS9 hsh, mj_psS_a, mj_in_nI hk9 (by decide), mj_nz9 hk9 (by decide), mj_b0 (show k < 32 by omega), mj_cc_v, mj_cc_n, List.all_cons, List.all_nil, mj_noMk_int, mj_noMk_long, mj_noMk_ref, mj_noMk_junk, List.length_nil, List.length_cons, Nat.zero_le, Nat.reduceLeDiff, Nat.reduceAdd, Bool.and_true, Bool.true_and, Bool.and_self, Nat.reduceBNe, true_or, or_true, true_and, and_true, mj_z0, mj_z1, mj_z01, decide_true, decide_false, Bool.true_and, Bool.false_and, Bool.and_true, Bool.and_false, Bool.true_or, Bool.false_or, Bool.or_false, Bool.or_true, Bool.not_true, Bool.not_false, Bool.and_self, Bool.or_self, if_true, if_false, Bool.true_eq_false, Bool.false_eq_true, not_true, not_false_eq_true, e71]
          exact q71
        · simp only [hb, hc, mj_zT, mj_zF, decide_false] at q71 e71
          simp only [u136_0, u136_1, u136_3, u136_4, u136_8, u136_9, u136_12, u136_15, u136_16, u136_18, u136_19, u136_20, u136_21, u136_24, u136_25, u136_28, u136_29, u136_31, u136_33, u136_35, u136_36, u136_37, u136_40, u136_42, u136_43, u136_46, u136_47, u136_50, u136_51, u136_53, u136_55, u136_57, u136_58, u136_59, u136_61, u136_64, u136_65, u136_68, u136_69, u136_70, u136_72, u136_74, u136_77, u136_80, u136_81, u136_83, u136_84, u136_87, u136_90, u136_92, u136_94, u136_95, u136_98, u136_100, u136_102, u136_103, u136_104, u136_105, u136_108, u136_109, u136_112, u136_114, u136_115, u136_116, u136_119, u136_120, u136_123, u136_125, u136_126, u136_127, u136_130, u136_132, u136_135, u136_137, u136_140, u136_141, u136_143, u136_144, u136_146, u136_148, u136_149, u136_152, u136_155, u136_157, u136_158, u136_160, u136_161, u136_162, u136_164, u136_167, u136_170, u136_172, mj_psS_o n14, mj_psS_o n24, hlt, hb, hc, mj_kI, mj_rowI9 hsh, mj_kS9 hsh, mj_psS_a, mj_in_nI hk9 (by decide), mj_nz9 hk9 (by decide), mj_b0 (show k < 32 by omega), mj_cc_v, mj_cc_n, List.all_cons, List.all_nil, mj_noMk_int, mj_noMk_long, mj_noMk_ref, mj_noMk_junk, List.length_nil, List.length_cons, Nat.zero_le, Nat.reduceLeDiff, Nat.reduceAdd, Bool.and_true, Bool.true_and, Bool.and_self, Nat.reduceBNe, true_or, or_true, true_and, and_true, mj_z0, mj_z1, mj_z01, decide_true, decide_false, Bool.true_and, Bool.false_and, Bool.and_true, Bool.and_false, Bool.true_or, Bool.false_or, Bool.or_false, Bool.or_true, Bool.not_true, Bool.not_false, Bool.and_self, Bool.or_self, if_true, if_false, Bool.true_eq_false, Bool.false_eq_true, not_true, not_false_eq_true, e71]
          exact q71
      · by_cases hc : σ.1 a k < σ.1 24 k
        · simp only [hb, hc, mj_zT, mj_zF, decide_true] at q71 e71
          simp only [u136_0, u136_1, u136_3, u136_4, u136_8, u136_9, u136_12, u136_15, u136_16, u136_18, u136_19, u136_20, u136_21, u136_24, u136_25, u136_28, u136_29, u136_31, u136_33, u136_35, u136_36, u136_37, u136_40, u136_42, u136_43, u136_46, u136_47, u136_50, u136_51, u136_53, u136_55, u136_57, u136_58, u136_59, u136_61, u136_64, u136_65, u136_68, u136_69, u136_70, u136_72, u136_74, u136_77, u136_80, u136_81, u136_83, u136_84, u136_87, u136_90, u136_92, u136_94, u136_95, u136_98, u136_100, u136_102, u136_103, u136_104, u136_105, u136_108, u136_109, u136_112, u136_114, u136_115, u136_116, u136_119, u136_120, u136_123, u136_125, u136_126, u136_127, u136_130, u136_132, u136_135, u136_137, u136_140, u136_141, u136_143, u136_144, u136_146, u136_148, u136_149, u136_152, u136_155, u136_157, u136_158, u136_160, u136_161, u136_162, u136_164, u136_167, u136_170, u136_172, mj_psS_o n14, mj_psS_o n24, hlt, hb, hc, mj_kI, mj_rowI9 hsh, mj_kS9 hsh, mj_psS_a, mj_in_nI hk9 (by decide), mj_nz9 hk9 (by decide), mj_b0 (show k < 32 by omega), mj_cc_v, mj_cc_n, List.all_cons, List.all_nil, mj_noMk_int, mj_noMk_long, mj_noMk_ref, mj_noMk_junk, List.length_nil, List.length_cons, Nat.zero_le, Nat.reduceLeDiff, Nat.reduceAdd, Bool.and_true, Bool.true_and, Bool.and_self, Nat.reduceBNe, true_or, or_true, true_and, and_true, mj_z0, mj_z1, mj_z01, decide_true, decide_false, Bool.true_and, Bool.false_and, Bool.and_true, Bool.and_false, Bool.true_or, Bool.false_or, Bool.or_false, Bool.or_true, Bool.not_true, Bool.not_false, Bool.and_self, Bool.or_self, if_true, if_false, Bool.true_eq_false, Bool.false_eq_true, not_true, not_false_eq_true, e71]
          exact q71
        · simp only [hb, hc, mj_zT, mj_zF, decide_false] at q71 e71
          simp only [u136_0, u136_1, u136_3, u136_4, u136_8, u136_9, u136_12, u136_15, u136_16, u136_18, u136_19, u136_20, u136_21, u136_24, u136_25, u136_28, u136_29, u136_31, u136_33, u136_35, u136_36, u136_37, u136_40, u136_42, u136_43, u136_46, u136_47, u136_50, u136_51, u136_53, u136_55, u136_57, u136_58, u136_59, u136_61, u136_64, u136_65, u136_68, u136_69, u136_70, u136_72, u136_74, u136_77, u136_80, u136_81, u136_83, u136_84, u136_87, u136_90, u136_92, u136_94, u136_95, u136_98, u136_100, u136_102, u136_103, u136_104, u136_105, u136_108, u136_109, u136_112, u136_114, u136_115, u136_116, u136_119, u136_120, u136_123, u136_125, u136_126, u136_127, u136_130, u136_132, u136_135, u136_137, u136_140, u136_141, u136_143, u136_144, u136_146, u136_148, u136_149, u136_152, u136_155, u136_157, u136_158, u136_160, u136_161, u136_162, u136_164, u136_167, u136_170, u136_172, mj_psS_o n14, mj_psS_o n24, hlt, hb, hc, mj_kI, mj_rowI9 hsh, mj_kS9 hsh, mj_psS_a, mj_in_nI hk9 (by decide), mj_nz9 hk9 (by decide), mj_b0 (show k < 32 by omega), mj_cc_v, mj_cc_n, List.all_cons, List.all_nil, mj_noMk_int, mj_noMk_long, mj_noMk_ref, mj_noMk_junk, List.length_nil, List.length_cons, Nat.zero_le, Nat.reduceLeDiff, Nat.reduceAdd, Bool.and_true, Bool.true_and, Bool.and_self, Nat.reduceBNe, true_or, or_true, true_and, and_true, mj_z0, mj_z1, mj_z01, decide_true, decide_false, Bool.true_and, Bool.false_and, Bool.and_true, Bool.and_false, Bool.true_or, Bool.false_or, Bool.or_false, Bool.or_true, Bool.not_true, Bool.not_false, Bool.and_self, Bool.or_self, if_true, if_false, Bool.true_eq_false, Bool.false_eq_true, not_true, not_false_eq_true, e71]
          exact q71
  have := key N 0 (by omega) mj_junk mj_junk rfl rfl
  rw [mj_psS_0] at this
  exact this
end
