section
variable {X : mj_X} {d : Nat} {σ τ ρ : mj_St}
theorem mj_lenA_n {a n : Nat} (h : mj_shp a = (1, n, [])) (ha : a < 999) : mj_lenA X σ a = some (nI n) := by
  unfold mj_lenA
  rw [if_neg (by omega), if_neg (by omega), h]
  rfl
theorem sp_take {a b n : Nat} (ha : mj_shp a = (1, n, [])) (hb : mj_shp b = (1, n, [])) (ha9 : a < 999) (hb9 : b < 999) (hn : n < 2147483648) : mj_ev X (d + 1) 153 [.ref a, .ref b] σ = some (none, mj_cpyI σ a b 0 0 n) := by
  have hcp : mj_cpS σ a b 0 0 n = some (mj_cpyI σ a b 0 0 n) := by
    unfold mj_cpS
    rw [ha, hb]
    show (if 0 + n ≤ n ∧ 0 + n ≤ n then some _ else none) = _
    rw [if_pos ⟨by omega, by omega⟩]
  have z0 : ¬ (0 : Int32) < 0 := by decide
  have c0 : (0 : Int32).toNatClampNeg = 0 := by decide
  have q0 : ¬ nI n < 0 := nI_nlt (b := 0) (Nat.zero_le _) (by omega)
  have q1 : ¬ nI n < nI n := nI_nlt (Nat.le_refl _) (by omega)
  refine st153 ?_
  simp only [u153_0, u153_1, u153_2, u153_3, u153_4, u153_5, u153_6, u153_7, u153_8, u153_11, u153_14, mj_lenA_n ha ha9, mj_lenA_n hb hb9, mj_kN, q1, z0, c0, q0, nI_clamp (show n < 2 ^ 31 by omega), hcp, mj_kP, mj_cc_v, mj_cc_n, List.all_cons, List.all_nil, mj_noMk_int, mj_noMk_long, mj_noMk_ref, mj_noMk_junk, List.length_nil, List.length_cons, Nat.zero_le, Nat.reduceLeDiff, Nat.reduceAdd, Bool.and_true, Bool.true_and, Bool.and_self, Nat.reduceBNe, true_or, or_true, true_and, and_true, mj_z0, mj_z1, mj_z01, decide_true, decide_false, Bool.true_and, Bool.false_and, Bool.and_true, Bool.and_false, Bool.true_or, Bool.false_or, Bool.or_false, Bool.or_true, Bool.not_true, Bool.not_false, Bool.and_self, Bool.or_self, if_true, if_false, Bool.true_eq_false, Bool.false_eq_true, not_true, not_false_eq_true]
def mj_tln (k : Nat) : Nat := if k = 12 then 12 else if k = 13 then 3 else 9
def mj_tkn (σ : mj_St) (a b : Nat) : Nat → mj_St
  | 0 => σ
  | k + 1 => mj_cpyI (mj_tkn σ a b k) (a + 1 + k) (b + 1 + k) 0 0 (mj_tln k)
theorem mj_cpyI_o {a b c sp dp n : Nat} (h : c ≠ b) : (mj_cpyI σ a b sp dp n).1 c = σ.1 c := by
  show (if c = b then va_cpy (σ.1 a) (σ.1 b) sp dp n else σ.1 c) = σ.1 c
  rw [if_neg h]
theorem mj_cpyI_b {a b n i : Nat} : (mj_cpyI σ a b 0 0 n).1 b i = if i < n then σ.1 a i else σ.1 b i := by
  show (if b = b then va_cpy (σ.1 a) (σ.1 b) 0 0 n else σ.1 b) i = _
  rw [if_pos rfl]
  unfold va_cpy
  by_cases c : i < n
  · rw [if_pos (by omega), if_pos c, show 0 + (i - 0) = i by omega]
  · rw [if_neg (by omega), if_neg c]
theorem mj_tkn_2 {a b : Nat} : ∀ k, (mj_tkn σ a b k).2 = σ.2 := by
  intro k
  induction k with
  | zero => rfl
  | succ k ih => exact ih
theorem mj_tkn_o {a b c : Nat} : ∀ k, (c < b + 1 ∨ b + 1 + k ≤ c) → (mj_tkn σ a b k).1 c = σ.1 c := by
  intro k
  induction k with
  | zero => intro _; rfl
  | succ k ih =>
    intro h
    show (mj_cpyI (mj_tkn σ a b k) (a + 1 + k) (b + 1 + k) 0 0 (mj_tln k)).1 c = σ.1 c
    rw [mj_cpyI_o (by omega)]
    exact ih (by omega)
theorem mj_tkn_in {a b j i : Nat} (hab : a + 15 ≤ b ∨ b + 15 ≤ a) (hi : i < mj_tln j) : ∀ k, j < k → k ≤ 14 → (mj_tkn σ a b k).1 (b + 1 + j) i = σ.1 (a + 1 + j) i := by
  intro k
  induction k with
  | zero => intro h; omega
  | succ k ih =>
    intro h hk
    show (mj_cpyI (mj_tkn σ a b k) (a + 1 + k) (b + 1 + k) 0 0 (mj_tln k)).1 (b + 1 + j) i = σ.1 (a + 1 + j) i
    by_cases c : j = k
    · subst c
      rw [mj_cpyI_b, if_pos hi, mj_tkn_o j (by omega)]
    · rw [mj_cpyI_o (by omega)]
      exact ih (by omega) (by omega)
def mj_tkF (σ : mj_St) (a b : Nat) : mj_St := mj_setI (mj_setI (mj_setI (mj_setI (mj_setI (mj_tkn σ a b 14) b 14 (σ.1 a 14)) b 15 (σ.1 a 15)) b 16 (σ.1 a 16)) b 17 (σ.1 a 17)) b 18 (σ.1 a 18)
theorem sp_takeK : mj_ev X (d + 2) 152 [.ref 29, .ref 14] σ = some (none, mj_tkF σ 14 29) := by
  have h0 : mj_ev X (d + 1) 153 [.ref 15, .ref 30] (mj_tkn σ 14 29 0) = some (none, mj_tkn σ 14 29 1) := sp_take (a := 15) (b := 30) (n := 9) (by decide +kernel) (by decide +kernel) (by decide) (by decide) (by decide)
  have h1 : mj_ev X (d + 1) 153 [.ref 16, .ref 31] (mj_tkn σ 14 29 1) = some (none, mj_tkn σ 14 29 2) := sp_take (a := 16) (b := 31) (n := 9) (by decide +kernel) (by decide +kernel) (by decide) (by decide) (by decide)
  have h2 : mj_ev X (d + 1) 153 [.ref 17, .ref 32] (mj_tkn σ 14 29 2) = some (none, mj_tkn σ 14 29 3) := sp_take (a := 17) (b := 32) (n := 9) (by decide +kernel) (by decide +kernel) (by decide) (by decide) (by decide)
  have h3 : mj_ev X (d + 1) 153 [.ref 18, .ref 33] (mj_tkn σ 14 29 3) = some (none, mj_tkn σ 14 29 4) := sp_take (a := 18) (b := 33) (n := 9) (by decide +kernel) (by decide +kernel) (by decide) (by decide) (by decide)
  have h4 : mj_ev X (d + 1) 153 [.ref 19, .ref 34] (mj_tkn σ 14 29 4) = some (none, mj_tkn σ 14 29 5) := sp_take (a := 19) (b := 34) (n := 9) (by decide +kernel) (by decide +kernel) (by decide) (by decide) (by decide)
  have h5 : mj_ev X (d + 1) 153 [.ref 20, .ref 35] (mj_tkn σ 14 29 5) = some (none, mj_tkn σ 14 29 6) := sp_take (a := 20) (b := 35) (n := 9) (by decide +kernel) (by decide +kernel) (by decide) (by decide) (by decide)
  have h6 : mj_ev X (d + 1) 153 [.ref 21, .ref 36] (mj_tkn σ 14 29 6) = some (none, mj_tkn σ 14 29 7) := sp_take (a := 21) (b := 36) (n := 9) (by decide +kernel) (by decide +kernel) (by decide) (by decide) (by decide)
  have h7 : mj_ev X (d + 1) 153 [.ref 22, .ref 37] (mj_tkn σ 14 29 7) = some (none, mj_tkn σ 14 29 8) := sp_take (a := 22) (b := 37) (n := 9) (by decide +kernel) (by decide +kernel) (by decide) (by decide) (by decide)
  have h8 : mj_ev X (d + 1) 153 [.ref 23, .ref 38] (mj_tkn σ 14 29 8) = some (none, mj_tkn σ 14 29 9) := sp_take (a := 23) (b := 38) (n := 9) (by decide +kernel) (by decide +kernel) (by decide) (by decide) (by decide)
  have h9 : mj_ev X (d + 1) 153 [.ref 24, .ref 39] (mj_tkn σ 14 29 9) = some (none, mj_tkn σ 14 29 10) := sp_take (a := 24) (b := 39) (n := 9) (by decide +kernel) (by decide +kernel) (by decide) (by decide) (by decide)
  have h10 : mj_ev X (d + 1) 153 [.ref 25, .ref 40] (mj_tkn σ 14 29 10) = some (none, mj_tkn σ 14 29 11) := sp_take (a := 25) (b := 40) (n := 9) (by decide +kernel) (by decide +kernel) (by decide) (by decide) (by decide)
  have h11 : mj_ev X (d + 1) 153 [.ref 26, .ref 41] (mj_tkn σ 14 29 11) = some (none, mj_tkn σ 14 29 12) := sp_take (a := 26) (b := 41) (n := 9) (by decide +kernel) (by decide +kernel) (by decide) (by decide) (by decide)
  have h12 : mj_ev X (d + 1) 153 [.ref 27, .ref 42] (mj_tkn σ 14 29 12) = some (none, mj_tkn σ 14 29 13) := sp_take (a := 27) (b := 42) (n := 12) (by decide +kernel) (by decide +kernel) (by decide) (by decide) (by decide)
  have h13 : mj_ev X (d + 1) 153 [.ref 28, .ref 43] (mj_tkn σ 14 29 13) = some (none, mj_tkn σ 14 29 14) := sp_take (a := 28) (b := 43) (n := 3) (by decide +kernel) (by decide +kernel) (by decide) (by decide) (by decide)
  have h00 : mj_ev X (d + 1) 153 [.ref 15, .ref 30] σ = some (none, mj_tkn σ 14 29 1) := h0
  have e14 : (mj_tkn σ 14 29 14).1 14 = σ.1 14 := mj_tkn_o 14 (by decide)
  have s15 : ∀ v, (mj_setI (mj_tkn σ 14 29 14) 29 14 v).1 14 15 = σ.1 14 15 := fun v => by rw [mj_setI_ne _ _ _ (by decide), e14]
  have s16 : ∀ v w, (mj_setI (mj_setI (mj_tkn σ 14 29 14) 29 14 v) 29 15 w).1 14 16 = σ.1 14 16 := fun v w => by rw [mj_setI_ne _ _ _ (by decide), mj_setI_ne _ _ _ (by decide), e14]
  have s17 : ∀ v w x, (mj_setI (mj_setI (mj_setI (mj_tkn σ 14 29 14) 29 14 v) 29 15 w) 29 16 x).1 14 17 = σ.1 14 17 := fun v w x => by rw [mj_setI_ne _ _ _ (by decide), mj_setI_ne _ _ _ (by decide), mj_setI_ne _ _ _ (by decide), e14]
  have s18 : ∀ v w x y, (mj_setI (mj_setI (mj_setI (mj_setI (mj_tkn σ 14 29 14) 29 14 v) 29 15 w) 29 16 x) 29 17 y).1 14 18 = σ.1 14 18 := fun v w x y => by rw [mj_setI_ne _ _ _ (by decide), mj_setI_ne _ _ _ (by decide), mj_setI_ne _ _ _ (by decide), mj_setI_ne _ _ _ (by decide), e14]
  unfold mj_tkF
  refine st152k ?_
  simp only [u152k_0, u152k_1, u152k_4, u152k_5, u152k_8, u152k_11, u152k_12, u152k_15, u152k_16, u152k_19, u152k_22, u152k_23, u152k_26, u152k_27, u152k_30, u152k_33, u152k_34, u152k_37, u152k_38, u152k_41, u152k_44, u152k_45, u152k_48, u152k_49, u152k_52, u152k_55, u152k_56, u152k_59, u152k_60, u152k_63, u152k_66, u152k_67, u152k_70, u152k_71, u152k_74, u152k_77, u152k_78, u152k_81, u152k_82, u152k_85, u152k_88, u152k_89, u152k_92, u152k_93, u152k_96, u152k_99, u152k_100, u152k_103, u152k_104, u152k_107, u152k_110, u152k_111, u152k_114, u152k_115, u152k_118, u152k_121, u152k_122, u152k_125, u152k_126, u152k_129, u152k_132, u152k_133, u152k_136, u152k_137, u152k_140, u152k_143, u152k_144, u152k_147, u152k_148, u152k_151, u152k_154, u152k_155, u152k_156, u152k_159, u152k_162, u152k_163, u152k_164, u152k_167, u152k_170, u152k_171, u152k_172, u152k_175, u152k_178, u152k_179, u152k_180, u152k_183, u152k_186, u152k_187, u152k_188, u152k_191, u152k_194, h00, h1, h2, h3, h4, h5, h6, h7, h8, h9, h10, h11, h12, h13, e14, s15, s16, s17, s18, mj_noMk_ref, mj_cc_v, mj_cc_n, List.all_cons, List.all_nil, mj_noMk_int, mj_noMk_long, mj_noMk_ref, mj_noMk_junk, List.length_nil, List.length_cons, Nat.zero_le, Nat.reduceLeDiff, Nat.reduceAdd, Bool.and_true, Bool.true_and, Bool.and_self, Nat.reduceBNe, true_or, or_true, true_and, and_true, mj_z0, mj_z1, mj_z01, decide_true, decide_false, Bool.true_and, Bool.false_and, Bool.and_true, Bool.and_false, Bool.true_or, Bool.false_or, Bool.or_false, Bool.or_true, Bool.not_true, Bool.not_false, Bool.and_self, Bool.or_self, if_true, if_false, Bool.true_eq_false, Bool.false_eq_true, not_true, not_false_eq_true]
  try decide
theorem sp_takeB : mj_ev X (d + 2) 152 [.ref 14, .ref 29] σ = some (none, mj_tkF σ 29 14) := by
  have h0 : mj_ev X (d + 1) 153 [.ref 30, .ref 15] (mj_tkn σ 29 14 0) = some (none, mj_tkn σ 29 14 1) := sp_take (a := 30) (b := 15) (n := 9) (by decide +kernel) (by decide +kernel) (by decide) (by decide) (by decide)
  have h1 : mj_ev X (d + 1) 153 [.ref 31, .ref 16] (mj_tkn σ 29 14 1) = some (none, mj_tkn σ 29 14 2) := sp_take (a := 31) (b := 16) (n := 9) (by decide +kernel) (by decide +kernel) (by decide) (by decide) (by decide)
  have h2 : mj_ev X (d + 1) 153 [.ref 32, .ref 17] (mj_tkn σ 29 14 2) = some (none, mj_tkn σ 29 14 3) := sp_take (a := 32) (b := 17) (n := 9) (by decide +kernel) (by decide +kernel) (by decide) (by decide) (by decide)
  have h3 : mj_ev X (d + 1) 153 [.ref 33, .ref 18] (mj_tkn σ 29 14 3) = some (none, mj_tkn σ 29 14 4) := sp_take (a := 33) (b := 18) (n := 9) (by decide +kernel) (by decide +kernel) (by decide) (by decide) (by decide)
  have h4 : mj_ev X (d + 1) 153 [.ref 34, .ref 19] (mj_tkn σ 29 14 4) = some (none, mj_tkn σ 29 14 5) := sp_take (a := 34) (b := 19) (n := 9) (by decide +kernel) (by decide +kernel) (by decide) (by decide) (by decide)
  have h5 : mj_ev X (d + 1) 153 [.ref 35, .ref 20] (mj_tkn σ 29 14 5) = some (none, mj_tkn σ 29 14 6) := sp_take (a := 35) (b := 20) (n := 9) (by decide +kernel) (by decide +kernel) (by decide) (by decide) (by decide)
  have h6 : mj_ev X (d + 1) 153 [.ref 36, .ref 21] (mj_tkn σ 29 14 6) = some (none, mj_tkn σ 29 14 7) := sp_take (a := 36) (b := 21) (n := 9) (by decide +kernel) (by decide +kernel) (by decide) (by decide) (by decide)
  have h7 : mj_ev X (d + 1) 153 [.ref 37, .ref 22] (mj_tkn σ 29 14 7) = some (none, mj_tkn σ 29 14 8) := sp_take (a := 37) (b := 22) (n := 9) (by decide +kernel) (by decide +kernel) (by decide) (by decide) (by decide)
  have h8 : mj_ev X (d + 1) 153 [.ref 38, .ref 23] (mj_tkn σ 29 14 8) = some (none, mj_tkn σ 29 14 9) := sp_take (a := 38) (b := 23) (n := 9) (by decide +kernel) (by decide +kernel) (by decide) (by decide) (by decide)
  have h9 : mj_ev X (d + 1) 153 [.ref 39, .ref 24] (mj_tkn σ 29 14 9) = some (none, mj_tkn σ 29 14 10) := sp_take (a := 39) (b := 24) (n := 9) (by decide +kernel) (by decide +kernel) (by decide) (by decide) (by decide)
  have h10 : mj_ev X (d + 1) 153 [.ref 40, .ref 25] (mj_tkn σ 29 14 10) = some (none, mj_tkn σ 29 14 11) := sp_take (a := 40) (b := 25) (n := 9) (by decide +kernel) (by decide +kernel) (by decide) (by decide) (by decide)
  have h11 : mj_ev X (d + 1) 153 [.ref 41, .ref 26] (mj_tkn σ 29 14 11) = some (none, mj_tkn σ 29 14 12) := sp_take (a := 41) (b := 26) (n := 9) (by decide +kernel) (by decide +kernel) (by decide) (by decide) (by decide)
  have h12 : mj_ev X (d + 1) 153 [.ref 42, .ref 27] (mj_tkn σ 29 14 12) = some (none, mj_tkn σ 29 14 13) := sp_take (a := 42) (b := 27) (n := 12) (by decide +kernel) (by decide +kernel) (by decide) (by decide) (by decide)
  have h13 : mj_ev X (d + 1) 153 [.ref 43, .ref 28] (mj_tkn σ 29 14 13) = some (none, mj_tkn σ 29 14 14) := sp_take (a := 43) (b := 28) (n := 3) (by decide +kernel) (by decide +kernel) (by decide) (by decide) (by decide)
  have h00 : mj_ev X (d + 1) 153 [.ref 30, .ref 15] σ = some (none, mj_tkn σ 29 14 1) := h0
  have e14 : (mj_tkn σ 29 14 14).1 29 = σ.1 29 := mj_tkn_o 14 (by decide)
  have s15 : ∀ v, (mj_setI (mj_tkn σ 29 14 14) 14 14 v).1 29 15 = σ.1 29 15 := fun v => by rw [mj_setI_ne _ _ _ (by decide), e14]
  have s16 : ∀ v w, (mj_setI (mj_setI (mj_tkn σ 29 14 14) 14 14 v) 14 15 w).1 29 16 = σ.1 29 16 := fun v w => by rw [mj_setI_ne _ _ _ (by decide), mj_setI_ne _ _ _ (by decide), e14]
  have s17 : ∀ v w x, (mj_setI (mj_setI (mj_setI (mj_tkn σ 29 14 14) 14 14 v) 14 15 w) 14 16 x).1 29 17 = σ.1 29 17 := fun v w x => by rw [mj_setI_ne _ _ _ (by decide), mj_setI_ne _ _ _ (by decide), mj_setI_ne _ _ _ (by decide), e14]
  have s18 : ∀ v w x y, (mj_setI (mj_setI (mj_setI (mj_setI (mj_tkn σ 29 14 14) 14 14 v) 14 15 w) 14 16 x) 14 17 y).1 29 18 = σ.1 29 18 := fun v w x y => by rw [mj_setI_ne _ _ _ (by decide), mj_setI_ne _ _ _ (by decide), mj_setI_ne _ _ _ (by decide), mj_setI_ne _ _ _ (by decide), e14]
  unfold mj_tkF
  refine st152 ?_
  simp only [u152_0, u152_1, u152_4, u152_5, u152_8, u152_11, u152_12, u152_15, u152_16, u152_19, u152_22, u152_23, u152_26, u152_27, u152_30, u152_33, u152_34, u152_37, u152_38, u152_41, u152_44, u152_45, u152_48, u152_49, u152_52, u152_55, u152_56, u152_59, u152_60, u152_63, u152_66, u152_67, u152_70, u152_71, u152_74, u152_77, u152_78, u152_81, u152_82, u152_85, u152_88, u152_89, u152_92, u152_93, u152_96, u152_99, u152_100, u152_103, u152_104, u152_107, u152_110, u152_111, u152_114, u152_115, u152_118, u152_121, u152_122, u152_125, u152_126, u152_129, u152_132, u152_133, u152_136, u152_137, u152_140, u152_143, u152_144, u152_147, u152_148, u152_151, u152_154, u152_155, u152_156, u152_159, u152_162, u152_163, u152_164, u152_167, u152_170, u152_171, u152_172, u152_175, u152_178, u152_179, u152_180, u152_183, u152_186, u152_187, u152_188, u152_191, u152_194, h00, h1, h2, h3, h4, h5, h6, h7, h8, h9, h10, h11, h12, h13, e14, s15, s16, s17, s18, mj_noMk_ref, mj_cc_v, mj_cc_n, List.all_cons, List.all_nil, mj_noMk_int, mj_noMk_long, mj_noMk_ref, mj_noMk_junk, List.length_nil, List.length_cons, Nat.zero_le, Nat.reduceLeDiff, Nat.reduceAdd, Bool.and_true, Bool.true_and, Bool.and_self, Nat.reduceBNe, true_or, or_true, true_and, and_true, mj_z0, mj_z1, mj_z01, decide_true, decide_false, Bool.true_and, Bool.false_and, Bool.and_true, Bool.and_false, Bool.true_or, Bool.false_or, Bool.or_false, Bool.or_true, Bool.not_true, Bool.not_false, Bool.and_self, Bool.or_self, if_true, if_false, Bool.true_eq_false, Bool.false_eq_true, not_true, not_false_eq_true]
  try decide
theorem sp_image : mj_ev X (d + 3) 151 [.ref 0] σ = some (some (.int (σ.1 14 14)), mj_setI (mj_tkF σ 14 29) 0 11 1) := by
  have h := sp_takeK (X := X) (d := d) (σ := σ)
  have e14 : (mj_setI (mj_tkF σ 14 29) 0 11 1).1 14 14 = σ.1 14 14 := by
    rw [mj_setI_ne _ _ _ (by decide)]
    unfold mj_tkF
    rw [mj_setI_ne _ _ _ (by decide), mj_setI_ne _ _ _ (by decide), mj_setI_ne _ _ _ (by decide), mj_setI_ne _ _ _ (by decide), mj_setI_ne _ _ _ (by decide), mj_tkn_o 14 (by decide)]
  refine st151 ?_
  simp only [u151_0, u151_1, u151_4, u151_5, u151_8, u151_11, u151_12, u151_13, u151_16, u151_17, u151_20, u151_23, h, e14, mj_noMk_ref, mj_cc_v, mj_cc_n, List.all_cons, List.all_nil, mj_noMk_int, mj_noMk_long, mj_noMk_ref, mj_noMk_junk, List.length_nil, List.length_cons, Nat.zero_le, Nat.reduceLeDiff, Nat.reduceAdd, Bool.and_true, Bool.true_and, Bool.and_self, Nat.reduceBNe, true_or, or_true, true_and, and_true, mj_z0, mj_z1, mj_z01, decide_true, decide_false, Bool.true_and, Bool.false_and, Bool.and_true, Bool.and_false, Bool.true_or, Bool.false_or, Bool.or_false, Bool.or_true, Bool.not_true, Bool.not_false, Bool.and_self, Bool.or_self, if_true, if_false, Bool.true_eq_false, Bool.false_eq_true, not_true, not_false_eq_true]
/-- the shelves show no promise that is gone -/
def mj_cshv (σ : mj_St) (n : Nat) : mj_St := (fun c s => if c = 1 ∧ s < n ∧ σ.1 1 s < 100 ∧ mj_lt0 (σ.1 1 s) (σ.1 14 14) = false then -1 else σ.1 c s, σ.2)
theorem mj_cshv_0 : mj_cshv σ 0 = σ := by
  unfold mj_cshv
  refine Prod.ext ?_ rfl
  funext c s
  show (if c = 1 ∧ s < 0 ∧ σ.1 1 s < 100 ∧ mj_lt0 (σ.1 1 s) (σ.1 14 14) = false then -1 else σ.1 c s) = σ.1 c s
  rw [if_neg (fun z => absurd z.2.1 (Nat.not_lt_zero _))]
theorem mj_cshv_s {n : Nat} : mj_cshv σ (n + 1) = if σ.1 1 n < 100 ∧ mj_lt0 (σ.1 1 n) (σ.1 14 14) = false then mj_setI (mj_cshv σ n) 1 n (-1) else mj_cshv σ n := by
  have key : ∀ c s, (mj_cshv σ (n + 1)).1 c s = (if σ.1 1 n < 100 ∧ mj_lt0 (σ.1 1 n) (σ.1 14 14) = false then mj_setI (mj_cshv σ n) 1 n (-1) else mj_cshv σ n).1 c s := by
    intro c s
    by_cases e : s = n
    · subst e
      by_cases g : σ.1 1 s < 100 ∧ mj_lt0 (σ.1 1 s) (σ.1 14 14) = false
      · rw [if_pos g]
        show (if c = 1 ∧ s < s + 1 ∧ σ.1 1 s < 100 ∧ mj_lt0 (σ.1 1 s) (σ.1 14 14) = false then -1 else σ.1 c s) = (if c = 1 ∧ s = s then -1 else (mj_cshv σ s).1 c s)
        by_cases c1 : c = 1
        · rw [if_pos ⟨c1, by omega, g⟩, if_pos ⟨c1, rfl⟩]
        · rw [if_neg (fun z => c1 z.1), if_neg (fun z => c1 z.1)]
          show σ.1 c s = (if c = 1 ∧ s < s ∧ σ.1 1 s < 100 ∧ mj_lt0 (σ.1 1 s) (σ.1 14 14) = false then -1 else σ.1 c s)
          rw [if_neg (fun z => c1 z.1)]
      · rw [if_neg g]
        show (if c = 1 ∧ s < s + 1 ∧ σ.1 1 s < 100 ∧ mj_lt0 (σ.1 1 s) (σ.1 14 14) = false then -1 else σ.1 c s) = (if c = 1 ∧ s < s ∧ σ.1 1 s < 100 ∧ mj_lt0 (σ.1 1 s) (σ.1 14 14) = false then -1 else σ.1 c s)
        rw [if_neg (fun z => g z.2.2), if_neg (fun z => g z.2.2)]
    · have l1 : (s < n + 1) = (s < n) := by
        apply propext
        omega
      have e2 : (mj_cshv σ (n + 1)).1 c s = (mj_cshv σ n).1 c s := by
        show (if c = 1 ∧ s < n + 1 ∧ σ.1 1 s < 100 ∧ mj_lt0 (σ.1 1 s) (σ.1 14 14) = false then -1 else σ.1 c s) = (if c = 1 ∧ s < n ∧ σ.1 1 s < 100 ∧ mj_lt0 (σ.1 1 s) (σ.1 14 14) = false then -1 else σ.1 c s)
        simp only [l1]
      rw [e2]
      split
      · show (mj_cshv σ n).1 c s = (if c = 1 ∧ s = n then -1 else (mj_cshv σ n).1 c s)
        rw [if_neg (fun z => e z.2)]
      · rfl
  refine Prod.ext (funext fun c => funext fun i => key c i) ?_
  split <;> rfl
theorem mj_cshv_o {n c : Nat} (h : c ≠ 1) : (mj_cshv σ n).1 c = σ.1 c := by
  funext i
  show (if c = 1 ∧ i < n ∧ σ.1 1 i < 100 ∧ mj_lt0 (σ.1 1 i) (σ.1 14 14) = false then -1 else σ.1 c i) = σ.1 c i
  rw [if_neg (fun z => h z.1)]
theorem sp_restore : mj_ev X (d + 3) 154 [.ref 0] σ = some (if σ.1 0 11 = 0 then (some (.int (-6)), mj_rfC σ (-6)) else (some (.int (σ.1 29 14)), mj_cshv (mj_tkF σ 29 14) 8)) := by
  have h6 : mj_ev X (d + 2) 3 [.ref 0, .int (-6)] σ = _ := sp_rf6 (d := d + 1)
  refine st154 ?_
  by_cases c : σ.1 0 11 = 0
  · rw [if_pos c]
    simp only [u154_0, u154_1, u154_4, u154_7, u154_8, u154_10, u154_13, u154_14, u154_15, u154_18, u154_19, u154_22, u154_25, u154_26, u154_28, u154_30, u154_33, u154_34, u154_37, u154_38, u154_39, u154_41, u154_44, u154_45, u154_48, u154_49, u154_52, u154_53, u154_54, u154_57, u154_60, u154_61, u154_64, u154_65, u154_66, u154_67, u154_70, u154_73, u154_74, u154_77, u154_80, c, h6, mj_cc_v, mj_cc_n, List.all_cons, List.all_nil, mj_noMk_int, mj_noMk_long, mj_noMk_ref, mj_noMk_junk, List.length_nil, List.length_cons, Nat.zero_le, Nat.reduceLeDiff, Nat.reduceAdd, Bool.and_true, Bool.true_and, Bool.and_self, Nat.reduceBNe, true_or, or_true, true_and, and_true, mj_z0, mj_z1, mj_z01, decide_true, decide_false, Bool.true_and, Bool.false_and, Bool.and_true, Bool.and_false, Bool.true_or, Bool.false_or, Bool.or_false, Bool.or_true, Bool.not_true, Bool.not_false, Bool.and_self, Bool.or_self, if_true, if_false, Bool.true_eq_false, Bool.false_eq_true, not_true, not_false_eq_true]
  · rw [if_neg c]
    have h := sp_takeB (X := X) (d := d) (σ := σ)
    have e14 : (mj_tkF σ 29 14).1 14 14 = σ.1 29 14 := by
      unfold mj_tkF
      rw [mj_setI_i (by decide), mj_setI_i (by decide), mj_setI_i (by decide), mj_setI_i (by decide)]
      exact mj_setI_eq
    generalize mj_tkF σ 29 14 = τ at *
    have hl : mj_Runs X (mj_ev X (d + 2)) 5 (some .int) prog_1_method_41_code (27, [.ref 0, .int (nI 0)], [], mj_cshv τ 0) (some (.int (σ.1 29 14)), mj_cshv τ 8) :=
      mj_count (X := X) (call := mj_ev X (d + 2)) (oc := 5) (ret := (some .int)) (cc := prog_1_method_41_code) (N := 8) (S := fun k => (27, [.ref 0, .int (nI k)], [], mj_cshv τ k)) (fun k hk hr => by
        have q : nI k < 8 := nI_lt (b := 8) hk (by decide)
        have x14 : (mj_cshv τ k).1 14 14 = τ.1 14 14 := by rw [mj_cshv_o (by decide)]
        have x1 : (mj_cshv τ k).1 1 k = τ.1 1 k := by
          show (if 1 = 1 ∧ k < k ∧ τ.1 1 k < 100 ∧ mj_lt0 (τ.1 1 k) (τ.1 14 14) = false then -1 else τ.1 1 k) = τ.1 1 k
          rw [if_neg (fun z => absurd z.2.1 (Nat.lt_irrefl _))]
        have hhas : mj_ev X (d + 2) 13 [.ref 14, .int (τ.1 1 k)] (mj_cshv τ k) = some (some (.int (mj_z (mj_lt0 (τ.1 1 k) (τ.1 14 14)))), mj_cshv τ k) := by
          rw [← x14]
          exact sp_has (d := d + 1)
        rw [mj_cshv_s] at hr
        refine u154_27.mpr ?_
        by_cases c1 : τ.1 1 k < 100
        · rcases (Bool.eq_false_or_eq_true (mj_lt0 (τ.1 1 k) (τ.1 14 14))).symm with c2 | c2
          · rw [if_pos ⟨c1, c2⟩] at hr
            rw [c2] at hhas
            simp only [u154_0, u154_1, u154_4, u154_7, u154_8, u154_10, u154_13, u154_14, u154_15, u154_18, u154_19, u154_22, u154_25, u154_26, u154_28, u154_30, u154_33, u154_34, u154_37, u154_38, u154_39, u154_41, u154_44, u154_45, u154_48, u154_49, u154_52, u154_53, u154_54, u154_57, u154_60, u154_61, u154_64, u154_65, u154_66, u154_67, u154_70, u154_73, u154_74, u154_77, u154_80, q, x1, c1, hhas, mj_in_nI hk (by decide), mj_nz9 hk (by decide), mj_zF, nI_1, mj_cc_v, mj_cc_n, List.all_cons, List.all_nil, mj_noMk_int, mj_noMk_long, mj_noMk_ref, mj_noMk_junk, List.length_nil, List.length_cons, Nat.zero_le, Nat.reduceLeDiff, Nat.reduceAdd, Bool.and_true, Bool.true_and, Bool.and_self, Nat.reduceBNe, true_or, or_true, true_and, and_true, mj_z0, mj_z1, mj_z01, decide_true, decide_false, Bool.true_and, Bool.false_and, Bool.and_true, Bool.and_false, Bool.true_or, Bool.false_or, Bool.or_false, Bool.or_true, Bool.not_true, Bool.not_false, Bool.and_self, Bool.or_self, if_true, if_false, Bool.true_eq_false, Bool.false_eq_true, not_true, not_false_eq_true]
            exact hr
          · rw [if_neg (fun z => by rw [c2] at z; exact absurd z.2 mj_tf)] at hr
            rw [c2] at hhas
            simp only [u154_0, u154_1, u154_4, u154_7, u154_8, u154_10, u154_13, u154_14, u154_15, u154_18, u154_19, u154_22, u154_25, u154_26, u154_28, u154_30, u154_33, u154_34, u154_37, u154_38, u154_39, u154_41, u154_44, u154_45, u154_48, u154_49, u154_52, u154_53, u154_54, u154_57, u154_60, u154_61, u154_64, u154_65, u154_66, u154_67, u154_70, u154_73, u154_74, u154_77, u154_80, q, x1, c1, hhas, mj_in_nI hk (by decide), mj_nz9 hk (by decide), mj_zT, mj_n10, nI_1, mj_cc_v, mj_cc_n, List.all_cons, List.all_nil, mj_noMk_int, mj_noMk_long, mj_noMk_ref, mj_noMk_junk, List.length_nil, List.length_cons, Nat.zero_le, Nat.reduceLeDiff, Nat.reduceAdd, Bool.and_true, Bool.true_and, Bool.and_self, Nat.reduceBNe, true_or, or_true, true_and, and_true, mj_z0, mj_z1, mj_z01, decide_true, decide_false, Bool.true_and, Bool.false_and, Bool.and_true, Bool.and_false, Bool.true_or, Bool.false_or, Bool.or_false, Bool.or_true, Bool.not_true, Bool.not_false, Bool.and_self, Bool.or_self, if_true, if_false, Bool.true_eq_false, Bool.false_eq_true, not_true, not_false_eq_true]
            exact hr
        · rw [if_neg (fun z => c1 z.1)] at hr
          simp only [u154_0, u154_1, u154_4, u154_7, u154_8, u154_10, u154_13, u154_14, u154_15, u154_18, u154_19, u154_22, u154_25, u154_26, u154_28, u154_30, u154_33, u154_34, u154_37, u154_38, u154_39, u154_41, u154_44, u154_45, u154_48, u154_49, u154_52, u154_53, u154_54, u154_57, u154_60, u154_61, u154_64, u154_65, u154_66, u154_67, u154_70, u154_73, u154_74, u154_77, u154_80, q, x1, c1, mj_in_nI hk (by decide), mj_nz9 hk (by decide), nI_1, mj_cc_v, mj_cc_n, List.all_cons, List.all_nil, mj_noMk_int, mj_noMk_long, mj_noMk_ref, mj_noMk_junk, List.length_nil, List.length_cons, Nat.zero_le, Nat.reduceLeDiff, Nat.reduceAdd, Bool.and_true, Bool.true_and, Bool.and_self, Nat.reduceBNe, true_or, or_true, true_and, and_true, mj_z0, mj_z1, mj_z01, decide_true, decide_false, Bool.true_and, Bool.false_and, Bool.and_true, Bool.and_false, Bool.true_or, Bool.false_or, Bool.or_false, Bool.or_true, Bool.not_true, Bool.not_false, Bool.and_self, Bool.or_self, if_true, if_false, Bool.true_eq_false, Bool.false_eq_true, not_true, not_false_eq_true]
          exact hr) (by
        have q : ¬ nI 8 < 8 := by decide
        have x14 : (mj_cshv τ 8).1 14 14 = σ.1 29 14 := by rw [mj_cshv_o (by decide)]; exact e14
        refine u154_27.mpr ?_
        simp only [u154_0, u154_1, u154_4, u154_7, u154_8, u154_10, u154_13, u154_14, u154_15, u154_18, u154_19, u154_22, u154_25, u154_26, u154_28, u154_30, u154_33, u154_34, u154_37, u154_38, u154_39, u154_41, u154_44, u154_45, u154_48, u154_49, u154_52, u154_53, u154_54, u154_57, u154_60, u154_61, u154_64, u154_65, u154_66, u154_67, u154_70, u154_73, u154_74, u154_77, u154_80, q, x14, mj_cc_v, mj_cc_n, List.all_cons, List.all_nil, mj_noMk_int, mj_noMk_long, mj_noMk_ref, mj_noMk_junk, List.length_nil, List.length_cons, Nat.zero_le, Nat.reduceLeDiff, Nat.reduceAdd, Bool.and_true, Bool.true_and, Bool.and_self, Nat.reduceBNe, true_or, or_true, true_and, and_true, mj_z0, mj_z1, mj_z01, decide_true, decide_false, Bool.true_and, Bool.false_and, Bool.and_true, Bool.and_false, Bool.true_or, Bool.false_or, Bool.or_false, Bool.or_true, Bool.not_true, Bool.not_false, Bool.and_self, Bool.or_self, if_true, if_false, Bool.true_eq_false, Bool.false_eq_true, not_true, not_false_eq_true]) 0 (Nat.zero_le _)
    have z0 : nI 0 = 0 := rfl
    rw [z0, mj_cshv_0] at hl
    simp only [u154_0, u154_1, u154_4, u154_7, u154_8, u154_10, u154_13, u154_14, u154_15, u154_18, u154_19, u154_22, u154_25, u154_26, u154_28, u154_30, u154_33, u154_34, u154_37, u154_38, u154_39, u154_41, u154_44, u154_45, u154_48, u154_49, u154_52, u154_53, u154_54, u154_57, u154_60, u154_61, u154_64, u154_65, u154_66, u154_67, u154_70, u154_73, u154_74, u154_77, u154_80, c, h, mj_noMk_ref, mj_cc_v, mj_cc_n, List.all_cons, List.all_nil, mj_noMk_int, mj_noMk_long, mj_noMk_ref, mj_noMk_junk, List.length_nil, List.length_cons, Nat.zero_le, Nat.reduceLeDiff, Nat.reduceAdd, Bool.and_true, Bool.true_and, Bool.and_self, Nat.reduceBNe, true_or, or_true, true_and, and_true, mj_z0, mj_z1, mj_z01, decide_true, decide_false, Bool.true_and, Bool.false_and, Bool.and_true, Bool.and_false, Bool.true_or, Bool.false_or, Bool.or_false, Bool.or_true, Bool.not_true, Bool.not_false, Bool.and_self, Bool.or_self, if_true, if_false, Bool.true_eq_false, Bool.false_eq_true, not_true, not_false_eq_true]
    exact hl
def mj_Cst8 (σ : mj_St) (x : Int32) : Int32 := if x = 0 then σ.1 14 14 else if x = 1 then σ.1 14 15 else if x = 2 then mj_pop (σ.1 14 16) else if x = 3 then σ.1 14 17 else if x = 4 then σ.1 14 18 else if x = 5 then σ.1 0 13 else if ¬ x < 11 ∧ ¬ 17 < x then σ.1 12 (x - 10).toNatClampNeg else -1
theorem sp_status {x : Int32} : mj_ev X (d + 2) 155 [.ref 0, .int x] σ = some (some (.int (mj_Cst8 σ x)), σ) := by
  have hb := sp_bitCount (X := X) (d := d) (σ := σ) (x := σ.1 14 16)
  unfold mj_Cst8
  refine st155 ?_
  by_cases b0 : x = 0
  · simp (config := {decide := true}) only [u155_0, u155_1, u155_40, u155_41, u155_44, u155_47, u155_48, u155_49, u155_52, u155_55, u155_56, u155_57, u155_60, u155_63, u155_66, u155_67, u155_68, u155_71, u155_74, u155_75, u155_76, u155_79, u155_82, u155_83, u155_84, u155_87, u155_88, u155_89, u155_91, u155_94, u155_95, u155_97, u155_100, u155_101, u155_104, u155_105, u155_107, u155_108, u155_109, u155_112, u155_113, eq_true b0, mj_cc_v, mj_cc_n, List.all_cons, List.all_nil, mj_noMk_int, mj_noMk_long, mj_noMk_ref, mj_noMk_junk, List.length_nil, List.length_cons, Nat.zero_le, Nat.reduceLeDiff, Nat.reduceAdd, Bool.and_true, Bool.true_and, Bool.and_self, Nat.reduceBNe, true_or, or_true, true_and, and_true, mj_z0, mj_z1, mj_z01, decide_true, decide_false, Bool.true_and, Bool.false_and, Bool.and_true, Bool.and_false, Bool.true_or, Bool.false_or, Bool.or_false, Bool.or_true, Bool.not_true, Bool.not_false, Bool.and_self, Bool.or_self, if_true, if_false, Bool.true_eq_false, Bool.false_eq_true, not_true, not_false_eq_true]
  · by_cases b1 : x = 1
    · simp (config := {decide := true}) only [u155_0, u155_1, u155_40, u155_41, u155_44, u155_47, u155_48, u155_49, u155_52, u155_55, u155_56, u155_57, u155_60, u155_63, u155_66, u155_67, u155_68, u155_71, u155_74, u155_75, u155_76, u155_79, u155_82, u155_83, u155_84, u155_87, u155_88, u155_89, u155_91, u155_94, u155_95, u155_97, u155_100, u155_101, u155_104, u155_105, u155_107, u155_108, u155_109, u155_112, u155_113, eq_false b0, eq_true b1, mj_cc_v, mj_cc_n, List.all_cons, List.all_nil, mj_noMk_int, mj_noMk_long, mj_noMk_ref, mj_noMk_junk, List.length_nil, List.length_cons, Nat.zero_le, Nat.reduceLeDiff, Nat.reduceAdd, Bool.and_true, Bool.true_and, Bool.and_self, Nat.reduceBNe, true_or, or_true, true_and, and_true, mj_z0, mj_z1, mj_z01, decide_true, decide_false, Bool.true_and, Bool.false_and, Bool.and_true, Bool.and_false, Bool.true_or, Bool.false_or, Bool.or_false, Bool.or_true, Bool.not_true, Bool.not_false, Bool.and_self, Bool.or_self, if_true, if_false, Bool.true_eq_false, Bool.false_eq_true, not_true, not_false_eq_true]
    · by_cases b2 : x = 2
      · simp (config := {decide := true}) only [u155_0, u155_1, u155_40, u155_41, u155_44, u155_47, u155_48, u155_49, u155_52, u155_55, u155_56, u155_57, u155_60, u155_63, u155_66, u155_67, u155_68, u155_71, u155_74, u155_75, u155_76, u155_79, u155_82, u155_83, u155_84, u155_87, u155_88, u155_89, u155_91, u155_94, u155_95, u155_97, u155_100, u155_101, u155_104, u155_105, u155_107, u155_108, u155_109, u155_112, u155_113, eq_false b0, eq_false b1, eq_true b2, hb, mj_cc_v, mj_cc_n, List.all_cons, List.all_nil, mj_noMk_int, mj_noMk_long, mj_noMk_ref, mj_noMk_junk, List.length_nil, List.length_cons, Nat.zero_le, Nat.reduceLeDiff, Nat.reduceAdd, Bool.and_true, Bool.true_and, Bool.and_self, Nat.reduceBNe, true_or, or_true, true_and, and_true, mj_z0, mj_z1, mj_z01, decide_true, decide_false, Bool.true_and, Bool.false_and, Bool.and_true, Bool.and_false, Bool.true_or, Bool.false_or, Bool.or_false, Bool.or_true, Bool.not_true, Bool.not_false, Bool.and_self, Bool.or_self, if_true, if_false, Bool.true_eq_false, Bool.false_eq_true, not_true, not_false_eq_true]
      · by_cases b3 : x = 3
        · simp (config := {decide := true}) only [u155_0, u155_1, u155_40, u155_41, u155_44, u155_47, u155_48, u155_49, u155_52, u155_55, u155_56, u155_57, u155_60, u155_63, u155_66, u155_67, u155_68, u155_71, u155_74, u155_75, u155_76, u155_79, u155_82, u155_83, u155_84, u155_87, u155_88, u155_89, u155_91, u155_94, u155_95, u155_97, u155_100, u155_101, u155_104, u155_105, u155_107, u155_108, u155_109, u155_112, u155_113, eq_false b0, eq_false b1, eq_false b2, eq_true b3, mj_cc_v, mj_cc_n, List.all_cons, List.all_nil, mj_noMk_int, mj_noMk_long, mj_noMk_ref, mj_noMk_junk, List.length_nil, List.length_cons, Nat.zero_le, Nat.reduceLeDiff, Nat.reduceAdd, Bool.and_true, Bool.true_and, Bool.and_self, Nat.reduceBNe, true_or, or_true, true_and, and_true, mj_z0, mj_z1, mj_z01, decide_true, decide_false, Bool.true_and, Bool.false_and, Bool.and_true, Bool.and_false, Bool.true_or, Bool.false_or, Bool.or_false, Bool.or_true, Bool.not_true, Bool.not_false, Bool.and_self, Bool.or_self, if_true, if_false, Bool.true_eq_false, Bool.false_eq_true, not_true, not_false_eq_true]
        · by_cases b4 : x = 4
          · simp (config := {decide := true}) only [u155_0, u155_1, u155_40, u155_41, u155_44, u155_47, u155_48, u155_49, u155_52, u155_55, u155_56, u155_57, u155_60, u155_63, u155_66, u155_67, u155_68, u155_71, u155_74, u155_75, u155_76, u155_79, u155_82, u155_83, u155_84, u155_87, u155_88, u155_89, u155_91, u155_94, u155_95, u155_97, u155_100, u155_101, u155_104, u155_105, u155_107, u155_108, u155_109, u155_112, u155_113, eq_false b0, eq_false b1, eq_false b2, eq_false b3, eq_true b4, mj_cc_v, mj_cc_n, List.all_cons, List.all_nil, mj_noMk_int, mj_noMk_long, mj_noMk_ref, mj_noMk_junk, List.length_nil, List.length_cons, Nat.zero_le, Nat.reduceLeDiff, Nat.reduceAdd, Bool.and_true, Bool.true_and, Bool.and_self, Nat.reduceBNe, true_or, or_true, true_and, and_true, mj_z0, mj_z1, mj_z01, decide_true, decide_false, Bool.true_and, Bool.false_and, Bool.and_true, Bool.and_false, Bool.true_or, Bool.false_or, Bool.or_false, Bool.or_true, Bool.not_true, Bool.not_false, Bool.and_self, Bool.or_self, if_true, if_false, Bool.true_eq_false, Bool.false_eq_true, not_true, not_false_eq_true]
          · by_cases b5 : x = 5
            · simp (config := {decide := true}) only [u155_0, u155_1, u155_40, u155_41, u155_44, u155_47, u155_48, u155_49, u155_52, u155_55, u155_56, u155_57, u155_60, u155_63, u155_66, u155_67, u155_68, u155_71, u155_74, u155_75, u155_76, u155_79, u155_82, u155_83, u155_84, u155_87, u155_88, u155_89, u155_91, u155_94, u155_95, u155_97, u155_100, u155_101, u155_104, u155_105, u155_107, u155_108, u155_109, u155_112, u155_113, eq_false b0, eq_false b1, eq_false b2, eq_false b3, eq_false b4, eq_true b5, mj_cc_v, mj_cc_n, List.all_cons, List.all_nil, mj_noMk_int, mj_noMk_long, mj_noMk_ref, mj_noMk_junk, List.length_nil, List.length_cons, Nat.zero_le, Nat.reduceLeDiff, Nat.reduceAdd, Bool.and_true, Bool.true_and, Bool.and_self, Nat.reduceBNe, true_or, or_true, true_and, and_true, mj_z0, mj_z1, mj_z01, decide_true, decide_false, Bool.true_and, Bool.false_and, Bool.and_true, Bool.and_false, Bool.true_or, Bool.false_or, Bool.or_false, Bool.or_true, Bool.not_true, Bool.not_false, Bool.and_self, Bool.or_self, if_true, if_false, Bool.true_eq_false, Bool.false_eq_true, not_true, not_false_eq_true]
            · by_cases a1 : x < 11
              · rw [if_neg b0, if_neg b1, if_neg b2, if_neg b3, if_neg b4, if_neg b5, if_neg (fun z => z.1 a1)]
                simp only [u155_0, u155_1, u155_40, u155_41, u155_44, u155_47, u155_48, u155_49, u155_52, u155_55, u155_56, u155_57, u155_60, u155_63, u155_66, u155_67, u155_68, u155_71, u155_74, u155_75, u155_76, u155_79, u155_82, u155_83, u155_84, u155_87, u155_88, u155_89, u155_91, u155_94, u155_95, u155_97, u155_100, u155_101, u155_104, u155_105, u155_107, u155_108, u155_109, u155_112, u155_113, eq_false b0, eq_false b1, eq_false b2, eq_false b3, eq_false b4, eq_false b5, a1, mj_cc_v, mj_cc_n, List.all_cons, List.all_nil, mj_noMk_int, mj_noMk_long, mj_noMk_ref, mj_noMk_junk, List.length_nil, List.length_cons, Nat.zero_le, Nat.reduceLeDiff, Nat.reduceAdd, Bool.and_true, Bool.true_and, Bool.and_self, Nat.reduceBNe, true_or, or_true, true_and, and_true, mj_z0, mj_z1, mj_z01, decide_true, decide_false, Bool.true_and, Bool.false_and, Bool.and_true, Bool.and_false, Bool.true_or, Bool.false_or, Bool.or_false, Bool.or_true, Bool.not_true, Bool.not_false, Bool.and_self, Bool.or_self, if_true, if_false, Bool.true_eq_false, Bool.false_eq_true, not_true, not_false_eq_true]
              · by_cases a2 : 17 < x
                · rw [if_neg b0, if_neg b1, if_neg b2, if_neg b3, if_neg b4, if_neg b5, if_neg (fun z => z.2 a2)]
                  simp only [u155_0, u155_1, u155_40, u155_41, u155_44, u155_47, u155_48, u155_49, u155_52, u155_55, u155_56, u155_57, u155_60, u155_63, u155_66, u155_67, u155_68, u155_71, u155_74, u155_75, u155_76, u155_79, u155_82, u155_83, u155_84, u155_87, u155_88, u155_89, u155_91, u155_94, u155_95, u155_97, u155_100, u155_101, u155_104, u155_105, u155_107, u155_108, u155_109, u155_112, u155_113, eq_false b0, eq_false b1, eq_false b2, eq_false b3, eq_false b4, eq_false b5, a1, a2, mj_cc_v, mj_cc_n, List.all_cons, List.all_nil, mj_noMk_int, mj_noMk_long, mj_noMk_ref, mj_noMk_junk, List.length_nil, List.length_cons, Nat.zero_le, Nat.reduceLeDiff, Nat.reduceAdd, Bool.and_true, Bool.true_and, Bool.and_self, Nat.reduceBNe, true_or, or_true, true_and, and_true, mj_z0, mj_z1, mj_z01, decide_true, decide_false, Bool.true_and, Bool.false_and, Bool.and_true, Bool.and_false, Bool.true_or, Bool.false_or, Bool.or_false, Bool.or_true, Bool.not_true, Bool.not_false, Bool.and_self, Bool.or_self, if_true, if_false, Bool.true_eq_false, Bool.false_eq_true, not_true, not_false_eq_true]
                · rw [if_neg b0, if_neg b1, if_neg b2, if_neg b3, if_neg b4, if_neg b5, if_pos ⟨a1, a2⟩]
                  have hin : mj_inb (x - 10) 8 = true := by
                    rw [Int32.lt_iff_toInt_lt] at a1 a2
                    have e17 : (17 : Int32).toInt = 17 := by decide
                    have e11 : (11 : Int32).toInt = 11 := by decide
                    have e0 : (0 : Int32).toInt = 0 := by decide
                    have p0 : ¬ x < 0 := by
                      rw [Int32.lt_iff_toInt_lt]
                      omega
                    have p17 : x ≤ 17 := by
                      rw [Int32.le_iff_toInt_le]
                      omega
                    obtain ⟨j, hj, e⟩ := nI_of2 (x := x) (M := 17) (n := 17) (by decide) p0 p17
                    subst e
                    rw [nI_toInt (by omega)] at a1
                    have : nI j - 10 = nI (j - 10) := mj_nI_sub (a := j) (b := 10) (by omega)
                    rw [this]
                    exact mj_in_nI (by omega) (by decide)
                  simp only [u155_0, u155_1, u155_40, u155_41, u155_44, u155_47, u155_48, u155_49, u155_52, u155_55, u155_56, u155_57, u155_60, u155_63, u155_66, u155_67, u155_68, u155_71, u155_74, u155_75, u155_76, u155_79, u155_82, u155_83, u155_84, u155_87, u155_88, u155_89, u155_91, u155_94, u155_95, u155_97, u155_100, u155_101, u155_104, u155_105, u155_107, u155_108, u155_109, u155_112, u155_113, eq_false b0, eq_false b1, eq_false b2, eq_false b3, eq_false b4, eq_false b5, a1, a2, hin, mj_cc_v, mj_cc_n, List.all_cons, List.all_nil, mj_noMk_int, mj_noMk_long, mj_noMk_ref, mj_noMk_junk, List.length_nil, List.length_cons, Nat.zero_le, Nat.reduceLeDiff, Nat.reduceAdd, Bool.and_true, Bool.true_and, Bool.and_self, Nat.reduceBNe, true_or, or_true, true_and, and_true, mj_z0, mj_z1, mj_z01, decide_true, decide_false, Bool.true_and, Bool.false_and, Bool.and_true, Bool.and_false, Bool.true_or, Bool.false_or, Bool.or_false, Bool.or_true, Bool.not_true, Bool.not_false, Bool.and_self, Bool.or_self, if_true, if_false, Bool.true_eq_false, Bool.false_eq_true, not_true, not_false_eq_true]
end