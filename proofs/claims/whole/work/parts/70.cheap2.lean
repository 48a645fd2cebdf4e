section
variable {X : mj_X} {d : Nat} {σ τ : mj_St}
theorem mj_sh1_pow : ∀ n : Nat, n < 10 → (1 : Int32) <<< (nI n &&& 31) = nI (2 ^ n) := by decide +kernel
theorem mj_Fq_chi (F : mj_Fq σ τ) : mj_chi τ = mj_chi σ := by
  funext o br n
  have ep : mj_prc τ = mj_prc σ := by
    funext k
    unfold mj_prc
    rw [F.2.1 72 (by decide) (by decide) (by decide) (by decide) (by decide), F.2.2 55 (by decide) (by decide) (by decide) (by decide) (by decide) (by decide)]
  unfold mj_chi
  rw [ep, F.2.1 65 (by decide) (by decide) (by decide) (by decide) (by decide), F.2.1 70 (by decide) (by decide) (by decide) (by decide) (by decide), F.2.1 71 (by decide) (by decide) (by decide) (by decide) (by decide)]
def mj_cho1 (σ : mj_St) (o : Int32) (N w k : Nat) : Int32 := (mj_chi σ o (nI k) N).2 + mj_Ch (mj_cnS σ N) o (mj_evy σ &&& (nI k ^^^ -1)) N (12 - w) (mj_lvn σ)
def mj_cho (σ : mj_St) (o : Int32) (N w : Nat) : Nat → Nat → Int32 → Int32
  | _, 0, b => b
  | k, j + 1, b => mj_cho σ o N w (k + 1) j (if (mj_chi σ o (nI k) N).1 = false then b else if b = -1 then mj_cho1 σ o N w k else if (mj_chi σ o (nI k) N).2 < b then (if mj_cho1 σ o N w k < b then mj_cho1 σ o N w k else b) else b)
theorem mj_Fq_cho1 (F : mj_Fq σ τ) {o : Int32} {N w k : Nat} : mj_cho1 τ o N w k = mj_cho1 σ o N w k := by
  unfold mj_cho1
  rw [mj_Fq_chi F, mj_Fq_evy F, mj_Fq_lvn F, mj_Sm_Ch (mj_Fq_Sm F)]
  show τ.1 61 55 = σ.1 61 55
  exact F.2.2 55 (by decide) (by decide) (by decide) (by decide) (by decide) (by decide)
theorem sp_M_cheap_now {N R w t k : Nat} {o c b : Int32} (hM : mj_Mst τ N R w t) (hR : R + 1 < 2147483648) (hch : (mj_chi τ o (nI k) N).1 = true) (hb : b = -1 ∨ (mj_chi τ o (nI k) N).2 < b) : ∃ ρ, mj_Fq τ ρ ∧ mj_Scr ρ (R + 1) ∧ ∀ d r, mj_Runs X (mj_ev X (d + 16)) 6 (some .int) prog_8_method_69_code (10, [.ref 61, .int o, .int c, .int (if b = -1 then mj_cho1 τ o N w k else if mj_cho1 τ o N w k < b then mj_cho1 τ o N w k else b), .int (nI (k + 1)), .int (mj_cho1 τ o N w k), .int 1, .int (nI N)], [], ρ) r → mj_Runs X (mj_ev X (d + 16)) 6 (some .int) prog_8_method_69_code (114, [.ref 61, .int o, .int c, .int b, .int (nI k), .int (mj_chi τ o (nI k) N).2, .int (mj_z (mj_chi τ o (nI k) N).1), .int (nI N)], [], τ) r := by
  have hW3 := mj_Fq_Wd (mj_bgS_Fq (σ := τ) (o := o) (mt := mj_evy τ &&& (nI k ^^^ -1))) hM.1
  obtain ⟨ρ, F, S, hk⟩ := sp_M_cheapNow (X := X) (o := o) (mt := mj_evy τ &&& (nI k ^^^ -1)) hM.1 hM.2.1 hR hM.2.2.2.1
  refine ⟨ρ, F, S, fun d r hr => ?_⟩
  have hkd := hk d
  have hcn := sp_M_codeNow (X := X) (d := d + 14) (σ := mj_bgS τ o (mj_evy τ &&& (nI k ^^^ -1))) hW3.1 hW3.2.1 hW3.2.2.2.2.2.1
  have el : mj_lvn (mj_bgS τ o (mj_evy τ &&& (nI k ^^^ -1))) = mj_lvn τ := by
    funext i
    unfold mj_lvn
    rw [mj_bgS_o (by decide), mj_bgS_o (by decide)]
  rw [el] at hcn
  have hbg : mj_ev X (d + 16) 196 [.ref 61] τ = some (none, mj_setI (mj_setI τ 61 51 (τ.1 61 51 + 1)) 61 52 0) := sp_M_begins (d := d + 15)
  have hev : mj_ev X (d + 16) 192 [.ref 61] (mj_setI (mj_setI (mj_setI τ 61 51 (τ.1 61 51 + 1)) 61 52 0) 61 53 o) = some (some (.int (mj_evy τ)), mj_setI (mj_setI (mj_setI τ 61 51 (τ.1 61 51 + 1)) 61 52 0) 61 53 o) := sp_M_everything (d := d + 15)
  have en' : (mj_setI (mj_setI (mj_setI (mj_setI τ 61 51 (τ.1 61 51 + 1)) 61 52 0) 61 53 o) 61 54 (mj_evy τ &&& (nI k ^^^ -1))).1 61 1 = nI w := hM.2.2.1
  have hcn' : mj_ev X (d + 16) 197 [.ref 61] (mj_setI (mj_setI (mj_setI (mj_setI τ 61 51 (τ.1 61 51 + 1)) 61 52 0) 61 53 o) 61 54 (mj_evy τ &&& (nI k ^^^ -1))) = some (some (.int (mj_cno (mj_bgS τ o (mj_evy τ &&& (nI k ^^^ -1))) (mj_lvn τ) N)), mj_cnS (mj_bgS τ o (mj_evy τ &&& (nI k ^^^ -1))) N) := hcn
  have n10 : ¬ (1 : Int32) = 0 := by decide
  rw [hch, mj_zT]
  have e1 : (mj_chi τ o (nI k) N).2 + mj_Ch (mj_cnS τ N) o (mj_evy τ &&& (nI k ^^^ -1)) N (12 - w) (mj_lvn τ) = mj_cho1 τ o N w k := rfl
  by_cases cb : b = -1
  · subst cb
    rw [if_pos rfl] at hr
    refine u222_114.mpr ?_
    simp only [u222_0, u222_1, u222_2, u222_5, u222_6, u222_7, u222_8, u222_12, u222_13, u222_14, u222_17, u222_18, u222_21, u222_22, u222_24, u222_25, u222_27, u222_28, u222_32, u222_33, u222_36, u222_39, u222_40, u222_42, u222_44, u222_47, u222_50, u222_53, u222_55, u222_58, u222_59, u222_62, u222_64, u222_65, u222_66, u222_69, u222_70, u222_73, u222_74, u222_76, u222_77, u222_80, u222_82, u222_83, u222_84, u222_87, u222_88, u222_90, u222_91, u222_94, u222_97, u222_99, u222_100, u222_102, u222_105, u222_106, u222_108, u222_111, u222_116, u222_119, u222_120, u222_121, u222_124, u222_126, u222_127, u222_130, u222_133, u222_134, u222_137, u222_138, u222_139, u222_142, u222_143, u222_144, u222_147, u222_149, u222_150, u222_151, u222_152, u222_155, u222_157, u222_158, u222_159, u222_162, u222_163, u222_166, u222_169, u222_170, u222_172, u222_173, u222_174, u222_177, u222_179, u222_180, u222_183, u222_185, u222_188, u222_189, u222_190, u222_193, u222_196, u222_197, n10, hbg, hev, hcn', en', hkd, e1, mj_cc_v, mj_cc_n, List.all_cons, List.all_nil, mj_noMk_int, mj_noMk_long, mj_noMk_ref, mj_noMk_junk, List.length_nil, List.length_cons, Nat.zero_le, Nat.reduceLeDiff, Nat.reduceAdd, Bool.and_true, Bool.true_and, Bool.and_self, Nat.reduceBNe, true_or, or_true, true_and, and_true, mj_z0, mj_z1, mj_z01, decide_true, decide_false, Bool.true_and, Bool.false_and, Bool.and_true, Bool.and_false, Bool.true_or, Bool.false_or, Bool.or_false, Bool.or_true, Bool.not_true, Bool.not_false, Bool.and_self, Bool.or_self, if_true, if_false, Bool.true_eq_false, Bool.false_eq_true, not_true, not_false_eq_true, nI_1]
    exact hr
  · have cb2 := hb.resolve_left cb
    rw [if_neg cb] at hr
    refine u222_114.mpr ?_
    by_cases c2 : mj_cho1 τ o N w k < b
    · rw [if_pos c2] at hr
      simp only [u222_0, u222_1, u222_2, u222_5, u222_6, u222_7, u222_8, u222_12, u222_13, u222_14, u222_17, u222_18, u222_21, u222_22, u222_24, u222_25, u222_27, u222_28, u222_32, u222_33, u222_36, u222_39, u222_40, u222_42, u222_44, u222_47, u222_50, u222_53, u222_55, u222_58, u222_59, u222_62, u222_64, u222_65, u222_66, u222_69, u222_70, u222_73, u222_74, u222_76, u222_77, u222_80, u222_82, u222_83, u222_84, u222_87, u222_88, u222_90, u222_91, u222_94, u222_97, u222_99, u222_100, u222_102, u222_105, u222_106, u222_108, u222_111, u222_116, u222_119, u222_120, u222_121, u222_124, u222_126, u222_127, u222_130, u222_133, u222_134, u222_137, u222_138, u222_139, u222_142, u222_143, u222_144, u222_147, u222_149, u222_150, u222_151, u222_152, u222_155, u222_157, u222_158, u222_159, u222_162, u222_163, u222_166, u222_169, u222_170, u222_172, u222_173, u222_174, u222_177, u222_179, u222_180, u222_183, u222_185, u222_188, u222_189, u222_190, u222_193, u222_196, u222_197, n10, cb, cb2, c2, hbg, hev, hcn', en', hkd, e1, mj_cc_v, mj_cc_n, List.all_cons, List.all_nil, mj_noMk_int, mj_noMk_long, mj_noMk_ref, mj_noMk_junk, List.length_nil, List.length_cons, Nat.zero_le, Nat.reduceLeDiff, Nat.reduceAdd, Bool.and_true, Bool.true_and, Bool.and_self, Nat.reduceBNe, true_or, or_true, true_and, and_true, mj_z0, mj_z1, mj_z01, decide_true, decide_false, Bool.true_and, Bool.false_and, Bool.and_true, Bool.and_false, Bool.true_or, Bool.false_or, Bool.or_false, Bool.or_true, Bool.not_true, Bool.not_false, Bool.and_self, Bool.or_self, if_true, if_false, Bool.true_eq_false, Bool.false_eq_true, not_true, not_false_eq_true, nI_1]
      exact hr
    · rw [if_neg c2] at hr
      simp only [u222_0, u222_1, u222_2, u222_5, u222_6, u222_7, u222_8, u222_12, u222_13, u222_14, u222_17, u222_18, u222_21, u222_22, u222_24, u222_25, u222_27, u222_28, u222_32, u222_33, u222_36, u222_39, u222_40, u222_42, u222_44, u222_47, u222_50, u222_53, u222_55, u222_58, u222_59, u222_62, u222_64, u222_65, u222_66, u222_69, u222_70, u222_73, u222_74, u222_76, u222_77, u222_80, u222_82, u222_83, u222_84, u222_87, u222_88, u222_90, u222_91, u222_94, u222_97, u222_99, u222_100, u222_102, u222_105, u222_106, u222_108, u222_111, u222_116, u222_119, u222_120, u222_121, u222_124, u222_126, u222_127, u222_130, u222_133, u222_134, u222_137, u222_138, u222_139, u222_142, u222_143, u222_144, u222_147, u222_149, u222_150, u222_151, u222_152, u222_155, u222_157, u222_158, u222_159, u222_162, u222_163, u222_166, u222_169, u222_170, u222_172, u222_173, u222_174, u222_177, u222_179, u222_180, u222_183, u222_185, u222_188, u222_189, u222_190, u222_193, u222_196, u222_197, n10, cb, cb2, c2, hbg, hev, hcn', en', hkd, e1, mj_cc_v, mj_cc_n, List.all_cons, List.all_nil, mj_noMk_int, mj_noMk_long, mj_noMk_ref, mj_noMk_junk, List.length_nil, List.length_cons, Nat.zero_le, Nat.reduceLeDiff, Nat.reduceAdd, Bool.and_true, Bool.true_and, Bool.and_self, Nat.reduceBNe, true_or, or_true, true_and, and_true, mj_z0, mj_z1, mj_z01, decide_true, decide_false, Bool.true_and, Bool.false_and, Bool.and_true, Bool.and_false, Bool.true_or, Bool.false_or, Bool.or_false, Bool.or_true, Bool.not_true, Bool.not_false, Bool.and_self, Bool.or_self, if_true, if_false, Bool.true_eq_false, Bool.false_eq_true, not_true, not_false_eq_true, nI_1]
      exact hr
theorem sp_M_cheap_out {N R w t : Nat} {o c : Int32} (hM : mj_Mst σ N R w t) (hR : R + 512 < 2147483648) : ∀ (j k : Nat) (τ : mj_St) (b : Int32) (v5 v6 v7 : Value), mj_noMk v5 = true → mj_noMk v6 = true → mj_noMk v7 = true → k + j = 2 ^ N → mj_Fq σ τ → mj_Scr τ (R + k) → ∃ ρ, mj_Fq σ ρ ∧ mj_Scr ρ (R + 2 ^ N) ∧ ∀ d, mj_Runs X (mj_ev X (d + 16)) 6 (some .int) prog_8_method_69_code (10, [.ref 61, .int o, .int c, .int b, .int (nI k), v5, v6, v7], [], τ) (some (.int (mj_cho σ o N w k j b)), ρ) := by
  have hp9 : 2 ^ N ≤ 512 := Nat.pow_le_pow_right (n := 2) (by decide) hM.1.2.1
  intro j
  induction j with
  | zero =>
    intro k τ b v5 v6 v7 n5 n6 n7 hk F S
    have M := mj_Mst_Fq F S hM
    have hk2 : k = 2 ^ N := by omega
    refine ⟨τ, F, by rw [← hk2]; exact S, fun d => ?_⟩
    have h1 : ¬ nI k < 1 <<< (τ.1 61 0 &&& 31) := by
      rw [M.1.1, mj_sh1_pow N (by have := hM.1.2.1; omega), hk2]
      exact nI_nlt (Nat.le_refl _) (by omega)
    refine u222_10.mpr ?_
    simp only [u222_0, u222_1, u222_2, u222_5, u222_6, u222_7, u222_8, u222_12, u222_13, u222_14, u222_17, u222_18, u222_21, u222_22, u222_24, u222_25, u222_27, u222_28, u222_32, u222_33, u222_36, u222_39, u222_40, u222_42, u222_44, u222_47, u222_50, u222_53, u222_55, u222_58, u222_59, u222_62, u222_64, u222_65, u222_66, u222_69, u222_70, u222_73, u222_74, u222_76, u222_77, u222_80, u222_82, u222_83, u222_84, u222_87, u222_88, u222_90, u222_91, u222_94, u222_97, u222_99, u222_100, u222_102, u222_105, u222_106, u222_108, u222_111, u222_116, u222_119, u222_120, u222_121, u222_124, u222_126, u222_127, u222_130, u222_133, u222_134, u222_137, u222_138, u222_139, u222_142, u222_143, u222_144, u222_147, u222_149, u222_150, u222_151, u222_152, u222_155, u222_157, u222_158, u222_159, u222_162, u222_163, u222_166, u222_169, u222_170, u222_172, u222_173, u222_174, u222_177, u222_179, u222_180, u222_183, u222_185, u222_188, u222_189, u222_190, u222_193, u222_196, u222_197, h1, if_false, mj_cho]
  | succ j ih =>
    intro k τ b v5 v6 v7 n5 n6 n7 hk F S
    have M := mj_Mst_Fq F S hM
    have h1 : nI k < 1 <<< (τ.1 61 0 &&& 31) := by
      rw [M.1.1, mj_sh1_pow N (by have := hM.1.2.1; omega)]
      exact nI_lt (by omega) (by omega)
    have hS1 : mj_Scr τ (R + (k + 1)) := ⟨S.1, S.2.1, by have := S.2.2.1; omega, S.2.2.2⟩
    have ech := mj_Fq_chi F
    simp only [mj_cho]
    have go : ∀ (d : Nat) r, mj_Runs X (mj_ev X (d + 16)) 6 (some .int) prog_8_method_69_code (114, [.ref 61, .int o, .int c, .int b, .int (nI k), .int (mj_chi τ o (nI k) N).2, .int (mj_z (mj_chi τ o (nI k) N).1), .int (nI N)], [], τ) r → mj_Runs X (mj_ev X (d + 16)) 6 (some .int) prog_8_method_69_code (10, [.ref 61, .int o, .int c, .int b, .int (nI k), v5, v6, v7], [], τ) r := by
      intro d r hr
      have hin := sp_M_cheap_in (X := X) (d := d + 14) M.1 hr
      refine u222_10.mpr ?_
      simp only [u222_0, u222_1, u222_2, u222_5, u222_6, u222_7, u222_8, u222_12, u222_13, u222_14, u222_17, u222_18, u222_21, u222_22, u222_24, u222_25, u222_27, u222_28, u222_32, u222_33, u222_36, u222_39, u222_40, u222_42, u222_44, u222_47, u222_50, u222_53, u222_55, u222_58, u222_59, u222_62, u222_64, u222_65, u222_66, u222_69, u222_70, u222_73, u222_74, u222_76, u222_77, u222_80, u222_82, u222_83, u222_84, u222_87, u222_88, u222_90, u222_91, u222_94, u222_97, u222_99, u222_100, u222_102, u222_105, u222_106, u222_108, u222_111, u222_116, u222_119, u222_120, u222_121, u222_124, u222_126, u222_127, u222_130, u222_133, u222_134, u222_137, u222_138, u222_139, u222_142, u222_143, u222_144, u222_147, u222_149, u222_150, u222_151, u222_152, u222_155, u222_157, u222_158, u222_159, u222_162, u222_163, u222_166, u222_169, u222_170, u222_172, u222_173, u222_174, u222_177, u222_179, u222_180, u222_183, u222_185, u222_188, u222_189, u222_190, u222_193, u222_196, u222_197, h1, if_true]
      exact hin
    have skip : ∀ b', (∃ ρ, mj_Fq σ ρ ∧ mj_Scr ρ (R + 2 ^ N) ∧ ∀ d, mj_Runs X (mj_ev X (d + 16)) 6 (some .int) prog_8_method_69_code (10, [.ref 61, .int o, .int c, .int b', .int (nI (k + 1)), .int (mj_chi σ o (nI k) N).2, .int (mj_z (mj_chi σ o (nI k) N).1), .int (nI N)], [], τ) (some (.int (mj_cho σ o N w (k + 1) j b')), ρ)) := fun b' => ih (k + 1) τ b' _ _ _ rfl rfl rfl (by omega) F hS1
    rw [← ech, ← mj_Fq_cho1 F]
    cases c1 : (mj_chi τ o (nI k) N).1
    · obtain ⟨ρ, F2, S2, hq⟩ := skip b
      refine ⟨ρ, F2, S2, fun d => ?_⟩
      rw [if_pos rfl]
      refine go d _ ?_
      have hqd := hq d
      rw [← ech, c1, mj_zF] at hqd
      rw [c1, mj_zF]
      refine u222_114.mpr ?_
      simp only [u222_0, u222_1, u222_2, u222_5, u222_6, u222_7, u222_8, u222_12, u222_13, u222_14, u222_17, u222_18, u222_21, u222_22, u222_24, u222_25, u222_27, u222_28, u222_32, u222_33, u222_36, u222_39, u222_40, u222_42, u222_44, u222_47, u222_50, u222_53, u222_55, u222_58, u222_59, u222_62, u222_64, u222_65, u222_66, u222_69, u222_70, u222_73, u222_74, u222_76, u222_77, u222_80, u222_82, u222_83, u222_84, u222_87, u222_88, u222_90, u222_91, u222_94, u222_97, u222_99, u222_100, u222_102, u222_105, u222_106, u222_108, u222_111, u222_116, u222_119, u222_120, u222_121, u222_124, u222_126, u222_127, u222_130, u222_133, u222_134, u222_137, u222_138, u222_139, u222_142, u222_143, u222_144, u222_147, u222_149, u222_150, u222_151, u222_152, u222_155, u222_157, u222_158, u222_159, u222_162, u222_163, u222_166, u222_169, u222_170, u222_172, u222_173, u222_174, u222_177, u222_179, u222_180, u222_183, u222_185, u222_188, u222_189, u222_190, u222_193, u222_196, u222_197, mj_cc_v, mj_cc_n, List.all_cons, List.all_nil, mj_noMk_int, mj_noMk_long, mj_noMk_ref, mj_noMk_junk, List.length_nil, List.length_cons, Nat.zero_le, Nat.reduceLeDiff, Nat.reduceAdd, Bool.and_true, Bool.true_and, Bool.and_self, Nat.reduceBNe, true_or, or_true, true_and, and_true, mj_z0, mj_z1, mj_z01, decide_true, decide_false, Bool.true_and, Bool.false_and, Bool.and_true, Bool.and_false, Bool.true_or, Bool.false_or, Bool.or_false, Bool.or_true, Bool.not_true, Bool.not_false, Bool.and_self, Bool.or_self, if_true, if_false, Bool.true_eq_false, Bool.false_eq_true, not_true, not_false_eq_true, nI_1]
      exact hqd
    · by_cases c2 : b = -1 ∨ (mj_chi τ o (nI k) N).2 < b
      · obtain ⟨ρ, F2, S2, hq⟩ := sp_M_cheap_now (X := X) (c := c) M (by omega) c1 c2
        have F3 := mj_Fq_tr F F2
        obtain ⟨ρ2, F4, S4, hg⟩ := ih (k + 1) ρ (if b = -1 then mj_cho1 τ o N w k else if mj_cho1 τ o N w k < b then mj_cho1 τ o N w k else b) (.int (mj_cho1 τ o N w k)) (.int 1) (.int (nI N)) rfl rfl rfl (by omega) F3 S2
        refine ⟨ρ2, F4, S4, fun d => ?_⟩
        refine go d _ ?_
        have hqd := hq d _ (hg d)
        have ee : (if true = false then b else if b = -1 then mj_cho1 τ o N w k else if (mj_chi τ o (nI k) N).2 < b then (if mj_cho1 τ o N w k < b then mj_cho1 τ o N w k else b) else b) = if b = -1 then mj_cho1 τ o N w k else if mj_cho1 τ o N w k < b then mj_cho1 τ o N w k else b := by
          rw [if_neg (by decide)]
          rcases c2 with c2 | c2
          · rw [if_pos c2, if_pos c2]
          · rw [if_pos c2]
        rw [ee]
        exact hqd
      · obtain ⟨ρ, F2, S2, hq⟩ := skip b
        have ca : ¬ b = -1 := fun h => c2 (Or.inl h)
        have cb : ¬ (mj_chi τ o (nI k) N).2 < b := fun h => c2 (Or.inr h)
        refine ⟨ρ, F2, S2, fun d => ?_⟩
        rw [if_neg (by decide), if_neg ca, if_neg cb]
        refine go d _ ?_
        have hqd := hq d
        have n10 : ¬ (1 : Int32) = 0 := by decide
        rw [← ech, c1, mj_zT] at hqd
        rw [c1, mj_zT]
        refine u222_114.mpr ?_
        simp only [u222_0, u222_1, u222_2, u222_5, u222_6, u222_7, u222_8, u222_12, u222_13, u222_14, u222_17, u222_18, u222_21, u222_22, u222_24, u222_25, u222_27, u222_28, u222_32, u222_33, u222_36, u222_39, u222_40, u222_42, u222_44, u222_47, u222_50, u222_53, u222_55, u222_58, u222_59, u222_62, u222_64, u222_65, u222_66, u222_69, u222_70, u222_73, u222_74, u222_76, u222_77, u222_80, u222_82, u222_83, u222_84, u222_87, u222_88, u222_90, u222_91, u222_94, u222_97, u222_99, u222_100, u222_102, u222_105, u222_106, u222_108, u222_111, u222_116, u222_119, u222_120, u222_121, u222_124, u222_126, u222_127, u222_130, u222_133, u222_134, u222_137, u222_138, u222_139, u222_142, u222_143, u222_144, u222_147, u222_149, u222_150, u222_151, u222_152, u222_155, u222_157, u222_158, u222_159, u222_162, u222_163, u222_166, u222_169, u222_170, u222_172, u222_173, u222_174, u222_177, u222_179, u222_180, u222_183, u222_185, u222_188, u222_189, u222_190, u222_193, u222_196, u222_197, n10, ca, cb, mj_cc_v, mj_cc_n, List.all_cons, List.all_nil, mj_noMk_int, mj_noMk_long, mj_noMk_ref, mj_noMk_junk, List.length_nil, List.length_cons, Nat.zero_le, Nat.reduceLeDiff, Nat.reduceAdd, Bool.and_true, Bool.true_and, Bool.and_self, Nat.reduceBNe, true_or, or_true, true_and, and_true, mj_z0, mj_z1, mj_z01, decide_true, decide_false, Bool.true_and, Bool.false_and, Bool.and_true, Bool.and_false, Bool.true_or, Bool.false_or, Bool.or_false, Bool.or_true, Bool.not_true, Bool.not_false, Bool.and_self, Bool.or_self, if_true, if_false, Bool.true_eq_false, Bool.false_eq_true, not_true, not_false_eq_true, nI_1]
        exact hqd
end
section
variable {X : mj_X} {d : Nat} {σ τ : mj_St}
theorem mj_Scr_le {R R' : Nat} (h : mj_Scr σ R) (hR : R ≤ R') : mj_Scr σ R' := ⟨h.1, h.2.1, by have := h.2.2.1; omega, h.2.2.2⟩
theorem mj_Mst_55 {N R w t : Nat} {c : Int32} (h : mj_Mst σ N R w t) : mj_Mst (mj_setI σ 61 55 c) N R w t := h
theorem sp_M_cheap {N R w t : Nat} {o c : Int32} (hM : mj_Mst σ N R w t) (hR : R + 512 < 2147483648) (hc : c = 0 ∨ c = 1) : ∃ ρ, mj_Fq (mj_setI σ 61 55 c) ρ ∧ mj_Scr ρ (R + 512) ∧ ∀ d, mj_ev X (d + 17) 222 [.ref 61, .int o, .int c] σ = some (some (.int (mj_cho (mj_setI σ 61 55 c) o N w 0 (2 ^ N) (-1))), ρ) := by
  have hp9 : 2 ^ N ≤ 512 := Nat.pow_le_pow_right (n := 2) (by decide) hM.1.2.1
  obtain ⟨ρ, F, S, hk⟩ := sp_M_cheap_out (X := X) (o := o) (c := c) (mj_Mst_55 (c := c) hM) hR (2 ^ N) 0 (mj_setI σ 61 55 c) (-1) mj_junk mj_junk mj_junk rfl rfl rfl (by omega) mj_Fq_rf hM.2.1
  refine ⟨ρ, F, mj_Scr_le S (by omega), fun d => ?_⟩
  have hkd := hk d
  refine st222 ?_
  simp only [u222_0, u222_1, u222_2, u222_5, u222_6, u222_7, u222_8, u222_12, u222_13, u222_14, u222_17, u222_18, u222_21, u222_22, u222_24, u222_25, u222_27, u222_28, u222_32, u222_33, u222_36, u222_39, u222_40, u222_42, u222_44, u222_47, u222_50, u222_53, u222_55, u222_58, u222_59, u222_62, u222_64, u222_65, u222_66, u222_69, u222_70, u222_73, u222_74, u222_76, u222_77, u222_80, u222_82, u222_83, u222_84, u222_87, u222_88, u222_90, u222_91, u222_94, u222_97, u222_99, u222_100, u222_102, u222_105, u222_106, u222_108, u222_111, u222_116, u222_119, u222_120, u222_121, u222_124, u222_126, u222_127, u222_130, u222_133, u222_134, u222_137, u222_138, u222_139, u222_142, u222_143, u222_144, u222_147, u222_149, u222_150, u222_151, u222_152, u222_155, u222_157, u222_158, u222_159, u222_162, u222_163, u222_166, u222_169, u222_170, u222_172, u222_173, u222_174, u222_177, u222_179, u222_180, u222_183, u222_185, u222_188, u222_189, u222_190, u222_193, u222_196, u222_197]
  exact ⟨hc, hkd⟩
theorem sp_M_dear {N R w t : Nat} {o : Int32} (hM : mj_Mst σ N R w t) (hR : R + 512 < 2147483648) : ∃ ρ, mj_Fq (mj_setI σ 61 55 0) ρ ∧ mj_Scr ρ (R + 512) ∧ ∀ d, mj_ev X (d + 18) 221 [.ref 61, .int o] σ = some (if mj_inb o 8 = true then (some (.int (mj_cho (mj_setI σ 61 55 0) o N w 0 (2 ^ N) (-1))), ρ) else (some (.int (-6)), mj_rfM σ (-6))) := by
  obtain ⟨ρ, F, S, hk⟩ := sp_M_cheap (X := X) (o := o) (c := 0) hM hR (Or.inl rfl)
  refine ⟨ρ, F, S, fun d => ?_⟩
  have hkd := hk d
  have ho := sp_M_isOutcome (X := X) (d := d + 16) (x := o) (σ := σ)
  have h6 := sp_no6 (X := X) (d := d + 16) (σ := σ)
  refine st221 ?_
  cases c : mj_inb o 8
  · rw [c] at ho
    simp only [u221_0, u221_1, u221_2, u221_5, u221_8, u221_9, u221_10, u221_11, u221_14, u221_17, u221_18, u221_20, u221_23, ho, h6, mj_cc_v, mj_cc_n, List.all_cons, List.all_nil, mj_noMk_int, mj_noMk_long, mj_noMk_ref, mj_noMk_junk, List.length_nil, List.length_cons, Nat.zero_le, Nat.reduceLeDiff, Nat.reduceAdd, Bool.and_true, Bool.true_and, Bool.and_self, Nat.reduceBNe, true_or, or_true, true_and, and_true, mj_z0, mj_z1, mj_z01, decide_true, decide_false, Bool.true_and, Bool.false_and, Bool.and_true, Bool.and_false, Bool.true_or, Bool.false_or, Bool.or_false, Bool.or_true, Bool.not_true, Bool.not_false, Bool.and_self, Bool.or_self, if_true, if_false, Bool.true_eq_false, Bool.false_eq_true, not_true, not_false_eq_true]
  · rw [c] at ho
    simp only [u221_0, u221_1, u221_2, u221_5, u221_8, u221_9, u221_10, u221_11, u221_14, u221_17, u221_18, u221_20, u221_23, ho, hkd, mj_cc_v, mj_cc_n, List.all_cons, List.all_nil, mj_noMk_int, mj_noMk_long, mj_noMk_ref, mj_noMk_junk, List.length_nil, List.length_cons, Nat.zero_le, Nat.reduceLeDiff, Nat.reduceAdd, Bool.and_true, Bool.true_and, Bool.and_self, Nat.reduceBNe, true_or, or_true, true_and, and_true, mj_z0, mj_z1, mj_z01, decide_true, decide_false, Bool.true_and, Bool.false_and, Bool.and_true, Bool.and_false, Bool.true_or, Bool.false_or, Bool.or_false, Bool.or_true, Bool.not_true, Bool.not_false, Bool.and_self, Bool.or_self, if_true, if_false, Bool.true_eq_false, Bool.false_eq_true, not_true, not_false_eq_true]
theorem sp_M_fewest {N R w t : Nat} {o : Int32} (hM : mj_Mst σ N R w t) (hR : R + 512 < 2147483648) : ∃ ρ, mj_Fq (mj_setI σ 61 55 1) ρ ∧ mj_Scr ρ (R + 512) ∧ ∀ d, mj_ev X (d + 18) 225 [.ref 61, .int o] σ = some (if mj_inb o 8 = true then (some (.int (mj_cho (mj_setI σ 61 55 1) o N w 0 (2 ^ N) (-1))), ρ) else (some (.int (-6)), mj_rfM σ (-6))) := by
  obtain ⟨ρ, F, S, hk⟩ := sp_M_cheap (X := X) (o := o) (c := 1) hM hR (Or.inr rfl)
  refine ⟨ρ, F, S, fun d => ?_⟩
  have hkd := hk d
  have ho := sp_M_isOutcome (X := X) (d := d + 16) (x := o) (σ := σ)
  have h6 := sp_no6 (X := X) (d := d + 16) (σ := σ)
  refine st225 ?_
  cases c : mj_inb o 8
  · rw [c] at ho
    simp only [u225_0, u225_1, u225_2, u225_5, u225_8, u225_9, u225_10, u225_11, u225_14, u225_17, u225_18, u225_20, u225_23, ho, h6, mj_cc_v, mj_cc_n, List.all_cons, List.all_nil, mj_noMk_int, mj_noMk_long, mj_noMk_ref, mj_noMk_junk, List.length_nil, List.length_cons, Nat.zero_le, Nat.reduceLeDiff, Nat.reduceAdd, Bool.and_true, Bool.true_and, Bool.and_self, Nat.reduceBNe, true_or, or_true, true_and, and_true, mj_z0, mj_z1, mj_z01, decide_true, decide_false, Bool.true_and, Bool.false_and, Bool.and_true, Bool.and_false, Bool.true_or, Bool.false_or, Bool.or_false, Bool.or_true, Bool.not_true, Bool.not_false, Bool.and_self, Bool.or_self, if_true, if_false, Bool.true_eq_false, Bool.false_eq_true, not_true, not_false_eq_true]
  · rw [c] at ho
    simp only [u225_0, u225_1, u225_2, u225_5, u225_8, u225_9, u225_10, u225_11, u225_14, u225_17, u225_18, u225_20, u225_23, ho, hkd, mj_cc_v, mj_cc_n, List.all_cons, List.all_nil, mj_noMk_int, mj_noMk_long, mj_noMk_ref, mj_noMk_junk, List.length_nil, List.length_cons, Nat.zero_le, Nat.reduceLeDiff, Nat.reduceAdd, Bool.and_true, Bool.true_and, Bool.and_self, Nat.reduceBNe, true_or, or_true, true_and, and_true, mj_z0, mj_z1, mj_z01, decide_true, decide_false, Bool.true_and, Bool.false_and, Bool.and_true, Bool.and_false, Bool.true_or, Bool.false_or, Bool.or_false, Bool.or_true, Bool.not_true, Bool.not_false, Bool.and_self, Bool.or_self, if_true, if_false, Bool.true_eq_false, Bool.false_eq_true, not_true, not_false_eq_true]
end
