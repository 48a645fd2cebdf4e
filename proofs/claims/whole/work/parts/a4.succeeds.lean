section
variable {X : mj_X} {d : Nat} {σ τ ρ : mj_St}
theorem mj_Wok_0 {n w gr : Nat} : mj_Wok X σ n w gr 0 := by
  intro τ g s F hM hg hs
  refine ⟨τ, F, hM, fun d => ?_⟩
  have q : ¬ nI (12 - 0) < 12 := by decide
  have e : mj_W σ n 0 g s = true := rfl
  rw [e]
  refine st87 ?_
  simp only [u87_0, u87_1, u87_3, u87_6, u87_7, u87_8, u87_9, u87_10, u87_13, u87_16, u87_17, u87_18, u87_21, u87_22, u87_23, u87_24, u87_25, u87_26, u87_29, u87_30, u87_31, u87_32, u87_33, u87_35, u87_37, u87_39, u87_40, u87_42, u87_43, u87_46, u87_48, u87_50, u87_53, u87_55, u87_57, u87_58, u87_59, u87_62, u87_63, u87_66, u87_67, u87_68, u87_69, u87_71, u87_73, u87_74, u87_75, u87_77, u87_78, u87_81, u87_83, u87_84, u87_86, u87_87, u87_88, u87_89, u87_92, u87_93, u87_94, u87_95, u87_98, u87_100, u87_102, u87_103, u87_104, u87_106, u87_107, u87_108, u87_109, u87_112, u87_113, u87_114, u87_115, u87_116, u87_117, u87_118, u87_121, u87_123, u87_125, u87_126, u87_129, u87_130, u87_132, u87_133, u87_134, u87_135, u87_138, u87_141, u87_142, u87_145, u87_146, u87_148, u87_149, u87_152, u87_154, u87_157, u87_159, u87_162, u87_164, u87_166, u87_167, u87_168, u87_169, u87_171, u87_172, u87_173, u87_175, q, mj_zT, mj_cc_v, mj_cc_n, List.all_cons, List.all_nil, mj_noMk_int, mj_noMk_long, mj_noMk_ref, mj_noMk_junk, List.length_nil, List.length_cons, Nat.zero_le, Nat.reduceLeDiff, Nat.reduceAdd, Bool.and_true, Bool.true_and, Bool.and_self, Nat.reduceBNe, true_or, or_true, true_and, and_true, mj_z0, mj_z1, mj_z01, decide_true, decide_false, Bool.true_and, Bool.false_and, Bool.and_true, Bool.and_false, Bool.true_or, Bool.false_or, Bool.or_false, Bool.or_true, Bool.not_true, Bool.not_false, Bool.and_self, Bool.or_self, if_true, if_false, Bool.true_eq_false, Bool.false_eq_true, not_true, not_false_eq_true]
theorem mj_Wok_s {n w gr r : Nat} (hX : mj_XS X) (hd : mj_sd σ n w gr) (hfr : mj_sfr σ gr) (hr : r + 1 ≤ 12 - w) (hW : mj_Wok X σ n w gr r) : mj_Wok X σ n w gr (r + 1) := by
  intro τ g s F hM hg hs
  have hn := hd.2.2.1
  have hgr := hd.2.2.2.2.2.2.1
  have hg8 : g < 8 := by rcases hgr with q | q <;> omega
  have hw12 := hd.2.2.2.2.1
  have hdτ := mj_sd_Fm F hd
  obtain ⟨d1, d2, d3, d4, d5, d6, d7, -⟩ := hdτ
  have hdτ := mj_sd_Fm F hd
  have eh : 12 - (r + 1) = 11 - r := by omega
  rw [eh]
  have q12 : nI (11 - r) < 12 := nI_lt (b := 12) (by omega) (by decide)
  have hs31 : s < 2 ^ 31 := by
    rcases mj_n6 hn with z | z | z | z | z | z | z <;> subst z <;> simp only [Nat.reducePow] at * <;> omega
  obtain ⟨l1, l2⟩ := mj_mno_lt (w := w) (gr := gr) (n := n) (h := 11 - r) (g := g) (s := s) (by omega) (by omega) hg hs hgr hn
  obtain ⟨l3, l4⟩ := mj_hf_lt (w := w) hgr hn
  have hP : 4 ^ n ≤ 4096 := by
    rcases mj_n6 hn with z | z | z | z | z | z | z <;> subst z <;> decide
  have e1 : nI (11 - r) - nI w = nI (11 - r - w) := mj_nI_sub (by omega)
  have e2 : nI (11 - r - w) * nI gr = nI ((11 - r - w) * gr) := mj_nI_mul _ _
  have hmul : ((11 - r - w) * gr + g) * 4 ^ n ≤ mj_mno w gr n (11 - r) g s := Nat.le_add_right _ _
  have e3 : nI ((11 - r - w) * gr + g) <<< ((2 * nI n) &&& 31) = nI (((11 - r - w) * gr + g) * 4 ^ n) := by
    rw [mj_n2, mj_nI_shl (by omega) (by rw [Nat.pow_mul]; show ((11 - r - w) * gr + g) * 4 ^ n < 2 ^ 31; omega), Nat.pow_mul]
  have e4 : nI (((11 - r - w) * gr + g) * 4 ^ n + s) = nI (mj_mno w gr n (11 - r) g s) := rfl
  generalize hm : mj_mno w gr n (11 - r) g s = m at *
  have e5 : nI m >>> (6 &&& 31) = nI (m / 64) := by
    have e6 : (6 : Int32) &&& 31 = nI 6 &&& 31 := rfl
    rw [e6, mj_nI_shr (by decide) (by omega)]
  have e6 : nI m &&& 63 = nI (m % 64) := mj_nI_63 (by omega)
  have e7 : (1 : Int64) <<< ((nI (m % 64)).toInt64 &&& 63) = mj_bitL (m % 64) := rfl
  have hhf : ∀ d, mj_ev X (d + 3 * r + 5) 83 [.ref 46] τ = some (some (.int (nI (mj_hf w gr n))), τ) := fun d => sp_halfOfMarks (d := d + 3 * r + 4) hdτ
  obtain ⟨m1, m2, m3⟩ := hM
  have hM' : mj_MI τ n w gr := ⟨m1, m2, m3⟩
  obtain ⟨p1, p2⟩ := m3 (11 - r) g s (by omega) (by omega) hg hs
  have eW : mj_W τ n (12 - (11 - r)) g s = mj_W σ n (r + 1) g s := by
    rw [show 12 - (11 - r) = r + 1 by omega, mj_W_1 F.1]
  rw [hm, eW] at p1 p2
  have hwd : m / 64 < mj_hf w gr n := by omega
  have q1 : ¬ nI (m / 64) < 0 := nI_nlt (b := 0) (Nat.zero_le _) (by omega)
  have q2 : nI (mj_hf w gr n + m / 64) < Int32.ofNat τ.2.2.2.1 := nI_lt (b := τ.2.2.2.1) (by omega) (by omega)
  have i1 : mj_inb (nI (m / 64)) τ.2.2.2.1 = true := mj_in_nI (by omega) (by omega)
  have i2 : mj_inb (nI (mj_hf w gr n + m / 64)) τ.2.2.2.1 = true := mj_in_nI (by omega) (by omega)
  have c1' : (nI (m / 64)).toNatClampNeg = m / 64 := nI_clamp (by omega)
  have c2' : (nI (mj_hf w gr n + m / 64)).toNatClampNeg = mj_hf w gr n + m / 64 := nI_clamp (by omega)
  have t1 := mj_lb_test (x := τ.2.1 999 (m / 64)) (c := m % 64) (Nat.mod_lt _ (by decide))
  have t2 := mj_lb_test (x := τ.2.1 999 (mj_hf w gr n + m / 64)) (c := m % 64) (Nat.mod_lt _ (by decide))
  have b1 : mj_lb (τ.2.1 999 (m / 64)) (m % 64) = mj_mb τ m := rfl
  have b2 : mj_lb (τ.2.1 999 (mj_hf w gr n + m / 64)) (m % 64) = mj_mb τ (64 * mj_hf w gr n + m) := by
    unfold mj_mb
    rw [show (64 * mj_hf w gr n + m) / 64 = mj_hf w gr n + m / 64 by omega, show (64 * mj_hf w gr n + m) % 64 = m % 64 by omega]
  rw [b1] at t1
  rw [b2] at t2
  -- up to the moves
  rcases (Bool.eq_false_or_eq_true (mj_mb τ m)).symm with g1 | g1
  · rcases (Bool.eq_false_or_eq_true (mj_mb τ (64 * mj_hf w gr n + m))).symm with g2 | g2
    · have t1' := t1.mpr g1
      have t2' := t2.mpr g2
      have hmi : ∀ d, mj_ev X (d + 3 * r + 5) 88 [.ref 46, .int (nI (11 - r)), .int (nI g), .int (nI s)] τ = some (some (.int (mj_mvs σ g (11 - r) s n)), τ) := fun d => by
        rw [← mj_mvs_1 F.1]
        exact sp_movesIn (d := d + 3 * r + 3) hdτ hg8 (by omega) hs31
      have eWd : mj_W σ n (r + 1) g s = (decide (¬ mj_mvs σ g (11 - r) s n = -1) && mj_anyF (mj_cho3 σ n r g s (mj_mvs σ g (11 - r) s n)) 0 (mj_top n + 1)) := rfl
      -- the mark, at the end
      have fin : ∀ (ρ : mj_St) (b : Bool) (x9 : Int32), mj_Fm σ ρ → mj_MI ρ n w gr → mj_W σ n (r + 1) g s = b → ∃ ρ', mj_Fm σ ρ' ∧ mj_MI ρ' n w gr ∧ ∀ d, mj_Runs X (mj_ev X (d + 3 * r + 5)) 3 (some .boolean) prog_5_method_21_code (146, [.ref 46, .int (nI (11 - r)), .int (nI g), .int (nI s), .int (nI m), .int (nI (m / 64)), .int (nI (mj_hf w gr n)), .long (mj_bitL (m % 64)), mj_junk, .int x9, mj_junk], [.int (mj_z b)], ρ) (some (.int (mj_z b)), ρ') := by
        intro ρ b x9 F2 M2 hb
        have hb' : mj_W ρ n (12 - (11 - r)) g s = b := by
          rw [show 12 - (11 - r) = r + 1 by omega, mj_W_1 F2.1]
          exact hb
        have hset := mj_MI_set M2 (h := 11 - r) (g := g) (s := s) (by omega) (by omega) hg hs hgr hn hb'
        rw [hm] at hset
        have hlen : ρ.2.2.2.1 = τ.2.2.2.1 := by rw [F2.2.2, F.2.2]
        have j1 : mj_inb (nI (m / 64)) ρ.2.2.2.1 = true := by rw [hlen]; exact i1
        have j2 : mj_inb (nI (mj_hf w gr n + m / 64)) ρ.2.2.2.1 = true := by rw [hlen]; exact i2
        cases b
        · rw [if_neg mj_ft, show (64 * mj_hf w gr n + m) / 64 = mj_hf w gr n + m / 64 by omega, show (64 * mj_hf w gr n + m) % 64 = m % 64 by omega] at hset
          refine ⟨_, mj_Fm_tr F2 mj_Fm_set, hset, fun d => ?_⟩
          refine u87_146.mpr ?_
          simp only [u87_0, u87_1, u87_3, u87_6, u87_7, u87_8, u87_9, u87_10, u87_13, u87_16, u87_17, u87_18, u87_21, u87_22, u87_23, u87_24, u87_25, u87_26, u87_29, u87_30, u87_31, u87_32, u87_33, u87_35, u87_37, u87_39, u87_40, u87_42, u87_43, u87_46, u87_48, u87_50, u87_53, u87_55, u87_57, u87_58, u87_59, u87_62, u87_63, u87_66, u87_67, u87_68, u87_69, u87_71, u87_73, u87_74, u87_75, u87_77, u87_78, u87_81, u87_83, u87_84, u87_86, u87_87, u87_88, u87_89, u87_92, u87_93, u87_94, u87_95, u87_98, u87_100, u87_102, u87_103, u87_104, u87_106, u87_107, u87_108, u87_109, u87_112, u87_113, u87_114, u87_115, u87_116, u87_117, u87_118, u87_121, u87_123, u87_125, u87_126, u87_129, u87_130, u87_132, u87_133, u87_134, u87_135, u87_138, u87_141, u87_142, u87_145, u87_148, u87_149, u87_152, u87_154, u87_157, u87_159, u87_162, u87_164, u87_166, u87_167, u87_168, u87_169, u87_171, u87_172, u87_173, u87_175, nI_add, j2, c2', mj_zF, mj_cc_v, mj_cc_n, List.all_cons, List.all_nil, mj_noMk_int, mj_noMk_long, mj_noMk_ref, mj_noMk_junk, List.length_nil, List.length_cons, Nat.zero_le, Nat.reduceLeDiff, Nat.reduceAdd, Bool.and_true, Bool.true_and, Bool.and_self, Nat.reduceBNe, true_or, or_true, true_and, and_true, mj_z0, mj_z1, mj_z01, decide_true, decide_false, Bool.true_and, Bool.false_and, Bool.and_true, Bool.and_false, Bool.true_or, Bool.false_or, Bool.or_false, Bool.or_true, Bool.not_true, Bool.not_false, Bool.and_self, Bool.or_self, if_true, if_false, Bool.true_eq_false, Bool.false_eq_true, not_true, not_false_eq_true]
        · rw [if_pos rfl] at hset
          refine ⟨_, mj_Fm_tr F2 mj_Fm_set, hset, fun d => ?_⟩
          refine u87_146.mpr ?_
          simp only [u87_0, u87_1, u87_3, u87_6, u87_7, u87_8, u87_9, u87_10, u87_13, u87_16, u87_17, u87_18, u87_21, u87_22, u87_23, u87_24, u87_25, u87_26, u87_29, u87_30, u87_31, u87_32, u87_33, u87_35, u87_37, u87_39, u87_40, u87_42, u87_43, u87_46, u87_48, u87_50, u87_53, u87_55, u87_57, u87_58, u87_59, u87_62, u87_63, u87_66, u87_67, u87_68, u87_69, u87_71, u87_73, u87_74, u87_75, u87_77, u87_78, u87_81, u87_83, u87_84, u87_86, u87_87, u87_88, u87_89, u87_92, u87_93, u87_94, u87_95, u87_98, u87_100, u87_102, u87_103, u87_104, u87_106, u87_107, u87_108, u87_109, u87_112, u87_113, u87_114, u87_115, u87_116, u87_117, u87_118, u87_121, u87_123, u87_125, u87_126, u87_129, u87_130, u87_132, u87_133, u87_134, u87_135, u87_138, u87_141, u87_142, u87_145, u87_148, u87_149, u87_152, u87_154, u87_157, u87_159, u87_162, u87_164, u87_166, u87_167, u87_168, u87_169, u87_171, u87_172, u87_173, u87_175, nI_add, j1, c1', mj_zT, mj_n10, mj_cc_v, mj_cc_n, List.all_cons, List.all_nil, mj_noMk_int, mj_noMk_long, mj_noMk_ref, mj_noMk_junk, List.length_nil, List.length_cons, Nat.zero_le, Nat.reduceLeDiff, Nat.reduceAdd, Bool.and_true, Bool.true_and, Bool.and_self, Nat.reduceBNe, true_or, or_true, true_and, and_true, mj_z0, mj_z1, mj_z01, decide_true, decide_false, Bool.true_and, Bool.false_and, Bool.and_true, Bool.and_false, Bool.true_or, Bool.false_or, Bool.or_false, Bool.or_true, Bool.not_true, Bool.not_false, Bool.and_self, Bool.or_self, if_true, if_false, Bool.true_eq_false, Bool.false_eq_true, not_true, not_false_eq_true]
      by_cases hv : mj_mvs σ g (11 - r) s n = -1
      · have hf : mj_W σ n (r + 1) g s = false := by
          rw [eWd, decide_eq_false (not_not_intro hv), Bool.false_and]
        obtain ⟨ρ', F3, M3, hfin⟩ := fin τ false (-1) F hM' hf
        refine ⟨ρ', F3, M3, fun d => ?_⟩
        have hmd := hmi d
        have hfd := hfin d
        rw [hv] at hmd
        rw [mj_zF] at hfd
        rw [hf, mj_zF]
        rw [show d + 3 * (r + 1) + 3 = d + 3 * r + 5 + 1 by omega]
        refine st87 ?_
        simp only [u87_0, u87_1, u87_3, u87_6, u87_7, u87_8, u87_9, u87_10, u87_13, u87_16, u87_17, u87_18, u87_21, u87_22, u87_23, u87_24, u87_25, u87_26, u87_29, u87_30, u87_31, u87_32, u87_33, u87_35, u87_37, u87_39, u87_40, u87_42, u87_43, u87_46, u87_48, u87_50, u87_53, u87_55, u87_57, u87_58, u87_59, u87_62, u87_63, u87_66, u87_67, u87_68, u87_69, u87_71, u87_73, u87_74, u87_75, u87_77, u87_78, u87_81, u87_83, u87_84, u87_86, u87_87, u87_88, u87_89, u87_92, u87_93, u87_94, u87_95, u87_98, u87_100, u87_102, u87_103, u87_104, u87_106, u87_107, u87_108, u87_109, u87_112, u87_113, u87_114, u87_115, u87_116, u87_117, u87_118, u87_121, u87_123, u87_125, u87_126, u87_129, u87_130, u87_132, u87_133, u87_134, u87_135, u87_138, u87_141, u87_142, u87_145, u87_148, u87_149, u87_152, u87_154, u87_157, u87_159, u87_162, u87_164, u87_166, u87_167, u87_168, u87_169, u87_171, u87_172, u87_173, u87_175, q12, d1, mj_rf_some, mj_rf14, mj_noMk_ref, d4, d2, d6, e1, e2, nI_add, e3, e4, e5, hhf d, q1, q2, e6, e7, i1, i2, c1', c2', t1', t2', hmd, mj_cc_v, mj_cc_n, List.all_cons, List.all_nil, mj_noMk_int, mj_noMk_long, mj_noMk_ref, mj_noMk_junk, List.length_nil, List.length_cons, Nat.zero_le, Nat.reduceLeDiff, Nat.reduceAdd, Bool.and_true, Bool.true_and, Bool.and_self, Nat.reduceBNe, true_or, or_true, true_and, and_true, mj_z0, mj_z1, mj_z01, decide_true, decide_false, Bool.true_and, Bool.false_and, Bool.and_true, Bool.and_false, Bool.true_or, Bool.false_or, Bool.or_false, Bool.or_true, Bool.not_true, Bool.not_false, Bool.and_self, Bool.or_self, if_true, if_false, Bool.true_eq_false, Bool.false_eq_true, not_true, not_false_eq_true]
        exact hfd
      · obtain ⟨ρ, F2, M2, hwb⟩ := sp_winsBy hX hd hfr (by omega) hW (g := g) (s := s) rfl hv F hM' hg hs
        obtain ⟨ρ', F3, M3, hfin⟩ := fin ρ (mj_W σ n (r + 1) g s) (mj_mvs σ g (11 - r) s n) F2 M2 rfl
        have hW2 : mj_W σ n (r + 1) g s = mj_anyF (mj_cho3 σ n r g s (mj_mvs σ g (11 - r) s n)) 0 (mj_top n + 1) := by
          rw [eWd, decide_eq_true hv, Bool.true_and]
        refine ⟨ρ', F3, M3, fun d => ?_⟩
        have hmd := hmi d
        have hwd' := hwb d
        have hfd := hfin d
        rw [← hW2] at hwd'
        rw [show d + 3 * (r + 1) + 3 = d + 3 * r + 5 + 1 by omega]
        refine st87 ?_
        cases hb : mj_W σ n (r + 1) g s
        · rw [hb] at hwd' hfd
          rw [mj_zF] at hfd
          simp only [u87_0, u87_1, u87_3, u87_6, u87_7, u87_8, u87_9, u87_10, u87_13, u87_16, u87_17, u87_18, u87_21, u87_22, u87_23, u87_24, u87_25, u87_26, u87_29, u87_30, u87_31, u87_32, u87_33, u87_35, u87_37, u87_39, u87_40, u87_42, u87_43, u87_46, u87_48, u87_50, u87_53, u87_55, u87_57, u87_58, u87_59, u87_62, u87_63, u87_66, u87_67, u87_68, u87_69, u87_71, u87_73, u87_74, u87_75, u87_77, u87_78, u87_81, u87_83, u87_84, u87_86, u87_87, u87_88, u87_89, u87_92, u87_93, u87_94, u87_95, u87_98, u87_100, u87_102, u87_103, u87_104, u87_106, u87_107, u87_108, u87_109, u87_112, u87_113, u87_114, u87_115, u87_116, u87_117, u87_118, u87_121, u87_123, u87_125, u87_126, u87_129, u87_130, u87_132, u87_133, u87_134, u87_135, u87_138, u87_141, u87_142, u87_145, u87_148, u87_149, u87_152, u87_154, u87_157, u87_159, u87_162, u87_164, u87_166, u87_167, u87_168, u87_169, u87_171, u87_172, u87_173, u87_175, q12, d1, mj_rf_some, mj_rf14, mj_noMk_ref, d4, d2, d6, e1, e2, nI_add, e3, e4, e5, hhf d, q1, q2, e6, e7, i1, i2, c1', c2', t1', t2', hmd, eq_false hv, hwd', mj_zF, mj_cc_v, mj_cc_n, List.all_cons, List.all_nil, mj_noMk_int, mj_noMk_long, mj_noMk_ref, mj_noMk_junk, List.length_nil, List.length_cons, Nat.zero_le, Nat.reduceLeDiff, Nat.reduceAdd, Bool.and_true, Bool.true_and, Bool.and_self, Nat.reduceBNe, true_or, or_true, true_and, and_true, mj_z0, mj_z1, mj_z01, decide_true, decide_false, Bool.true_and, Bool.false_and, Bool.and_true, Bool.and_false, Bool.true_or, Bool.false_or, Bool.or_false, Bool.or_true, Bool.not_true, Bool.not_false, Bool.and_self, Bool.or_self, if_true, if_false, Bool.true_eq_false, Bool.false_eq_true, not_true, not_false_eq_true]
          exact hfd
        · rw [hb] at hwd' hfd
          rw [mj_zT] at hfd
          simp only [u87_0, u87_1, u87_3, u87_6, u87_7, u87_8, u87_9, u87_10, u87_13, u87_16, u87_17, u87_18, u87_21, u87_22, u87_23, u87_24, u87_25, u87_26, u87_29, u87_30, u87_31, u87_32, u87_33, u87_35, u87_37, u87_39, u87_40, u87_42, u87_43, u87_46, u87_48, u87_50, u87_53, u87_55, u87_57, u87_58, u87_59, u87_62, u87_63, u87_66, u87_67, u87_68, u87_69, u87_71, u87_73, u87_74, u87_75, u87_77, u87_78, u87_81, u87_83, u87_84, u87_86, u87_87, u87_88, u87_89, u87_92, u87_93, u87_94, u87_95, u87_98, u87_100, u87_102, u87_103, u87_104, u87_106, u87_107, u87_108, u87_109, u87_112, u87_113, u87_114, u87_115, u87_116, u87_117, u87_118, u87_121, u87_123, u87_125, u87_126, u87_129, u87_130, u87_132, u87_133, u87_134, u87_135, u87_138, u87_141, u87_142, u87_145, u87_148, u87_149, u87_152, u87_154, u87_157, u87_159, u87_162, u87_164, u87_166, u87_167, u87_168, u87_169, u87_171, u87_172, u87_173, u87_175, q12, d1, mj_rf_some, mj_rf14, mj_noMk_ref, d4, d2, d6, e1, e2, nI_add, e3, e4, e5, hhf d, q1, q2, e6, e7, i1, i2, c1', c2', t1', t2', hmd, eq_false hv, hwd', mj_zT, mj_n10, mj_cc_v, mj_cc_n, List.all_cons, List.all_nil, mj_noMk_int, mj_noMk_long, mj_noMk_ref, mj_noMk_junk, List.length_nil, List.length_cons, Nat.zero_le, Nat.reduceLeDiff, Nat.reduceAdd, Bool.and_true, Bool.true_and, Bool.and_self, Nat.reduceBNe, true_or, or_true, true_and, and_true, mj_z0, mj_z1, mj_z01, decide_true, decide_false, Bool.true_and, Bool.false_and, Bool.and_true, Bool.and_false, Bool.true_or, Bool.false_or, Bool.or_false, Bool.or_true, Bool.not_true, Bool.not_false, Bool.and_self, Bool.or_self, if_true, if_false, Bool.true_eq_false, Bool.false_eq_true, not_true, not_false_eq_true]
          exact hfd
    · have t1' := t1.mpr g1
      have t2' : ¬ lg_cmp (τ.2.1 999 (mj_hf w gr n + m / 64) &&& mj_bitL (m % 64)) 0 = 0 := fun z => by
        rw [t2.mp z] at g2
        exact absurd g2 mj_ft
      have hf := p2 g2
      refine ⟨τ, F, hM', fun d => ?_⟩
      rw [hf]
      rw [show d + 3 * (r + 1) + 3 = d + 3 * r + 5 + 1 by omega]
      refine st87 ?_
      simp only [u87_0, u87_1, u87_3, u87_6, u87_7, u87_8, u87_9, u87_10, u87_13, u87_16, u87_17, u87_18, u87_21, u87_22, u87_23, u87_24, u87_25, u87_26, u87_29, u87_30, u87_31, u87_32, u87_33, u87_35, u87_37, u87_39, u87_40, u87_42, u87_43, u87_46, u87_48, u87_50, u87_53, u87_55, u87_57, u87_58, u87_59, u87_62, u87_63, u87_66, u87_67, u87_68, u87_69, u87_71, u87_73, u87_74, u87_75, u87_77, u87_78, u87_81, u87_83, u87_84, u87_86, u87_87, u87_88, u87_89, u87_92, u87_93, u87_94, u87_95, u87_98, u87_100, u87_102, u87_103, u87_104, u87_106, u87_107, u87_108, u87_109, u87_112, u87_113, u87_114, u87_115, u87_116, u87_117, u87_118, u87_121, u87_123, u87_125, u87_126, u87_129, u87_130, u87_132, u87_133, u87_134, u87_135, u87_138, u87_141, u87_142, u87_145, u87_148, u87_149, u87_152, u87_154, u87_157, u87_159, u87_162, u87_164, u87_166, u87_167, u87_168, u87_169, u87_171, u87_172, u87_173, u87_175, q12, d1, mj_rf_some, mj_rf14, mj_noMk_ref, d4, d2, d6, e1, e2, nI_add, e3, e4, e5, hhf d, q1, q2, e6, e7, i1, i2, c1', c2', t1', t2', mj_zF, mj_cc_v, mj_cc_n, List.all_cons, List.all_nil, mj_noMk_int, mj_noMk_long, mj_noMk_ref, mj_noMk_junk, List.length_nil, List.length_cons, Nat.zero_le, Nat.reduceLeDiff, Nat.reduceAdd, Bool.and_true, Bool.true_and, Bool.and_self, Nat.reduceBNe, true_or, or_true, true_and, and_true, mj_z0, mj_z1, mj_z01, decide_true, decide_false, Bool.true_and, Bool.false_and, Bool.and_true, Bool.and_false, Bool.true_or, Bool.false_or, Bool.or_false, Bool.or_true, Bool.not_true, Bool.not_false, Bool.and_self, Bool.or_self, if_true, if_false, Bool.true_eq_false, Bool.false_eq_true, not_true, not_false_eq_true]
  · have t1' : ¬ lg_cmp (τ.2.1 999 (m / 64) &&& mj_bitL (m % 64)) 0 = 0 := fun z => by
      rw [t1.mp z] at g1
      exact absurd g1 mj_ft
    have hf := p1 g1
    refine ⟨τ, F, hM', fun d => ?_⟩
    rw [hf]
    rw [show d + 3 * (r + 1) + 3 = d + 3 * r + 5 + 1 by omega]
    refine st87 ?_
    simp only [u87_0, u87_1, u87_3, u87_6, u87_7, u87_8, u87_9, u87_10, u87_13, u87_16, u87_17, u87_18, u87_21, u87_22, u87_23, u87_24, u87_25, u87_26, u87_29, u87_30, u87_31, u87_32, u87_33, u87_35, u87_37, u87_39, u87_40, u87_42, u87_43, u87_46, u87_48, u87_50, u87_53, u87_55, u87_57, u87_58, u87_59, u87_62, u87_63, u87_66, u87_67, u87_68, u87_69, u87_71, u87_73, u87_74, u87_75, u87_77, u87_78, u87_81, u87_83, u87_84, u87_86, u87_87, u87_88, u87_89, u87_92, u87_93, u87_94, u87_95, u87_98, u87_100, u87_102, u87_103, u87_104, u87_106, u87_107, u87_108, u87_109, u87_112, u87_113, u87_114, u87_115, u87_116, u87_117, u87_118, u87_121, u87_123, u87_125, u87_126, u87_129, u87_130, u87_132, u87_133, u87_134, u87_135, u87_138, u87_141, u87_142, u87_145, u87_148, u87_149, u87_152, u87_154, u87_157, u87_159, u87_162, u87_164, u87_166, u87_167, u87_168, u87_169, u87_171, u87_172, u87_173, u87_175, q12, d1, mj_rf_some, mj_rf14, mj_noMk_ref, d4, d2, d6, e1, e2, nI_add, e3, e4, e5, hhf d, q1, q2, e6, e7, i1, i2, c1', c2', t1', mj_zT, mj_cc_v, mj_cc_n, List.all_cons, List.all_nil, mj_noMk_int, mj_noMk_long, mj_noMk_ref, mj_noMk_junk, List.length_nil, List.length_cons, Nat.zero_le, Nat.reduceLeDiff, Nat.reduceAdd, Bool.and_true, Bool.true_and, Bool.and_self, Nat.reduceBNe, true_or, or_true, true_and, and_true, mj_z0, mj_z1, mj_z01, decide_true, decide_false, Bool.true_and, Bool.false_and, Bool.and_true, Bool.and_false, Bool.true_or, Bool.false_or, Bool.or_false, Bool.or_true, Bool.not_true, Bool.not_false, Bool.and_self, Bool.or_self, if_true, if_false, Bool.true_eq_false, Bool.false_eq_true, not_true, not_false_eq_true]
theorem mj_Wok_all {n w gr : Nat} (hX : mj_XS X) (hd : mj_sd σ n w gr) (hfr : mj_sfr σ gr) : ∀ r, r ≤ 12 - w → mj_Wok X σ n w gr r := by
  intro r
  induction r with
  | zero => intro _; exact mj_Wok_0
  | succ r ih => intro h; exact mj_Wok_s hX hd hfr h (ih (by omega))
end
