section
variable {X : mj_X} {d : Nat} {σ τ ρ : mj_St}
theorem sp_readIf {c a e : Nat} {f : Nat → Int32} (h : mj_kat σ c a e) (hb : σ.1 44 3 = -1) (hf : mj_cfl σ f) : ∃ ρ, mj_exS σ ρ (if (mj_gw (mj_kl σ c) e [105, 102, 32] 0 2 a).1 = true then ((mj_gw (mj_kl σ c) e [61] 0 1 (mj_gw (mj_kl σ c) e [105, 102, 32] 0 2 a).2.1).1, (mj_gw (mj_kl σ c) e [61] 0 1 (mj_gw (mj_kl σ c) e [105, 102, 32] 0 2 a).2.1).2.1, 3, mj_up (mj_up f 38 (mj_gw (mj_kl σ c) e [105, 102, 32] 0 2 a).2.2) 39 (mj_gw (mj_kl σ c) e [61] 0 1 (mj_gw (mj_kl σ c) e [105, 102, 32] 0 2 a).2.1).2.2) else (false, (mj_gw (mj_kl σ c) e [105, 102, 32] 0 2 a).2.1, 0, f)) ∧ ∀ d, mj_ev X (d + 3) 35 [.ref 44, .ref 14, .int 3] σ = some (none, ρ) := by
  obtain ⟨r, σ1, ρ, v, hr, hn, hno, F, -, hy, hnn⟩ := sp_rn1 (X := X) (x := 11) (w := [105, 102, 32]) (lo := 0) (hi := 2) rfl (by decide) h hb
  have hr' : ∀ d, mj_ev X (d + 2) 25 [.ref 44, .ref 1111] σ = some (some (.int (mj_z r)), σ1) := hr
  have hgle := mj_gw_le (L := mj_kl σ c) (e := e) (lo := 0) (hi := 2) (w := [105, 102, 32]) h.2.2.2.2.2.1
  have he60 := h.2.2.2.2.2.2
  generalize mj_gw (mj_kl σ c) e [105, 102, 32] 0 2 a = g at *
  -- the fork is told, whatever it is
  have FS : mj_Fc 44 mj_EF σ (mj_setI ρ 44 10 (if r = true then v else -1)) := mj_Fc_set (by decide) (mj_Fc_sub (by decide) F)
  have go : ∀ d R, mj_Runs X (mj_ev X (d + 2)) 2 none prog_4_method_17_code (91, [.ref 44, .ref 14, .int 3], [], mj_setI ρ 44 10 (if r = true then v else -1)) R → mj_ev X (d + 3) 35 [.ref 44, .ref 14, .int 3] σ = some R := by
    intro d R hR
    have hrd := hr' d
    refine st35 ?_
    cases r
    · rw [hno rfl] at hR
      rw [mj_zF] at hrd
      simp only [decide_true, decide_false, Bool.true_and, Bool.false_and, Bool.and_true, Bool.and_false, Bool.true_or, Bool.false_or, Bool.or_false, Bool.or_true, Bool.not_true, Bool.not_false, Bool.and_self, Bool.or_self, if_true, if_false, Bool.true_eq_false, Bool.false_eq_true, not_true, not_false_eq_true] at hR
      simp (config := {decide := true}) only [u35_0, u35_1, u35_32, u35_33, u35_34, u35_36, u35_39, u35_42, u35_43, u35_44, u35_45, u35_46, u35_49, u35_52, u35_53, u35_56, u35_59, u35_60, u35_61, u35_64, u35_67, u35_68, u35_69, u35_71, u35_74, u35_77, u35_78, u35_79, u35_80, u35_81, u35_84, u35_87, u35_88, u35_92, u35_93, u35_96, u35_97, u35_100, u35_101, u35_103, u35_106, u35_109, u35_110, u35_111, u35_112, u35_113, u35_116, u35_119, u35_120, u35_123, u35_126, u35_127, u35_128, u35_130, u35_133, u35_136, u35_137, u35_138, u35_139, u35_141, u35_144, u35_147, u35_148, u35_151, u35_154, u35_155, u35_156, u35_158, u35_161, u35_164, u35_165, u35_166, u35_167, u35_168, u35_171, u35_174, u35_175, u35_178, hrd, mj_cc_v, mj_cc_n, List.all_cons, List.all_nil, mj_noMk_int, mj_noMk_long, mj_noMk_ref, mj_noMk_junk, List.length_nil, List.length_cons, Nat.zero_le, Nat.reduceLeDiff, Nat.reduceAdd, Bool.and_true, Bool.true_and, Bool.and_self, Nat.reduceBNe, true_or, or_true, true_and, and_true, mj_z0, mj_z1, mj_z01, decide_true, decide_false, Bool.true_and, Bool.false_and, Bool.and_true, Bool.and_false, Bool.true_or, Bool.false_or, Bool.or_false, Bool.or_true, Bool.not_true, Bool.not_false, Bool.and_self, Bool.or_self, if_true, if_false, Bool.true_eq_false, Bool.false_eq_true, not_true, not_false_eq_true]
      exact hR
    · have hnd := hn rfl d
      rw [mj_zT] at hrd
      simp only [decide_true, decide_false, Bool.true_and, Bool.false_and, Bool.and_true, Bool.and_false, Bool.true_or, Bool.false_or, Bool.or_false, Bool.or_true, Bool.not_true, Bool.not_false, Bool.and_self, Bool.or_self, if_true, if_false, Bool.true_eq_false, Bool.false_eq_true, not_true, not_false_eq_true] at hR
      simp (config := {decide := true}) only [u35_0, u35_1, u35_32, u35_33, u35_34, u35_36, u35_39, u35_42, u35_43, u35_44, u35_45, u35_46, u35_49, u35_52, u35_53, u35_56, u35_59, u35_60, u35_61, u35_64, u35_67, u35_68, u35_69, u35_71, u35_74, u35_77, u35_78, u35_79, u35_80, u35_81, u35_84, u35_87, u35_88, u35_92, u35_93, u35_96, u35_97, u35_100, u35_101, u35_103, u35_106, u35_109, u35_110, u35_111, u35_112, u35_113, u35_116, u35_119, u35_120, u35_123, u35_126, u35_127, u35_128, u35_130, u35_133, u35_136, u35_137, u35_138, u35_139, u35_141, u35_144, u35_147, u35_148, u35_151, u35_154, u35_155, u35_156, u35_158, u35_161, u35_164, u35_165, u35_166, u35_167, u35_168, u35_171, u35_174, u35_175, u35_178, hrd, hnd, mj_cc_v, mj_cc_n, List.all_cons, List.all_nil, mj_noMk_int, mj_noMk_long, mj_noMk_ref, mj_noMk_junk, List.length_nil, List.length_cons, Nat.zero_le, Nat.reduceLeDiff, Nat.reduceAdd, Bool.and_true, Bool.true_and, Bool.and_self, Nat.reduceBNe, true_or, or_true, true_and, and_true, mj_z0, mj_z1, mj_z01, decide_true, decide_false, Bool.true_and, Bool.false_and, Bool.and_true, Bool.and_false, Bool.true_or, Bool.false_or, Bool.or_false, Bool.or_true, Bool.not_true, Bool.not_false, Bool.and_self, Bool.or_self, if_true, if_false, Bool.true_eq_false, Bool.false_eq_true, not_true, not_false_eq_true]
      exact hR
  generalize hfk : (if r = true then v else -1) = fk at *
  rcases (Bool.eq_false_or_eq_true g.1).symm with q | q
  · rw [if_neg (by rw [q]; decide)]
    have hn3 := hnn q
    have nb := mj_nIm1 (p := g.2.1) (by omega)
    have y3 : (mj_setI ρ 44 10 fk).1 44 3 = nI g.2.1 := hn3
    refine ⟨mj_setI (mj_setI ρ 44 10 fk) 44 11 0, ⟨mj_Fc_set (by decide) FS, fun z => absurd z mj_ft, fun _ => hn3⟩, fun d => go d _ ?_⟩
    refine u35_91.mpr ?_
    simp only [u35_0, u35_1, u35_32, u35_33, u35_34, u35_36, u35_39, u35_42, u35_43, u35_44, u35_45, u35_46, u35_49, u35_52, u35_53, u35_56, u35_59, u35_60, u35_61, u35_64, u35_67, u35_68, u35_69, u35_71, u35_74, u35_77, u35_78, u35_79, u35_80, u35_81, u35_84, u35_87, u35_88, u35_92, u35_93, u35_96, u35_97, u35_100, u35_101, u35_103, u35_106, u35_109, u35_110, u35_111, u35_112, u35_113, u35_116, u35_119, u35_120, u35_123, u35_126, u35_127, u35_128, u35_130, u35_133, u35_136, u35_137, u35_138, u35_139, u35_141, u35_144, u35_147, u35_148, u35_151, u35_154, u35_155, u35_156, u35_158, u35_161, u35_164, u35_165, u35_166, u35_167, u35_168, u35_171, u35_174, u35_175, u35_178, y3, nb, mj_cc_v, mj_cc_n, List.all_cons, List.all_nil, mj_noMk_int, mj_noMk_long, mj_noMk_ref, mj_noMk_junk, List.length_nil, List.length_cons, Nat.zero_le, Nat.reduceLeDiff, Nat.reduceAdd, Bool.and_true, Bool.true_and, Bool.and_self, Nat.reduceBNe, true_or, or_true, true_and, and_true, mj_z0, mj_z1, mj_z01, decide_true, decide_false, Bool.true_and, Bool.false_and, Bool.and_true, Bool.and_false, Bool.true_or, Bool.false_or, Bool.or_false, Bool.or_true, Bool.not_true, Bool.not_false, Bool.and_self, Bool.or_self, if_true, if_false, Bool.true_eq_false, Bool.false_eq_true, not_true, not_false_eq_true]
  · rw [if_pos q]
    obtain ⟨y1, y2, yp, yb⟩ := hy q
    rw [y1, if_pos rfl, y2] at hfk
    subst hfk
    have hat2 : mj_kat (mj_setI ρ 44 10 g.2.2) c g.2.1 e := mj_kat_set (mj_kat_Fc F (by decide) h hgle yp) (by decide)
    have eL2 : mj_kl (mj_setI ρ 44 10 g.2.2) c = mj_kl σ c := mj_kl_Fc (c := c) FS
    have yb' : (mj_setI ρ 44 10 g.2.2).1 44 3 = -1 := yb
    have hf2 : mj_cfl (mj_setI ρ 44 10 g.2.2) (mj_up f 38 g.2.2) := mj_cfl_set (i := 38) (by decide) (by decide) (mj_cfl_Fc F hf)
    obtain ⟨r2, σ2, ρ2, v2, hr2, hn2, hno2, F2, -, hy2, hnn2⟩ := sp_rn1 (X := X) (x := 12) (w := [61]) (lo := 0) (hi := 1) rfl (by decide) hat2 yb'
    have hr2' : ∀ d, mj_ev X (d + 2) 25 [.ref 44, .ref 1112] (mj_setI ρ 44 10 g.2.2) = some (some (.int (mj_z r2)), σ2) := hr2
    rw [eL2] at hy2 hnn2
    generalize mj_gw (mj_kl σ c) e [61] 0 1 g.2.1 = g2 at *
    refine ⟨mj_setI ρ2 44 11 (if r2 = true then v2 else 0), ⟨mj_Fc_set (by decide) (mj_Fc_tr FS (mj_Fc_sub (by decide) F2)), fun z => ?_, fun z => hnn2 z⟩, fun d => go d _ ?_⟩
    · obtain ⟨a1, a2, a3, a4⟩ := hy2 z
      rw [if_pos a1, a2]
      exact ⟨a3, a4, mj_cfl_set (i := 39) (by decide) (by decide) (mj_cfl_Fc F2 hf2)⟩
    · have hrd := hr2' d
      refine u35_91.mpr ?_
      cases r2
      · rw [hno2 rfl]
        rw [mj_zF] at hrd
        simp only [u35_0, u35_1, u35_32, u35_33, u35_34, u35_36, u35_39, u35_42, u35_43, u35_44, u35_45, u35_46, u35_49, u35_52, u35_53, u35_56, u35_59, u35_60, u35_61, u35_64, u35_67, u35_68, u35_69, u35_71, u35_74, u35_77, u35_78, u35_79, u35_80, u35_81, u35_84, u35_87, u35_88, u35_92, u35_93, u35_96, u35_97, u35_100, u35_101, u35_103, u35_106, u35_109, u35_110, u35_111, u35_112, u35_113, u35_116, u35_119, u35_120, u35_123, u35_126, u35_127, u35_128, u35_130, u35_133, u35_136, u35_137, u35_138, u35_139, u35_141, u35_144, u35_147, u35_148, u35_151, u35_154, u35_155, u35_156, u35_158, u35_161, u35_164, u35_165, u35_166, u35_167, u35_168, u35_171, u35_174, u35_175, u35_178, yb', hrd, mj_cc_v, mj_cc_n, List.all_cons, List.all_nil, mj_noMk_int, mj_noMk_long, mj_noMk_ref, mj_noMk_junk, List.length_nil, List.length_cons, Nat.zero_le, Nat.reduceLeDiff, Nat.reduceAdd, Bool.and_true, Bool.true_and, Bool.and_self, Nat.reduceBNe, true_or, or_true, true_and, and_true, mj_z0, mj_z1, mj_z01, decide_true, decide_false, Bool.true_and, Bool.false_and, Bool.and_true, Bool.and_false, Bool.true_or, Bool.false_or, Bool.or_false, Bool.or_true, Bool.not_true, Bool.not_false, Bool.and_self, Bool.or_self, if_true, if_false, Bool.true_eq_false, Bool.false_eq_true, not_true, not_false_eq_true]
      · have hnd := hn2 rfl d
        rw [mj_zT] at hrd
        simp only [u35_0, u35_1, u35_32, u35_33, u35_34, u35_36, u35_39, u35_42, u35_43, u35_44, u35_45, u35_46, u35_49, u35_52, u35_53, u35_56, u35_59, u35_60, u35_61, u35_64, u35_67, u35_68, u35_69, u35_71, u35_74, u35_77, u35_78, u35_79, u35_80, u35_81, u35_84, u35_87, u35_88, u35_92, u35_93, u35_96, u35_97, u35_100, u35_101, u35_103, u35_106, u35_109, u35_110, u35_111, u35_112, u35_113, u35_116, u35_119, u35_120, u35_123, u35_126, u35_127, u35_128, u35_130, u35_133, u35_136, u35_137, u35_138, u35_139, u35_141, u35_144, u35_147, u35_148, u35_151, u35_154, u35_155, u35_156, u35_158, u35_161, u35_164, u35_165, u35_166, u35_167, u35_168, u35_171, u35_174, u35_175, u35_178, yb', hrd, hnd, mj_n10, mj_cc_v, mj_cc_n, List.all_cons, List.all_nil, mj_noMk_int, mj_noMk_long, mj_noMk_ref, mj_noMk_junk, List.length_nil, List.length_cons, Nat.zero_le, Nat.reduceLeDiff, Nat.reduceAdd, Bool.and_true, Bool.true_and, Bool.and_self, Nat.reduceBNe, true_or, or_true, true_and, and_true, mj_z0, mj_z1, mj_z01, decide_true, decide_false, Bool.true_and, Bool.false_and, Bool.and_true, Bool.and_false, Bool.true_or, Bool.false_or, Bool.or_false, Bool.or_true, Bool.not_true, Bool.not_false, Bool.and_self, Bool.or_self, if_true, if_false, Bool.true_eq_false, Bool.false_eq_true, not_true, not_false_eq_true]
/-- which of the things that may follow begins so -/
def mj_exk (v : Int32) : Int32 := if v = 119 then 1 else if v = 97 then 2 else if v = 105 then 3 else if v = 111 then 4 else if v = 102 then 5 else -1
theorem sp_extraAt {c a e p : Nat} (h : mj_kat σ c a e) (hp : p < 2147483648) : mj_ev X (d + 2) 33 [.ref 44, .int (nI p)] σ = some (some (.int (mj_exk (if p < e then mj_kl σ c p else -1))), σ) := by
  have hl := (sp_letterAt (X := X) (d := d) (p := p) h).resolve_right (by omega)
  generalize (if p < e then mj_kl σ c p else -1) = v at *
  unfold mj_exk
  refine st33 ?_
  by_cases c1 : v = 97
  · subst c1
    simp (config := {decide := true}) only [u33_0, u33_1, u33_2, u33_5, u33_56, u33_57, u33_58, u33_59, u33_60, u33_61, u33_62, u33_63, u33_64, u33_65, u33_66, u33_67, hl, mj_cc_v, mj_cc_n, List.all_cons, List.all_nil, mj_noMk_int, mj_noMk_long, mj_noMk_ref, mj_noMk_junk, List.length_nil, List.length_cons, Nat.zero_le, Nat.reduceLeDiff, Nat.reduceAdd, Bool.and_true, Bool.true_and, Bool.and_self, Nat.reduceBNe, true_or, or_true, true_and, and_true, mj_z0, mj_z1, mj_z01, decide_true, decide_false, Bool.true_and, Bool.false_and, Bool.and_true, Bool.and_false, Bool.true_or, Bool.false_or, Bool.or_false, Bool.or_true, Bool.not_true, Bool.not_false, Bool.and_self, Bool.or_self, if_true, if_false, Bool.true_eq_false, Bool.false_eq_true, not_true, not_false_eq_true]
  · by_cases c2 : v = 102
    · subst c2
      simp (config := {decide := true}) only [u33_0, u33_1, u33_2, u33_5, u33_56, u33_57, u33_58, u33_59, u33_60, u33_61, u33_62, u33_63, u33_64, u33_65, u33_66, u33_67, hl, mj_cc_v, mj_cc_n, List.all_cons, List.all_nil, mj_noMk_int, mj_noMk_long, mj_noMk_ref, mj_noMk_junk, List.length_nil, List.length_cons, Nat.zero_le, Nat.reduceLeDiff, Nat.reduceAdd, Bool.and_true, Bool.true_and, Bool.and_self, Nat.reduceBNe, true_or, or_true, true_and, and_true, mj_z0, mj_z1, mj_z01, decide_true, decide_false, Bool.true_and, Bool.false_and, Bool.and_true, Bool.and_false, Bool.true_or, Bool.false_or, Bool.or_false, Bool.or_true, Bool.not_true, Bool.not_false, Bool.and_self, Bool.or_self, if_true, if_false, Bool.true_eq_false, Bool.false_eq_true, not_true, not_false_eq_true]
    · by_cases c3 : v = 105
      · subst c3
        simp (config := {decide := true}) only [u33_0, u33_1, u33_2, u33_5, u33_56, u33_57, u33_58, u33_59, u33_60, u33_61, u33_62, u33_63, u33_64, u33_65, u33_66, u33_67, hl, mj_cc_v, mj_cc_n, List.all_cons, List.all_nil, mj_noMk_int, mj_noMk_long, mj_noMk_ref, mj_noMk_junk, List.length_nil, List.length_cons, Nat.zero_le, Nat.reduceLeDiff, Nat.reduceAdd, Bool.and_true, Bool.true_and, Bool.and_self, Nat.reduceBNe, true_or, or_true, true_and, and_true, mj_z0, mj_z1, mj_z01, decide_true, decide_false, Bool.true_and, Bool.false_and, Bool.and_true, Bool.and_false, Bool.true_or, Bool.false_or, Bool.or_false, Bool.or_true, Bool.not_true, Bool.not_false, Bool.and_self, Bool.or_self, if_true, if_false, Bool.true_eq_false, Bool.false_eq_true, not_true, not_false_eq_true]
      · by_cases c4 : v = 111
        · subst c4
          simp (config := {decide := true}) only [u33_0, u33_1, u33_2, u33_5, u33_56, u33_57, u33_58, u33_59, u33_60, u33_61, u33_62, u33_63, u33_64, u33_65, u33_66, u33_67, hl, mj_cc_v, mj_cc_n, List.all_cons, List.all_nil, mj_noMk_int, mj_noMk_long, mj_noMk_ref, mj_noMk_junk, List.length_nil, List.length_cons, Nat.zero_le, Nat.reduceLeDiff, Nat.reduceAdd, Bool.and_true, Bool.true_and, Bool.and_self, Nat.reduceBNe, true_or, or_true, true_and, and_true, mj_z0, mj_z1, mj_z01, decide_true, decide_false, Bool.true_and, Bool.false_and, Bool.and_true, Bool.and_false, Bool.true_or, Bool.false_or, Bool.or_false, Bool.or_true, Bool.not_true, Bool.not_false, Bool.and_self, Bool.or_self, if_true, if_false, Bool.true_eq_false, Bool.false_eq_true, not_true, not_false_eq_true]
        · by_cases c5 : v = 119
          · subst c5
            simp (config := {decide := true}) only [u33_0, u33_1, u33_2, u33_5, u33_56, u33_57, u33_58, u33_59, u33_60, u33_61, u33_62, u33_63, u33_64, u33_65, u33_66, u33_67, hl, mj_cc_v, mj_cc_n, List.all_cons, List.all_nil, mj_noMk_int, mj_noMk_long, mj_noMk_ref, mj_noMk_junk, List.length_nil, List.length_cons, Nat.zero_le, Nat.reduceLeDiff, Nat.reduceAdd, Bool.and_true, Bool.true_and, Bool.and_self, Nat.reduceBNe, true_or, or_true, true_and, and_true, mj_z0, mj_z1, mj_z01, decide_true, decide_false, Bool.true_and, Bool.false_and, Bool.and_true, Bool.and_false, Bool.true_or, Bool.false_or, Bool.or_false, Bool.or_true, Bool.not_true, Bool.not_false, Bool.and_self, Bool.or_self, if_true, if_false, Bool.true_eq_false, Bool.false_eq_true, not_true, not_false_eq_true]
          · simp only [u33_0, u33_1, u33_2, u33_5, u33_56, u33_57, u33_58, u33_59, u33_60, u33_61, u33_62, u33_63, u33_64, u33_65, u33_66, u33_67, hl, c1, c2, c3, c4, c5, mj_cc_v, mj_cc_n, List.all_cons, List.all_nil, mj_noMk_int, mj_noMk_long, mj_noMk_ref, mj_noMk_junk, List.length_nil, List.length_cons, Nat.zero_le, Nat.reduceLeDiff, Nat.reduceAdd, Bool.and_true, Bool.true_and, Bool.and_self, Nat.reduceBNe, true_or, or_true, true_and, and_true, mj_z0, mj_z1, mj_z01, decide_true, decide_false, Bool.true_and, Bool.false_and, Bool.and_true, Bool.and_false, Bool.true_or, Bool.false_or, Bool.or_false, Bool.or_true, Bool.not_true, Bool.not_false, Bool.and_self, Bool.or_self, if_true, if_false, Bool.true_eq_false, Bool.false_eq_true, not_true, not_false_eq_true]
def mj_mfw (kd lt ex : Int32) : Bool := if kd = 5 ∨ kd = 6 then decide (¬ ex < 3) else !(decide (kd = 4) && (decide (lt < 3) && decide (3 < ex)))
theorem sp_mayFollow {lt ex : Int32} : mj_ev X (d + 1) 34 [.ref 44, .int lt, .int ex] σ = some (some (.int (mj_z (mj_mfw (σ.1 44 4) lt ex))), σ) := by
  unfold mj_mfw
  refine st34 ?_
  by_cases c5 : σ.1 44 4 = 5
  · rw [if_pos (Or.inl c5)]
    by_cases c3 : ex < 3
    · simp only [u34_0, u34_1, u34_4, u34_5, u34_8, u34_9, u34_12, u34_14, u34_17, u34_18, u34_19, u34_22, u34_23, u34_26, u34_27, u34_28, u34_29, u34_32, u34_33, u34_36, u34_37, u34_38, u34_41, u34_42, u34_43, u34_46, u34_47, u34_50, u34_51, eq_true c5, c3, mj_zF, mj_cc_v, mj_cc_n, List.all_cons, List.all_nil, mj_noMk_int, mj_noMk_long, mj_noMk_ref, mj_noMk_junk, List.length_nil, List.length_cons, Nat.zero_le, Nat.reduceLeDiff, Nat.reduceAdd, Bool.and_true, Bool.true_and, Bool.and_self, Nat.reduceBNe, true_or, or_true, true_and, and_true, mj_z0, mj_z1, mj_z01, decide_true, decide_false, Bool.true_and, Bool.false_and, Bool.and_true, Bool.and_false, Bool.true_or, Bool.false_or, Bool.or_false, Bool.or_true, Bool.not_true, Bool.not_false, Bool.and_self, Bool.or_self, if_true, if_false, Bool.true_eq_false, Bool.false_eq_true, not_true, not_false_eq_true]
    · simp only [u34_0, u34_1, u34_4, u34_5, u34_8, u34_9, u34_12, u34_14, u34_17, u34_18, u34_19, u34_22, u34_23, u34_26, u34_27, u34_28, u34_29, u34_32, u34_33, u34_36, u34_37, u34_38, u34_41, u34_42, u34_43, u34_46, u34_47, u34_50, u34_51, eq_true c5, c3, mj_zT, mj_cc_v, mj_cc_n, List.all_cons, List.all_nil, mj_noMk_int, mj_noMk_long, mj_noMk_ref, mj_noMk_junk, List.length_nil, List.length_cons, Nat.zero_le, Nat.reduceLeDiff, Nat.reduceAdd, Bool.and_true, Bool.true_and, Bool.and_self, Nat.reduceBNe, true_or, or_true, true_and, and_true, mj_z0, mj_z1, mj_z01, decide_true, decide_false, Bool.true_and, Bool.false_and, Bool.and_true, Bool.and_false, Bool.true_or, Bool.false_or, Bool.or_false, Bool.or_true, Bool.not_true, Bool.not_false, Bool.and_self, Bool.or_self, if_true, if_false, Bool.true_eq_false, Bool.false_eq_true, not_true, not_false_eq_true]
  · by_cases c6 : σ.1 44 4 = 6
    · rw [if_pos (Or.inr c6)]
      by_cases c3 : ex < 3
      · simp only [u34_0, u34_1, u34_4, u34_5, u34_8, u34_9, u34_12, u34_14, u34_17, u34_18, u34_19, u34_22, u34_23, u34_26, u34_27, u34_28, u34_29, u34_32, u34_33, u34_36, u34_37, u34_38, u34_41, u34_42, u34_43, u34_46, u34_47, u34_50, u34_51, eq_false c5, eq_true c6, c3, mj_zF, mj_cc_v, mj_cc_n, List.all_cons, List.all_nil, mj_noMk_int, mj_noMk_long, mj_noMk_ref, mj_noMk_junk, List.length_nil, List.length_cons, Nat.zero_le, Nat.reduceLeDiff, Nat.reduceAdd, Bool.and_true, Bool.true_and, Bool.and_self, Nat.reduceBNe, true_or, or_true, true_and, and_true, mj_z0, mj_z1, mj_z01, decide_true, decide_false, Bool.true_and, Bool.false_and, Bool.and_true, Bool.and_false, Bool.true_or, Bool.false_or, Bool.or_false, Bool.or_true, Bool.not_true, Bool.not_false, Bool.and_self, Bool.or_self, if_true, if_false, Bool.true_eq_false, Bool.false_eq_true, not_true, not_false_eq_true]
      · simp only [u34_0, u34_1, u34_4, u34_5, u34_8, u34_9, u34_12, u34_14, u34_17, u34_18, u34_19, u34_22, u34_23, u34_26, u34_27, u34_28, u34_29, u34_32, u34_33, u34_36, u34_37, u34_38, u34_41, u34_42, u34_43, u34_46, u34_47, u34_50, u34_51, eq_false c5, eq_true c6, c3, mj_zT, mj_cc_v, mj_cc_n, List.all_cons, List.all_nil, mj_noMk_int, mj_noMk_long, mj_noMk_ref, mj_noMk_junk, List.length_nil, List.length_cons, Nat.zero_le, Nat.reduceLeDiff, Nat.reduceAdd, Bool.and_true, Bool.true_and, Bool.and_self, Nat.reduceBNe, true_or, or_true, true_and, and_true, mj_z0, mj_z1, mj_z01, decide_true, decide_false, Bool.true_and, Bool.false_and, Bool.and_true, Bool.and_false, Bool.true_or, Bool.false_or, Bool.or_false, Bool.or_true, Bool.not_true, Bool.not_false, Bool.and_self, Bool.or_self, if_true, if_false, Bool.true_eq_false, Bool.false_eq_true, not_true, not_false_eq_true]
    · rw [if_neg (fun z => z.elim c5 c6)]
      by_cases c4 : σ.1 44 4 = 4
      · by_cases c7 : lt < 3
        · by_cases c8 : 3 < ex
          · simp only [u34_0, u34_1, u34_4, u34_5, u34_8, u34_9, u34_12, u34_14, u34_17, u34_18, u34_19, u34_22, u34_23, u34_26, u34_27, u34_28, u34_29, u34_32, u34_33, u34_36, u34_37, u34_38, u34_41, u34_42, u34_43, u34_46, u34_47, u34_50, u34_51, eq_false c5, eq_false c6, eq_true c4, c7, c8, mj_zF, mj_cc_v, mj_cc_n, List.all_cons, List.all_nil, mj_noMk_int, mj_noMk_long, mj_noMk_ref, mj_noMk_junk, List.length_nil, List.length_cons, Nat.zero_le, Nat.reduceLeDiff, Nat.reduceAdd, Bool.and_true, Bool.true_and, Bool.and_self, Nat.reduceBNe, true_or, or_true, true_and, and_true, mj_z0, mj_z1, mj_z01, decide_true, decide_false, Bool.true_and, Bool.false_and, Bool.and_true, Bool.and_false, Bool.true_or, Bool.false_or, Bool.or_false, Bool.or_true, Bool.not_true, Bool.not_false, Bool.and_self, Bool.or_self, if_true, if_false, Bool.true_eq_false, Bool.false_eq_true, not_true, not_false_eq_true]
          · simp only [u34_0, u34_1, u34_4, u34_5, u34_8, u34_9, u34_12, u34_14, u34_17, u34_18, u34_19, u34_22, u34_23, u34_26, u34_27, u34_28, u34_29, u34_32, u34_33, u34_36, u34_37, u34_38, u34_41, u34_42, u34_43, u34_46, u34_47, u34_50, u34_51, eq_false c5, eq_false c6, eq_true c4, c7, c8, mj_zT, mj_cc_v, mj_cc_n, List.all_cons, List.all_nil, mj_noMk_int, mj_noMk_long, mj_noMk_ref, mj_noMk_junk, List.length_nil, List.length_cons, Nat.zero_le, Nat.reduceLeDiff, Nat.reduceAdd, Bool.and_true, Bool.true_and, Bool.and_self, Nat.reduceBNe, true_or, or_true, true_and, and_true, mj_z0, mj_z1, mj_z01, decide_true, decide_false, Bool.true_and, Bool.false_and, Bool.and_true, Bool.and_false, Bool.true_or, Bool.false_or, Bool.or_false, Bool.or_true, Bool.not_true, Bool.not_false, Bool.and_self, Bool.or_self, if_true, if_false, Bool.true_eq_false, Bool.false_eq_true, not_true, not_false_eq_true]
        · simp only [u34_0, u34_1, u34_4, u34_5, u34_8, u34_9, u34_12, u34_14, u34_17, u34_18, u34_19, u34_22, u34_23, u34_26, u34_27, u34_28, u34_29, u34_32, u34_33, u34_36, u34_37, u34_38, u34_41, u34_42, u34_43, u34_46, u34_47, u34_50, u34_51, eq_false c5, eq_false c6, eq_true c4, c7, mj_zT, mj_cc_v, mj_cc_n, List.all_cons, List.all_nil, mj_noMk_int, mj_noMk_long, mj_noMk_ref, mj_noMk_junk, List.length_nil, List.length_cons, Nat.zero_le, Nat.reduceLeDiff, Nat.reduceAdd, Bool.and_true, Bool.true_and, Bool.and_self, Nat.reduceBNe, true_or, or_true, true_and, and_true, mj_z0, mj_z1, mj_z01, decide_true, decide_false, Bool.true_and, Bool.false_and, Bool.and_true, Bool.and_false, Bool.true_or, Bool.false_or, Bool.or_false, Bool.or_true, Bool.not_true, Bool.not_false, Bool.and_self, Bool.or_self, if_true, if_false, Bool.true_eq_false, Bool.false_eq_true, not_true, not_false_eq_true]
      · simp only [u34_0, u34_1, u34_4, u34_5, u34_8, u34_9, u34_12, u34_14, u34_17, u34_18, u34_19, u34_22, u34_23, u34_26, u34_27, u34_28, u34_29, u34_32, u34_33, u34_36, u34_37, u34_38, u34_41, u34_42, u34_43, u34_46, u34_47, u34_50, u34_51, eq_false c5, eq_false c6, eq_false c4, mj_zT, mj_cc_v, mj_cc_n, List.all_cons, List.all_nil, mj_noMk_int, mj_noMk_long, mj_noMk_ref, mj_noMk_junk, List.length_nil, List.length_cons, Nat.zero_le, Nat.reduceLeDiff, Nat.reduceAdd, Bool.and_true, Bool.true_and, Bool.and_self, Nat.reduceBNe, true_or, or_true, true_and, and_true, mj_z0, mj_z1, mj_z01, decide_true, decide_false, Bool.true_and, Bool.false_and, Bool.and_true, Bool.and_false, Bool.true_or, Bool.false_or, Bool.or_false, Bool.or_true, Bool.not_true, Bool.not_false, Bool.and_self, Bool.or_self, if_true, if_false, Bool.true_eq_false, Bool.false_eq_true, not_true, not_false_eq_true]
/-- one more, by the letter with which it begins -/
theorem sp_readExtra {c a e st k N : Nat} {f : Nat → Int32} (hN : σ.1 14 14 = nI N) (h9 : N ≤ 9) (h : mj_kat σ c (a + 1) e) (hb : σ.1 44 3 = -1) (hf : mj_cfl σ f) (h32 : a < e ∧ mj_kl σ c a = 32) (hk : f 33 = nI k) (k1 : 1 ≤ k) (k6 : k ≤ 6) (hj : f 33 = 4 → (¬ f 38 = -1 ↔ 3 ≤ st)) (st5 : st < 5) :
    ((mj_exk (if a + 1 < e then mj_kl σ c (a + 1) else -1) ≤ nI st ∨ mj_mfw (f 33) (nI st) (mj_exk (if a + 1 < e then mj_kl σ c (a + 1) else -1)) = false) → mj_ext (mj_kl σ c) e (mj_wkC σ) a st f = (false, a + 1, 0, f)) ∧
    ((¬ mj_exk (if a + 1 < e then mj_kl σ c (a + 1) else -1) ≤ nI st) → mj_mfw (f 33) (nI st) (mj_exk (if a + 1 < e then mj_kl σ c (a + 1) else -1)) = true → ∃ ρ, mj_exS σ ρ (mj_ext (mj_kl σ c) e (mj_wkC σ) a st f) ∧ ((mj_ext (mj_kl σ c) e (mj_wkC σ) a st f).1 = true → mj_exk (if a + 1 < e then mj_kl σ c (a + 1) else -1) = nI (mj_ext (mj_kl σ c) e (mj_wkC σ) a st f).2.2.1) ∧ ∀ d, mj_ev X (d + 4) 35 [.ref 44, .ref 14, .int (mj_exk (if a + 1 < e then mj_kl σ c (a + 1) else -1))] σ = some (none, ρ)) := by
  have ecs := mj_kd_cases hk k1 k6
  have ltk : ∀ n : Nat, n < 10 → (nI n ≤ nI st) = (n ≤ st) := by
    intro n hn
    apply propext
    rw [Int32.le_iff_toInt_le, nI_toInt (by omega), nI_toInt (by omega)]
    omega
  have lt3 : (nI st < 3) = (st < 3) := by
    apply propext
    rw [Int32.lt_iff_toInt_lt, nI_toInt (by omega)]
    have e3 : (3 : Int32).toInt = 3 := by decide
    omega
  have n10 : ∀ x y : Int32, ¬ x = y → ¬ y = x := fun x y h z => h z.symm
  by_cases h1 : a + 1 < e
  · simp only [h1, if_true]
    by_cases c1 : mj_kl σ c (a + 1) = 119
    · have ek : mj_exk (mj_kl σ c (a + 1)) = 1 := by rw [c1]; rfl
      rw [ek]
      have eg := (mj_gw_cons2 (L := mj_kl σ c) (e := e) (lo := 0) (hi := 3) (w := [105, 116, 104, 32]) ⟨h1, c1⟩).1
      have es : ((1 : Int32) ≤ nI st) = (1 ≤ st) := ltk 1 (by decide)
      have em : mj_mfw (f 33) (nI st) 1 = decide (f 33 < 5) := by
        unfold mj_mfw
        by_cases g : f 33 < 5
        · rw [if_neg (by rw [ecs]; exact not_not_intro g), decide_eq_true g]
          rw [decide_eq_false (show ¬ (3 : Int32) < 1 by decide), Bool.and_false, Bool.and_false]
          rfl
        · rw [if_pos (by rw [ecs]; exact g), decide_eq_false g]
          rfl
      rw [es, em]
      have ex : mj_ext (mj_kl σ c) e (mj_wkC σ) a st f = if st < 1 ∧ f 33 < 5 then ((mj_gw (mj_kl σ c) e [119, 105, 116, 104, 32] 0 3 (a + 1)).1, (mj_gw (mj_kl σ c) e [119, 105, 116, 104, 32] 0 3 (a + 1)).2.1, 1, mj_up f 36 (mj_gw (mj_kl σ c) e [119, 105, 116, 104, 32] 0 3 (a + 1)).2.2) else (false, a + 1, 0, f) := by
        rw [eg]
        unfold mj_ext
        have m1 : ¬ (119 : Int32) = 97 := by decide
        have m2 : ¬ (119 : Int32) = 105 := by decide
        have m3 : ¬ (119 : Int32) = 111 := by decide
        have m4 : ¬ (119 : Int32) = 102 := by decide
        simp only [h32, h1, c1, m1, m2, m3, m4, and_self, true_and, false_and, and_false, if_true, if_false]
      rw [ex]
      constructor
      · intro z
        rw [if_neg]
        rintro ⟨z1, z2⟩
        rcases z with z | z
        · omega
        · rw [decide_eq_true z2] at z
          exact absurd z mj_tf
      · intro z1 z2
        rw [if_pos ⟨by omega, of_decide_eq_true z2⟩]
        obtain ⟨ρ, S, hr⟩ := sp_readWith (X := X) h hb hf
        exact ⟨ρ, S, fun _ => rfl, fun d => hr (d + 1)⟩
    · by_cases c2 : mj_kl σ c (a + 1) = 97
      · have ek : mj_exk (mj_kl σ c (a + 1)) = 2 := by rw [c2]; rfl
        rw [ek]
        obtain ⟨eg, et⟩ := mj_gw_cons2 (L := mj_kl σ c) (e := e) (lo := 0) (hi := 9) (w := [102, 116, 101, 114, 32]) ⟨h1, c2⟩
        have es : ((2 : Int32) ≤ nI st) = (2 ≤ st) := ltk 2 (by decide)
        have em : mj_mfw (f 33) (nI st) 2 = decide (f 33 < 5) := by
          unfold mj_mfw
          by_cases g : f 33 < 5
          · rw [if_neg (by rw [ecs]; exact not_not_intro g), decide_eq_true g]
            rw [decide_eq_false (show ¬ (3 : Int32) < 2 by decide), Bool.and_false, Bool.and_false]
            rfl
          · rw [if_pos (by rw [ecs]; exact g), decide_eq_false g]
            rfl
        rw [es, em]
        have ex : mj_ext (mj_kl σ c) e (mj_wkC σ) a st f = if st < 2 ∧ f 33 < 5 then (if (mj_gw (mj_kl σ c) e [97, 102, 116, 101, 114, 32] 0 9 (a + 1)).1 = true then (if mj_wkC σ (mj_gw (mj_kl σ c) e [97, 102, 116, 101, 114, 32] 0 9 (a + 1)).2.2 = true then (true, (mj_gw (mj_kl σ c) e [97, 102, 116, 101, 114, 32] 0 9 (a + 1)).2.1, 2, mj_up f 37 (mj_gw (mj_kl σ c) e [97, 102, 116, 101, 114, 32] 0 9 (a + 1)).2.2) else (false, (mj_tk (mj_kl σ c) e [97, 102, 116, 101, 114, 32] (a + 1)).2, 0, f)) else (false, (mj_gw (mj_kl σ c) e [97, 102, 116, 101, 114, 32] 0 9 (a + 1)).2.1, 0, f)) else (false, a + 1, 0, f) := by
          rw [eg, et]
          unfold mj_ext
          have m1 : ¬ (97 : Int32) = 119 := by decide
          have m2 : ¬ (97 : Int32) = 105 := by decide
          have m3 : ¬ (97 : Int32) = 111 := by decide
          have m4 : ¬ (97 : Int32) = 102 := by decide
          simp only [h32, h1, c2, m1, m2, m3, m4, and_self, true_and, false_and, and_false, if_true, if_false]
        rw [ex]
        constructor
        · intro z
          rw [if_neg]
          rintro ⟨z1, z2⟩
          rcases z with z | z
          · omega
          · rw [decide_eq_true z2] at z
            exact absurd z mj_tf
        · intro z1 z2
          rw [if_pos ⟨by omega, of_decide_eq_true z2⟩]
          obtain ⟨ρ, S, hr⟩ := sp_readAfter (X := X) hN h9 h hb hf
          refine ⟨ρ, S, fun z => ?_, hr⟩
          split at z
          · split at z
            · rename_i y1 y2
              rw [if_pos y1, if_pos y2]
              rfl
            · exact absurd z mj_ft
          · exact absurd z mj_ft
      · by_cases c3 : mj_kl σ c (a + 1) = 105
        · have ek : mj_exk (mj_kl σ c (a + 1)) = 3 := by rw [c3]; rfl
          rw [ek]
          obtain ⟨eg, et⟩ := mj_gw_cons2 (L := mj_kl σ c) (e := e) (lo := 0) (hi := 2) (w := [102, 32]) ⟨h1, c3⟩
          have es : ((3 : Int32) ≤ nI st) = (3 ≤ st) := ltk 3 (by decide)
          have em : mj_mfw (f 33) (nI st) 3 = true := by
            unfold mj_mfw
            split
            · rfl
            · rw [decide_eq_false (show ¬ (3 : Int32) < 3 by decide), Bool.and_false, Bool.and_false]
              rfl
          rw [es, em]
          have ex : mj_ext (mj_kl σ c) e (mj_wkC σ) a st f = if st < 3 then (if (mj_gw (mj_kl σ c) e [105, 102, 32] 0 2 (a + 1)).1 = true then ((mj_gw (mj_kl σ c) e [61] 0 1 (mj_gw (mj_kl σ c) e [105, 102, 32] 0 2 (a + 1)).2.1).1, (mj_gw (mj_kl σ c) e [61] 0 1 (mj_gw (mj_kl σ c) e [105, 102, 32] 0 2 (a + 1)).2.1).2.1, 3, mj_up (mj_up f 38 (mj_gw (mj_kl σ c) e [105, 102, 32] 0 2 (a + 1)).2.2) 39 (mj_gw (mj_kl σ c) e [61] 0 1 (mj_gw (mj_kl σ c) e [105, 102, 32] 0 2 (a + 1)).2.1).2.2) else (false, (mj_gw (mj_kl σ c) e [105, 102, 32] 0 2 (a + 1)).2.1, 0, f)) else (false, a + 1, 0, f) := by
            rw [eg]
            unfold mj_ext
            have m1 : ¬ (105 : Int32) = 119 := by decide
            have m2 : ¬ (105 : Int32) = 97 := by decide
            have m3 : ¬ (105 : Int32) = 111 := by decide
            have m4 : ¬ (105 : Int32) = 102 := by decide
            simp only [h32, h1, c3, m1, m2, m3, m4, and_self, true_and, false_and, and_false, if_true, if_false]
          rw [ex]
          constructor
          · intro z
            rw [if_neg]
            intro z1
            rcases z with z | z
            · omega
            · exact absurd z mj_tf
          · intro z1 z2
            rw [if_pos (by omega)]
            obtain ⟨ρ, S, hr⟩ := sp_readIf (X := X) h hb hf
            refine ⟨ρ, S, fun z => ?_, fun d => hr (d + 1)⟩
            split at z
            · rename_i y1
              rw [if_pos y1]
              rfl
            · exact absurd z mj_ft
        · have mel : ∀ n : Nat, (n = 4 ∨ n = 5) → mj_mfw (f 33) (nI st) (nI n) = decide (¬ f 33 = 4 ∨ ¬ f 38 = -1) := by
            intro n hn
            have a3 : ¬ nI n < 3 := by
              rcases hn with q | q <;> subst q <;> decide
            have b3 : (3 : Int32) < nI n := by
              rcases hn with q | q <;> subst q <;> decide
            unfold mj_mfw
            by_cases g : f 33 = 5 ∨ f 33 = 6
            · have g4 : ¬ f 33 = 4 := by
                intro z
                rw [z] at g
                exact absurd g (by decide)
              rw [if_pos g, decide_eq_true a3, decide_eq_true (Or.inl g4)]
            · rw [if_neg g, decide_eq_true b3, Bool.and_true]
              by_cases g4 : f 33 = 4
              · rw [decide_eq_true g4, Bool.true_and]
                have q := hj g4
                by_cases g8 : f 38 = -1
                · rw [decide_eq_false (show ¬ (¬ f 33 = 4 ∨ ¬ f 38 = -1) from fun z => z.elim (fun y => y g4) (fun y => y g8))]
                  have : st < 3 := Nat.lt_of_not_le (fun y => (q.mpr y) g8)
                  rw [decide_eq_true (show nI st < 3 by rw [lt3]; exact this)]
                  rfl
                · rw [decide_eq_true (Or.inr g8)]
                  have := q.mp g8
                  rw [decide_eq_false (show ¬ nI st < 3 by rw [lt3]; omega)]
                  rfl
              · rw [decide_eq_false g4, Bool.false_and, decide_eq_true (Or.inl g4)]
                rfl
          by_cases c4 : mj_kl σ c (a + 1) = 111
          · have ek : mj_exk (mj_kl σ c (a + 1)) = 4 := by rw [c4]; rfl
            rw [ek]
            have eg := mj_gw2_cons2 (L := mj_kl σ c) (e := e) (hi := 99) (w := [119, 101, 32]) ⟨h1, c4⟩
            have es : ((4 : Int32) ≤ nI st) = (4 ≤ st) := ltk 4 (by decide)
            have em : mj_mfw (f 33) (nI st) 4 = decide (¬ f 33 = 4 ∨ ¬ f 38 = -1) := mel 4 (Or.inl rfl)
            rw [es, em]
            have ex : mj_ext (mj_kl σ c) e (mj_wkC σ) a st f = if st < 4 ∧ (¬ f 33 = 4 ∨ ¬ f 38 = -1) then ((mj_gw2 (mj_kl σ c) e [111, 119, 101, 32] 99 (a + 1)).1, (mj_gw2 (mj_kl σ c) e [111, 119, 101, 32] 99 (a + 1)).2.1, 4, mj_up f 40 (mj_gw2 (mj_kl σ c) e [111, 119, 101, 32] 99 (a + 1)).2.2) else (false, a + 1, 0, f) := by
              rw [eg]
              unfold mj_ext
              have m1 : ¬ (111 : Int32) = 119 := by decide
              have m2 : ¬ (111 : Int32) = 97 := by decide
              have m3 : ¬ (111 : Int32) = 105 := by decide
              have m4 : ¬ (111 : Int32) = 102 := by decide
              simp only [h32, h1, c4, m1, m2, m3, m4, and_self, true_and, false_and, and_false, if_true, if_false]
            rw [ex]
            constructor
            · intro z
              rw [if_neg]
              rintro ⟨z1, z2⟩
              rcases z with z | z
              · omega
              · rw [decide_eq_true z2] at z
                exact absurd z mj_tf
            · intro z1 z2
              rw [if_pos ⟨by omega, of_decide_eq_true z2⟩]
              obtain ⟨ρ, S, hr⟩ := sp_readOwe (X := X) h hb hf
              exact ⟨ρ, S, fun _ => rfl, fun d => hr (d + 1)⟩
          · by_cases c5 : mj_kl σ c (a + 1) = 102
            · have ek : mj_exk (mj_kl σ c (a + 1)) = 5 := by rw [c5]; rfl
              rw [ek]
              have eg := (mj_gw_cons2 (L := mj_kl σ c) (e := e) (lo := 0) (hi := 5) (w := [111, 114, 32]) ⟨h1, c5⟩).1
              have es : ((5 : Int32) ≤ nI st) = (5 ≤ st) := ltk 5 (by decide)
              have em : mj_mfw (f 33) (nI st) 5 = decide (¬ f 33 = 4 ∨ ¬ f 38 = -1) := mel 5 (Or.inr rfl)
              rw [es, em]
              have ex : mj_ext (mj_kl σ c) e (mj_wkC σ) a st f = if st < 5 ∧ (¬ f 33 = 4 ∨ ¬ f 38 = -1) then ((mj_gw (mj_kl σ c) e [102, 111, 114, 32] 0 5 (a + 1)).1, (mj_gw (mj_kl σ c) e [102, 111, 114, 32] 0 5 (a + 1)).2.1, 5, mj_up f 41 (mj_gw (mj_kl σ c) e [102, 111, 114, 32] 0 5 (a + 1)).2.2) else (false, a + 1, 0, f) := by
                rw [eg]
                unfold mj_ext
                have m1 : ¬ (102 : Int32) = 119 := by decide
                have m2 : ¬ (102 : Int32) = 97 := by decide
                have m3 : ¬ (102 : Int32) = 105 := by decide
                have m4 : ¬ (102 : Int32) = 111 := by decide
                simp only [h32, h1, c5, m1, m2, m3, m4, and_self, true_and, false_and, and_false, if_true, if_false]
              rw [ex]
              constructor
              · intro z
                rw [if_neg]
                rintro ⟨z1, z2⟩
                rcases z with z | z
                · omega
                · rw [decide_eq_true z2] at z
                  exact absurd z mj_tf
              · intro z1 z2
                rw [if_pos ⟨by omega, of_decide_eq_true z2⟩]
                obtain ⟨ρ, S, hr⟩ := sp_readFor (X := X) h hb hf
                exact ⟨ρ, S, fun _ => rfl, fun d => hr (d + 1)⟩
            · have ek : mj_exk (mj_kl σ c (a + 1)) = -1 := by
                unfold mj_exk
                rw [if_neg c1, if_neg c2, if_neg c3, if_neg c4, if_neg c5]
              rw [ek]
              have em : (-1 : Int32) ≤ nI st := by
                rw [Int32.le_iff_toInt_le, nI_toInt (by omega)]
                have e1 : (-1 : Int32).toInt = -1 := by decide
                omega
              constructor
              · intro _
                unfold mj_ext
                simp only [h32, h1, c1, c2, c3, c4, c5, and_self, true_and, false_and, and_false, if_true, if_false]
              · intro z
                exact absurd em z
  · simp only [h1, if_false]
    have ek : mj_exk (-1) = -1 := by decide
    rw [ek]
    have em : (-1 : Int32) ≤ nI st := by
      rw [Int32.le_iff_toInt_le, nI_toInt (by omega)]
      have e1 : (-1 : Int32).toInt = -1 := by decide
      omega
    constructor
    · intro _
      unfold mj_ext
      simp only [h32, h1, and_self, false_and, if_true, if_false]
    · intro z
      exact absurd em z
end
