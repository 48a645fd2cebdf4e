section
variable {X : mj_X} {d : Nat} {σ τ : mj_St}
theorem sp_M_firstIn {G : Int32 → Int32 → Prop} {N i f : Nat} (hR : mj_Rdy σ N) (hGK : mj_GKok σ N G) (hGF : mj_GFok σ N i G) (hi : i < 9) (hf : f < 12) : ∀ r, r < 12 → 11 - r ≤ f → mj_FS X σ G N i f r := by
  have step : ∀ r, r < 12 → 11 - r ≤ f → (¬ 11 - r = f → ∃ q, r = q + 1 ∧ mj_FS X σ G N i f q) → mj_FS X σ G N i f r := by
    intro r hr hrf hrec τ l F T D
    obtain ⟨m, hm, hop⟩ := mj_fb_lt (p := mj_Gopn σ (nI (11 - r)) (σ.1 61 53) (σ.1 61 54) l) (n := N) (Nat.lt_of_le_of_lt hR.2.1 (by decide))
    have hm9 : m < 512 := Nat.lt_of_lt_of_le hm (Nat.pow_le_pow_right (n := 2) (by decide) hR.2.1)
    replace hop : mj_Gset σ (nI (11 - r)) (σ.1 61 53) (σ.1 61 54) l N = nI m := hop
    have loop : ∀ (j s : Nat) (τ : mj_St) (v8 : Value), mj_noMk v8 = true → s + j = 512 → mj_Fr σ τ → mj_Tab τ G → ∃ ρ, mj_Fr σ ρ ∧ mj_Tab ρ G ∧
        (mj_anyF (mj_Fip σ (σ.1 61 53) (σ.1 61 54) N i f r l) s j = true → ∀ d, mj_Runs X (mj_ev X (d + 2 * r + 3)) 6 (some .boolean) prog_8_method_72_code (48, [.ref 61, .int (nI i), .int (nI f), .int (nI (11 - r)), .int (mj_cno σ l N), .int (mj_fk σ N f r l), .int (nI m), .int (nI s), v8], [], τ) (some (.int 1), ρ)) ∧
        (mj_anyF (mj_Fip σ (σ.1 61 53) (σ.1 61 54) N i f r l) s j = false → ∃ (s0 : Int32) (w8 : Value), mj_noMk w8 = true ∧ ∀ (d : Nat) (R : mj_Rs), mj_Runs X (mj_ev X (d + 2 * r + 3)) 6 (some .boolean) prog_8_method_72_code (174, [.ref 61, .int (nI i), .int (nI f), .int (nI (11 - r)), .int (mj_cno σ l N), .int (mj_fk σ N f r l), .int (nI m), .int s0, w8], [], ρ) R → mj_Runs X (mj_ev X (d + 2 * r + 3)) 6 (some .boolean) prog_8_method_72_code (48, [.ref 61, .int (nI i), .int (nI f), .int (nI (11 - r)), .int (mj_cno σ l N), .int (mj_fk σ N f r l), .int (nI m), .int (nI s), v8], [], τ) R) := by
      intro j
      induction j with
      | zero =>
        intro s τ v8 n8 hs F T
        have h1 : nI m < nI s := nI_lt (by clear hrec; omega) (by clear hrec; omega)
        refine ⟨τ, F, T, fun h => ?_, fun _ => ⟨nI s, v8, n8, fun d R hh => ?_⟩⟩
        · simp [mj_anyF] at h
        · refine u227_48.mpr ?_
          simp only [u227_0, u227_3, u227_5, u227_6, u227_7, u227_8, u227_9, u227_10, u227_11, u227_12, u227_14, u227_15, u227_17, u227_18, u227_20, u227_23, u227_26, u227_27, u227_28, u227_29, u227_30, u227_32, u227_33, u227_36, u227_37, u227_40, u227_43, u227_45, u227_46, u227_50, u227_52, u227_55, u227_57, u227_59, u227_60, u227_61, u227_62, u227_65, u227_66, u227_68, u227_69, u227_72, u227_73, u227_74, u227_77, u227_78, u227_81, u227_82, u227_85, u227_86, u227_88, u227_89, u227_90, u227_93, u227_94, u227_97, u227_100, u227_103, u227_106, u227_107, u227_108, u227_110, u227_112, u227_113, u227_116, u227_117, u227_120, u227_123, u227_125, u227_126, u227_129, u227_132, u227_133, u227_134, u227_137, u227_138, u227_139, u227_140, u227_141, u227_143, u227_146, u227_149, u227_152, u227_153, u227_154, u227_155, u227_156, u227_157, u227_158, u227_160, u227_163, u227_166, u227_167, u227_168, u227_171, u227_175, u227_177, u227_178, u227_181, u227_182, h1, if_true]
          exact hh
      | succ j ihj =>
        intro s τ v8 n8 hs F T
        by_cases c0 : m < s
        · have h1 : nI m < nI s := nI_lt c0 (by clear hrec; omega)
          refine ⟨τ, F, T, fun h => ?_, fun _ => ⟨nI s, v8, n8, fun d R hh => ?_⟩⟩
          · obtain ⟨i', a1, a2, a3⟩ := (mj_anyF_iff _ _).mp h
            unfold mj_Fip at a3
            simp only [Bool.and_eq_true] at a3
            have := mj_gok_le hm9 hop (by clear hrec; omega) a3.1
            clear hrec
            omega
          · refine u227_48.mpr ?_
            simp only [u227_0, u227_3, u227_5, u227_6, u227_7, u227_8, u227_9, u227_10, u227_11, u227_12, u227_14, u227_15, u227_17, u227_18, u227_20, u227_23, u227_26, u227_27, u227_28, u227_29, u227_30, u227_32, u227_33, u227_36, u227_37, u227_40, u227_43, u227_45, u227_46, u227_50, u227_52, u227_55, u227_57, u227_59, u227_60, u227_61, u227_62, u227_65, u227_66, u227_68, u227_69, u227_72, u227_73, u227_74, u227_77, u227_78, u227_81, u227_82, u227_85, u227_86, u227_88, u227_89, u227_90, u227_93, u227_94, u227_97, u227_100, u227_103, u227_106, u227_107, u227_108, u227_110, u227_112, u227_113, u227_116, u227_117, u227_120, u227_123, u227_125, u227_126, u227_129, u227_132, u227_133, u227_134, u227_137, u227_138, u227_139, u227_140, u227_141, u227_143, u227_146, u227_149, u227_152, u227_153, u227_154, u227_155, u227_156, u227_157, u227_158, u227_160, u227_163, u227_166, u227_167, u227_168, u227_171, u227_175, u227_177, u227_178, u227_181, u227_182, h1, if_true]
            exact hh
        · obtain ⟨ρ, F2, T2, q1, q2⟩ := mj_fi_it (X := X) (s := s) (v8 := v8) hR hGK hi hf hr hrf hrec F T D hm9 hop (Nat.le_of_not_lt c0) n8
          simp only [mj_anyF]
          rcases (Bool.eq_false_or_eq_true (mj_Fip σ (σ.1 61 53) (σ.1 61 54) N i f r l s)).symm with c | c
          · obtain ⟨w8, n8', hq⟩ := q2 c
            obtain ⟨ρ2, F3, T3, g1, g2⟩ := ihj (s + 1) ρ w8 n8' (by clear hrec; omega) F2 T2
            simp only [c, Bool.false_or]
            refine ⟨ρ2, F3, T3, fun h d => hq d _ (g1 h d), fun h => ?_⟩
            obtain ⟨s0, w9, n9, hg⟩ := g2 h
            exact ⟨s0, w9, n9, fun d R hh => hq d R (hg d R hh)⟩
          · simp only [c, Bool.true_or]
            exact ⟨ρ, F2, T2, fun _ d => q1 c d, fun h => absurd h (by decide)⟩
    have hR' := mj_Fr_Rdy F hR
    have e53 := F.2.2 53 (by decide) (by decide)
    have e54 := F.2.2 54 (by decide) (by decide)
    obtain ⟨g1, g2⟩ := hGF f r l hf hr D
    obtain ⟨b, hb, hmk⟩ := sp_M_isMarked (X := X) (key := mj_fk σ N f r l) T
    have efk : 15625 * (12 * (nI f + 1) + nI (11 - r)) + mj_cno σ l N = mj_fk σ N f r l := rfl
    cases b
    · obtain ⟨ρ, F2, T2, q1, q2⟩ := loop 512 0 τ mj_junk rfl rfl F T
      have ho : ∀ d, mj_ev X (d + 2 * r + 3) 203 [.ref 61, .int (nI (11 - r)), .int (mj_cno σ l N), .int (σ.1 61 53), .int (σ.1 61 54)] τ = some (some (.int (nI m)), τ) := fun d => by
        have q := sp_M_openSet (X := X) (d := d + 2 * r) (σ := τ) (h := nI (11 - r)) (code := mj_cno τ l N) (o := σ.1 61 53) (mt := σ.1 61 54) hR'.1 hR'.2.1 hR'.2.2.1 hR'.2.2.2.1
        rw [mj_oset_l hR' D, mj_Fr_Gset F, hop, mj_Fr_cno F] at q
        exact q
      rw [mj_Fi_s]
      rw [mj_Fi_s] at g2
      rcases (Bool.eq_false_or_eq_true (mj_anyF (mj_Fip σ (σ.1 61 53) (σ.1 61 54) N i f r l) 0 512)).symm with c | c
      · obtain ⟨s0, w8, n8, hg⟩ := q2 c
        obtain ⟨ρ2, F3, T3, hm2⟩ := sp_M_marks (X := X) T2 (g2 c)
        refine ⟨ρ2, mj_Fr_tr F2 F3, T3, fun d => ?_⟩
        rw [c]
        refine st227 ?_
        have hmk' := hmk (d + 2 * r + 1)
        simp only [u227_0, u227_3, u227_5, u227_6, u227_7, u227_8, u227_9, u227_10, u227_11, u227_12, u227_14, u227_15, u227_17, u227_18, u227_20, u227_23, u227_26, u227_27, u227_28, u227_29, u227_30, u227_32, u227_33, u227_36, u227_37, u227_40, u227_43, u227_45, u227_46, u227_50, u227_52, u227_55, u227_57, u227_59, u227_60, u227_61, u227_62, u227_65, u227_66, u227_68, u227_69, u227_72, u227_73, u227_74, u227_77, u227_78, u227_81, u227_82, u227_85, u227_86, u227_88, u227_89, u227_90, u227_93, u227_94, u227_97, u227_100, u227_103, u227_106, u227_107, u227_108, u227_110, u227_112, u227_113, u227_116, u227_117, u227_120, u227_123, u227_125, u227_126, u227_129, u227_132, u227_133, u227_134, u227_137, u227_138, u227_139, u227_140, u227_141, u227_143, u227_146, u227_149, u227_152, u227_153, u227_154, u227_155, u227_156, u227_157, u227_158, u227_160, u227_163, u227_166, u227_167, u227_168, u227_171, u227_175, u227_177, u227_178, u227_181, u227_182, efk, hmk', e53, e54, ho d, mj_cc_v, mj_cc_n, List.all_cons, List.all_nil, mj_noMk_int, mj_noMk_long, mj_noMk_ref, mj_noMk_junk, List.length_nil, List.length_cons, Nat.zero_le, Nat.reduceLeDiff, Nat.reduceAdd, Bool.and_true, Bool.true_and, Bool.and_self, Nat.reduceBNe, true_or, or_true, true_and, and_true, mj_z0, mj_z1, mj_z01, decide_true, decide_false, Bool.true_and, Bool.false_and, Bool.and_true, Bool.and_false, Bool.true_or, Bool.false_or, Bool.or_false, Bool.or_true, Bool.not_true, Bool.not_false, Bool.and_self, Bool.or_self, if_true, if_false, Bool.true_eq_false, Bool.false_eq_true, not_true, not_false_eq_true]
        refine hg d _ ?_
        refine u227_174.mpr ?_
        have hm2' := hm2 (d + 2 * r + 1)
        simp only [u227_0, u227_3, u227_5, u227_6, u227_7, u227_8, u227_9, u227_10, u227_11, u227_12, u227_14, u227_15, u227_17, u227_18, u227_20, u227_23, u227_26, u227_27, u227_28, u227_29, u227_30, u227_32, u227_33, u227_36, u227_37, u227_40, u227_43, u227_45, u227_46, u227_50, u227_52, u227_55, u227_57, u227_59, u227_60, u227_61, u227_62, u227_65, u227_66, u227_68, u227_69, u227_72, u227_73, u227_74, u227_77, u227_78, u227_81, u227_82, u227_85, u227_86, u227_88, u227_89, u227_90, u227_93, u227_94, u227_97, u227_100, u227_103, u227_106, u227_107, u227_108, u227_110, u227_112, u227_113, u227_116, u227_117, u227_120, u227_123, u227_125, u227_126, u227_129, u227_132, u227_133, u227_134, u227_137, u227_138, u227_139, u227_140, u227_141, u227_143, u227_146, u227_149, u227_152, u227_153, u227_154, u227_155, u227_156, u227_157, u227_158, u227_160, u227_163, u227_166, u227_167, u227_168, u227_171, u227_175, u227_177, u227_178, u227_181, u227_182, hm2', n8, mj_zF, mj_cc_v, mj_cc_n, List.all_cons, List.all_nil, mj_noMk_int, mj_noMk_long, mj_noMk_ref, mj_noMk_junk, List.length_nil, List.length_cons, Nat.zero_le, Nat.reduceLeDiff, Nat.reduceAdd, Bool.and_true, Bool.true_and, Bool.and_self, Nat.reduceBNe, true_or, or_true, true_and, and_true, mj_z0, mj_z1, mj_z01, decide_true, decide_false, Bool.true_and, Bool.false_and, Bool.and_true, Bool.and_false, Bool.true_or, Bool.false_or, Bool.or_false, Bool.or_true, Bool.not_true, Bool.not_false, Bool.and_self, Bool.or_self, if_true, if_false, Bool.true_eq_false, Bool.false_eq_true, not_true, not_false_eq_true]
      · refine ⟨ρ, F2, T2, fun d => ?_⟩
        rw [c]
        refine st227 ?_
        have hmk' := hmk (d + 2 * r + 1)
        simp only [u227_0, u227_3, u227_5, u227_6, u227_7, u227_8, u227_9, u227_10, u227_11, u227_12, u227_14, u227_15, u227_17, u227_18, u227_20, u227_23, u227_26, u227_27, u227_28, u227_29, u227_30, u227_32, u227_33, u227_36, u227_37, u227_40, u227_43, u227_45, u227_46, u227_50, u227_52, u227_55, u227_57, u227_59, u227_60, u227_61, u227_62, u227_65, u227_66, u227_68, u227_69, u227_72, u227_73, u227_74, u227_77, u227_78, u227_81, u227_82, u227_85, u227_86, u227_88, u227_89, u227_90, u227_93, u227_94, u227_97, u227_100, u227_103, u227_106, u227_107, u227_108, u227_110, u227_112, u227_113, u227_116, u227_117, u227_120, u227_123, u227_125, u227_126, u227_129, u227_132, u227_133, u227_134, u227_137, u227_138, u227_139, u227_140, u227_141, u227_143, u227_146, u227_149, u227_152, u227_153, u227_154, u227_155, u227_156, u227_157, u227_158, u227_160, u227_163, u227_166, u227_167, u227_168, u227_171, u227_175, u227_177, u227_178, u227_181, u227_182, efk, hmk', e53, e54, ho d, mj_cc_v, mj_cc_n, List.all_cons, List.all_nil, mj_noMk_int, mj_noMk_long, mj_noMk_ref, mj_noMk_junk, List.length_nil, List.length_cons, Nat.zero_le, Nat.reduceLeDiff, Nat.reduceAdd, Bool.and_true, Bool.true_and, Bool.and_self, Nat.reduceBNe, true_or, or_true, true_and, and_true, mj_z0, mj_z1, mj_z01, decide_true, decide_false, Bool.true_and, Bool.false_and, Bool.and_true, Bool.and_false, Bool.true_or, Bool.false_or, Bool.or_false, Bool.or_true, Bool.not_true, Bool.not_false, Bool.and_self, Bool.or_self, if_true, if_false, Bool.true_eq_false, Bool.false_eq_true, not_true, not_false_eq_true]
        exact q1 c d
    · obtain ⟨v, hv⟩ := hb rfl
      have hK := g1 v hv
      refine ⟨τ, F, T, fun d => ?_⟩
      rw [hK]
      refine st227 ?_
      have hmk' := hmk (d + 2 * r + 1)
      simp only [u227_0, u227_3, u227_5, u227_6, u227_7, u227_8, u227_9, u227_10, u227_11, u227_12, u227_14, u227_15, u227_17, u227_18, u227_20, u227_23, u227_26, u227_27, u227_28, u227_29, u227_30, u227_32, u227_33, u227_36, u227_37, u227_40, u227_43, u227_45, u227_46, u227_50, u227_52, u227_55, u227_57, u227_59, u227_60, u227_61, u227_62, u227_65, u227_66, u227_68, u227_69, u227_72, u227_73, u227_74, u227_77, u227_78, u227_81, u227_82, u227_85, u227_86, u227_88, u227_89, u227_90, u227_93, u227_94, u227_97, u227_100, u227_103, u227_106, u227_107, u227_108, u227_110, u227_112, u227_113, u227_116, u227_117, u227_120, u227_123, u227_125, u227_126, u227_129, u227_132, u227_133, u227_134, u227_137, u227_138, u227_139, u227_140, u227_141, u227_143, u227_146, u227_149, u227_152, u227_153, u227_154, u227_155, u227_156, u227_157, u227_158, u227_160, u227_163, u227_166, u227_167, u227_168, u227_171, u227_175, u227_177, u227_178, u227_181, u227_182, efk, hmk', mj_zF, mj_cc_v, mj_cc_n, List.all_cons, List.all_nil, mj_noMk_int, mj_noMk_long, mj_noMk_ref, mj_noMk_junk, List.length_nil, List.length_cons, Nat.zero_le, Nat.reduceLeDiff, Nat.reduceAdd, Bool.and_true, Bool.true_and, Bool.and_self, Nat.reduceBNe, true_or, or_true, true_and, and_true, mj_z0, mj_z1, mj_z01, decide_true, decide_false, Bool.true_and, Bool.false_and, Bool.and_true, Bool.and_false, Bool.true_or, Bool.false_or, Bool.or_false, Bool.or_true, Bool.not_true, Bool.not_false, Bool.and_self, Bool.or_self, if_true, if_false, Bool.true_eq_false, Bool.false_eq_true, not_true, not_false_eq_true]
  intro r
  induction r with
  | zero =>
    intro hr hrf
    exact step 0 hr hrf (fun h => absurd (show 11 - 0 = f by omega) h)
  | succ r ih =>
    intro hr hrf
    exact step (r + 1) hr hrf (fun h => ⟨r, rfl, ih (by omega) (by omega)⟩)
end
