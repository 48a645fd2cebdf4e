section
variable {X : mj_X} {d : Nat} {σ τ : mj_St}
theorem sp_M_cheapest {G : Int32 → Int32 → Prop} {N : Nat} (hR : mj_Rdy σ N) (hGC : mj_GCok σ N G) : ∀ r, r ≤ 12 → mj_CS X σ G N r := by
  intro r
  induction r with
  | zero => intro _; exact sp_M_cheapest0 hR
  | succ r ih =>
    intro hr τ l F T D
    have K := ih (by omega)
    have hr12 : r < 12 := by omega
    have e11 : nI (12 - (r + 1)) = nI (11 - r) := by congr 1; omega
    have h12 : ¬ nI (11 - r) = 12 := by
      intro h
      have e : (12 : Int32) = nI 12 := rfl
      rw [e] at h
      have := (nI_eq (by omega) (by decide)).mp h
      omega
    have h11 : mj_inb (nI (11 - r)) 12 = true := mj_in_nI (by omega) (by decide)
    have e12 := mj_e12 hr12
    obtain ⟨g1, g2⟩ := hGC r l hr12 D
    obtain ⟨m, hm, hop⟩ := mj_fb_lt (p := mj_Gopn σ (nI (11 - r)) (σ.1 61 53) (σ.1 61 54) l) (n := N) (Nat.lt_of_le_of_lt hR.2.1 (by decide))
    have hm9 : m < 512 := Nat.lt_of_lt_of_le hm (Nat.pow_le_pow_right (n := 2) (by decide) hR.2.1)
    replace hop : mj_Gset σ (nI (11 - r)) (σ.1 61 53) (σ.1 61 54) l N = nI m := hop
    obtain ⟨p, ⟨hp, hk⟩, hpl⟩ := sp_M_placeOf (X := X) (key := 15625 * nI (11 - r) + mj_cno σ l N) (mj_Tab_free T)
    have e88 : ∀ c1 : τ.1 87 p = τ.1 61 51, τ.1 88 p = mj_Ch σ (σ.1 61 53) (σ.1 61 54) N (r + 1) l := fun c1 => by
      have := T.1 p hp c1
      rw [hk c1] at this
      exact g1 _ this
    have loop : ∀ (j s : Nat) (τ : mj_St) (b : Int32) (v8 : Value), mj_noMk v8 = true → s + j = 512 → mj_Fr σ τ → mj_Tab τ G → ∃ (ρ : mj_St) (s0 : Int32) (w8 : Value), mj_noMk w8 = true ∧ mj_Fr σ ρ ∧ mj_Tab ρ G ∧ ∀ (d : Nat) (R : mj_Rs),
        mj_Runs X (mj_ev X (d + r + 4)) 6 (some .int) prog_8_method_68_code (222, [.ref 61, .int (nI (11 - r)), .int (mj_cno σ l N), .int (15625 * nI (11 - r) + mj_cno σ l N), .int (nI p), .int (nI m), .int (mj_mn (mj_cok σ (nI (11 - r)) (σ.1 61 53) (σ.1 61 54) N l) (fun s => mj_Ch σ (σ.1 61 53) (σ.1 61 54) N r (mj_nxd σ (nI (11 - r)) (nI s) (σ.1 61 53) (σ.1 61 54) l)) s j b), .int s0, w8], [], ρ) R →
        mj_Runs X (mj_ev X (d + r + 4)) 6 (some .int) prog_8_method_68_code (131, [.ref 61, .int (nI (11 - r)), .int (mj_cno σ l N), .int (15625 * nI (11 - r) + mj_cno σ l N), .int (nI p), .int (nI m), .int b, .int (nI s), v8], [], τ) R := by
      intro j
      induction j with
      | zero =>
        intro s τ b v8 n8 hs F T
        have h1 : nI m < nI s := nI_lt (by omega) (by omega)
        refine ⟨τ, nI s, v8, n8, F, T, fun d R hh => ?_⟩
        refine u224_131.mpr ?_
        simp only [u224_0, u224_1, u224_3, u224_6, u224_7, u224_8, u224_9, u224_13, u224_14, u224_17, u224_20, u224_21, u224_24, u224_26, u224_27, u224_28, u224_31, u224_32, u224_34, u224_35, u224_38, u224_41, u224_44, u224_45, u224_46, u224_48, u224_51, u224_52, u224_55, u224_56, u224_57, u224_59, u224_62, u224_63, u224_64, u224_67, u224_70, u224_71, u224_72, u224_75, u224_76, u224_77, u224_78, u224_79, u224_80, u224_81, u224_82, u224_85, u224_87, u224_88, u224_91, u224_93, u224_94, u224_95, u224_98, u224_101, u224_102, u224_105, u224_107, u224_108, u224_109, u224_110, u224_111, u224_112, u224_113, u224_116, u224_117, u224_120, u224_123, u224_125, u224_126, u224_128, u224_129, u224_133, u224_135, u224_138, u224_140, u224_142, u224_143, u224_144, u224_145, u224_148, u224_149, u224_151, u224_152, u224_153, u224_156, u224_157, u224_160, u224_163, u224_166, u224_169, u224_170, u224_171, u224_172, u224_173, u224_174, u224_175, u224_176, u224_178, u224_179, u224_182, u224_183, u224_186, u224_189, u224_192, u224_194, u224_196, u224_197, u224_200, u224_202, u224_204, u224_207, u224_209, u224_212, u224_214, u224_216, u224_219, u224_223, u224_224, u224_226, u224_229, u224_231, h1, if_true]
        exact hh
      | succ j ihj =>
        intro s τ b v8 n8 hs F T
        by_cases c0 : m < s
        · have h1 : nI m < nI s := nI_lt c0 (by omega)
          refine ⟨τ, nI s, v8, n8, F, T, fun d R hh => ?_⟩
          rw [mj_mn_none (j + 1) s b (fun i a c => by
            unfold mj_cok
            rw [hop]
            by_cases hg : nI i &&& (nI m ^^^ -1) = 0
            · have := mj_sub_le (by omega) (by omega) hg
              omega
            · rw [decide_eq_false hg, Bool.false_and])] at hh
          refine u224_131.mpr ?_
          simp only [u224_0, u224_1, u224_3, u224_6, u224_7, u224_8, u224_9, u224_13, u224_14, u224_17, u224_20, u224_21, u224_24, u224_26, u224_27, u224_28, u224_31, u224_32, u224_34, u224_35, u224_38, u224_41, u224_44, u224_45, u224_46, u224_48, u224_51, u224_52, u224_55, u224_56, u224_57, u224_59, u224_62, u224_63, u224_64, u224_67, u224_70, u224_71, u224_72, u224_75, u224_76, u224_77, u224_78, u224_79, u224_80, u224_81, u224_82, u224_85, u224_87, u224_88, u224_91, u224_93, u224_94, u224_95, u224_98, u224_101, u224_102, u224_105, u224_107, u224_108, u224_109, u224_110, u224_111, u224_112, u224_113, u224_116, u224_117, u224_120, u224_123, u224_125, u224_126, u224_128, u224_129, u224_133, u224_135, u224_138, u224_140, u224_142, u224_143, u224_144, u224_145, u224_148, u224_149, u224_151, u224_152, u224_153, u224_156, u224_157, u224_160, u224_163, u224_166, u224_169, u224_170, u224_171, u224_172, u224_173, u224_174, u224_175, u224_176, u224_178, u224_179, u224_182, u224_183, u224_186, u224_189, u224_192, u224_194, u224_196, u224_197, u224_200, u224_202, u224_204, u224_207, u224_209, u224_212, u224_214, u224_216, u224_219, u224_223, u224_224, u224_226, u224_229, u224_231, h1, if_true]
          exact hh
        · have h1 : ¬ nI m < nI s := nI_nlt (by omega) (by omega)
          have hR' := mj_Fr_Rdy F hR
          have e53 := F.2.2 53 (by decide) (by decide)
          have e54 := F.2.2 54 (by decide) (by decide)
          have hb : ∀ d, mj_ev X (d + r + 4) 207 [.ref 61, .int (nI s), .int (nI (11 - r)), .int (σ.1 61 53), .int (σ.1 61 54)] τ = some (some (.int (mj_Mbars σ (nI s) (nI (11 - r)) (σ.1 61 53) (σ.1 61 54) N)), τ) := fun d => by
            have q := sp_M_bars (X := X) (d := d + r + 1) (σ := τ) (set := nI s) (h := nI (11 - r)) (o := σ.1 61 53) (mt := σ.1 61 54) hR'.1 hR'.2.1 hR'.2.2.2.1 hR'.2.2.2.2.2.2 h11
            rw [mj_Fr_Mbars F] at q
            exact q
          have hbh : ∀ d, mj_ev X (d + r + 4) 210 [.ref 61, .int (nI (11 - r)), .int (mj_cno σ l N), .int (nI s), .int (σ.1 61 53), .int (σ.1 61 54)] τ = some (some (.int (mj_cno σ (mj_nxd σ (nI (11 - r)) (nI s) (σ.1 61 53) (σ.1 61 54) l) N)), mj_setI τ 61 47 (mj_nxl σ (nI (11 - r)) (nI s) (σ.1 61 53) (σ.1 61 54) l N)) := fun d => by
            have q := sp_M_behind (X := X) (d := d + r + 2) (σ := τ) (set := nI s) (h := nI (11 - r)) (code := mj_cno τ l N) (o := σ.1 61 53) (mt := σ.1 61 54) hR'.1 hR'.2.1 hR'.2.2.1 hR'.2.2.2.1
            rw [mj_bhd_N hR' D, mj_Fr_cno F, mj_Fr_nxd F, mj_Fr_nxl F] at q
            exact q
          have eg : mj_cok σ (nI (11 - r)) (σ.1 61 53) (σ.1 61 54) N l s = (decide (nI s &&& (nI m ^^^ -1) = 0) && decide (mj_Mbars σ (nI s) (nI (11 - r)) (σ.1 61 53) (σ.1 61 54) N = 0)) := by
            unfold mj_cok
            rw [hop]
          simp only [mj_mn]
          rw [eg]
          by_cases c1 : nI s &&& (nI m ^^^ -1) = 0
          · by_cases c2 : mj_Mbars σ (nI s) (nI (11 - r)) (σ.1 61 53) (σ.1 61 54) N = 0
            · have D' : mj_Dg (mj_nxd σ (nI (11 - r)) (nI s) (σ.1 61 53) (σ.1 61 54) l) N := mj_nxd_Dg D (fun i hi hb => mj_Gopn_ne (mj_Gset_bit hR.2.1 (by rw [hop]; exact mj_sub_b c1 hb) (by have := hR.2.1; omega)))
              obtain ⟨ρ, F2, T2, hkc⟩ := K (mj_setI τ 61 47 (mj_nxl σ (nI (11 - r)) (nI s) (σ.1 61 53) (σ.1 61 54) l N)) _ (mj_Fr_tr F mj_Fr_47) (mj_Tab_47 T) D'
              obtain ⟨ρ2, s0, w8, n8', F3, T3, hq⟩ := ihj (s + 1) ρ (if b = -1 ∨ mj_Ch σ (σ.1 61 53) (σ.1 61 54) N r (mj_nxd σ (nI (11 - r)) (nI s) (σ.1 61 53) (σ.1 61 54) l) < b then mj_Ch σ (σ.1 61 53) (σ.1 61 54) N r (mj_nxd σ (nI (11 - r)) (nI s) (σ.1 61 53) (σ.1 61 54) l) else b) (.int (mj_Ch σ (σ.1 61 53) (σ.1 61 54) N r (mj_nxd σ (nI (11 - r)) (nI s) (σ.1 61 53) (σ.1 61 54) l))) rfl (by omega) F2 T2
              refine ⟨ρ2, s0, w8, n8', F3, T3, fun d R hh => ?_⟩
              simp only [c1, c2, decide_true, decide_false, Bool.true_and, Bool.false_and, Bool.and_true, Bool.and_false, Bool.true_or, Bool.false_or, Bool.or_false, Bool.or_true, Bool.not_true, Bool.not_false, Bool.and_self, Bool.or_self, if_true, if_false, Bool.true_eq_false, Bool.false_eq_true, not_true, not_false_eq_true] at hh
              have hf := hq d R hh
              have hkd := hkc d
              refine u224_131.mpr ?_
              by_cases c3 : b = -1
              · simp only [c3, true_or, if_true] at hf
                simp only [u224_0, u224_1, u224_3, u224_6, u224_7, u224_8, u224_9, u224_13, u224_14, u224_17, u224_20, u224_21, u224_24, u224_26, u224_27, u224_28, u224_31, u224_32, u224_34, u224_35, u224_38, u224_41, u224_44, u224_45, u224_46, u224_48, u224_51, u224_52, u224_55, u224_56, u224_57, u224_59, u224_62, u224_63, u224_64, u224_67, u224_70, u224_71, u224_72, u224_75, u224_76, u224_77, u224_78, u224_79, u224_80, u224_81, u224_82, u224_85, u224_87, u224_88, u224_91, u224_93, u224_94, u224_95, u224_98, u224_101, u224_102, u224_105, u224_107, u224_108, u224_109, u224_110, u224_111, u224_112, u224_113, u224_116, u224_117, u224_120, u224_123, u224_125, u224_126, u224_128, u224_129, u224_133, u224_135, u224_138, u224_140, u224_142, u224_143, u224_144, u224_145, u224_148, u224_149, u224_151, u224_152, u224_153, u224_156, u224_157, u224_160, u224_163, u224_166, u224_169, u224_170, u224_171, u224_172, u224_173, u224_174, u224_175, u224_176, u224_178, u224_179, u224_182, u224_183, u224_186, u224_189, u224_192, u224_194, u224_196, u224_197, u224_200, u224_202, u224_204, u224_207, u224_209, u224_212, u224_214, u224_216, u224_219, u224_223, u224_224, u224_226, u224_229, u224_231, n8, h1, c1, e53, e54, hb d, c2, hbh d, e12, hkd, c3, mj_cc_v, mj_cc_n, List.all_cons, List.all_nil, mj_noMk_int, mj_noMk_long, mj_noMk_ref, mj_noMk_junk, List.length_nil, List.length_cons, Nat.zero_le, Nat.reduceLeDiff, Nat.reduceAdd, Bool.and_true, Bool.true_and, Bool.and_self, Nat.reduceBNe, true_or, or_true, true_and, and_true, mj_z0, mj_z1, mj_z01, decide_true, decide_false, Bool.true_and, Bool.false_and, Bool.and_true, Bool.and_false, Bool.true_or, Bool.false_or, Bool.or_false, Bool.or_true, Bool.not_true, Bool.not_false, Bool.and_self, Bool.or_self, if_true, if_false, Bool.true_eq_false, Bool.false_eq_true, not_true, not_false_eq_true, nI_1]
                exact hf
              · by_cases c4 : mj_Ch σ (σ.1 61 53) (σ.1 61 54) N r (mj_nxd σ (nI (11 - r)) (nI s) (σ.1 61 53) (σ.1 61 54) l) < b
                · simp only [c4, or_true, if_true] at hf
                  simp only [u224_0, u224_1, u224_3, u224_6, u224_7, u224_8, u224_9, u224_13, u224_14, u224_17, u224_20, u224_21, u224_24, u224_26, u224_27, u224_28, u224_31, u224_32, u224_34, u224_35, u224_38, u224_41, u224_44, u224_45, u224_46, u224_48, u224_51, u224_52, u224_55, u224_56, u224_57, u224_59, u224_62, u224_63, u224_64, u224_67, u224_70, u224_71, u224_72, u224_75, u224_76, u224_77, u224_78, u224_79, u224_80, u224_81, u224_82, u224_85, u224_87, u224_88, u224_91, u224_93, u224_94, u224_95, u224_98, u224_101, u224_102, u224_105, u224_107, u224_108, u224_109, u224_110, u224_111, u224_112, u224_113, u224_116, u224_117, u224_120, u224_123, u224_125, u224_126, u224_128, u224_129, u224_133, u224_135, u224_138, u224_140, u224_142, u224_143, u224_144, u224_145, u224_148, u224_149, u224_151, u224_152, u224_153, u224_156, u224_157, u224_160, u224_163, u224_166, u224_169, u224_170, u224_171, u224_172, u224_173, u224_174, u224_175, u224_176, u224_178, u224_179, u224_182, u224_183, u224_186, u224_189, u224_192, u224_194, u224_196, u224_197, u224_200, u224_202, u224_204, u224_207, u224_209, u224_212, u224_214, u224_216, u224_219, u224_223, u224_224, u224_226, u224_229, u224_231, n8, h1, c1, e53, e54, hb d, c2, hbh d, e12, hkd, c3, c4, mj_cc_v, mj_cc_n, List.all_cons, List.all_nil, mj_noMk_int, mj_noMk_long, mj_noMk_ref, mj_noMk_junk, List.length_nil, List.length_cons, Nat.zero_le, Nat.reduceLeDiff, Nat.reduceAdd, Bool.and_true, Bool.true_and, Bool.and_self, Nat.reduceBNe, true_or, or_true, true_and, and_true, mj_z0, mj_z1, mj_z01, decide_true, decide_false, Bool.true_and, Bool.false_and, Bool.and_true, Bool.and_false, Bool.true_or, Bool.false_or, Bool.or_false, Bool.or_true, Bool.not_true, Bool.not_false, Bool.and_self, Bool.or_self, if_true, if_false, Bool.true_eq_false, Bool.false_eq_true, not_true, not_false_eq_true, nI_1]
                  exact hf
                · simp only [c3, c4, or_self, if_false] at hf
                  simp only [u224_0, u224_1, u224_3, u224_6, u224_7, u224_8, u224_9, u224_13, u224_14, u224_17, u224_20, u224_21, u224_24, u224_26, u224_27, u224_28, u224_31, u224_32, u224_34, u224_35, u224_38, u224_41, u224_44, u224_45, u224_46, u224_48, u224_51, u224_52, u224_55, u224_56, u224_57, u224_59, u224_62, u224_63, u224_64, u224_67, u224_70, u224_71, u224_72, u224_75, u224_76, u224_77, u224_78, u224_79, u224_80, u224_81, u224_82, u224_85, u224_87, u224_88, u224_91, u224_93, u224_94, u224_95, u224_98, u224_101, u224_102, u224_105, u224_107, u224_108, u224_109, u224_110, u224_111, u224_112, u224_113, u224_116, u224_117, u224_120, u224_123, u224_125, u224_126, u224_128, u224_129, u224_133, u224_135, u224_138, u224_140, u224_142, u224_143, u224_144, u224_145, u224_148, u224_149, u224_151, u224_152, u224_153, u224_156, u224_157, u224_160, u224_163, u224_166, u224_169, u224_170, u224_171, u224_172, u224_173, u224_174, u224_175, u224_176, u224_178, u224_179, u224_182, u224_183, u224_186, u224_189, u224_192, u224_194, u224_196, u224_197, u224_200, u224_202, u224_204, u224_207, u224_209, u224_212, u224_214, u224_216, u224_219, u224_223, u224_224, u224_226, u224_229, u224_231, n8, h1, c1, e53, e54, hb d, c2, hbh d, e12, hkd, c3, c4, mj_cc_v, mj_cc_n, List.all_cons, List.all_nil, mj_noMk_int, mj_noMk_long, mj_noMk_ref, mj_noMk_junk, List.length_nil, List.length_cons, Nat.zero_le, Nat.reduceLeDiff, Nat.reduceAdd, Bool.and_true, Bool.true_and, Bool.and_self, Nat.reduceBNe, true_or, or_true, true_and, and_true, mj_z0, mj_z1, mj_z01, decide_true, decide_false, Bool.true_and, Bool.false_and, Bool.and_true, Bool.and_false, Bool.true_or, Bool.false_or, Bool.or_false, Bool.or_true, Bool.not_true, Bool.not_false, Bool.and_self, Bool.or_self, if_true, if_false, Bool.true_eq_false, Bool.false_eq_true, not_true, not_false_eq_true, nI_1]
                  exact hf
            · obtain ⟨ρ2, s0, w8, n8', F3, T3, hq⟩ := ihj (s + 1) τ b v8 n8 (by omega) F T
              refine ⟨ρ2, s0, w8, n8', F3, T3, fun d R hh => ?_⟩
              simp only [c2, decide_true, decide_false, Bool.true_and, Bool.false_and, Bool.and_true, Bool.and_false, Bool.true_or, Bool.false_or, Bool.or_false, Bool.or_true, Bool.not_true, Bool.not_false, Bool.and_self, Bool.or_self, if_true, if_false, Bool.true_eq_false, Bool.false_eq_true, not_true, not_false_eq_true] at hh
              have hf := hq d R hh
              refine u224_131.mpr ?_
              simp only [u224_0, u224_1, u224_3, u224_6, u224_7, u224_8, u224_9, u224_13, u224_14, u224_17, u224_20, u224_21, u224_24, u224_26, u224_27, u224_28, u224_31, u224_32, u224_34, u224_35, u224_38, u224_41, u224_44, u224_45, u224_46, u224_48, u224_51, u224_52, u224_55, u224_56, u224_57, u224_59, u224_62, u224_63, u224_64, u224_67, u224_70, u224_71, u224_72, u224_75, u224_76, u224_77, u224_78, u224_79, u224_80, u224_81, u224_82, u224_85, u224_87, u224_88, u224_91, u224_93, u224_94, u224_95, u224_98, u224_101, u224_102, u224_105, u224_107, u224_108, u224_109, u224_110, u224_111, u224_112, u224_113, u224_116, u224_117, u224_120, u224_123, u224_125, u224_126, u224_128, u224_129, u224_133, u224_135, u224_138, u224_140, u224_142, u224_143, u224_144, u224_145, u224_148, u224_149, u224_151, u224_152, u224_153, u224_156, u224_157, u224_160, u224_163, u224_166, u224_169, u224_170, u224_171, u224_172, u224_173, u224_174, u224_175, u224_176, u224_178, u224_179, u224_182, u224_183, u224_186, u224_189, u224_192, u224_194, u224_196, u224_197, u224_200, u224_202, u224_204, u224_207, u224_209, u224_212, u224_214, u224_216, u224_219, u224_223, u224_224, u224_226, u224_229, u224_231, n8, h1, c1, e53, e54, hb d, c2, mj_cc_v, mj_cc_n, List.all_cons, List.all_nil, mj_noMk_int, mj_noMk_long, mj_noMk_ref, mj_noMk_junk, List.length_nil, List.length_cons, Nat.zero_le, Nat.reduceLeDiff, Nat.reduceAdd, Bool.and_true, Bool.true_and, Bool.and_self, Nat.reduceBNe, true_or, or_true, true_and, and_true, mj_z0, mj_z1, mj_z01, decide_true, decide_false, Bool.true_and, Bool.false_and, Bool.and_true, Bool.and_false, Bool.true_or, Bool.false_or, Bool.or_false, Bool.or_true, Bool.not_true, Bool.not_false, Bool.and_self, Bool.or_self, if_true, if_false, Bool.true_eq_false, Bool.false_eq_true, not_true, not_false_eq_true, nI_1]
              exact hf
          · obtain ⟨ρ2, s0, w8, n8', F3, T3, hq⟩ := ihj (s + 1) τ b v8 n8 (by omega) F T
            refine ⟨ρ2, s0, w8, n8', F3, T3, fun d R hh => ?_⟩
            simp only [c1, decide_true, decide_false, Bool.true_and, Bool.false_and, Bool.and_true, Bool.and_false, Bool.true_or, Bool.false_or, Bool.or_false, Bool.or_true, Bool.not_true, Bool.not_false, Bool.and_self, Bool.or_self, if_true, if_false, Bool.true_eq_false, Bool.false_eq_true, not_true, not_false_eq_true] at hh
            have hf := hq d R hh
            refine u224_131.mpr ?_
            simp only [u224_0, u224_1, u224_3, u224_6, u224_7, u224_8, u224_9, u224_13, u224_14, u224_17, u224_20, u224_21, u224_24, u224_26, u224_27, u224_28, u224_31, u224_32, u224_34, u224_35, u224_38, u224_41, u224_44, u224_45, u224_46, u224_48, u224_51, u224_52, u224_55, u224_56, u224_57, u224_59, u224_62, u224_63, u224_64, u224_67, u224_70, u224_71, u224_72, u224_75, u224_76, u224_77, u224_78, u224_79, u224_80, u224_81, u224_82, u224_85, u224_87, u224_88, u224_91, u224_93, u224_94, u224_95, u224_98, u224_101, u224_102, u224_105, u224_107, u224_108, u224_109, u224_110, u224_111, u224_112, u224_113, u224_116, u224_117, u224_120, u224_123, u224_125, u224_126, u224_128, u224_129, u224_133, u224_135, u224_138, u224_140, u224_142, u224_143, u224_144, u224_145, u224_148, u224_149, u224_151, u224_152, u224_153, u224_156, u224_157, u224_160, u224_163, u224_166, u224_169, u224_170, u224_171, u224_172, u224_173, u224_174, u224_175, u224_176, u224_178, u224_179, u224_182, u224_183, u224_186, u224_189, u224_192, u224_194, u224_196, u224_197, u224_200, u224_202, u224_204, u224_207, u224_209, u224_212, u224_214, u224_216, u224_219, u224_223, u224_224, u224_226, u224_229, u224_231, n8, h1, c1, mj_cc_v, mj_cc_n, List.all_cons, List.all_nil, mj_noMk_int, mj_noMk_long, mj_noMk_ref, mj_noMk_junk, List.length_nil, List.length_cons, Nat.zero_le, Nat.reduceLeDiff, Nat.reduceAdd, Bool.and_true, Bool.true_and, Bool.and_self, Nat.reduceBNe, true_or, or_true, true_and, and_true, mj_z0, mj_z1, mj_z01, decide_true, decide_false, Bool.true_and, Bool.false_and, Bool.and_true, Bool.and_false, Bool.true_or, Bool.false_or, Bool.or_false, Bool.or_true, Bool.not_true, Bool.not_false, Bool.and_self, Bool.or_self, if_true, if_false, Bool.true_eq_false, Bool.false_eq_true, not_true, not_false_eq_true, nI_1]
            exact hf
    have hR' := mj_Fr_Rdy F hR
    have e53 := F.2.2 53 (by decide) (by decide)
    have e54 := F.2.2 54 (by decide) (by decide)
    by_cases c1 : τ.1 87 p = τ.1 61 51
    · refine ⟨τ, F, T, fun d => ?_⟩
      rw [show d + (r + 1) + 4 = d + r + 4 + 1 by omega]
      refine st224 ?_
      have hpl' := hpl (d + r + 3)
      have ev := e88 c1
      simp only [u224_0, u224_1, u224_3, u224_6, u224_7, u224_8, u224_9, u224_13, u224_14, u224_17, u224_20, u224_21, u224_24, u224_26, u224_27, u224_28, u224_31, u224_32, u224_34, u224_35, u224_38, u224_41, u224_44, u224_45, u224_46, u224_48, u224_51, u224_52, u224_55, u224_56, u224_57, u224_59, u224_62, u224_63, u224_64, u224_67, u224_70, u224_71, u224_72, u224_75, u224_76, u224_77, u224_78, u224_79, u224_80, u224_81, u224_82, u224_85, u224_87, u224_88, u224_91, u224_93, u224_94, u224_95, u224_98, u224_101, u224_102, u224_105, u224_107, u224_108, u224_109, u224_110, u224_111, u224_112, u224_113, u224_116, u224_117, u224_120, u224_123, u224_125, u224_126, u224_128, u224_129, u224_133, u224_135, u224_138, u224_140, u224_142, u224_143, u224_144, u224_145, u224_148, u224_149, u224_151, u224_152, u224_153, u224_156, u224_157, u224_160, u224_163, u224_166, u224_169, u224_170, u224_171, u224_172, u224_173, u224_174, u224_175, u224_176, u224_178, u224_179, u224_182, u224_183, u224_186, u224_189, u224_192, u224_194, u224_196, u224_197, u224_200, u224_202, u224_204, u224_207, u224_209, u224_212, u224_214, u224_216, u224_219, u224_223, u224_224, u224_226, u224_229, u224_231, e11, h12, hpl', c1, ev, mj_in_nI hp (by decide), mj_nz9 hp (by decide), mj_cc_v, mj_cc_n, List.all_cons, List.all_nil, mj_noMk_int, mj_noMk_long, mj_noMk_ref, mj_noMk_junk, List.length_nil, List.length_cons, Nat.zero_le, Nat.reduceLeDiff, Nat.reduceAdd, Bool.and_true, Bool.true_and, Bool.and_self, Nat.reduceBNe, true_or, or_true, true_and, and_true, mj_z0, mj_z1, mj_z01, decide_true, decide_false, Bool.true_and, Bool.false_and, Bool.and_true, Bool.and_false, Bool.true_or, Bool.false_or, Bool.or_false, Bool.or_true, Bool.not_true, Bool.not_false, Bool.and_self, Bool.or_self, if_true, if_false, Bool.true_eq_false, Bool.false_eq_true, not_true, not_false_eq_true]
    · obtain ⟨ρ, s0, w8, n8, F2, T2, hq⟩ := loop 512 0 τ (-1) mj_junk rfl rfl F T
      obtain ⟨ρ2, F3, T3, hm2⟩ := sp_M_marks (X := X) T2 g2
      refine ⟨ρ2, mj_Fr_tr F2 F3, T3, fun d => ?_⟩
      rw [show d + (r + 1) + 4 = d + r + 4 + 1 by omega]
      have ho : mj_ev X (d + r + 4) 203 [.ref 61, .int (nI (11 - r)), .int (mj_cno σ l N), .int (σ.1 61 53), .int (σ.1 61 54)] τ = some (some (.int (nI m)), τ) := by
        have q := sp_M_openSet (X := X) (d := d + r + 1) (σ := τ) (h := nI (11 - r)) (code := mj_cno τ l N) (o := σ.1 61 53) (mt := σ.1 61 54) hR'.1 hR'.2.1 hR'.2.2.1 hR'.2.2.2.1
        rw [mj_oset_l hR' D, mj_Fr_Gset F, hop, mj_Fr_cno F] at q
        exact q
      refine st224 ?_
      have hpl' := hpl (d + r + 3)
      simp only [u224_0, u224_1, u224_3, u224_6, u224_7, u224_8, u224_9, u224_13, u224_14, u224_17, u224_20, u224_21, u224_24, u224_26, u224_27, u224_28, u224_31, u224_32, u224_34, u224_35, u224_38, u224_41, u224_44, u224_45, u224_46, u224_48, u224_51, u224_52, u224_55, u224_56, u224_57, u224_59, u224_62, u224_63, u224_64, u224_67, u224_70, u224_71, u224_72, u224_75, u224_76, u224_77, u224_78, u224_79, u224_80, u224_81, u224_82, u224_85, u224_87, u224_88, u224_91, u224_93, u224_94, u224_95, u224_98, u224_101, u224_102, u224_105, u224_107, u224_108, u224_109, u224_110, u224_111, u224_112, u224_113, u224_116, u224_117, u224_120, u224_123, u224_125, u224_126, u224_128, u224_129, u224_133, u224_135, u224_138, u224_140, u224_142, u224_143, u224_144, u224_145, u224_148, u224_149, u224_151, u224_152, u224_153, u224_156, u224_157, u224_160, u224_163, u224_166, u224_169, u224_170, u224_171, u224_172, u224_173, u224_174, u224_175, u224_176, u224_178, u224_179, u224_182, u224_183, u224_186, u224_189, u224_192, u224_194, u224_196, u224_197, u224_200, u224_202, u224_204, u224_207, u224_209, u224_212, u224_214, u224_216, u224_219, u224_223, u224_224, u224_226, u224_229, u224_231, e11, h12, hpl', c1, ho, e53, e54, mj_in_nI hp (by decide), mj_nz9 hp (by decide), mj_cc_v, mj_cc_n, List.all_cons, List.all_nil, mj_noMk_int, mj_noMk_long, mj_noMk_ref, mj_noMk_junk, List.length_nil, List.length_cons, Nat.zero_le, Nat.reduceLeDiff, Nat.reduceAdd, Bool.and_true, Bool.true_and, Bool.and_self, Nat.reduceBNe, true_or, or_true, true_and, and_true, mj_z0, mj_z1, mj_z01, decide_true, decide_false, Bool.true_and, Bool.false_and, Bool.and_true, Bool.and_false, Bool.true_or, Bool.false_or, Bool.or_false, Bool.or_true, Bool.not_true, Bool.not_false, Bool.and_self, Bool.or_self, if_true, if_false, Bool.true_eq_false, Bool.false_eq_true, not_true, not_false_eq_true]
      refine hq d _ ?_
      refine u224_222.mpr ?_
      have hm2' := hm2 (d + r + 2)
      have eC : mj_Ch σ (σ.1 61 53) (σ.1 61 54) N (r + 1) l = mj_mn (mj_cok σ (nI (11 - r)) (σ.1 61 53) (σ.1 61 54) N l) (fun s => mj_Ch σ (σ.1 61 53) (σ.1 61 54) N r (mj_nxd σ (nI (11 - r)) (nI s) (σ.1 61 53) (σ.1 61 54) l)) 0 512 (-1) := rfl
      rw [eC] at hm2' ⊢
      simp only [u224_0, u224_1, u224_3, u224_6, u224_7, u224_8, u224_9, u224_13, u224_14, u224_17, u224_20, u224_21, u224_24, u224_26, u224_27, u224_28, u224_31, u224_32, u224_34, u224_35, u224_38, u224_41, u224_44, u224_45, u224_46, u224_48, u224_51, u224_52, u224_55, u224_56, u224_57, u224_59, u224_62, u224_63, u224_64, u224_67, u224_70, u224_71, u224_72, u224_75, u224_76, u224_77, u224_78, u224_79, u224_80, u224_81, u224_82, u224_85, u224_87, u224_88, u224_91, u224_93, u224_94, u224_95, u224_98, u224_101, u224_102, u224_105, u224_107, u224_108, u224_109, u224_110, u224_111, u224_112, u224_113, u224_116, u224_117, u224_120, u224_123, u224_125, u224_126, u224_128, u224_129, u224_133, u224_135, u224_138, u224_140, u224_142, u224_143, u224_144, u224_145, u224_148, u224_149, u224_151, u224_152, u224_153, u224_156, u224_157, u224_160, u224_163, u224_166, u224_169, u224_170, u224_171, u224_172, u224_173, u224_174, u224_175, u224_176, u224_178, u224_179, u224_182, u224_183, u224_186, u224_189, u224_192, u224_194, u224_196, u224_197, u224_200, u224_202, u224_204, u224_207, u224_209, u224_212, u224_214, u224_216, u224_219, u224_223, u224_224, u224_226, u224_229, u224_231, hm2', n8, mj_cc_v, mj_cc_n, List.all_cons, List.all_nil, mj_noMk_int, mj_noMk_long, mj_noMk_ref, mj_noMk_junk, List.length_nil, List.length_cons, Nat.zero_le, Nat.reduceLeDiff, Nat.reduceAdd, Bool.and_true, Bool.true_and, Bool.and_self, Nat.reduceBNe, true_or, or_true, true_and, and_true, mj_z0, mj_z1, mj_z01, decide_true, decide_false, Bool.true_and, Bool.false_and, Bool.and_true, Bool.and_false, Bool.true_or, Bool.false_or, Bool.or_false, Bool.or_true, Bool.not_true, Bool.not_false, Bool.and_self, Bool.or_self, if_true, if_false, Bool.true_eq_false, Bool.false_eq_true, not_true, not_false_eq_true]
end
