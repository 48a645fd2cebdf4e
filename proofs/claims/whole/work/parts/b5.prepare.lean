section
variable {X : mj_X} {d : Nat} {σ τ ρ : mj_St}
/-- the deal of the class, as a search finds it -/
def mj_pc (σ : mj_St) (N w : Nat) : Prop := σ.1 14 14 = nI N ∧ N ≤ 9 ∧ σ.1 14 17 = nI w ∧ w ≤ 12 ∧ (∀ k, k < 9 → σ.1 20 k = -1 ∨ mj_inb (σ.1 20 k) 3 = true) ∧ ((List.range N).filter (fun i => mj_wk (σ.1 15 i))).length ≤ 6 ∧ (∀ i, i < N → mj_wk (σ.1 15 i) = true → ∃ l, l < 4 ∧ σ.1 25 i = nI l) ∧ σ.2.2.2.1 ≤ 20000
def mj_q1 (σ : mj_St) (set : Int32) (gr : Nat) (o : Int32) : mj_St := mj_setI (mj_setI (mj_setI (mj_setI (mj_setI (mj_setR σ 46 0 (some 14)) 46 1 set) 46 2 (nI gr)) 46 3 o) 46 9 (-1)) 46 10 0
theorem mj_q1_o {set o : Int32} {gr c : Nat} (h : c ≠ 46) : (mj_q1 σ set gr o).1 c = σ.1 c := by
  unfold mj_q1
  rw [mj_setI_ne _ _ _ h, mj_setI_ne _ _ _ h, mj_setI_ne _ _ _ h, mj_setI_ne _ _ _ h, mj_setI_ne _ _ _ h]
  rfl
def mj_tld (σ : mj_St) : Int32 := mj_it (fun f u => u ||| (if σ.1 14 17 < σ.1 28 f then (0 : Int32) else 1 <<< (nI f &&& 31))) 0 3
theorem mj_tld_o (h1 : τ.1 14 = σ.1 14) (h2 : τ.1 28 = σ.1 28) : mj_tld τ = mj_tld σ := by
  unfold mj_tld
  rw [h1, h2]
def mj_usd (σ : mj_St) (N : Nat) : Int32 := mj_it (mj_fused σ) 0 N
theorem mj_usd_o {N : Nat} (h : τ.1 20 = σ.1 20) : mj_usd τ N = mj_usd σ N := by
  have e1 : mj_fused τ = mj_fused σ := by
    funext i u
    unfold mj_fused
    rw [h]
  unfold mj_usd
  rw [e1]
def mj_sgr (σ : mj_St) (N gr : Nat) : Int32 := if gr = 8 then (σ.1 14 18 &&& mj_tld σ) &&& mj_usd σ N else 0
def mj_hp0 (σ : mj_St) (set : Int32) : Bool := decide (¬ σ.1 14 16 &&& set = 0)
def mj_q3 (σ : mj_St) (set : Int32) (gr : Nat) (o : Int32) (N : Nat) : mj_St := mj_setI (mj_setI (mj_q1 σ set gr o) 46 7 (mj_sgr σ N gr)) 46 4 (mj_z (mj_hp0 σ set))
theorem mj_q3_o {set o : Int32} {gr N c : Nat} (h : c ≠ 46) : (mj_q3 σ set gr o N).1 c = σ.1 c := by
  unfold mj_q3
  rw [mj_setI_ne _ _ _ h, mj_setI_ne _ _ _ h]
  exact mj_q1_o h
theorem mj_q3_pd {set o : Int32} {gr N w : Nat} (hc : mj_pc σ N w) (hg : gr = 1 ∨ gr = 8) : mj_pd (mj_q3 σ set gr o N) N w gr := by
  obtain ⟨c1, c2, c3, c4, c5, -⟩ := hc
  refine ⟨rfl, ?_, c2, ?_, c4, rfl, hg, ?_⟩
  · rw [mj_q3_o (by decide)]; exact c1
  · rw [mj_q3_o (by decide)]; exact c3
  · rw [mj_q3_o (by decide)]; exact c5
theorem mj_q3_len {set o : Int32} {gr N w : Nat} (hc : mj_pc σ N w) : (mj_plL (mj_q3 σ set gr o N) N).length ≤ 6 := by
  refine Nat.le_trans ?_ hc.2.2.2.2.2.1
  unfold mj_plL
  rw [← List.countP_eq_length_filter, ← List.countP_eq_length_filter]
  refine List.countP_mono_left (fun i _ h => ?_)
  unfold mj_plq at h
  rw [mj_q3_o (c := 15) (by decide)] at h
  simp only [Bool.and_eq_true] at h
  exact h.2.1
theorem mj_fpR_pn {N : Nat} (h9 : N ≤ 9) (hL : (mj_plL σ N).length ≤ 6) : mj_pn (mj_fpR σ N) (mj_plL σ N).length := by
  refine ⟨rfl, hL, fun p hp => ?_⟩
  show mj_inb (mj_nmf (σ.1 47) (mj_plL σ N) p) 9 = true
  unfold mj_nmf
  rw [if_pos hp, List.getD_eq_getElem?_getD, List.getElem?_eq_getElem hp]
  have := (mj_plL_lt (List.getElem_mem hp)).1
  exact mj_in_nI (show (mj_plL σ N)[p] < 9 by omega) (by decide)
def mj_q4 (σ : mj_St) (set : Int32) (gr : Nat) (o : Int32) (N : Nat) : mj_St := mj_fpR (mj_q3 σ set gr o N) N
def mj_qn (σ : mj_St) (set : Int32) (gr : Nat) (o : Int32) (N : Nat) : Nat := (mj_plL (mj_q3 σ set gr o N) N).length
def mj_q5 (σ : mj_St) (N n : Nat) : mj_St := mj_afS σ (mj_ring σ N) n n
def mj_q6 (σ : mj_St) (N n : Nat) : mj_St := mj_setI (mj_q5 σ N n) 46 8 (mj_sam (mj_q5 σ N n) n 22)
def mj_q7 (σ : mj_St) (N n : Nat) : mj_St := mj_dlS (mj_q6 σ N n) n
theorem mj_q7_o {N n c : Nat} (h1 : c ≠ 46) (h2 : c ≠ 48) (h3 : c ≠ 49) (h4 : c ≠ 50) : (mj_q7 σ N n).1 c = σ.1 c := by
  unfold mj_q7 mj_dlS
  rw [mj_cw_o h3, mj_cw_o h4]
  unfold mj_q6
  rw [mj_setI_ne _ _ _ h1]
  exact mj_afS_o h2
theorem mj_q7_46 {N n i : Nat} (h : i ≠ 8) : (mj_q7 σ N n).1 46 i = σ.1 46 i := by
  unfold mj_q7 mj_dlS
  rw [mj_cw_o (by decide), mj_cw_o (by decide)]
  unfold mj_q6
  rw [mj_setI_i h]
  unfold mj_q5
  rw [mj_afS_o (by decide)]
/-- a search that is ready -/
def mj_prS (σ : mj_St) (set : Int32) (gr : Nat) (o : Int32) (N w : Nat) : mj_St :=
  if mj_hp0 σ set = true ∨ w = 12 then mj_q4 σ set gr o N
  else mj_mkR (mj_Th (mj_q7 (mj_q4 σ set gr o N) N (mj_qn σ set gr o N)) N (mj_qn σ set gr o N) w gr 12 12 0) w gr (mj_qn σ set gr o N)
theorem sp_prepare {N w gr : Nat} {set gc o : Int32} (hX : mj_XS X) (hc : mj_pc σ N w) (hg : 1 < gc ∧ gr = 8 ∨ ¬ 1 < gc ∧ gr = 1) : mj_ev X (d + 5) 55 [.ref 46, .ref 14, .int set, .int gc, .int o] σ = some (none, mj_prS σ set gr o N w) := by
  have hgr : gr = 1 ∨ gr = 8 := by rcases hg with z | z; exact Or.inr z.2; exact Or.inl z.2
  have hc' := hc
  obtain ⟨c1, c2, c3, c4, c5, c6, c7, c8⟩ := hc
  have pd3 := mj_q3_pd (set := set) (o := o) hc' hgr
  have len3 := mj_q3_len (set := set) (o := o) (gr := gr) hc'
  have pn4 := mj_fpR_pn c2 len3
  -- from the places on
  have D : mj_Runs X (mj_ev X (d + 4)) 3 none prog_5_method_2_code (104, [.ref 46, .ref 14, .int set, .int gc, .int o, mj_junk, mj_junk, mj_junk], [], mj_q3 σ set gr o N) (none, mj_prS σ set gr o N w) := by
    have hfp := sp_findPlaces (X := X) (d := d + 1) pd3 len3 (fun i hi hw => by
      rw [mj_q3_o (c := 15) (by decide)] at hw
      rw [mj_q3_o (c := 25) (by decide)]
      exact c7 i hi hw)
    have e4 : (mj_q4 σ set gr o N).1 46 4 = mj_z (mj_hp0 σ set) := by
      show (mj_fpR (mj_q3 σ set gr o N) N).1 46 4 = _
      unfold mj_fpR
      rw [mj_fpS_46 (by decide) (by decide)]
      exact mj_setI_eq
    have e14 : ∀ c, c < 46 → (mj_q4 σ set gr o N).1 c = σ.1 c := fun c h => by
      show (mj_fpS _ _ _ _).1 c = _
      rw [mj_fpS_o (by omega) (by omega)]
      exact mj_q3_o (by omega)
    have e462 : (mj_q4 σ set gr o N).1 46 2 = nI gr := by
      show (mj_fpS _ _ _ _).1 46 2 = _
      rw [mj_fpS_46 (by decide) (by decide)]
      rfl
    have r4 : (mj_q4 σ set gr o N).2.2.1 46 0 = some 14 := rfl
    have pd4 : mj_pd (mj_q4 σ set gr o N) N w gr := ⟨r4, by rw [e14 14 (by decide)]; exact c1, c2, by rw [e14 14 (by decide)]; exact c3, c4, e462, hgr, by rw [e14 20 (by decide)]; exact c5⟩
    have eq4 : mj_fpR (mj_q3 σ set gr o N) N = mj_q4 σ set gr o N := rfl
    rw [eq4] at hfp pn4
    have en : (mj_plL (mj_q3 σ set gr o N) N).length = mj_qn σ set gr o N := rfl
    rw [en] at pn4
    have l4 : (mj_q4 σ set gr o N).2.2.2.1 ≤ 20000 := c8
    unfold mj_prS
    generalize mj_q4 σ set gr o N = s4 at *
    generalize mj_qn σ set gr o N = n at *
    refine u55_104.mpr ?_
    by_cases b1 : mj_hp0 σ set = true
    · rw [if_pos (Or.inl b1)]
      rw [b1, mj_zT] at e4
      simp only [u55_0, u55_1, u55_2, u55_5, u55_6, u55_7, u55_10, u55_11, u55_12, u55_13, u55_16, u55_18, u55_21, u55_22, u55_25, u55_26, u55_28, u55_31, u55_32, u55_33, u55_36, u55_37, u55_38, u55_41, u55_42, u55_43, u55_46, u55_47, u55_50, u55_51, u55_54, u55_57, u55_58, u55_61, u55_64, u55_65, u55_66, u55_69, u55_72, u55_73, u55_76, u55_77, u55_80, u55_81, u55_82, u55_85, u55_88, u55_89, u55_92, u55_93, u55_96, u55_97, u55_100, u55_101, u55_105, u55_108, u55_109, u55_112, u55_115, u55_116, u55_119, u55_122, u55_124, u55_127, u55_128, u55_129, u55_130, u55_133, u55_136, u55_139, u55_140, u55_143, u55_144, u55_147, u55_148, u55_151, u55_154, u55_158, u55_160, u55_163, u55_164, u55_166, u55_169, u55_170, u55_173, u55_174, u55_177, u55_178, u55_180, u55_183, u55_185, u55_186, u55_189, u55_190, u55_192, u55_193, u55_197, u55_198, u55_201, u55_204, u55_205, u55_208, u55_210, u55_212, u55_213, u55_215, u55_216, u55_218, u55_219, u55_221, u55_223, u55_224, u55_226, u55_228, u55_231, u55_234, u55_235, u55_236, u55_239, u55_242, u55_245, u55_248, u55_249, u55_252, hfp, e4, mj_n10, mj_cc_v, mj_cc_n, List.all_cons, List.all_nil, mj_noMk_int, mj_noMk_long, mj_noMk_ref, mj_noMk_junk, List.length_nil, List.length_cons, Nat.zero_le, Nat.reduceLeDiff, Nat.reduceAdd, Bool.and_true, Bool.true_and, Bool.and_self, Nat.reduceBNe, true_or, or_true, true_and, and_true, mj_z0, mj_z1, mj_z01, decide_true, decide_false, Bool.true_and, Bool.false_and, Bool.and_true, Bool.and_false, Bool.true_or, Bool.false_or, Bool.or_false, Bool.or_true, Bool.not_true, Bool.not_false, Bool.and_self, Bool.or_self, if_true, if_false, Bool.true_eq_false, Bool.false_eq_true, not_true, not_false_eq_true]
    · have b1' : mj_hp0 σ set = false := by cases h : mj_hp0 σ set; rfl; exact absurd h b1
      rw [b1', mj_zF] at e4
      by_cases b2 : w = 12
      · rw [if_pos (Or.inr b2)]
        have q : ¬ nI w < 12 := by rw [b2]; decide
        simp only [u55_0, u55_1, u55_2, u55_5, u55_6, u55_7, u55_10, u55_11, u55_12, u55_13, u55_16, u55_18, u55_21, u55_22, u55_25, u55_26, u55_28, u55_31, u55_32, u55_33, u55_36, u55_37, u55_38, u55_41, u55_42, u55_43, u55_46, u55_47, u55_50, u55_51, u55_54, u55_57, u55_58, u55_61, u55_64, u55_65, u55_66, u55_69, u55_72, u55_73, u55_76, u55_77, u55_80, u55_81, u55_82, u55_85, u55_88, u55_89, u55_92, u55_93, u55_96, u55_97, u55_100, u55_101, u55_105, u55_108, u55_109, u55_112, u55_115, u55_116, u55_119, u55_122, u55_124, u55_127, u55_128, u55_129, u55_130, u55_133, u55_136, u55_139, u55_140, u55_143, u55_144, u55_147, u55_148, u55_151, u55_154, u55_158, u55_160, u55_163, u55_164, u55_166, u55_169, u55_170, u55_173, u55_174, u55_177, u55_178, u55_180, u55_183, u55_185, u55_186, u55_189, u55_190, u55_192, u55_193, u55_197, u55_198, u55_201, u55_204, u55_205, u55_208, u55_210, u55_212, u55_213, u55_215, u55_216, u55_218, u55_219, u55_221, u55_223, u55_224, u55_226, u55_228, u55_231, u55_234, u55_235, u55_236, u55_239, u55_242, u55_245, u55_248, u55_249, u55_252, hfp, e4, r4, e14 14 (by decide), c3, q, mj_rf_some, mj_rf14, mj_cc_v, mj_cc_n, List.all_cons, List.all_nil, mj_noMk_int, mj_noMk_long, mj_noMk_ref, mj_noMk_junk, List.length_nil, List.length_cons, Nat.zero_le, Nat.reduceLeDiff, Nat.reduceAdd, Bool.and_true, Bool.true_and, Bool.and_self, Nat.reduceBNe, true_or, or_true, true_and, and_true, mj_z0, mj_z1, mj_z01, decide_true, decide_false, Bool.true_and, Bool.false_and, Bool.and_true, Bool.and_false, Bool.true_or, Bool.false_or, Bool.or_false, Bool.or_true, Bool.not_true, Bool.not_false, Bool.and_self, Bool.or_self, if_true, if_false, Bool.true_eq_false, Bool.false_eq_true, not_true, not_false_eq_true]
      · rw [if_neg (by rw [b1']; rintro (z | z); exact absurd z (by decide); exact b2 z)]
        have q : nI w < 12 := nI_lt (b := 12) (by omega) (by decide)
        have hrg := sp_ringOnes (X := X) (d := d + 1) (σ := s4) pd4.2.1 c2
        have haf := sp_findAfters (X := X) (d := d + 2) (ring := mj_ring s4 N) pd4 pn4
        have eq5 : mj_afS s4 (mj_ring s4 N) n n = mj_q5 s4 N n := rfl
        rw [eq5] at haf
        have pd5 : mj_pd (mj_q5 s4 N n) N w gr := mj_pd_o (σ := s4) rfl (mj_afS_o (by decide)) (by show (mj_afS _ _ _ _).1 46 2 = _; rw [mj_afS_o (by decide)]) (mj_afS_o (by decide)) pd4
        have pn5 : mj_pn (mj_q5 s4 N n) n := mj_pn_o (σ := s4) (by show (mj_afS _ _ _ _).1 46 5 = _; rw [mj_afS_o (by decide)]) (mj_afS_o (by decide)) pn4
        have hst := sp_findSameThings (X := X) (d := d + 2) hX pd5 pn5
        have eq6 : mj_setI (mj_q5 s4 N n) 46 8 (mj_sam (mj_q5 s4 N n) n 22) = mj_q6 s4 N n := rfl
        rw [eq6] at hst
        have pd6 : mj_pd (mj_q6 s4 N n) N w gr := mj_pd_o (σ := mj_q5 s4 N n) rfl (mj_setI_ne _ _ _ (by decide)) (mj_setI_i (by decide)) (mj_setI_ne _ _ _ (by decide)) pd5
        have pn6 : mj_pn (mj_q6 s4 N n) n := mj_pn_o (σ := mj_q5 s4 N n) (mj_setI_i (by decide)) (mj_setI_ne _ _ _ (by decide)) pn5
        have hdl := sp_findDeadlines (X := X) (d := d + 3) pd6 pn6
        have eq7 : mj_dlS (mj_q6 s4 N n) n = mj_q7 s4 N n := rfl
        rw [eq7] at hdl
        have pd7 : mj_pd (mj_q7 s4 N n) N w gr := mj_pd_o (σ := s4) rfl (mj_q7_o (by decide) (by decide) (by decide) (by decide)) (mj_q7_46 (by decide)) (mj_q7_o (by decide) (by decide) (by decide) (by decide)) pd4
        have pn7 : mj_pn (mj_q7 s4 N n) n := mj_pn_o (σ := s4) (mj_q7_46 (by decide)) (mj_q7_o (by decide) (by decide) (by decide) (by decide)) pn4
        have hlp := mj_prep_loop (X := X) (d := d) (x2 := set) (x3 := gc) (x4 := o) pd7 pn7 l4 (12 - w) w mj_junk mj_junk rfl rfl (Nat.le_refl _) (by omega)
        rw [mj_Th_0] at hlp
        have o7 : (mj_q7 s4 N n).1 14 17 = nI w := pd7.2.2.2.1
        have r5 : (mj_q5 s4 N n).2 = s4.2 := rfl
        have r6 : (mj_q6 s4 N n).2 = s4.2 := rfl
        have r7 : (mj_q7 s4 N n).2 = s4.2 := rfl
        simp only [u55_0, u55_1, u55_2, u55_5, u55_6, u55_7, u55_10, u55_11, u55_12, u55_13, u55_16, u55_18, u55_21, u55_22, u55_25, u55_26, u55_28, u55_31, u55_32, u55_33, u55_36, u55_37, u55_38, u55_41, u55_42, u55_43, u55_46, u55_47, u55_50, u55_51, u55_54, u55_57, u55_58, u55_61, u55_64, u55_65, u55_66, u55_69, u55_72, u55_73, u55_76, u55_77, u55_80, u55_81, u55_82, u55_85, u55_88, u55_89, u55_92, u55_93, u55_96, u55_97, u55_100, u55_101, u55_105, u55_108, u55_109, u55_112, u55_115, u55_116, u55_119, u55_122, u55_124, u55_127, u55_128, u55_129, u55_130, u55_133, u55_136, u55_139, u55_140, u55_143, u55_144, u55_147, u55_148, u55_151, u55_154, u55_158, u55_160, u55_163, u55_164, u55_166, u55_169, u55_170, u55_173, u55_174, u55_177, u55_178, u55_180, u55_183, u55_185, u55_186, u55_189, u55_190, u55_192, u55_193, u55_197, u55_198, u55_201, u55_204, u55_205, u55_208, u55_210, u55_212, u55_213, u55_215, u55_216, u55_218, u55_219, u55_221, u55_223, u55_224, u55_226, u55_228, u55_231, u55_234, u55_235, u55_236, u55_239, u55_242, u55_245, u55_248, u55_249, u55_252, hfp, e4, r4, e14 14 (by decide), c3, q, hrg, haf, hst, hdl, o7, r5, r6, r7, mj_rf_some, mj_rf14, mj_cc_v, mj_cc_n, List.all_cons, List.all_nil, mj_noMk_int, mj_noMk_long, mj_noMk_ref, mj_noMk_junk, List.length_nil, List.length_cons, Nat.zero_le, Nat.reduceLeDiff, Nat.reduceAdd, Bool.and_true, Bool.true_and, Bool.and_self, Nat.reduceBNe, true_or, or_true, true_and, and_true, mj_z0, mj_z1, mj_z01, decide_true, decide_false, Bool.true_and, Bool.false_and, Bool.and_true, Bool.and_false, Bool.true_or, Bool.false_or, Bool.or_false, Bool.or_true, Bool.not_true, Bool.not_false, Bool.and_self, Bool.or_self, if_true, if_false, Bool.true_eq_false, Bool.false_eq_true, not_true, not_false_eq_true]
        exact hlp
  -- whether all is lost
  have C : mj_Runs X (mj_ev X (d + 4)) 3 none prog_5_method_2_code (80, [.ref 46, .ref 14, .int set, .int gc, .int o, mj_junk, mj_junk, mj_junk], [], mj_setI (mj_q1 σ set gr o) 46 7 (mj_sgr σ N gr)) (none, mj_prS σ set gr o N w) := by
    have r1 : (mj_setI (mj_q1 σ set gr o) 46 7 (mj_sgr σ N gr)).2.2.1 46 0 = some 14 := rfl
    have r2 : (mj_setI (mj_q1 σ set gr o) 46 7 (mj_sgr σ N gr)).1 14 16 = σ.1 14 16 := rfl
    have r3 : (mj_setI (mj_q1 σ set gr o) 46 7 (mj_sgr σ N gr)).1 46 1 = set := rfl
    have eS : mj_setI (mj_setI (mj_q1 σ set gr o) 46 7 (mj_sgr σ N gr)) 46 4 (mj_z (mj_hp0 σ set)) = mj_q3 σ set gr o N := rfl
    generalize mj_setI (mj_q1 σ set gr o) 46 7 (mj_sgr σ N gr) = s2 at *
    unfold mj_hp0 at eS
    refine u55_80.mpr ?_
    by_cases b : σ.1 14 16 &&& set = 0
    · rw [decide_eq_false (fun z => z b), mj_zF] at eS
      simp only [u55_0, u55_1, u55_2, u55_5, u55_6, u55_7, u55_10, u55_11, u55_12, u55_13, u55_16, u55_18, u55_21, u55_22, u55_25, u55_26, u55_28, u55_31, u55_32, u55_33, u55_36, u55_37, u55_38, u55_41, u55_42, u55_43, u55_46, u55_47, u55_50, u55_51, u55_54, u55_57, u55_58, u55_61, u55_64, u55_65, u55_66, u55_69, u55_72, u55_73, u55_76, u55_77, u55_81, u55_82, u55_85, u55_88, u55_89, u55_92, u55_93, u55_96, u55_97, u55_100, u55_101, u55_105, u55_108, u55_109, u55_112, u55_115, u55_116, u55_119, u55_122, u55_124, u55_127, u55_128, u55_129, u55_130, u55_133, u55_136, u55_139, u55_140, u55_143, u55_144, u55_147, u55_148, u55_151, u55_154, u55_158, u55_160, u55_163, u55_164, u55_166, u55_169, u55_170, u55_173, u55_174, u55_177, u55_178, u55_180, u55_183, u55_185, u55_186, u55_189, u55_190, u55_192, u55_193, u55_197, u55_198, u55_201, u55_204, u55_205, u55_208, u55_210, u55_212, u55_213, u55_215, u55_216, u55_218, u55_219, u55_221, u55_223, u55_224, u55_226, u55_228, u55_231, u55_234, u55_235, u55_236, u55_239, u55_242, u55_245, u55_248, u55_249, u55_252, r1, r2, r3, mj_rf_some, mj_rf14, eq_true b, eS, mj_cc_v, mj_cc_n, List.all_cons, List.all_nil, mj_noMk_int, mj_noMk_long, mj_noMk_ref, mj_noMk_junk, List.length_nil, List.length_cons, Nat.zero_le, Nat.reduceLeDiff, Nat.reduceAdd, Bool.and_true, Bool.true_and, Bool.and_self, Nat.reduceBNe, true_or, or_true, true_and, and_true, mj_z0, mj_z1, mj_z01, decide_true, decide_false, Bool.true_and, Bool.false_and, Bool.and_true, Bool.and_false, Bool.true_or, Bool.false_or, Bool.or_false, Bool.or_true, Bool.not_true, Bool.not_false, Bool.and_self, Bool.or_self, if_true, if_false, Bool.true_eq_false, Bool.false_eq_true, not_true, not_false_eq_true]
      exact D
    · rw [decide_eq_true b, mj_zT] at eS
      simp only [u55_0, u55_1, u55_2, u55_5, u55_6, u55_7, u55_10, u55_11, u55_12, u55_13, u55_16, u55_18, u55_21, u55_22, u55_25, u55_26, u55_28, u55_31, u55_32, u55_33, u55_36, u55_37, u55_38, u55_41, u55_42, u55_43, u55_46, u55_47, u55_50, u55_51, u55_54, u55_57, u55_58, u55_61, u55_64, u55_65, u55_66, u55_69, u55_72, u55_73, u55_76, u55_77, u55_81, u55_82, u55_85, u55_88, u55_89, u55_92, u55_93, u55_96, u55_97, u55_100, u55_101, u55_105, u55_108, u55_109, u55_112, u55_115, u55_116, u55_119, u55_122, u55_124, u55_127, u55_128, u55_129, u55_130, u55_133, u55_136, u55_139, u55_140, u55_143, u55_144, u55_147, u55_148, u55_151, u55_154, u55_158, u55_160, u55_163, u55_164, u55_166, u55_169, u55_170, u55_173, u55_174, u55_177, u55_178, u55_180, u55_183, u55_185, u55_186, u55_189, u55_190, u55_192, u55_193, u55_197, u55_198, u55_201, u55_204, u55_205, u55_208, u55_210, u55_212, u55_213, u55_215, u55_216, u55_218, u55_219, u55_221, u55_223, u55_224, u55_226, u55_228, u55_231, u55_234, u55_235, u55_236, u55_239, u55_242, u55_245, u55_248, u55_249, u55_252, r1, r2, r3, mj_rf_some, mj_rf14, eq_false b, eS, mj_cc_v, mj_cc_n, List.all_cons, List.all_nil, mj_noMk_int, mj_noMk_long, mj_noMk_ref, mj_noMk_junk, List.length_nil, List.length_cons, Nat.zero_le, Nat.reduceLeDiff, Nat.reduceAdd, Bool.and_true, Bool.true_and, Bool.and_self, Nat.reduceBNe, true_or, or_true, true_and, and_true, mj_z0, mj_z1, mj_z01, decide_true, decide_false, Bool.true_and, Bool.false_and, Bool.and_true, Bool.and_false, Bool.true_or, Bool.false_or, Bool.or_false, Bool.or_true, Bool.not_true, Bool.not_false, Bool.and_self, Bool.or_self, if_true, if_false, Bool.true_eq_false, Bool.false_eq_true, not_true, not_false_eq_true]
      exact D
  -- where it starts
  have B : mj_Runs X (mj_ev X (d + 4)) 3 none prog_5_method_2_code (41, [.ref 46, .ref 14, .int set, .int gc, .int o, mj_junk, mj_junk, mj_junk], [], mj_q1 σ set gr o) (none, mj_prS σ set gr o N w) := by
    have r1 : (mj_q1 σ set gr o).2.2.1 46 0 = some 14 := rfl
    have r2 : (mj_q1 σ set gr o).1 14 = σ.1 14 := mj_q1_o (by decide)
    have r3 : (mj_q1 σ set gr o).1 46 2 = nI gr := rfl
    have ht : mj_ev X (d + 4) 56 [.ref 14] (mj_q1 σ set gr o) = some (some (.int (mj_tld σ)), mj_q1 σ set gr o) := by
      rw [← mj_tld_o (τ := mj_q1 σ set gr o) (σ := σ) (mj_q1_o (by decide)) (mj_q1_o (by decide))]
      exact sp_toldForks (d := d + 3)
    have hu : mj_ev X (d + 4) 57 [.ref 14] (mj_q1 σ set gr o) = some (some (.int (mj_usd σ N)), mj_q1 σ set gr o) := by
      rw [← mj_usd_o (τ := mj_q1 σ set gr o) (σ := σ) (mj_q1_o (by decide))]
      exact sp_forksInUse (d := d + 3) (by rw [r2]; exact c1) c2
    unfold mj_sgr at C
    generalize mj_q1 σ set gr o = s1 at *
    refine u55_41.mpr ?_
    rcases hgr with z | z
    · subst z
      have q : ¬ (1 : Int32) < nI 1 := by decide
      rw [if_neg (by decide)] at C
      simp only [u55_0, u55_1, u55_2, u55_5, u55_6, u55_7, u55_10, u55_11, u55_12, u55_13, u55_16, u55_18, u55_21, u55_22, u55_25, u55_26, u55_28, u55_31, u55_32, u55_33, u55_36, u55_37, u55_38, u55_42, u55_43, u55_46, u55_47, u55_50, u55_51, u55_54, u55_57, u55_58, u55_61, u55_64, u55_65, u55_66, u55_69, u55_72, u55_73, u55_76, u55_77, u55_81, u55_82, u55_85, u55_88, u55_89, u55_92, u55_93, u55_96, u55_97, u55_100, u55_101, u55_105, u55_108, u55_109, u55_112, u55_115, u55_116, u55_119, u55_122, u55_124, u55_127, u55_128, u55_129, u55_130, u55_133, u55_136, u55_139, u55_140, u55_143, u55_144, u55_147, u55_148, u55_151, u55_154, u55_158, u55_160, u55_163, u55_164, u55_166, u55_169, u55_170, u55_173, u55_174, u55_177, u55_178, u55_180, u55_183, u55_185, u55_186, u55_189, u55_190, u55_192, u55_193, u55_197, u55_198, u55_201, u55_204, u55_205, u55_208, u55_210, u55_212, u55_213, u55_215, u55_216, u55_218, u55_219, u55_221, u55_223, u55_224, u55_226, u55_228, u55_231, u55_234, u55_235, u55_236, u55_239, u55_242, u55_245, u55_248, u55_249, u55_252, r3, q, mj_cc_v, mj_cc_n, List.all_cons, List.all_nil, mj_noMk_int, mj_noMk_long, mj_noMk_ref, mj_noMk_junk, List.length_nil, List.length_cons, Nat.zero_le, Nat.reduceLeDiff, Nat.reduceAdd, Bool.and_true, Bool.true_and, Bool.and_self, Nat.reduceBNe, true_or, or_true, true_and, and_true, mj_z0, mj_z1, mj_z01, decide_true, decide_false, Bool.true_and, Bool.false_and, Bool.and_true, Bool.and_false, Bool.true_or, Bool.false_or, Bool.or_false, Bool.or_true, Bool.not_true, Bool.not_false, Bool.and_self, Bool.or_self, if_true, if_false, Bool.true_eq_false, Bool.false_eq_true, not_true, not_false_eq_true]
      exact C
    · subst z
      have q : (1 : Int32) < nI 8 := by decide
      rw [if_pos rfl] at C
      simp only [u55_0, u55_1, u55_2, u55_5, u55_6, u55_7, u55_10, u55_11, u55_12, u55_13, u55_16, u55_18, u55_21, u55_22, u55_25, u55_26, u55_28, u55_31, u55_32, u55_33, u55_36, u55_37, u55_38, u55_42, u55_43, u55_46, u55_47, u55_50, u55_51, u55_54, u55_57, u55_58, u55_61, u55_64, u55_65, u55_66, u55_69, u55_72, u55_73, u55_76, u55_77, u55_81, u55_82, u55_85, u55_88, u55_89, u55_92, u55_93, u55_96, u55_97, u55_100, u55_101, u55_105, u55_108, u55_109, u55_112, u55_115, u55_116, u55_119, u55_122, u55_124, u55_127, u55_128, u55_129, u55_130, u55_133, u55_136, u55_139, u55_140, u55_143, u55_144, u55_147, u55_148, u55_151, u55_154, u55_158, u55_160, u55_163, u55_164, u55_166, u55_169, u55_170, u55_173, u55_174, u55_177, u55_178, u55_180, u55_183, u55_185, u55_186, u55_189, u55_190, u55_192, u55_193, u55_197, u55_198, u55_201, u55_204, u55_205, u55_208, u55_210, u55_212, u55_213, u55_215, u55_216, u55_218, u55_219, u55_221, u55_223, u55_224, u55_226, u55_228, u55_231, u55_234, u55_235, u55_236, u55_239, u55_242, u55_245, u55_248, u55_249, u55_252, r1, r2, r3, q, ht, hu, mj_rf_some, mj_rf14, mj_cc_v, mj_cc_n, List.all_cons, List.all_nil, mj_noMk_int, mj_noMk_long, mj_noMk_ref, mj_noMk_junk, List.length_nil, List.length_cons, Nat.zero_le, Nat.reduceLeDiff, Nat.reduceAdd, Bool.and_true, Bool.true_and, Bool.and_self, Nat.reduceBNe, true_or, or_true, true_and, and_true, mj_z0, mj_z1, mj_z01, decide_true, decide_false, Bool.true_and, Bool.false_and, Bool.and_true, Bool.and_false, Bool.true_or, Bool.false_or, Bool.or_false, Bool.or_true, Bool.not_true, Bool.not_false, Bool.and_self, Bool.or_self, if_true, if_false, Bool.true_eq_false, Bool.false_eq_true, not_true, not_false_eq_true]
      exact C
  refine st55 ?_
  unfold mj_q1 at B
  rcases hg with z | z
  · obtain ⟨z1, z2⟩ := z
    subst z2
    have n999 : ¬ 14 = 999 := by decide
    simp only [u55_0, u55_1, u55_2, u55_5, u55_6, u55_7, u55_10, u55_11, u55_12, u55_13, u55_16, u55_18, u55_21, u55_22, u55_25, u55_26, u55_28, u55_31, u55_32, u55_33, u55_36, u55_37, u55_38, u55_42, u55_43, u55_46, u55_47, u55_50, u55_51, u55_54, u55_57, u55_58, u55_61, u55_64, u55_65, u55_66, u55_69, u55_72, u55_73, u55_76, u55_77, u55_81, u55_82, u55_85, u55_88, u55_89, u55_92, u55_93, u55_96, u55_97, u55_100, u55_101, u55_105, u55_108, u55_109, u55_112, u55_115, u55_116, u55_119, u55_122, u55_124, u55_127, u55_128, u55_129, u55_130, u55_133, u55_136, u55_139, u55_140, u55_143, u55_144, u55_147, u55_148, u55_151, u55_154, u55_158, u55_160, u55_163, u55_164, u55_166, u55_169, u55_170, u55_173, u55_174, u55_177, u55_178, u55_180, u55_183, u55_185, u55_186, u55_189, u55_190, u55_192, u55_193, u55_197, u55_198, u55_201, u55_204, u55_205, u55_208, u55_210, u55_212, u55_213, u55_215, u55_216, u55_218, u55_219, u55_221, u55_223, u55_224, u55_226, u55_228, u55_231, u55_234, u55_235, u55_236, u55_239, u55_242, u55_245, u55_248, u55_249, u55_252, n999, eq_true z1, mj_cc_v, mj_cc_n, List.all_cons, List.all_nil, mj_noMk_int, mj_noMk_long, mj_noMk_ref, mj_noMk_junk, List.length_nil, List.length_cons, Nat.zero_le, Nat.reduceLeDiff, Nat.reduceAdd, Bool.and_true, Bool.true_and, Bool.and_self, Nat.reduceBNe, true_or, or_true, true_and, and_true, mj_z0, mj_z1, mj_z01, decide_true, decide_false, Bool.true_and, Bool.false_and, Bool.and_true, Bool.and_false, Bool.true_or, Bool.false_or, Bool.or_false, Bool.or_true, Bool.not_true, Bool.not_false, Bool.and_self, Bool.or_self, if_true, if_false, Bool.true_eq_false, Bool.false_eq_true, not_true, not_false_eq_true]
    exact B
  · obtain ⟨z1, z2⟩ := z
    subst z2
    have n999 : ¬ 14 = 999 := by decide
    simp only [u55_0, u55_1, u55_2, u55_5, u55_6, u55_7, u55_10, u55_11, u55_12, u55_13, u55_16, u55_18, u55_21, u55_22, u55_25, u55_26, u55_28, u55_31, u55_32, u55_33, u55_36, u55_37, u55_38, u55_42, u55_43, u55_46, u55_47, u55_50, u55_51, u55_54, u55_57, u55_58, u55_61, u55_64, u55_65, u55_66, u55_69, u55_72, u55_73, u55_76, u55_77, u55_81, u55_82, u55_85, u55_88, u55_89, u55_92, u55_93, u55_96, u55_97, u55_100, u55_101, u55_105, u55_108, u55_109, u55_112, u55_115, u55_116, u55_119, u55_122, u55_124, u55_127, u55_128, u55_129, u55_130, u55_133, u55_136, u55_139, u55_140, u55_143, u55_144, u55_147, u55_148, u55_151, u55_154, u55_158, u55_160, u55_163, u55_164, u55_166, u55_169, u55_170, u55_173, u55_174, u55_177, u55_178, u55_180, u55_183, u55_185, u55_186, u55_189, u55_190, u55_192, u55_193, u55_197, u55_198, u55_201, u55_204, u55_205, u55_208, u55_210, u55_212, u55_213, u55_215, u55_216, u55_218, u55_219, u55_221, u55_223, u55_224, u55_226, u55_228, u55_231, u55_234, u55_235, u55_236, u55_239, u55_242, u55_245, u55_248, u55_249, u55_252, n999, eq_false z1, mj_cc_v, mj_cc_n, List.all_cons, List.all_nil, mj_noMk_int, mj_noMk_long, mj_noMk_ref, mj_noMk_junk, List.length_nil, List.length_cons, Nat.zero_le, Nat.reduceLeDiff, Nat.reduceAdd, Bool.and_true, Bool.true_and, Bool.and_self, Nat.reduceBNe, true_or, or_true, true_and, and_true, mj_z0, mj_z1, mj_z01, decide_true, decide_false, Bool.true_and, Bool.false_and, Bool.and_true, Bool.and_false, Bool.true_or, Bool.false_or, Bool.or_false, Bool.or_true, Bool.not_true, Bool.not_false, Bool.and_self, Bool.or_self, if_true, if_false, Bool.true_eq_false, Bool.false_eq_true, not_true, not_false_eq_true]
    exact B
end
