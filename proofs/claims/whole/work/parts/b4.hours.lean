section
variable {X : mj_X} {d : Nat} {σ τ ρ : mj_St}
-- what lies below the standings alone matters
def mj_B51 (τ σ : mj_St) : Prop := ∀ c, c < 51 → τ.1 c = σ.1 c
theorem mj_stg_B (h : mj_B51 τ σ) : mj_stg τ = mj_stg σ := mj_stg_o (h 20 (by decide)) (h 21 (by decide)) (h 28 (by decide)) (by rw [h 46 (by decide)]) (by rw [h 46 (by decide)])
theorem mj_lah_B (h : mj_B51 τ σ) : mj_lah τ = mj_lah σ := by
  funext p k
  unfold mj_lah mj_agn mj_tdo
  rw [h 15 (by decide), h 47 (by decide), h 24 (by decide), h 26 (by decide), h 16 (by decide)]
theorem mj_laf_B (h : mj_B51 τ σ) : mj_laf τ = mj_laf σ := by
  funext p k
  unfold mj_laf mj_enp mj_agn mj_tdo
  rw [h 15 (by decide), h 47 (by decide), h 24 (by decide), h 26 (by decide), h 16 (by decide), h 17 (by decide)]
theorem mj_frs_B (h : mj_B51 τ σ) : mj_frs τ = mj_frs σ := by
  have e1 : mj_fused τ = mj_fused σ := by
    funext i u
    unfold mj_fused
    rw [h 20 (by decide)]
  funext k N
  unfold mj_frs
  rw [h 28 (by decide), e1]
theorem mj_clo_B (h : mj_B51 τ σ) : mj_clo τ = mj_clo σ := by
  have e1 : mj_clc τ = mj_clc σ := by
    funext i p
    unfold mj_clc
    rw [h 15 (by decide), h 18 (by decide), h 47 (by decide)]
  have e2 : mj_clp τ = mj_clp σ := by
    funext i u n
    unfold mj_clp
    rw [e1]
  have e3 : mj_cls τ = mj_cls σ := by
    funext g k i
    unfold mj_cls
    rw [h 46 (by decide), h 15 (by decide), h 16 (by decide), h 17 (by decide), mj_stg_B h]
  funext g k n N
  unfold mj_clo
  rw [e3, e2]
theorem mj_stv_B (h : mj_B51 τ σ) : mj_stv τ = mj_stv σ := by
  have e1 : mj_stb τ = mj_stb σ := by
    funext g k cl p
    unfold mj_stb
    rw [h 47 (by decide), h 16 (by decide), h 17 (by decide), h 48 (by decide), mj_stg_B h]
  have e2 : mj_sti τ = mj_sti σ := by
    funext g k cl p u
    unfold mj_sti
    rw [e1, h 47 (by decide), mj_stg_B h]
  funext g k cl n
  unfold mj_stv
  rw [e2]
def mj_sw (σ : mj_St) (N n gr g h : Nat) : Int32 := (if gr = 8 then mj_frs σ (nI h) N <<< ((18 : Int32) &&& 31) else (0 : Int32)) ||| mj_stv σ (nI g) (nI h) (mj_clo σ (nI g) (nI h) n N) n
/-- what the hours have got so far -/
def mj_Th (σ : mj_St) (N n w gr a h g : Nat) : mj_St := (fun c i => if c = 52 ∧ w ≤ i % 12 ∧ i % 12 < a ∧ i / 12 < n then mj_lah σ (i / 12) (i % 12) else if c = 53 ∧ w ≤ i % 12 ∧ i % 12 < a ∧ i / 12 < n then mj_laf σ (i / 12) (i % 12) else if c = 51 ∧ w ≤ i % 12 ∧ (i % 12 < h ∨ i % 12 = h ∧ i / 12 < g) ∧ i / 12 < gr then mj_sw σ N n gr (i / 12) (i % 12) else σ.1 c i, σ.2)
theorem mj_Th_o {N n w gr a h g c : Nat} (h1 : c ≠ 51) (h2 : c ≠ 52) (h3 : c ≠ 53) : (mj_Th σ N n w gr a h g).1 c = σ.1 c := by
  funext i
  simp [mj_Th, h1, h2, h3]
theorem mj_Th_B {N n w gr a h g : Nat} : mj_B51 (mj_Th σ N n w gr a h g) σ := fun c hc => mj_Th_o (by omega) (by omega) (by omega)
theorem mj_Th_0 {N n w gr : Nat} : mj_Th σ N n w gr w w 0 = σ := by
  refine Prod.ext ?_ rfl
  funext c i
  show (if _ then _ else _) = _
  rw [if_neg (by omega), if_neg (by omega), if_neg (by omega)]
theorem mj_Th_fl {N n w gr h : Nat} (hw : w ≤ h) : mj_flS (mj_Th σ N n w gr h h 0) h n = mj_Th σ N n w gr (h + 1) h 0 := by
  refine Prod.ext ?_ rfl
  funext c i
  show (if c = 52 ∧ i % 12 = h ∧ i / 12 < n then mj_lah (mj_Th σ N n w gr h h 0) (i / 12) h else if c = 53 ∧ i % 12 = h ∧ i / 12 < n then mj_laf (mj_Th σ N n w gr h h 0) (i / 12) h else (mj_Th σ N n w gr h h 0).1 c i) = (mj_Th σ N n w gr (h + 1) h 0).1 c i
  rw [mj_lah_B mj_Th_B, mj_laf_B mj_Th_B]
  simp only [mj_Th]
  by_cases c1 : i % 12 = h
  · by_cases c2 : i / 12 < n
    · have a1 : ¬ i % 12 < h := by omega
      have a2 : i % 12 < h + 1 := by omega
      have a3 : w ≤ i % 12 := by omega
      simp only [c1, c2, a1, a2, a3, and_true, true_and, and_false, false_and, if_false]
      by_cases q1 : c = 52
      · rw [if_pos q1, if_pos ⟨q1, by omega, by omega⟩]
      · by_cases q2 : c = 53
        · rw [if_neg q1, if_pos q2, if_neg (fun z => q1 z.1), if_pos ⟨q2, by omega, by omega⟩]
        · simp [q1, q2]
    · simp only [c2, and_false, if_false]
  · have a2 : (i % 12 < h + 1) = (i % 12 < h) := by apply propext; omega
    simp only [c1, a2, false_and, and_false, if_false]
theorem mj_Th_s {N n w gr h g : Nat} (hw : w ≤ h) (hh : h < 12) (hg : g < gr) : mj_setI (mj_Th σ N n w gr (h + 1) h g) 51 (g * 12 + h) (mj_sw σ N n gr g h) = mj_Th σ N n w gr (h + 1) h (g + 1) := by
  refine Prod.ext ?_ rfl
  funext c i
  simp only [mj_setI, mj_Th]
  by_cases c1 : c = 51
  · subst c1
    by_cases c2 : i = g * 12 + h
    · have a1 : i % 12 = h := by omega
      have a2 : i / 12 = g := by omega
      rw [if_pos ⟨rfl, c2⟩, if_neg (by omega), if_neg (by omega), if_pos ⟨rfl, by omega, by omega, by omega⟩, a1, a2]
    · have e : (i % 12 < h ∨ i % 12 = h ∧ i / 12 < g + 1) = (i % 12 < h ∨ i % 12 = h ∧ i / 12 < g) := by apply propext; omega
      rw [if_neg (fun z => c2 z.2)]
      simp only [e]
  · rw [if_neg (fun z => c1 z.1)]
    simp only [c1, false_and, if_false]
theorem mj_Th_n {N n w gr h : Nat} : mj_Th σ N n w gr (h + 1) h gr = mj_Th σ N n w gr (h + 1) (h + 1) 0 := by
  refine Prod.ext ?_ rfl
  funext c i
  simp only [mj_Th]
  by_cases c1 : c = 51
  · subst c1
    have e : ((i % 12 < h ∨ i % 12 = h ∧ i / 12 < gr) ∧ i / 12 < gr) = ((i % 12 < h + 1 ∨ i % 12 = h + 1 ∧ i / 12 < 0) ∧ i / 12 < gr) := by apply propext; omega
    simp only [e]
  · simp only [c1, false_and, if_false]
theorem mj_prep_loop {N w gr n : Nat} {x2 x3 x4 : Int32} (hd : mj_pd σ N w gr) (hn : mj_pn σ n) (hl : σ.2.2.2.1 ≤ 20000) : ∀ (j h : Nat) (v6 v7 : Value), mj_noMk v6 = true → mj_noMk v7 = true → w ≤ h → h + j = 12 → mj_Runs X (mj_ev X (d + 4)) 3 none prog_5_method_2_code (156, [.ref 46, .ref 14, .int x2, .int x3, .int x4, .int (nI h), v6, v7], [], mj_Th σ N n w gr h h 0) (none, mj_mkR (mj_Th σ N n w gr 12 12 0) w gr n) := by
  have pd : ∀ a h g, mj_pd (mj_Th σ N n w gr a h g) N w gr := fun a h g => mj_pd_o (σ := σ) rfl (mj_Th_B 14 (by decide)) (by rw [mj_Th_B 46 (by decide)]) (mj_Th_B 20 (by decide)) hd
  have pn : ∀ a h g, mj_pn (mj_Th σ N n w gr a h g) n := fun a h g => mj_pn_o (σ := σ) (by rw [mj_Th_B 46 (by decide)]) (mj_Th_B 47 (by decide)) hn
  have d6 := hd.2.2.2.2.2.1
  have d7 := hd.2.2.2.2.2.2.1
  have e46 : ∀ a h g, (mj_Th σ N n w gr a h g).1 46 = σ.1 46 := fun a h g => mj_Th_B 46 (by decide)
  have d1 := hd.1
  have oo : ∀ a h g, (mj_Th σ N n w gr a h g).2 = σ.2 := fun a h g => rfl
  intro j
  induction j with
  | zero =>
    intro h v6 v7 m6 m7 hw hj
    have h12 : h = 12 := by omega
    subst h12
    have q : ¬ nI 12 < 12 := by decide
    have hm := sp_makeReady (X := X) (d := d) (pd 12 12 0) (pn 12 12 0) (by rw [oo]; exact hl)
    refine u55_156.mpr ?_
    simp only [u55_0, u55_1, u55_2, u55_5, u55_6, u55_7, u55_10, u55_11, u55_12, u55_13, u55_16, u55_18, u55_21, u55_22, u55_25, u55_26, u55_28, u55_31, u55_32, u55_33, u55_36, u55_37, u55_38, u55_41, u55_42, u55_43, u55_46, u55_47, u55_50, u55_51, u55_54, u55_57, u55_58, u55_61, u55_64, u55_65, u55_66, u55_69, u55_72, u55_73, u55_76, u55_77, u55_80, u55_81, u55_82, u55_85, u55_88, u55_89, u55_92, u55_93, u55_96, u55_97, u55_100, u55_101, u55_104, u55_105, u55_108, u55_109, u55_112, u55_115, u55_116, u55_119, u55_122, u55_124, u55_127, u55_128, u55_129, u55_130, u55_133, u55_136, u55_139, u55_140, u55_143, u55_144, u55_147, u55_148, u55_151, u55_154, u55_158, u55_160, u55_163, u55_164, u55_166, u55_169, u55_170, u55_173, u55_174, u55_177, u55_178, u55_180, u55_183, u55_185, u55_186, u55_189, u55_190, u55_192, u55_193, u55_197, u55_198, u55_201, u55_204, u55_205, u55_208, u55_210, u55_212, u55_213, u55_215, u55_216, u55_218, u55_219, u55_221, u55_223, u55_224, u55_226, u55_228, u55_231, u55_234, u55_235, u55_236, u55_239, u55_242, u55_245, u55_248, u55_249, u55_252, q, hm, m6, m7, mj_cc_v, mj_cc_n, List.all_cons, List.all_nil, mj_noMk_int, mj_noMk_long, mj_noMk_ref, mj_noMk_junk, List.length_nil, List.length_cons, Nat.zero_le, Nat.reduceLeDiff, Nat.reduceAdd, Bool.and_true, Bool.true_and, Bool.and_self, Nat.reduceBNe, true_or, or_true, true_and, and_true, mj_z0, mj_z1, mj_z01, decide_true, decide_false, Bool.true_and, Bool.false_and, Bool.and_true, Bool.and_false, Bool.true_or, Bool.false_or, Bool.or_false, Bool.or_true, Bool.not_true, Bool.not_false, Bool.and_self, Bool.or_self, if_true, if_false, Bool.true_eq_false, Bool.false_eq_true, not_true, not_false_eq_true]
  | succ j ih =>
    intro h v6 v7 m6 m7 hw hj
    have hh : h < 12 := by omega
    have q : nI h < 12 := nI_lt (b := 12) hh (by decide)
    have hfl := sp_fillLefts (X := X) (d := d + 1) (pd h h 0) (pn h h 0) hh
    rw [mj_Th_fl hw] at hfl
    have inner : ∀ (j g : Nat), g + j = gr → mj_Runs X (mj_ev X (d + 4)) 3 none prog_5_method_2_code (195, [.ref 46, .ref 14, .int x2, .int x3, .int x4, .int (nI h), .int (if gr = 8 then mj_frs σ (nI h) N <<< ((18 : Int32) &&& 31) else (0 : Int32)), .int (nI g)], [], mj_Th σ N n w gr (h + 1) h g) (none, mj_mkR (mj_Th σ N n w gr 12 12 0) w gr n) := by
      intro j
      induction j with
      | zero =>
        intro g hg
        have hg' : g = gr := by omega
        subst hg'
        have q2 : ¬ nI g < nI g := nI_nlt (Nat.le_refl _) (by omega)
        have hl := ih (h + 1) (.int (if g = 8 then mj_frs σ (nI h) N <<< ((18 : Int32) &&& 31) else (0 : Int32))) (.int (nI g)) rfl rfl (by omega) (by omega)
        rw [mj_Th_n]
        refine u55_195.mpr ?_
        simp only [u55_0, u55_1, u55_2, u55_5, u55_6, u55_7, u55_10, u55_11, u55_12, u55_13, u55_16, u55_18, u55_21, u55_22, u55_25, u55_26, u55_28, u55_31, u55_32, u55_33, u55_36, u55_37, u55_38, u55_41, u55_42, u55_43, u55_46, u55_47, u55_50, u55_51, u55_54, u55_57, u55_58, u55_61, u55_64, u55_65, u55_66, u55_69, u55_72, u55_73, u55_76, u55_77, u55_80, u55_81, u55_82, u55_85, u55_88, u55_89, u55_92, u55_93, u55_96, u55_97, u55_100, u55_101, u55_104, u55_105, u55_108, u55_109, u55_112, u55_115, u55_116, u55_119, u55_122, u55_124, u55_127, u55_128, u55_129, u55_130, u55_133, u55_136, u55_139, u55_140, u55_143, u55_144, u55_147, u55_148, u55_151, u55_154, u55_158, u55_160, u55_163, u55_164, u55_166, u55_169, u55_170, u55_173, u55_174, u55_177, u55_178, u55_180, u55_183, u55_185, u55_186, u55_189, u55_190, u55_192, u55_193, u55_197, u55_198, u55_201, u55_204, u55_205, u55_208, u55_210, u55_212, u55_213, u55_215, u55_216, u55_218, u55_219, u55_221, u55_223, u55_224, u55_226, u55_228, u55_231, u55_234, u55_235, u55_236, u55_239, u55_242, u55_245, u55_248, u55_249, u55_252, e46, d6, q2, nI_1, mj_cc_v, mj_cc_n, List.all_cons, List.all_nil, mj_noMk_int, mj_noMk_long, mj_noMk_ref, mj_noMk_junk, List.length_nil, List.length_cons, Nat.zero_le, Nat.reduceLeDiff, Nat.reduceAdd, Bool.and_true, Bool.true_and, Bool.and_self, Nat.reduceBNe, true_or, or_true, true_and, and_true, mj_z0, mj_z1, mj_z01, decide_true, decide_false, Bool.true_and, Bool.false_and, Bool.and_true, Bool.and_false, Bool.true_or, Bool.false_or, Bool.or_false, Bool.or_true, Bool.not_true, Bool.not_false, Bool.and_self, Bool.or_self, if_true, if_false, Bool.true_eq_false, Bool.false_eq_true, not_true, not_false_eq_true]
        exact hl
      | succ j ih2 =>
        intro g hg
        have q2 : nI g < nI gr := nI_lt (by omega) (by omega)
        have ek : nI g * 12 = nI (g * 12) := mj_nI_mul g 12
        have k96 : g * 12 + h < 96 := by omega
        have hcl := sp_closedPlaces (X := X) (d := d + 1) (g := nI g) (h := nI h) (pd (h + 1) h g) (pn (h + 1) h g)
        have hst := fun (cl : Int32) => sp_standingsIn (X := X) (d := d + 1) (g := nI g) (h := nI h) (cl := cl) (pd (h + 1) h g) (pn (h + 1) h g)
        rw [mj_clo_B mj_Th_B] at hcl
        rw [mj_stv_B mj_Th_B] at hst
        have hl := ih2 (g + 1) (by omega)
        rw [← mj_Th_s hw hh (by omega)] at hl
        unfold mj_sw at hl
        generalize (if gr = 8 then mj_frs σ (nI h) N <<< ((18 : Int32) &&& 31) else (0 : Int32)) = fr at *
        refine u55_195.mpr ?_
        simp only [u55_0, u55_1, u55_2, u55_5, u55_6, u55_7, u55_10, u55_11, u55_12, u55_13, u55_16, u55_18, u55_21, u55_22, u55_25, u55_26, u55_28, u55_31, u55_32, u55_33, u55_36, u55_37, u55_38, u55_41, u55_42, u55_43, u55_46, u55_47, u55_50, u55_51, u55_54, u55_57, u55_58, u55_61, u55_64, u55_65, u55_66, u55_69, u55_72, u55_73, u55_76, u55_77, u55_80, u55_81, u55_82, u55_85, u55_88, u55_89, u55_92, u55_93, u55_96, u55_97, u55_100, u55_101, u55_104, u55_105, u55_108, u55_109, u55_112, u55_115, u55_116, u55_119, u55_122, u55_124, u55_127, u55_128, u55_129, u55_130, u55_133, u55_136, u55_139, u55_140, u55_143, u55_144, u55_147, u55_148, u55_151, u55_154, u55_158, u55_160, u55_163, u55_164, u55_166, u55_169, u55_170, u55_173, u55_174, u55_177, u55_178, u55_180, u55_183, u55_185, u55_186, u55_189, u55_190, u55_192, u55_193, u55_197, u55_198, u55_201, u55_204, u55_205, u55_208, u55_210, u55_212, u55_213, u55_215, u55_216, u55_218, u55_219, u55_221, u55_223, u55_224, u55_226, u55_228, u55_231, u55_234, u55_235, u55_236, u55_239, u55_242, u55_245, u55_248, u55_249, u55_252, e46, d6, q2, ek, nI_add, hcl, hst, mj_one_int, mj_one_ref, mj_in_nI k96 (by decide), mj_nz9 k96 (by decide), nI_1, mj_cc_v, mj_cc_n, List.all_cons, List.all_nil, mj_noMk_int, mj_noMk_long, mj_noMk_ref, mj_noMk_junk, List.length_nil, List.length_cons, Nat.zero_le, Nat.reduceLeDiff, Nat.reduceAdd, Bool.and_true, Bool.true_and, Bool.and_self, Nat.reduceBNe, true_or, or_true, true_and, and_true, mj_z0, mj_z1, mj_z01, decide_true, decide_false, Bool.true_and, Bool.false_and, Bool.and_true, Bool.and_false, Bool.true_or, Bool.false_or, Bool.or_false, Bool.or_true, Bool.not_true, Bool.not_false, Bool.and_self, Bool.or_self, if_true, if_false, Bool.true_eq_false, Bool.false_eq_true, not_true, not_false_eq_true]
        exact hl
    have h0 := inner gr 0 (by omega)
    have n1 : (nI 1 : Int32) = 1 := rfl
    refine u55_156.mpr ?_
    rcases d7 with z | z
    · subst z
      have q3 : ¬ (1 : Int32) < 1 := by decide
      rw [if_neg (by decide)] at h0
      simp only [u55_0, u55_1, u55_2, u55_5, u55_6, u55_7, u55_10, u55_11, u55_12, u55_13, u55_16, u55_18, u55_21, u55_22, u55_25, u55_26, u55_28, u55_31, u55_32, u55_33, u55_36, u55_37, u55_38, u55_41, u55_42, u55_43, u55_46, u55_47, u55_50, u55_51, u55_54, u55_57, u55_58, u55_61, u55_64, u55_65, u55_66, u55_69, u55_72, u55_73, u55_76, u55_77, u55_80, u55_81, u55_82, u55_85, u55_88, u55_89, u55_92, u55_93, u55_96, u55_97, u55_100, u55_101, u55_104, u55_105, u55_108, u55_109, u55_112, u55_115, u55_116, u55_119, u55_122, u55_124, u55_127, u55_128, u55_129, u55_130, u55_133, u55_136, u55_139, u55_140, u55_143, u55_144, u55_147, u55_148, u55_151, u55_154, u55_158, u55_160, u55_163, u55_164, u55_166, u55_169, u55_170, u55_173, u55_174, u55_177, u55_178, u55_180, u55_183, u55_185, u55_186, u55_189, u55_190, u55_192, u55_193, u55_197, u55_198, u55_201, u55_204, u55_205, u55_208, u55_210, u55_212, u55_213, u55_215, u55_216, u55_218, u55_219, u55_221, u55_223, u55_224, u55_226, u55_228, u55_231, u55_234, u55_235, u55_236, u55_239, u55_242, u55_245, u55_248, u55_249, u55_252, q, hfl, e46, d6, n1, q3, m6, m7, mj_cc_v, mj_cc_n, List.all_cons, List.all_nil, mj_noMk_int, mj_noMk_long, mj_noMk_ref, mj_noMk_junk, List.length_nil, List.length_cons, Nat.zero_le, Nat.reduceLeDiff, Nat.reduceAdd, Bool.and_true, Bool.true_and, Bool.and_self, Nat.reduceBNe, true_or, or_true, true_and, and_true, mj_z0, mj_z1, mj_z01, decide_true, decide_false, Bool.true_and, Bool.false_and, Bool.and_true, Bool.and_false, Bool.true_or, Bool.false_or, Bool.or_false, Bool.or_true, Bool.not_true, Bool.not_false, Bool.and_self, Bool.or_self, if_true, if_false, Bool.true_eq_false, Bool.false_eq_true, not_true, not_false_eq_true]
      exact h0
    · subst z
      have q3 : (1 : Int32) < nI 8 := by decide
      have hfr := sp_freshForks (X := X) (d := d + 2) (h := nI h) (pd (h + 1) h 0)
      rw [mj_frs_B mj_Th_B] at hfr
      rw [if_pos rfl] at h0
      simp only [u55_0, u55_1, u55_2, u55_5, u55_6, u55_7, u55_10, u55_11, u55_12, u55_13, u55_16, u55_18, u55_21, u55_22, u55_25, u55_26, u55_28, u55_31, u55_32, u55_33, u55_36, u55_37, u55_38, u55_41, u55_42, u55_43, u55_46, u55_47, u55_50, u55_51, u55_54, u55_57, u55_58, u55_61, u55_64, u55_65, u55_66, u55_69, u55_72, u55_73, u55_76, u55_77, u55_80, u55_81, u55_82, u55_85, u55_88, u55_89, u55_92, u55_93, u55_96, u55_97, u55_100, u55_101, u55_104, u55_105, u55_108, u55_109, u55_112, u55_115, u55_116, u55_119, u55_122, u55_124, u55_127, u55_128, u55_129, u55_130, u55_133, u55_136, u55_139, u55_140, u55_143, u55_144, u55_147, u55_148, u55_151, u55_154, u55_158, u55_160, u55_163, u55_164, u55_166, u55_169, u55_170, u55_173, u55_174, u55_177, u55_178, u55_180, u55_183, u55_185, u55_186, u55_189, u55_190, u55_192, u55_193, u55_197, u55_198, u55_201, u55_204, u55_205, u55_208, u55_210, u55_212, u55_213, u55_215, u55_216, u55_218, u55_219, u55_221, u55_223, u55_224, u55_226, u55_228, u55_231, u55_234, u55_235, u55_236, u55_239, u55_242, u55_245, u55_248, u55_249, u55_252, q, hfl, e46, d6, q3, hfr, m6, m7, mj_cc_v, mj_cc_n, List.all_cons, List.all_nil, mj_noMk_int, mj_noMk_long, mj_noMk_ref, mj_noMk_junk, List.length_nil, List.length_cons, Nat.zero_le, Nat.reduceLeDiff, Nat.reduceAdd, Bool.and_true, Bool.true_and, Bool.and_self, Nat.reduceBNe, true_or, or_true, true_and, and_true, mj_z0, mj_z1, mj_z01, decide_true, decide_false, Bool.true_and, Bool.false_and, Bool.and_true, Bool.and_false, Bool.true_or, Bool.false_or, Bool.or_false, Bool.or_true, Bool.not_true, Bool.not_false, Bool.and_self, Bool.or_self, if_true, if_false, Bool.true_eq_false, Bool.false_eq_true, not_true, not_false_eq_true]
      exact h0
end
