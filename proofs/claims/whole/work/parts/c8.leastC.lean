section
variable {X : mj_X} {d : Nat} {σ τ ρ : mj_St}
/-- what isKept says, whatever a search or a breaking left behind -/
def mj_KX (σ : mj_St) (N w : Nat) (K : Int32 → Nat → Bool) : Prop := ∀ τ, mj_FB σ τ → ∀ set o, o < 8 → mj_ckp τ set (nI o) N w = K set o
def mj_gd (σ : mj_St) (K : Int32 → Nat → Bool) (l : List Nat) (o t : Nat) : Bool := mj_bwh (σ.1 19) l (nI t) && K (mj_brs σ l (nI t)) o
def mj_sub (u t : Nat) : Prop := ∀ k, u.testBit k = true → t.testBit k = true
theorem mj_sub_rf {t : Nat} : mj_sub t t := fun _ h => h
theorem mj_sub_or {u t k : Nat} (h : mj_sub u t) : mj_sub u (t ||| 2 ^ k) := fun i q => by
  rw [Nat.testBit_or, h i q, Bool.true_or]
theorem mj_or_gt {t k : Nat} (h : t.testBit k = false) : t < t ||| 2 ^ k := by
  refine Nat.lt_of_le_of_ne Nat.left_le_or (fun e => ?_)
  have h1 : (t ||| 2 ^ k).testBit k = true := by
    rw [Nat.testBit_or, Nat.testBit_two_pow_self, Bool.or_true]
  rw [← e, h] at h1
  exact absurd h1 (by decide)
/-- what is marked as failing fails -/
def mj_FI (σ : mj_St) (K : Int32 → Nat → Bool) (l : List Nat) (o : Nat) (f : Nat → Int32) (j : Nat) : Prop := ∀ t, j ≤ t → t < 2 ^ l.length → ¬ f t = 0 → ∀ u, mj_sub u t → mj_gd σ K l o u = false
theorem mj_brs_FB {l : List Nat} {s : Int32} (F : mj_FB σ τ) : mj_brs τ l s = mj_brs σ l s := by
  unfold mj_brs mj_evC
  rw [F.1 14 (Or.inl (by decide))]
/-- the best of those that do -/
def mj_bst' (σ : mj_St) (K : Int32 → Nat → Bool) (l : List Nat) (c : Nat → Int32) (o j : Nat) (b : Int32) : Prop := (∃ t, t < 2 ^ l.length ∧ mj_gd σ K l o t = true ∧ mj_bpr l c (nI t) l.length = b) ∧ ∀ t, j ≤ t → t < 2 ^ l.length → mj_gd σ K l o t = true → ¬ mj_bpr l c (nI t) l.length < b
theorem sp_least2 {l : List Nat} {c : Nat → Int32} {N w o : Nat} {e base way : Int32} {K : Int32 → Nat → Bool} (hX : mj_XS X) (hc : mj_pc σ N w) (he : mj_pe σ) (hK : mj_KX σ N w K) (ho : o < 8) (hl9 : l.length ≤ 9)
    (hM : ∀ t u, t < 2 ^ l.length → mj_sub u t → mj_bwh (σ.1 19) l (nI t) = true → mj_gd σ K l o u = true → mj_gd σ K l o t = true) : ∀ (j : Nat) (b : Int32) (τ : mj_St), j ≤ 2 ^ l.length → mj_FB σ τ → mj_Lb τ l c → mj_FI σ K l o (τ.1 58) j → mj_bst' σ K l c o j b →
    ∃ b' ρ, mj_FB σ ρ ∧ mj_bst' σ K l c o 0 b' ∧ ∀ d, mj_Runs X (mj_ev X (d + 41)) 0 (some .int) prog_2_method_2_code (101, [.ref 55, .ref 14, .ref 46, .int (nI o), .int e, .int base, .int (nI (2 ^ l.length - 1)), .int way, .int b, .int (nI j - 1)], [], τ) (some (.int (base + b')), ρ) := by
  have p9 : 2 ^ l.length ≤ 512 := Nat.pow_le_pow_right (n := 2) (by decide) hl9
  have eneg : ∀ x : Int32, x + Int32.ofInt (-1) = x - 1 := fun x => by
    have e1 : Int32.ofInt (-1) = -1 := by decide
    rw [e1]
    grind
  intro j
  induction j with
  | zero =>
    intro b τ hj F L I B
    have q : (nI 0 - 1 : Int32) < 0 := by decide
    refine ⟨b, τ, F, B, fun d => ?_⟩
    refine u105_101.mpr ?_
    simp only [u105_0, u105_1, u105_2, u105_3, u105_5, u105_8, u105_10, u105_11, u105_12, u105_15, u105_16, u105_17, u105_18, u105_20, u105_22, u105_24, u105_25, u105_29, u105_30, u105_33, u105_36, u105_38, u105_39, u105_41, u105_42, u105_43, u105_44, u105_45, u105_47, u105_48, u105_49, u105_51, u105_54, u105_57, u105_58, u105_59, u105_60, u105_61, u105_63, u105_66, u105_69, u105_71, u105_73, u105_76, u105_79, u105_80, u105_82, u105_85, u105_87, u105_88, u105_91, u105_93, u105_94, u105_95, u105_97, u105_98, u105_99, u105_103, u105_106, u105_107, u105_110, u105_112, u105_113, u105_115, u105_117, u105_120, u105_121, u105_122, u105_125, u105_127, u105_128, u105_131, u105_132, u105_134, u105_137, u105_139, u105_142, u105_143, u105_144, u105_146, u105_149, u105_152, u105_155, u105_156, u105_157, u105_158, u105_159, u105_161, u105_164, u105_167, u105_168, u105_170, u105_173, u105_175, u105_178, u105_179, u105_182, u105_184, u105_185, u105_186, u105_189, u105_192, u105_194, u105_196, u105_197, q, mj_cc_v, mj_cc_n, List.all_cons, List.all_nil, mj_noMk_int, mj_noMk_long, mj_noMk_ref, mj_noMk_junk, List.length_nil, List.length_cons, Nat.zero_le, Nat.reduceLeDiff, Nat.reduceAdd, Bool.and_true, Bool.true_and, Bool.and_self, Nat.reduceBNe, true_or, or_true, true_and, and_true, mj_z0, mj_z1, mj_z01, decide_true, decide_false, Bool.true_and, Bool.false_and, Bool.and_true, Bool.and_false, Bool.true_or, Bool.false_or, Bool.or_false, Bool.or_true, Bool.not_true, Bool.not_false, Bool.and_self, Bool.or_self, if_true, if_false, Bool.true_eq_false, Bool.false_eq_true, not_true, not_false_eq_true]
  | succ j ih =>
    intro b τ hj F L I B
    have ej : nI (j + 1) - 1 = nI j := by
      show nI (j + 1) - nI 1 = nI j
      rw [mj_nI_sub (by omega), Nat.add_sub_cancel]
    rw [ej]
    have q : ¬ nI j < 0 := nI_nlt (b := 0) (by omega) (by omega)
    have jin : mj_inb (nI j) 512 = true := mj_in_nI (by omega) (by decide)
    have jcl : (nI j).toNatClampNeg = j := nI_clamp (by omega)
    have hIF : ∀ d, mj_ev X (d + 41) 112 [.ref 55, .int (nI j), .int (nI (2 ^ l.length - 1))] τ = some (some (.int (mj_z (mj_anyF (mj_bf1 (τ.1 58) j l.length) 0 l.length))), τ) := fun d => sp_isInFailing (d := d + 40) L (by omega)
    -- what the mark says
    have I1 : mj_FI σ K l o ((mj_setI τ 58 j (mj_z (mj_anyF (mj_bf1 (τ.1 58) j l.length) 0 l.length))).1 58) j := by
      intro t h1 h2 h3 u hu
      by_cases c : t = j
      · subst c
        rw [mj_setI_eq] at h3
        have h4 : mj_anyF (mj_bf1 (τ.1 58) t l.length) 0 l.length = true := by
          cases z : mj_anyF (mj_bf1 (τ.1 58) t l.length) 0 l.length
          · rw [z] at h3
            exact absurd rfl h3
          · rfl
        obtain ⟨k, -, hk, hb⟩ := (mj_anyF_iff _ _).mp h4
        unfold mj_bf1 at hb
        simp only [Bool.and_eq_true, Bool.not_eq_true', decide_eq_true_eq] at hb
        have hk2 : k < l.length := by omega
        exact I _ (mj_or_gt hb.1) (mj_or_lt h2 hk2) hb.2 u (mj_sub_or hu)
      · rw [mj_setI_i c] at h3
        exact I t (by omega) h2 h3 u hu
    generalize mj_anyF (mj_bf1 (τ.1 58) j l.length) 0 l.length = f at *
    have F1 : mj_FB σ (mj_setI τ 58 j (mj_z f)) := mj_FB_tr F (mj_FB_I (by decide) (by decide))
    have L1 : mj_Lb (mj_setI τ 58 j (mj_z f)) l c := mj_Lb_58 L
    have e58 : (mj_setI τ 58 j (mj_z f)).1 58 j = mj_z f := mj_setI_eq
    have pre : ∀ (d : Nat) r, mj_Runs X (mj_ev X (d + 41)) 0 (some .int) prog_2_method_2_code (128, [.ref 55, .ref 14, .ref 46, .int (nI o), .int e, .int base, .int (nI (2 ^ l.length - 1)), .int way, .int b, .int (nI j)], [.int (mj_z f)], mj_setI τ 58 j (mj_z f)) r → mj_Runs X (mj_ev X (d + 41)) 0 (some .int) prog_2_method_2_code (101, [.ref 55, .ref 14, .ref 46, .int (nI o), .int e, .int base, .int (nI (2 ^ l.length - 1)), .int way, .int b, .int (nI j)], [], τ) r := by
      intro d r hr
      have hIFd := hIF d
      refine u105_101.mpr ?_
      simp only [u105_0, u105_1, u105_2, u105_3, u105_5, u105_8, u105_10, u105_11, u105_12, u105_15, u105_16, u105_17, u105_18, u105_20, u105_22, u105_24, u105_25, u105_29, u105_30, u105_33, u105_36, u105_38, u105_39, u105_41, u105_42, u105_43, u105_44, u105_45, u105_47, u105_48, u105_49, u105_51, u105_54, u105_57, u105_58, u105_59, u105_60, u105_61, u105_63, u105_66, u105_69, u105_71, u105_73, u105_76, u105_79, u105_80, u105_82, u105_85, u105_87, u105_88, u105_91, u105_93, u105_94, u105_95, u105_97, u105_98, u105_99, u105_103, u105_106, u105_107, u105_110, u105_112, u105_113, u105_115, u105_117, u105_120, u105_121, u105_122, u105_125, u105_127, u105_131, u105_132, u105_134, u105_137, u105_139, u105_142, u105_143, u105_144, u105_146, u105_149, u105_152, u105_155, u105_156, u105_157, u105_158, u105_159, u105_161, u105_164, u105_167, u105_168, u105_170, u105_173, u105_175, u105_178, u105_179, u105_182, u105_184, u105_185, u105_189, u105_192, u105_194, u105_196, u105_197, q, hIFd, jin, jcl, e58, mj_cc_v, mj_cc_n, List.all_cons, List.all_nil, mj_noMk_int, mj_noMk_long, mj_noMk_ref, mj_noMk_junk, List.length_nil, List.length_cons, Nat.zero_le, Nat.reduceLeDiff, Nat.reduceAdd, Bool.and_true, Bool.true_and, Bool.and_self, Nat.reduceBNe, true_or, or_true, true_and, and_true, mj_z0, mj_z1, mj_z01, decide_true, decide_false, Bool.true_and, Bool.false_and, Bool.and_true, Bool.and_false, Bool.true_or, Bool.false_or, Bool.or_false, Bool.or_true, Bool.not_true, Bool.not_false, Bool.and_self, Bool.or_self, if_true, if_false, Bool.true_eq_false, Bool.false_eq_true, not_true, not_false_eq_true]
      exact ⟨by cases f <;> simp, hr⟩
    generalize mj_setI τ 58 j (mj_z f) = τ1 at *
    have hpr : ∀ d, mj_ev X (d + 41) 111 [.ref 55, .int (nI j)] τ1 = some (some (.int (mj_bpr l c (nI j) l.length)), τ1) := fun d => sp_priceOf (d := d + 40) L1
    have hwh : ∀ d, mj_ev X (d + 41) 108 [.ref 55, .ref 14, .int (nI j)] τ1 = some (some (.int (mj_z (mj_bwh (σ.1 19) l (nI j)))), τ1) := fun d => by
      rw [← F1.1 19 (Or.inl (by decide))]
      exact sp_isWholeChoice (d := d + 39) L1
    -- the next
    have nxt : ∀ (b1 : Int32) (τ2 : mj_St), mj_FB σ τ2 → mj_Lb τ2 l c → mj_FI σ K l o (τ2.1 58) j → mj_bst' σ K l c o j b1 → ∃ b' ρ, mj_FB σ ρ ∧ mj_bst' σ K l c o 0 b' ∧ ∀ d, mj_Runs X (mj_ev X (d + 41)) 0 (some .int) prog_2_method_2_code (186, [.ref 55, .ref 14, .ref 46, .int (nI o), .int e, .int base, .int (nI (2 ^ l.length - 1)), .int way, .int b1, .int (nI j)], [], τ2) (some (.int (base + b')), ρ) := by
      intro b1 τ2 F2 L2 I2 B2
      obtain ⟨b', ρ, G, Bb, h⟩ := ih b1 τ2 (by omega) F2 L2 I2 B2
      refine ⟨b', ρ, G, Bb, fun d => ?_⟩
      have hd := h d
      refine u105_186.mpr ?_
      simp only [u105_0, u105_1, u105_2, u105_3, u105_5, u105_8, u105_10, u105_11, u105_12, u105_15, u105_16, u105_17, u105_18, u105_20, u105_22, u105_24, u105_25, u105_29, u105_30, u105_33, u105_36, u105_38, u105_39, u105_41, u105_42, u105_43, u105_44, u105_45, u105_47, u105_48, u105_49, u105_51, u105_54, u105_57, u105_58, u105_59, u105_60, u105_61, u105_63, u105_66, u105_69, u105_71, u105_73, u105_76, u105_79, u105_80, u105_82, u105_85, u105_87, u105_88, u105_91, u105_93, u105_94, u105_95, u105_97, u105_98, u105_99, u105_103, u105_106, u105_107, u105_110, u105_112, u105_113, u105_115, u105_117, u105_120, u105_121, u105_122, u105_125, u105_127, u105_128, u105_131, u105_132, u105_134, u105_137, u105_139, u105_142, u105_143, u105_144, u105_146, u105_149, u105_152, u105_155, u105_156, u105_157, u105_158, u105_159, u105_161, u105_164, u105_167, u105_168, u105_170, u105_173, u105_175, u105_178, u105_179, u105_182, u105_184, u105_185, u105_189, u105_192, u105_194, u105_196, u105_197, eneg, mj_cc_v, mj_cc_n, List.all_cons, List.all_nil, mj_noMk_int, mj_noMk_long, mj_noMk_ref, mj_noMk_junk, List.length_nil, List.length_cons, Nat.zero_le, Nat.reduceLeDiff, Nat.reduceAdd, Bool.and_true, Bool.true_and, Bool.and_self, Nat.reduceBNe, true_or, or_true, true_and, and_true, mj_z0, mj_z1, mj_z01, decide_true, decide_false, Bool.true_and, Bool.false_and, Bool.and_true, Bool.and_false, Bool.true_or, Bool.false_or, Bool.or_false, Bool.or_true, Bool.not_true, Bool.not_false, Bool.and_self, Bool.or_self, if_true, if_false, Bool.true_eq_false, Bool.false_eq_true, not_true, not_false_eq_true]
      exact hd
    have keep : mj_gd σ K l o j = false ∨ ¬ mj_bpr l c (nI j) l.length < b → mj_bst' σ K l c o j b := fun z => ⟨B.1, fun t h1 h2 h3 => by
      by_cases ct : t = j
      · rcases z with z | z
        · rw [ct, z] at h3
          exact absurd h3 (by decide)
        · rw [ct]; exact z
      · exact B.2 t (by omega) h2 h3⟩
    cases f
    · by_cases cp : mj_bpr l c (nI j) l.length < b
      · cases cw : mj_bwh (σ.1 19) l (nI j)
        · obtain ⟨b', ρ, G, Bb, h⟩ := nxt b τ1 F1 L1 I1 (keep (Or.inl (by unfold mj_gd; rw [cw, Bool.false_and])))
          refine ⟨b', ρ, G, Bb, fun d => pre d _ ?_⟩
          have hd := h d
          have hprd := hpr d
          have hwhd := hwh d
          rw [cw] at hwhd
          simp only [u105_0, u105_1, u105_2, u105_3, u105_5, u105_8, u105_10, u105_11, u105_12, u105_15, u105_16, u105_17, u105_18, u105_20, u105_22, u105_24, u105_25, u105_29, u105_30, u105_33, u105_36, u105_38, u105_39, u105_41, u105_42, u105_43, u105_44, u105_45, u105_47, u105_48, u105_49, u105_51, u105_54, u105_57, u105_58, u105_59, u105_60, u105_61, u105_63, u105_66, u105_69, u105_71, u105_73, u105_76, u105_79, u105_80, u105_82, u105_85, u105_87, u105_88, u105_91, u105_93, u105_94, u105_95, u105_97, u105_98, u105_99, u105_103, u105_106, u105_107, u105_110, u105_112, u105_113, u105_115, u105_117, u105_120, u105_121, u105_122, u105_125, u105_127, u105_128, u105_131, u105_132, u105_134, u105_137, u105_139, u105_142, u105_143, u105_144, u105_146, u105_149, u105_152, u105_155, u105_156, u105_157, u105_158, u105_159, u105_161, u105_164, u105_167, u105_168, u105_170, u105_173, u105_175, u105_178, u105_179, u105_182, u105_184, u105_185, u105_189, u105_192, u105_194, u105_196, u105_197, hprd, eq_true cp, hwhd, mj_zF, mj_cc_v, mj_cc_n, List.all_cons, List.all_nil, mj_noMk_int, mj_noMk_long, mj_noMk_ref, mj_noMk_junk, List.length_nil, List.length_cons, Nat.zero_le, Nat.reduceLeDiff, Nat.reduceAdd, Bool.and_true, Bool.true_and, Bool.and_self, Nat.reduceBNe, true_or, or_true, true_and, and_true, mj_z0, mj_z1, mj_z01, decide_true, decide_false, Bool.true_and, Bool.false_and, Bool.and_true, Bool.and_false, Bool.true_or, Bool.false_or, Bool.or_false, Bool.or_true, Bool.not_true, Bool.not_false, Bool.and_self, Bool.or_self, if_true, if_false, Bool.true_eq_false, Bool.false_eq_true, not_true, not_false_eq_true]
          exact hd
        · obtain ⟨ρ1, G1, hs⟩ := sp_suffices (l := l) (c := c) (o := nI o) (s := nI j) hX (mj_FB_pc F1 hc) (mj_FB_pe F1 he) L1
          rw [mj_brs_FB F1, hK τ1 F1 _ o ho] at hs
          have F2 := mj_FB_tr F1 (mj_FB_Fs G1)
          have L2 := mj_Lb_Fs G1 L1
          have e2 : ρ1.1 58 = τ1.1 58 := G1.1 58 (Or.inr (by decide))
          cases ck : K (mj_brs σ l (nI j)) o
          · rw [ck] at hs
            have gf : mj_gd σ K l o j = false := by unfold mj_gd; rw [ck, Bool.and_false]
            have I2 : mj_FI σ K l o ((mj_setI ρ1 58 j 1).1 58) j := by
              intro t h1 h2 h3 u hu
              by_cases ct : t = j
              · subst ct
                cases gu : mj_gd σ K l o u
                · rfl
                · have := hM t u h2 hu cw gu
                  rw [gf] at this
                  exact absurd this (by decide)
              · rw [mj_setI_i ct, e2] at h3
                exact I1 t h1 h2 h3 u hu
            obtain ⟨b', ρ, G, Bb, h⟩ := nxt b (mj_setI ρ1 58 j 1) (mj_FB_tr F2 (mj_FB_I (by decide) (by decide))) (mj_Lb_58 L2) I2 (keep (Or.inl gf))
            refine ⟨b', ρ, G, Bb, fun d => pre d _ ?_⟩
            have hd := h d
            have hprd := hpr d
            have hwhd := hwh d
            have hsd := hs d
            rw [cw] at hwhd
            simp only [u105_0, u105_1, u105_2, u105_3, u105_5, u105_8, u105_10, u105_11, u105_12, u105_15, u105_16, u105_17, u105_18, u105_20, u105_22, u105_24, u105_25, u105_29, u105_30, u105_33, u105_36, u105_38, u105_39, u105_41, u105_42, u105_43, u105_44, u105_45, u105_47, u105_48, u105_49, u105_51, u105_54, u105_57, u105_58, u105_59, u105_60, u105_61, u105_63, u105_66, u105_69, u105_71, u105_73, u105_76, u105_79, u105_80, u105_82, u105_85, u105_87, u105_88, u105_91, u105_93, u105_94, u105_95, u105_97, u105_98, u105_99, u105_103, u105_106, u105_107, u105_110, u105_112, u105_113, u105_115, u105_117, u105_120, u105_121, u105_122, u105_125, u105_127, u105_128, u105_131, u105_132, u105_134, u105_137, u105_139, u105_142, u105_143, u105_144, u105_146, u105_149, u105_152, u105_155, u105_156, u105_157, u105_158, u105_159, u105_161, u105_164, u105_167, u105_168, u105_170, u105_173, u105_175, u105_178, u105_179, u105_182, u105_184, u105_185, u105_189, u105_192, u105_194, u105_196, u105_197, hprd, eq_true cp, hwhd, hsd, jin, jcl, mj_zF, mj_zT, mj_n10, or_true, mj_cc_v, mj_cc_n, List.all_cons, List.all_nil, mj_noMk_int, mj_noMk_long, mj_noMk_ref, mj_noMk_junk, List.length_nil, List.length_cons, Nat.zero_le, Nat.reduceLeDiff, Nat.reduceAdd, Bool.and_true, Bool.true_and, Bool.and_self, Nat.reduceBNe, true_or, or_true, true_and, and_true, mj_z0, mj_z1, mj_z01, decide_true, decide_false, Bool.true_and, Bool.false_and, Bool.and_true, Bool.and_false, Bool.true_or, Bool.false_or, Bool.or_false, Bool.or_true, Bool.not_true, Bool.not_false, Bool.and_self, Bool.or_self, if_true, if_false, Bool.true_eq_false, Bool.false_eq_true, not_true, not_false_eq_true]
            exact hd
          · rw [ck] at hs
            have gt : mj_gd σ K l o j = true := by unfold mj_gd; rw [cw, ck, Bool.and_self]
            have B2 : mj_bst' σ K l c o j (mj_bpr l c (nI j) l.length) := ⟨⟨j, by omega, gt, rfl⟩, fun t h1 h2 h3 z => by
              by_cases ct : t = j
              · rw [ct] at z
                exact Int32.lt_irrefl z
              · exact B.2 t (by omega) h2 h3 (Int32.lt_trans z cp)⟩
            have hpr2 : ∀ d, mj_ev X (d + 41) 111 [.ref 55, .int (nI j)] ρ1 = some (some (.int (mj_bpr l c (nI j) l.length)), ρ1) := fun d => sp_priceOf (d := d + 40) L2
            obtain ⟨b', ρ, G, Bb, h⟩ := nxt _ ρ1 F2 L2 (by rw [e2]; exact I1) B2
            refine ⟨b', ρ, G, Bb, fun d => pre d _ ?_⟩
            have hd := h d
            have hprd := hpr d
            have hwhd := hwh d
            have hsd := hs d
            have hpr2d := hpr2 d
            rw [cw] at hwhd
            simp only [u105_0, u105_1, u105_2, u105_3, u105_5, u105_8, u105_10, u105_11, u105_12, u105_15, u105_16, u105_17, u105_18, u105_20, u105_22, u105_24, u105_25, u105_29, u105_30, u105_33, u105_36, u105_38, u105_39, u105_41, u105_42, u105_43, u105_44, u105_45, u105_47, u105_48, u105_49, u105_51, u105_54, u105_57, u105_58, u105_59, u105_60, u105_61, u105_63, u105_66, u105_69, u105_71, u105_73, u105_76, u105_79, u105_80, u105_82, u105_85, u105_87, u105_88, u105_91, u105_93, u105_94, u105_95, u105_97, u105_98, u105_99, u105_103, u105_106, u105_107, u105_110, u105_112, u105_113, u105_115, u105_117, u105_120, u105_121, u105_122, u105_125, u105_127, u105_128, u105_131, u105_132, u105_134, u105_137, u105_139, u105_142, u105_143, u105_144, u105_146, u105_149, u105_152, u105_155, u105_156, u105_157, u105_158, u105_159, u105_161, u105_164, u105_167, u105_168, u105_170, u105_173, u105_175, u105_178, u105_179, u105_182, u105_184, u105_185, u105_189, u105_192, u105_194, u105_196, u105_197, hprd, eq_true cp, hwhd, hsd, hpr2d, mj_zF, mj_zT, mj_n10, mj_cc_v, mj_cc_n, List.all_cons, List.all_nil, mj_noMk_int, mj_noMk_long, mj_noMk_ref, mj_noMk_junk, List.length_nil, List.length_cons, Nat.zero_le, Nat.reduceLeDiff, Nat.reduceAdd, Bool.and_true, Bool.true_and, Bool.and_self, Nat.reduceBNe, true_or, or_true, true_and, and_true, mj_z0, mj_z1, mj_z01, decide_true, decide_false, Bool.true_and, Bool.false_and, Bool.and_true, Bool.and_false, Bool.true_or, Bool.false_or, Bool.or_false, Bool.or_true, Bool.not_true, Bool.not_false, Bool.and_self, Bool.or_self, if_true, if_false, Bool.true_eq_false, Bool.false_eq_true, not_true, not_false_eq_true]
            exact hd
      · obtain ⟨b', ρ, G, Bb, h⟩ := nxt b τ1 F1 L1 I1 (keep (Or.inr cp))
        refine ⟨b', ρ, G, Bb, fun d => pre d _ ?_⟩
        have hd := h d
        have hprd := hpr d
        simp only [u105_0, u105_1, u105_2, u105_3, u105_5, u105_8, u105_10, u105_11, u105_12, u105_15, u105_16, u105_17, u105_18, u105_20, u105_22, u105_24, u105_25, u105_29, u105_30, u105_33, u105_36, u105_38, u105_39, u105_41, u105_42, u105_43, u105_44, u105_45, u105_47, u105_48, u105_49, u105_51, u105_54, u105_57, u105_58, u105_59, u105_60, u105_61, u105_63, u105_66, u105_69, u105_71, u105_73, u105_76, u105_79, u105_80, u105_82, u105_85, u105_87, u105_88, u105_91, u105_93, u105_94, u105_95, u105_97, u105_98, u105_99, u105_103, u105_106, u105_107, u105_110, u105_112, u105_113, u105_115, u105_117, u105_120, u105_121, u105_122, u105_125, u105_127, u105_128, u105_131, u105_132, u105_134, u105_137, u105_139, u105_142, u105_143, u105_144, u105_146, u105_149, u105_152, u105_155, u105_156, u105_157, u105_158, u105_159, u105_161, u105_164, u105_167, u105_168, u105_170, u105_173, u105_175, u105_178, u105_179, u105_182, u105_184, u105_185, u105_189, u105_192, u105_194, u105_196, u105_197, hprd, eq_false cp, mj_zF, mj_cc_v, mj_cc_n, List.all_cons, List.all_nil, mj_noMk_int, mj_noMk_long, mj_noMk_ref, mj_noMk_junk, List.length_nil, List.length_cons, Nat.zero_le, Nat.reduceLeDiff, Nat.reduceAdd, Bool.and_true, Bool.true_and, Bool.and_self, Nat.reduceBNe, true_or, or_true, true_and, and_true, mj_z0, mj_z1, mj_z01, decide_true, decide_false, Bool.true_and, Bool.false_and, Bool.and_true, Bool.and_false, Bool.true_or, Bool.false_or, Bool.or_false, Bool.or_true, Bool.not_true, Bool.not_false, Bool.and_self, Bool.or_self, if_true, if_false, Bool.true_eq_false, Bool.false_eq_true, not_true, not_false_eq_true]
        exact hd
    · obtain ⟨b', ρ, G, Bb, h⟩ := nxt b τ1 F1 L1 I1 (keep (Or.inl (I1 j (Nat.le_refl _) (by omega) (by rw [e58]; decide) j mj_sub_rf)))
      refine ⟨b', ρ, G, Bb, fun d => pre d _ ?_⟩
      have hd := h d
      simp only [u105_0, u105_1, u105_2, u105_3, u105_5, u105_8, u105_10, u105_11, u105_12, u105_15, u105_16, u105_17, u105_18, u105_20, u105_22, u105_24, u105_25, u105_29, u105_30, u105_33, u105_36, u105_38, u105_39, u105_41, u105_42, u105_43, u105_44, u105_45, u105_47, u105_48, u105_49, u105_51, u105_54, u105_57, u105_58, u105_59, u105_60, u105_61, u105_63, u105_66, u105_69, u105_71, u105_73, u105_76, u105_79, u105_80, u105_82, u105_85, u105_87, u105_88, u105_91, u105_93, u105_94, u105_95, u105_97, u105_98, u105_99, u105_103, u105_106, u105_107, u105_110, u105_112, u105_113, u105_115, u105_117, u105_120, u105_121, u105_122, u105_125, u105_127, u105_128, u105_131, u105_132, u105_134, u105_137, u105_139, u105_142, u105_143, u105_144, u105_146, u105_149, u105_152, u105_155, u105_156, u105_157, u105_158, u105_159, u105_161, u105_164, u105_167, u105_168, u105_170, u105_173, u105_175, u105_178, u105_179, u105_182, u105_184, u105_185, u105_189, u105_192, u105_194, u105_196, u105_197, mj_zT, mj_n10, mj_cc_v, mj_cc_n, List.all_cons, List.all_nil, mj_noMk_int, mj_noMk_long, mj_noMk_ref, mj_noMk_junk, List.length_nil, List.length_cons, Nat.zero_le, Nat.reduceLeDiff, Nat.reduceAdd, Bool.and_true, Bool.true_and, Bool.and_self, Nat.reduceBNe, true_or, or_true, true_and, and_true, mj_z0, mj_z1, mj_z01, decide_true, decide_false, Bool.true_and, Bool.false_and, Bool.and_true, Bool.and_false, Bool.true_or, Bool.false_or, Bool.or_false, Bool.or_true, Bool.not_true, Bool.not_false, Bool.and_self, Bool.or_self, if_true, if_false, Bool.true_eq_false, Bool.false_eq_true, not_true, not_false_eq_true]
      exact hd
theorem mj_and_lt {a n : Nat} {y : Int32} (hn : n ≤ 9) (ha : a < 2 ^ n) : ∃ m : Nat, m < 2 ^ n ∧ nI a &&& y = nI m := by
  refine mj_b_lt (by omega) (fun k hk h => ?_)
  have p9 : 2 ^ n ≤ 512 := Nat.pow_le_pow_right (n := 2) (by decide) hn
  rw [mj_b_and, mj_b_nI (by omega), Nat.testBit_lt_two_pow (Nat.lt_of_lt_of_le ha (Nat.pow_le_pow_right (by decide) h)), Bool.false_and]
theorem sp_least {N w o : Nat} {e : Int32} {K : Int32 → Nat → Bool} (hX : mj_XS X) (hc : mj_pc σ N w) (he : mj_pe σ) (hK : mj_KX σ N w K) (ho : o < 8)
    (hM : ∀ t u, t < 2 ^ (mj_bkl σ (nI o) N).length → mj_sub u t → mj_bwh (σ.1 19) (mj_bkl σ (nI o) N) (nI t) = true → mj_gd σ K (mj_bkl σ (nI o) N) o u = true → mj_gd σ K (mj_bkl σ (nI o) N) o t = true)
    (hF : mj_gd σ K (mj_bkl σ (nI o) N) o (2 ^ (mj_bkl σ (nI o) N).length - 1) = true)
    (hP : ∀ t, t < 2 ^ (mj_bkl σ (nI o) N).length → ¬ mj_bpr (mj_bkl σ (nI o) N) (mj_bcs σ e) (nI (2 ^ (mj_bkl σ (nI o) N).length - 1)) (mj_bkl σ (nI o) N).length < mj_bpr (mj_bkl σ (nI o) N) (mj_bcs σ e) (nI t) (mj_bkl σ (nI o) N).length) :
    ∃ b ρ, mj_FB σ ρ ∧ mj_bst' σ K (mj_bkl σ (nI o) N) (mj_bcs σ e) o 0 b ∧ ∀ d, mj_ev X (d + 42) 105 [.ref 55, .ref 14, .ref 46, .int (nI o), .int e] σ = some (some (.int (mj_bbs σ (nI o) e N + b)), ρ) := by
  have l9 : (mj_bkl σ (nI o) N).length ≤ 9 := by have := mj_bkl_len (σ := σ) (o := nI o) (n := N); have := hc.2.1; omega
  obtain ⟨τ0, F0, L0, h0⟩ := sp_findThose (X := X) (o := nI o) (e := e) hc
  generalize mj_bkl σ (nI o) N = l at *
  generalize mj_bcs σ e = c at *
  generalize mj_bbs σ (nI o) e N = base at *
  have p9 : 2 ^ l.length ≤ 512 := Nat.pow_le_pow_right (n := 2) (by decide) l9
  have pp : 0 < 2 ^ l.length := Nat.pow_pos (by decide)
  have efull : (1 <<< (nI l.length &&& 31)) - 1 = nI (2 ^ l.length - 1) := by
    rw [mj_sh1_pow _ (by omega)]
    show nI (2 ^ l.length) - nI 1 = _
    rw [mj_nI_sub (by omega)]
  have loop : ∀ (i k a : Nat) (τ : mj_St) (v : Value), mj_noMk v = true → k + i = l.length → a < 2 ^ l.length → mj_gd σ K l o a = true → mj_FB σ τ → mj_Lb τ l c → ∃ b' ρ, mj_FB σ ρ ∧ mj_bst' σ K l c o 0 b' ∧ ∀ d, mj_Runs X (mj_ev X (d + 41)) 0 (some .int) prog_2_method_2_code (27, [.ref 55, .ref 14, .ref 46, .int (nI o), .int e, .int base, .int (nI (2 ^ l.length - 1)), .int (nI a), .int (nI k), v], [], τ) (some (.int (base + b')), ρ) := by
    intro i
    induction i with
    | zero =>
      intro k a τ v hv hk ha ga F L
      have q : ¬ nI k < nI l.length := nI_nlt (by omega) (by omega)
      have fin : mj_inb (nI (2 ^ l.length - 1)) 512 = true := mj_in_nI (by omega) (by decide)
      have fcl : (nI (2 ^ l.length - 1)).toNatClampNeg = 2 ^ l.length - 1 := nI_clamp (by omega)
      obtain ⟨b', ρ, G, Bb, h⟩ := sp_least2 (e := e) (base := base) (way := nI a) hX hc he hK ho l9 hM (2 ^ l.length - 1) (mj_bpr l c (nI a) l.length) (mj_setI τ 58 (2 ^ l.length - 1) 0) (by omega) (mj_FB_tr F (mj_FB_I (by decide) (by decide))) (mj_Lb_58 L) (fun t h1 h2 h3 => by
        rw [show t = 2 ^ l.length - 1 by omega, mj_setI_eq] at h3
        exact absurd rfl h3) ⟨⟨a, ha, ga, rfl⟩, fun t h1 h2 _ => by
        rw [show t = 2 ^ l.length - 1 by omega]
        exact hP a ha⟩
      refine ⟨b', ρ, G, Bb, fun d => ?_⟩
      have hd := h d
      have hpr : mj_ev X (d + 41) 111 [.ref 55, .int (nI a)] τ = some (some (.int (mj_bpr l c (nI a) l.length)), τ) := sp_priceOf (d := d + 40) L
      refine u105_27.mpr ?_
      simp only [u105_0, u105_1, u105_2, u105_3, u105_5, u105_8, u105_10, u105_11, u105_12, u105_15, u105_16, u105_17, u105_18, u105_20, u105_22, u105_24, u105_25, u105_29, u105_30, u105_33, u105_36, u105_38, u105_39, u105_41, u105_42, u105_43, u105_44, u105_45, u105_47, u105_48, u105_49, u105_51, u105_54, u105_57, u105_58, u105_59, u105_60, u105_61, u105_63, u105_66, u105_69, u105_71, u105_73, u105_76, u105_79, u105_80, u105_82, u105_85, u105_87, u105_88, u105_91, u105_93, u105_94, u105_95, u105_97, u105_98, u105_99, u105_103, u105_106, u105_107, u105_110, u105_112, u105_113, u105_115, u105_117, u105_120, u105_121, u105_122, u105_125, u105_127, u105_128, u105_131, u105_132, u105_134, u105_137, u105_139, u105_142, u105_143, u105_144, u105_146, u105_149, u105_152, u105_155, u105_156, u105_157, u105_158, u105_159, u105_161, u105_164, u105_167, u105_168, u105_170, u105_173, u105_175, u105_178, u105_179, u105_182, u105_184, u105_185, u105_186, u105_189, u105_192, u105_194, u105_196, u105_197, L.1, q, hpr, fin, fcl, true_or, hv, mj_cc_v, mj_cc_n, List.all_cons, List.all_nil, mj_noMk_int, mj_noMk_long, mj_noMk_ref, mj_noMk_junk, List.length_nil, List.length_cons, Nat.zero_le, Nat.reduceLeDiff, Nat.reduceAdd, Bool.and_true, Bool.true_and, Bool.and_self, Nat.reduceBNe, true_or, or_true, true_and, and_true, mj_z0, mj_z1, mj_z01, decide_true, decide_false, Bool.true_and, Bool.false_and, Bool.and_true, Bool.and_false, Bool.true_or, Bool.false_or, Bool.or_false, Bool.or_true, Bool.not_true, Bool.not_false, Bool.and_self, Bool.or_self, if_true, if_false, Bool.true_eq_false, Bool.false_eq_true, not_true, not_false_eq_true]
      exact hd
    | succ i ih =>
      intro k a τ v hv hk ha ga F L
      have q : nI k < nI l.length := nI_lt (by omega) (by omega)
      obtain ⟨m, hm, em⟩ := mj_and_lt (y := (1 <<< (nI k &&& 31)) ^^^ -1) l9 ha
      have hwh : ∀ d, mj_ev X (d + 41) 108 [.ref 55, .ref 14, .int (nI m)] τ = some (some (.int (mj_z (mj_bwh (σ.1 19) l (nI m)))), τ) := fun d => by
        rw [← F.1 19 (Or.inl (by decide))]
        exact sp_isWholeChoice (d := d + 39) L
      cases cw : mj_bwh (σ.1 19) l (nI m)
      · obtain ⟨b', ρ, G, Bb, h⟩ := ih (k + 1) a τ (.int (nI m)) rfl (by omega) ha ga F L
        refine ⟨b', ρ, G, Bb, fun d => ?_⟩
        have hd := h d
        have hwhd := hwh d
        rw [cw] at hwhd
        refine u105_27.mpr ?_
        simp only [u105_0, u105_1, u105_2, u105_3, u105_5, u105_8, u105_10, u105_11, u105_12, u105_15, u105_16, u105_17, u105_18, u105_20, u105_22, u105_24, u105_25, u105_29, u105_30, u105_33, u105_36, u105_38, u105_39, u105_41, u105_42, u105_43, u105_44, u105_45, u105_47, u105_48, u105_49, u105_51, u105_54, u105_57, u105_58, u105_59, u105_60, u105_61, u105_63, u105_66, u105_69, u105_71, u105_73, u105_76, u105_79, u105_80, u105_82, u105_85, u105_87, u105_88, u105_91, u105_93, u105_94, u105_95, u105_97, u105_98, u105_99, u105_103, u105_106, u105_107, u105_110, u105_112, u105_113, u105_115, u105_117, u105_120, u105_121, u105_122, u105_125, u105_127, u105_128, u105_131, u105_132, u105_134, u105_137, u105_139, u105_142, u105_143, u105_144, u105_146, u105_149, u105_152, u105_155, u105_156, u105_157, u105_158, u105_159, u105_161, u105_164, u105_167, u105_168, u105_170, u105_173, u105_175, u105_178, u105_179, u105_182, u105_184, u105_185, u105_186, u105_189, u105_192, u105_194, u105_196, u105_197, L.1, q, em, hwhd, hv, mj_zF, nI_1, mj_cc_v, mj_cc_n, List.all_cons, List.all_nil, mj_noMk_int, mj_noMk_long, mj_noMk_ref, mj_noMk_junk, List.length_nil, List.length_cons, Nat.zero_le, Nat.reduceLeDiff, Nat.reduceAdd, Bool.and_true, Bool.true_and, Bool.and_self, Nat.reduceBNe, true_or, or_true, true_and, and_true, mj_z0, mj_z1, mj_z01, decide_true, decide_false, Bool.true_and, Bool.false_and, Bool.and_true, Bool.and_false, Bool.true_or, Bool.false_or, Bool.or_false, Bool.or_true, Bool.not_true, Bool.not_false, Bool.and_self, Bool.or_self, if_true, if_false, Bool.true_eq_false, Bool.false_eq_true, not_true, not_false_eq_true]
        exact hd
      · obtain ⟨ρ1, G1, hs⟩ := sp_suffices (l := l) (c := c) (o := nI o) (s := nI m) hX (mj_FB_pc F hc) (mj_FB_pe F he) L
        rw [mj_brs_FB F, hK τ F _ o ho] at hs
        have F2 := mj_FB_tr F (mj_FB_Fs G1)
        have L2 := mj_Lb_Fs G1 L
        cases ck : K (mj_brs σ l (nI m)) o
        · rw [ck] at hs
          obtain ⟨b', ρ, G, Bb, h⟩ := ih (k + 1) a ρ1 (.int (nI m)) rfl (by omega) ha ga F2 L2
          refine ⟨b', ρ, G, Bb, fun d => ?_⟩
          have hd := h d
          have hwhd := hwh d
          have hsd := hs d
          rw [cw] at hwhd
          refine u105_27.mpr ?_
          simp only [u105_0, u105_1, u105_2, u105_3, u105_5, u105_8, u105_10, u105_11, u105_12, u105_15, u105_16, u105_17, u105_18, u105_20, u105_22, u105_24, u105_25, u105_29, u105_30, u105_33, u105_36, u105_38, u105_39, u105_41, u105_42, u105_43, u105_44, u105_45, u105_47, u105_48, u105_49, u105_51, u105_54, u105_57, u105_58, u105_59, u105_60, u105_61, u105_63, u105_66, u105_69, u105_71, u105_73, u105_76, u105_79, u105_80, u105_82, u105_85, u105_87, u105_88, u105_91, u105_93, u105_94, u105_95, u105_97, u105_98, u105_99, u105_103, u105_106, u105_107, u105_110, u105_112, u105_113, u105_115, u105_117, u105_120, u105_121, u105_122, u105_125, u105_127, u105_128, u105_131, u105_132, u105_134, u105_137, u105_139, u105_142, u105_143, u105_144, u105_146, u105_149, u105_152, u105_155, u105_156, u105_157, u105_158, u105_159, u105_161, u105_164, u105_167, u105_168, u105_170, u105_173, u105_175, u105_178, u105_179, u105_182, u105_184, u105_185, u105_186, u105_189, u105_192, u105_194, u105_196, u105_197, L.1, q, em, hwhd, hsd, hv, mj_zF, mj_zT, mj_n10, nI_1, mj_cc_v, mj_cc_n, List.all_cons, List.all_nil, mj_noMk_int, mj_noMk_long, mj_noMk_ref, mj_noMk_junk, List.length_nil, List.length_cons, Nat.zero_le, Nat.reduceLeDiff, Nat.reduceAdd, Bool.and_true, Bool.true_and, Bool.and_self, Nat.reduceBNe, true_or, or_true, true_and, and_true, mj_z0, mj_z1, mj_z01, decide_true, decide_false, Bool.true_and, Bool.false_and, Bool.and_true, Bool.and_false, Bool.true_or, Bool.false_or, Bool.or_false, Bool.or_true, Bool.not_true, Bool.not_false, Bool.and_self, Bool.or_self, if_true, if_false, Bool.true_eq_false, Bool.false_eq_true, not_true, not_false_eq_true]
          exact hd
        · rw [ck] at hs
          have gm : mj_gd σ K l o m = true := by unfold mj_gd; rw [cw, ck, Bool.and_self]
          obtain ⟨b', ρ, G, Bb, h⟩ := ih (k + 1) m ρ1 (.int (nI m)) rfl (by omega) hm gm F2 L2
          refine ⟨b', ρ, G, Bb, fun d => ?_⟩
          have hd := h d
          have hwhd := hwh d
          have hsd := hs d
          rw [cw] at hwhd
          refine u105_27.mpr ?_
          simp only [u105_0, u105_1, u105_2, u105_3, u105_5, u105_8, u105_10, u105_11, u105_12, u105_15, u105_16, u105_17, u105_18, u105_20, u105_22, u105_24, u105_25, u105_29, u105_30, u105_33, u105_36, u105_38, u105_39, u105_41, u105_42, u105_43, u105_44, u105_45, u105_47, u105_48, u105_49, u105_51, u105_54, u105_57, u105_58, u105_59, u105_60, u105_61, u105_63, u105_66, u105_69, u105_71, u105_73, u105_76, u105_79, u105_80, u105_82, u105_85, u105_87, u105_88, u105_91, u105_93, u105_94, u105_95, u105_97, u105_98, u105_99, u105_103, u105_106, u105_107, u105_110, u105_112, u105_113, u105_115, u105_117, u105_120, u105_121, u105_122, u105_125, u105_127, u105_128, u105_131, u105_132, u105_134, u105_137, u105_139, u105_142, u105_143, u105_144, u105_146, u105_149, u105_152, u105_155, u105_156, u105_157, u105_158, u105_159, u105_161, u105_164, u105_167, u105_168, u105_170, u105_173, u105_175, u105_178, u105_179, u105_182, u105_184, u105_185, u105_186, u105_189, u105_192, u105_194, u105_196, u105_197, L.1, q, em, hwhd, hsd, hv, mj_zF, mj_zT, mj_n10, nI_1, mj_cc_v, mj_cc_n, List.all_cons, List.all_nil, mj_noMk_int, mj_noMk_long, mj_noMk_ref, mj_noMk_junk, List.length_nil, List.length_cons, Nat.zero_le, Nat.reduceLeDiff, Nat.reduceAdd, Bool.and_true, Bool.true_and, Bool.and_self, Nat.reduceBNe, true_or, or_true, true_and, and_true, mj_z0, mj_z1, mj_z01, decide_true, decide_false, Bool.true_and, Bool.false_and, Bool.and_true, Bool.and_false, Bool.true_or, Bool.false_or, Bool.or_false, Bool.or_true, Bool.not_true, Bool.not_false, Bool.and_self, Bool.or_self, if_true, if_false, Bool.true_eq_false, Bool.false_eq_true, not_true, not_false_eq_true]
          exact hd
  obtain ⟨b', ρ, G, Bb, h⟩ := loop l.length 0 (2 ^ l.length - 1) τ0 mj_junk rfl (by omega) (by omega) hF F0 L0
  refine ⟨b', ρ, G, Bb, fun d => ?_⟩
  have hd := h d
  have h0d : mj_ev X (d + 41) 106 [.ref 55, .ref 14, .int (nI o), .int e] σ = _ := h0 (d + 38)
  refine st105 ?_
  simp only [u105_0, u105_1, u105_2, u105_3, u105_5, u105_8, u105_10, u105_11, u105_12, u105_15, u105_16, u105_17, u105_18, u105_20, u105_22, u105_24, u105_25, u105_29, u105_30, u105_33, u105_36, u105_38, u105_39, u105_41, u105_42, u105_43, u105_44, u105_45, u105_47, u105_48, u105_49, u105_51, u105_54, u105_57, u105_58, u105_59, u105_60, u105_61, u105_63, u105_66, u105_69, u105_71, u105_73, u105_76, u105_79, u105_80, u105_82, u105_85, u105_87, u105_88, u105_91, u105_93, u105_94, u105_95, u105_97, u105_98, u105_99, u105_103, u105_106, u105_107, u105_110, u105_112, u105_113, u105_115, u105_117, u105_120, u105_121, u105_122, u105_125, u105_127, u105_128, u105_131, u105_132, u105_134, u105_137, u105_139, u105_142, u105_143, u105_144, u105_146, u105_149, u105_152, u105_155, u105_156, u105_157, u105_158, u105_159, u105_161, u105_164, u105_167, u105_168, u105_170, u105_173, u105_175, u105_178, u105_179, u105_182, u105_184, u105_185, u105_186, u105_189, u105_192, u105_194, u105_196, u105_197, h0d, L0.1, efull, mj_cc_v, mj_cc_n, List.all_cons, List.all_nil, mj_noMk_int, mj_noMk_long, mj_noMk_ref, mj_noMk_junk, List.length_nil, List.length_cons, Nat.zero_le, Nat.reduceLeDiff, Nat.reduceAdd, Bool.and_true, Bool.true_and, Bool.and_self, Nat.reduceBNe, true_or, or_true, true_and, and_true, mj_z0, mj_z1, mj_z01, decide_true, decide_false, Bool.true_and, Bool.false_and, Bool.and_true, Bool.and_false, Bool.true_or, Bool.false_or, Bool.or_false, Bool.or_true, Bool.not_true, Bool.not_false, Bool.and_self, Bool.or_self, if_true, if_false, Bool.true_eq_false, Bool.false_eq_true, not_true, not_false_eq_true]
  exact hd
theorem sp_dearN {o : Int32} (h : mj_inb o 8 = false) : mj_ev X (d + 2) 104 [.ref 0, .int o] σ = some (some (.int (-6)), mj_rfC σ (-6)) := by
  have h1 := sp_isOutcome (X := X) (d := d) (x := o) (σ := σ)
  rw [h] at h1
  have h2 := sp_rf6 (X := X) (d := d) (σ := σ)
  have hr : (mj_rfC σ (-6)).2.2.2.2 = σ.2.2.2.2 := rfl
  refine st104 ?_
  simp only [u104_0, u104_1, u104_4, u104_7, u104_8, u104_10, u104_13, u104_14, u104_15, u104_18, u104_19, u104_22, u104_23, u104_26, u104_27, u104_28, u104_31, h1, h2, hr, mj_zF, mj_cc_v, mj_cc_n, List.all_cons, List.all_nil, mj_noMk_int, mj_noMk_long, mj_noMk_ref, mj_noMk_junk, List.length_nil, List.length_cons, Nat.zero_le, Nat.reduceLeDiff, Nat.reduceAdd, Bool.and_true, Bool.true_and, Bool.and_self, Nat.reduceBNe, true_or, or_true, true_and, and_true, mj_z0, mj_z1, mj_z01, decide_true, decide_false, Bool.true_and, Bool.false_and, Bool.and_true, Bool.and_false, Bool.true_or, Bool.false_or, Bool.or_false, Bool.or_true, Bool.not_true, Bool.not_false, Bool.and_self, Bool.or_self, if_true, if_false, Bool.true_eq_false, Bool.false_eq_true, not_true, not_false_eq_true]
theorem sp_fewestN {o : Int32} (h : mj_inb o 8 = false) : mj_ev X (d + 2) 113 [.ref 0, .int o] σ = some (some (.int (-6)), mj_rfC σ (-6)) := by
  have h1 := sp_isOutcome (X := X) (d := d) (x := o) (σ := σ)
  rw [h] at h1
  have h2 := sp_rf6 (X := X) (d := d) (σ := σ)
  have hr : (mj_rfC σ (-6)).2.2.2.2 = σ.2.2.2.2 := rfl
  refine st113 ?_
  simp only [u113_0, u113_1, u113_4, u113_7, u113_8, u113_10, u113_13, u113_14, u113_15, u113_18, u113_19, u113_22, u113_23, u113_26, u113_27, u113_28, u113_31, h1, h2, hr, mj_zF, mj_cc_v, mj_cc_n, List.all_cons, List.all_nil, mj_noMk_int, mj_noMk_long, mj_noMk_ref, mj_noMk_junk, List.length_nil, List.length_cons, Nat.zero_le, Nat.reduceLeDiff, Nat.reduceAdd, Bool.and_true, Bool.true_and, Bool.and_self, Nat.reduceBNe, true_or, or_true, true_and, and_true, mj_z0, mj_z1, mj_z01, decide_true, decide_false, Bool.true_and, Bool.false_and, Bool.and_true, Bool.and_false, Bool.true_or, Bool.false_or, Bool.or_false, Bool.or_true, Bool.not_true, Bool.not_false, Bool.and_self, Bool.or_self, if_true, if_false, Bool.true_eq_false, Bool.false_eq_true, not_true, not_false_eq_true]
theorem sp_dearC {o : Nat} {v : Int32} (ho : o < 8) (h : ∀ d, mj_ev X (d + 42) 105 [.ref 55, .ref 14, .ref 46, .int (nI o), .int 0] σ = some (some (.int v), ρ)) : mj_ev X (d + 43) 104 [.ref 0, .int (nI o)] σ = some (some (.int v), ρ) := by
  have h1 := sp_isOutcome (X := X) (d := d + 41) (x := nI o) (σ := σ)
  rw [mj_in_nI (show o < 8 by omega) (by decide)] at h1
  have hd := h d
  refine st104 ?_
  simp only [u104_0, u104_1, u104_4, u104_7, u104_8, u104_10, u104_13, u104_14, u104_15, u104_18, u104_19, u104_22, u104_23, u104_26, u104_27, u104_28, u104_31, h1, hd, mj_zT, mj_n10, mj_cc_v, mj_cc_n, List.all_cons, List.all_nil, mj_noMk_int, mj_noMk_long, mj_noMk_ref, mj_noMk_junk, List.length_nil, List.length_cons, Nat.zero_le, Nat.reduceLeDiff, Nat.reduceAdd, Bool.and_true, Bool.true_and, Bool.and_self, Nat.reduceBNe, true_or, or_true, true_and, and_true, mj_z0, mj_z1, mj_z01, decide_true, decide_false, Bool.true_and, Bool.false_and, Bool.and_true, Bool.and_false, Bool.true_or, Bool.false_or, Bool.or_false, Bool.or_true, Bool.not_true, Bool.not_false, Bool.and_self, Bool.or_self, if_true, if_false, Bool.true_eq_false, Bool.false_eq_true, not_true, not_false_eq_true]
theorem sp_fewestC {o : Nat} {v : Int32} (ho : o < 8) (h : ∀ d, mj_ev X (d + 42) 105 [.ref 55, .ref 14, .ref 46, .int (nI o), .int 1] σ = some (some (.int v), ρ)) : mj_ev X (d + 43) 113 [.ref 0, .int (nI o)] σ = some (some (.int v), ρ) := by
  have h1 := sp_isOutcome (X := X) (d := d + 41) (x := nI o) (σ := σ)
  rw [mj_in_nI (show o < 8 by omega) (by decide)] at h1
  have hd := h d
  refine st113 ?_
  simp only [u113_0, u113_1, u113_4, u113_7, u113_8, u113_10, u113_13, u113_14, u113_15, u113_18, u113_19, u113_22, u113_23, u113_26, u113_27, u113_28, u113_31, h1, hd, mj_zT, mj_n10, mj_cc_v, mj_cc_n, List.all_cons, List.all_nil, mj_noMk_int, mj_noMk_long, mj_noMk_ref, mj_noMk_junk, List.length_nil, List.length_cons, Nat.zero_le, Nat.reduceLeDiff, Nat.reduceAdd, Bool.and_true, Bool.true_and, Bool.and_self, Nat.reduceBNe, true_or, or_true, true_and, and_true, mj_z0, mj_z1, mj_z01, decide_true, decide_false, Bool.true_and, Bool.false_and, Bool.and_true, Bool.and_false, Bool.true_or, Bool.false_or, Bool.or_false, Bool.or_true, Bool.not_true, Bool.not_false, Bool.and_self, Bool.or_self, if_true, if_false, Bool.true_eq_false, Bool.false_eq_true, not_true, not_false_eq_true]
end
