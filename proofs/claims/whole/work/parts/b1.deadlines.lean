section
variable {X : mj_X} {d : Nat} {σ τ ρ : mj_St}
-- one row of numbers, replaced
def mj_ud (f : Nat → Int32) (o : Nat) (v : Int32) : Nat → Int32 := fun j => if j = o then v else f j
def mj_cw (σ : mj_St) (c : Nat) (f : Nat → Int32) : mj_St := (fun c' i => if c' = c then f i else σ.1 c' i, σ.2)
theorem mj_cw_self {c : Nat} : mj_cw σ c (σ.1 c) = σ := by
  refine Prod.ext ?_ rfl
  funext c' i
  show (if c' = c then σ.1 c i else σ.1 c' i) = σ.1 c' i
  by_cases h : c' = c
  · rw [if_pos h, h]
  · rw [if_neg h]
theorem mj_cw_o {c c' : Nat} {f : Nat → Int32} (h : c' ≠ c) : (mj_cw σ c f).1 c' = σ.1 c' := by
  funext i
  show (if c' = c then f i else σ.1 c' i) = σ.1 c' i
  rw [if_neg h]
theorem mj_cw_c {c : Nat} {f : Nat → Int32} : (mj_cw σ c f).1 c = f := by
  funext i
  show (if c = c then f i else σ.1 c i) = f i
  rw [if_pos rfl]
theorem mj_cw_s {c i : Nat} {f : Nat → Int32} {v : Int32} : mj_setI (mj_cw σ c f) c i v = mj_cw σ c (mj_ud f i v) := by
  refine Prod.ext ?_ rfl
  funext c' j
  show (if c' = c ∧ j = i then v else if c' = c then f j else σ.1 c' j) = if c' = c then (if j = i then v else f j) else σ.1 c' j
  by_cases h : c' = c
  · by_cases h2 : j = i
    · rw [if_pos ⟨h, h2⟩, if_pos h, if_pos h2]
    · rw [if_neg (fun z => h2 z.2), if_pos h, if_pos h, if_neg h2]
  · rw [if_neg (fun z => h z.1), if_neg h, if_neg h]
theorem mj_cw_w {c : Nat} {f g : Nat → Int32} : mj_cw (mj_cw σ c f) c g = mj_cw σ c g := by
  refine Prod.ext ?_ rfl
  funext c' j
  show (if c' = c then g j else if c' = c then f j else σ.1 c' j) = if c' = c then g j else σ.1 c' j
  by_cases h : c' = c
  · rw [if_pos h, if_pos h]
  · rw [if_neg h, if_neg h, if_neg h]
-- until when each has to be over
def mj_dl0 (σ : mj_St) (n : Nat) : Nat → Int32 := mj_it (fun p f => mj_ud f p (σ.1 17 (σ.1 47 p).toNatClampNeg)) (σ.1 50) n
def mj_dcc (σ : mj_St) (n p : Nat) : Bool := (decide (σ.1 46 2 = 1) || decide (σ.1 20 (σ.1 47 p).toNatClampNeg = -1)) && mj_lt0 (σ.1 48 p) (nI n)
def mj_dst (σ : mj_St) (n p : Nat) (f : Nat → Int32) : Nat → Int32 := if mj_dcc σ n p = true then mj_ud f (σ.1 48 p).toNatClampNeg (if f p - σ.1 25 (σ.1 47 p).toNatClampNeg < f (σ.1 48 p).toNatClampNeg then f p - σ.1 25 (σ.1 47 p).toNatClampNeg else f (σ.1 48 p).toNatClampNeg) else f
def mj_drd (σ : mj_St) (n : Nat) (f : Nat → Int32) (k : Nat) : Nat → Int32 := mj_it (mj_dst σ n) f k
def mj_dl (σ : mj_St) (n k : Nat) : Nat → Int32 := mj_it (fun _ f => mj_drd σ n f n) (mj_dl0 σ n) k
/-- one more into its place -/
def mj_ins (D : Nat → Int32) (p : Nat) : Nat → (Nat → Int32) → Nat → Int32
  | 0, g => mj_ud g 0 (nI p)
  | a + 1, g => if D p < D (g a).toNatClampNeg then mj_ins D p a (mj_ud g (a + 1) (g a)) else mj_ud g (a + 1) (nI p)
theorem mj_ins_in {D : Nat → Int32} {p : Nat} (hp : p < 6) : ∀ (a : Nat) (g : Nat → Int32), (∀ i, i < a → mj_inb (g i) 6 = true) → (∀ i, i ≤ a → mj_inb (mj_ins D p a g i) 6 = true) ∧ ∀ i, a < i → mj_ins D p a g i = g i := by
  intro a
  induction a with
  | zero =>
    intro g hg
    refine ⟨fun i hi => ?_, fun i hi => ?_⟩
    · have : i = 0 := by omega
      subst this
      show mj_inb (if 0 = 0 then nI p else g 0) 6 = true
      rw [if_pos rfl]
      exact mj_in_nI hp (by decide)
    · show (if i = 0 then nI p else g i) = g i
      rw [if_neg (by omega)]
  | succ a ih =>
    intro g hg
    simp only [mj_ins]
    by_cases c : D p < D (g a).toNatClampNeg
    · rw [if_pos c]
      have hu : ∀ i, i ≠ a + 1 → mj_ud g (a + 1) (g a) i = g i := fun i hi => if_neg hi
      obtain ⟨h1, h2⟩ := ih (mj_ud g (a + 1) (g a)) (fun i hi => by rw [hu i (by omega)]; exact hg i (by omega))
      refine ⟨fun i hi => ?_, fun i hi => ?_⟩
      · by_cases e : i = a + 1
        · rw [h2 i (by omega), e]
          show mj_inb (if a + 1 = a + 1 then g a else g (a + 1)) 6 = true
          rw [if_pos rfl]
          exact hg a (by omega)
        · exact h1 i (by omega)
      · rw [h2 i (by omega), hu i (by omega)]
    · rw [if_neg c]
      refine ⟨fun i hi => ?_, fun i hi => ?_⟩
      · by_cases e : i = a + 1
        · show mj_inb (if i = a + 1 then nI p else g i) 6 = true
          rw [if_pos e]
          exact mj_in_nI hp (by decide)
        · show mj_inb (if i = a + 1 then nI p else g i) 6 = true
          rw [if_neg e]
          exact hg i (by omega)
      · show (if i = a + 1 then nI p else g i) = g i
        rw [if_neg (by omega)]
def mj_ord (D : Nat → Int32) (g : Nat → Int32) (n : Nat) : Nat → Int32 := mj_it (fun p g => mj_ins D p p g) g n
theorem mj_ord_in {D g : Nat → Int32} : ∀ n, n ≤ 6 → ∀ i, i < n → mj_inb (mj_ord D g n i) 6 = true := by
  intro n
  induction n with
  | zero => intro _ i hi; omega
  | succ n ih =>
    intro hn i hi
    exact (mj_ins_in (D := D) (p := n) (by omega) n (mj_ord D g n) (ih (by omega))).1 i (by omega)
def mj_dlS (σ : mj_St) (n : Nat) : mj_St := mj_cw (mj_cw σ 50 (mj_dl σ n n)) 49 (mj_ord (mj_dl σ n n) (σ.1 49) n)
theorem sp_findDeadlines {N w gr n : Nat} (hd : mj_pd σ N w gr) (hn : mj_pn σ n) : mj_ev X (d + 1) 71 [.ref 46] σ = some (none, mj_dlS σ n) := by
  obtain ⟨d1, d2, d3, d4, d5, d6, d7, d8⟩ := hd
  obtain ⟨n1, n2, n3⟩ := hn
  have o : ∀ (f : Nat → Int32) (c : Nat), c < 50 → (mj_cw σ 50 f).1 c = σ.1 c := fun f c hc => mj_cw_o (by omega)
  have oo : ∀ (f : Nat → Int32), (mj_cw σ 50 f).2 = σ.2 := fun f => rfl
  have o50 : ∀ (f : Nat → Int32), (mj_cw σ 50 f).1 50 = f := fun f => mj_cw_c
  -- the sorting
  have ph3 : ∀ (D : Nat → Int32) (v2 v3 v4 v5 : Value), mj_Runs X (mj_ev X d) 3 none prog_5_method_10_code (167, [.ref 46, .int (nI 0), v2, v3, v4, v5], [], mj_cw (mj_cw σ 50 D) 49 (σ.1 49)) (none, mj_cw (mj_cw σ 50 D) 49 (mj_ord D (σ.1 49) n)) := by
    intro D v2 v3 v4 v5
    have s : ∀ (g : Nat → Int32) (c : Nat), c < 49 → (mj_cw (mj_cw σ 50 D) 49 g).1 c = σ.1 c := fun g c hc => by
      rw [mj_cw_o (by omega), mj_cw_o (by omega)]
    have s50 : ∀ (g : Nat → Int32), (mj_cw (mj_cw σ 50 D) 49 g).1 50 = D := fun g => by
      rw [mj_cw_o (by decide), mj_cw_c]
    have s49 : ∀ (g : Nat → Int32), (mj_cw (mj_cw σ 50 D) 49 g).1 49 = g := fun g => mj_cw_c
    have inner : ∀ (p : Nat) (r : mj_Rs) (v3 v4 v5 : Value), p < n → ∀ (a : Nat) (g : Nat → Int32), a ≤ p → (∀ i, i < a → mj_inb (g i) 6 = true) → (∀ (at' : Int32), mj_Runs X (mj_ev X d) 3 none prog_5_method_10_code (167, [.ref 46, .int (nI (p + 1)), .int at', v3, v4, v5], [], mj_cw (mj_cw σ 50 D) 49 (mj_ins D p a g)) r) → mj_Runs X (mj_ev X d) 3 none prog_5_method_10_code (177, [.ref 46, .int (nI p), .int (nI a), v3, v4, v5], [], mj_cw (mj_cw σ 50 D) 49 g) r := by
      intro p r v3 v4 v5 hp a
      induction a with
      | zero =>
        intro g ha hg hr
        have q : ¬ (0 : Int32) < nI 0 := by decide
        have hr0 := hr (nI 0)
        simp only [mj_ins] at hr0
        refine u71_177.mpr ?_
        simp only [u71_0, u71_1, u71_3, u71_4, u71_7, u71_10, u71_11, u71_14, u71_15, u71_16, u71_19, u71_22, u71_23, u71_26, u71_27, u71_28, u71_29, u71_30, u71_33, u71_36, u71_37, u71_39, u71_40, u71_43, u71_46, u71_47, u71_49, u71_50, u71_53, u71_56, u71_57, u71_60, u71_61, u71_62, u71_63, u71_64, u71_67, u71_68, u71_71, u71_72, u71_75, u71_78, u71_79, u71_82, u71_83, u71_84, u71_85, u71_86, u71_89, u71_90, u71_93, u71_94, u71_96, u71_97, u71_100, u71_101, u71_102, u71_105, u71_108, u71_110, u71_113, u71_114, u71_117, u71_118, u71_119, u71_120, u71_123, u71_126, u71_127, u71_130, u71_131, u71_132, u71_133, u71_134, u71_136, u71_137, u71_140, u71_141, u71_142, u71_145, u71_146, u71_147, u71_149, u71_152, u71_153, u71_156, u71_159, u71_162, u71_165, u71_166, u71_168, u71_169, u71_172, u71_175, u71_176, u71_178, u71_181, u71_182, u71_185, u71_186, u71_189, u71_190, u71_191, u71_192, u71_193, u71_194, u71_195, u71_198, u71_199, u71_200, u71_203, u71_204, u71_207, u71_208, u71_209, u71_212, u71_213, u71_214, u71_215, u71_216, u71_217, u71_220, u71_223, u71_224, u71_227, u71_228, u71_229, u71_230, u71_233, u71_236, q, mj_in_nI (show 0 < 6 by omega) (by decide), mj_nz9 (show 0 < 6 by omega) (by decide), mj_cw_s, nI_1, mj_cc_v, mj_cc_n, List.all_cons, List.all_nil, mj_noMk_int, mj_noMk_long, mj_noMk_ref, mj_noMk_junk, List.length_nil, List.length_cons, Nat.zero_le, Nat.reduceLeDiff, Nat.reduceAdd, Bool.and_true, Bool.true_and, Bool.and_self, Nat.reduceBNe, true_or, or_true, true_and, and_true, mj_z0, mj_z1, mj_z01, decide_true, decide_false, Bool.true_and, Bool.false_and, Bool.and_true, Bool.and_false, Bool.true_or, Bool.false_or, Bool.or_false, Bool.or_true, Bool.not_true, Bool.not_false, Bool.and_self, Bool.or_self, if_true, if_false, Bool.true_eq_false, Bool.false_eq_true, not_true, not_false_eq_true]
        exact hr0
      | succ a ih =>
        intro g ha hg hr
        have q : (0 : Int32) < nI (a + 1) := nI_lt (a := 0) (by omega) (by omega)
        obtain ⟨m, hm, em⟩ := mj_nI_of (hg a (by omega)) (by decide)
        have em' : (g a).toNatClampNeg = m := by rw [em]; exact nI_clamp (by omega)
        have e1 : nI (a + 1) - 1 = nI a := by
          show nI (a + 1) - nI 1 = nI a
          rw [mj_nI_sub (by omega), Nat.add_sub_cancel]
        have eneg : ∀ x : Int32, x + Int32.ofInt (-1) = x - 1 := fun x => by
          have e1 : Int32.ofInt (-1) = -1 := by decide
          rw [e1]
          grind
        have e2 : nI (a + 1) + Int32.ofInt (-1) = nI a := by rw [eneg, e1]
        simp only [mj_ins] at hr
        rw [em'] at hr
        refine u71_177.mpr ?_
        by_cases c : D p < D m
        · rw [if_pos c] at hr
          simp only [u71_0, u71_1, u71_3, u71_4, u71_7, u71_10, u71_11, u71_14, u71_15, u71_16, u71_19, u71_22, u71_23, u71_26, u71_27, u71_28, u71_29, u71_30, u71_33, u71_36, u71_37, u71_39, u71_40, u71_43, u71_46, u71_47, u71_49, u71_50, u71_53, u71_56, u71_57, u71_60, u71_61, u71_62, u71_63, u71_64, u71_67, u71_68, u71_71, u71_72, u71_75, u71_78, u71_79, u71_82, u71_83, u71_84, u71_85, u71_86, u71_89, u71_90, u71_93, u71_94, u71_96, u71_97, u71_100, u71_101, u71_102, u71_105, u71_108, u71_110, u71_113, u71_114, u71_117, u71_118, u71_119, u71_120, u71_123, u71_126, u71_127, u71_130, u71_131, u71_132, u71_133, u71_134, u71_136, u71_137, u71_140, u71_141, u71_142, u71_145, u71_146, u71_147, u71_149, u71_152, u71_153, u71_156, u71_159, u71_162, u71_165, u71_166, u71_168, u71_169, u71_172, u71_175, u71_176, u71_178, u71_181, u71_182, u71_185, u71_186, u71_189, u71_190, u71_191, u71_192, u71_193, u71_194, u71_195, u71_198, u71_199, u71_200, u71_203, u71_204, u71_207, u71_208, u71_209, u71_212, u71_213, u71_214, u71_215, u71_216, u71_217, u71_220, u71_223, u71_224, u71_227, u71_228, u71_229, u71_230, u71_233, u71_236, q, e1, e2, s50, s49, mj_in_nI (show a < 6 by omega) (by decide), mj_nz9 (show a < 6 by omega) (by decide), mj_in_nI (show a + 1 < 6 by omega) (by decide), mj_nz9 (show a + 1 < 6 by omega) (by decide), mj_in_nI (show p < 6 by omega) (by decide), mj_nz9 (show p < 6 by omega) (by decide), em, mj_in_nI hm (by decide), mj_nz9 hm (by decide), eq_true c, mj_cw_s, mj_cc_v, mj_cc_n, List.all_cons, List.all_nil, mj_noMk_int, mj_noMk_long, mj_noMk_ref, mj_noMk_junk, List.length_nil, List.length_cons, Nat.zero_le, Nat.reduceLeDiff, Nat.reduceAdd, Bool.and_true, Bool.true_and, Bool.and_self, Nat.reduceBNe, true_or, or_true, true_and, and_true, mj_z0, mj_z1, mj_z01, decide_true, decide_false, Bool.true_and, Bool.false_and, Bool.and_true, Bool.and_false, Bool.true_or, Bool.false_or, Bool.or_false, Bool.or_true, Bool.not_true, Bool.not_false, Bool.and_self, Bool.or_self, if_true, if_false, Bool.true_eq_false, Bool.false_eq_true, not_true, not_false_eq_true]
          rw [← em]
          refine ih _ (by omega) (fun i hi => ?_) hr
          show mj_inb (if i = a + 1 then g a else g i) 6 = true
          rw [if_neg (by omega)]
          exact hg i (by omega)
        · rw [if_neg c] at hr
          simp only [u71_0, u71_1, u71_3, u71_4, u71_7, u71_10, u71_11, u71_14, u71_15, u71_16, u71_19, u71_22, u71_23, u71_26, u71_27, u71_28, u71_29, u71_30, u71_33, u71_36, u71_37, u71_39, u71_40, u71_43, u71_46, u71_47, u71_49, u71_50, u71_53, u71_56, u71_57, u71_60, u71_61, u71_62, u71_63, u71_64, u71_67, u71_68, u71_71, u71_72, u71_75, u71_78, u71_79, u71_82, u71_83, u71_84, u71_85, u71_86, u71_89, u71_90, u71_93, u71_94, u71_96, u71_97, u71_100, u71_101, u71_102, u71_105, u71_108, u71_110, u71_113, u71_114, u71_117, u71_118, u71_119, u71_120, u71_123, u71_126, u71_127, u71_130, u71_131, u71_132, u71_133, u71_134, u71_136, u71_137, u71_140, u71_141, u71_142, u71_145, u71_146, u71_147, u71_149, u71_152, u71_153, u71_156, u71_159, u71_162, u71_165, u71_166, u71_168, u71_169, u71_172, u71_175, u71_176, u71_178, u71_181, u71_182, u71_185, u71_186, u71_189, u71_190, u71_191, u71_192, u71_193, u71_194, u71_195, u71_198, u71_199, u71_200, u71_203, u71_204, u71_207, u71_208, u71_209, u71_212, u71_213, u71_214, u71_215, u71_216, u71_217, u71_220, u71_223, u71_224, u71_227, u71_228, u71_229, u71_230, u71_233, u71_236, q, e1, e2, s50, s49, mj_in_nI (show a < 6 by omega) (by decide), mj_nz9 (show a < 6 by omega) (by decide), mj_in_nI (show a + 1 < 6 by omega) (by decide), mj_nz9 (show a + 1 < 6 by omega) (by decide), mj_in_nI (show p < 6 by omega) (by decide), mj_nz9 (show p < 6 by omega) (by decide), em, mj_in_nI hm (by decide), mj_nz9 hm (by decide), eq_false c, mj_cw_s, nI_1, mj_cc_v, mj_cc_n, List.all_cons, List.all_nil, mj_noMk_int, mj_noMk_long, mj_noMk_ref, mj_noMk_junk, List.length_nil, List.length_cons, Nat.zero_le, Nat.reduceLeDiff, Nat.reduceAdd, Bool.and_true, Bool.true_and, Bool.and_self, Nat.reduceBNe, true_or, or_true, true_and, and_true, mj_z0, mj_z1, mj_z01, decide_true, decide_false, Bool.true_and, Bool.false_and, Bool.and_true, Bool.and_false, Bool.true_or, Bool.false_or, Bool.or_false, Bool.or_true, Bool.not_true, Bool.not_false, Bool.and_self, Bool.or_self, if_true, if_false, Bool.true_eq_false, Bool.false_eq_true, not_true, not_false_eq_true]
          exact hr _
    have loop : ∀ (j k : Nat) (v2 v3 v4 v5 : Value), k + j = n → mj_Runs X (mj_ev X d) 3 none prog_5_method_10_code (167, [.ref 46, .int (nI k), v2, v3, v4, v5], [], mj_cw (mj_cw σ 50 D) 49 (mj_ord D (σ.1 49) k)) (none, mj_cw (mj_cw σ 50 D) 49 (mj_ord D (σ.1 49) n)) := by
      intro j
      induction j with
      | zero =>
        intro k v2 v3 v4 v5 hk
        have hk' : k = n := by omega
        subst hk'
        have q : ¬ nI k < nI k := nI_nlt (Nat.le_refl _) (by omega)
        refine u71_167.mpr ?_
        simp only [u71_0, u71_1, u71_3, u71_4, u71_7, u71_10, u71_11, u71_14, u71_15, u71_16, u71_19, u71_22, u71_23, u71_26, u71_27, u71_28, u71_29, u71_30, u71_33, u71_36, u71_37, u71_39, u71_40, u71_43, u71_46, u71_47, u71_49, u71_50, u71_53, u71_56, u71_57, u71_60, u71_61, u71_62, u71_63, u71_64, u71_67, u71_68, u71_71, u71_72, u71_75, u71_78, u71_79, u71_82, u71_83, u71_84, u71_85, u71_86, u71_89, u71_90, u71_93, u71_94, u71_96, u71_97, u71_100, u71_101, u71_102, u71_105, u71_108, u71_110, u71_113, u71_114, u71_117, u71_118, u71_119, u71_120, u71_123, u71_126, u71_127, u71_130, u71_131, u71_132, u71_133, u71_134, u71_136, u71_137, u71_140, u71_141, u71_142, u71_145, u71_146, u71_147, u71_149, u71_152, u71_153, u71_156, u71_159, u71_162, u71_165, u71_166, u71_168, u71_169, u71_172, u71_175, u71_176, u71_178, u71_181, u71_182, u71_185, u71_186, u71_189, u71_190, u71_191, u71_192, u71_193, u71_194, u71_195, u71_198, u71_199, u71_200, u71_203, u71_204, u71_207, u71_208, u71_209, u71_212, u71_213, u71_214, u71_215, u71_216, u71_217, u71_220, u71_223, u71_224, u71_227, u71_228, u71_229, u71_230, u71_233, u71_236, s _ 46 (by decide), n1, q, mj_cc_v, mj_cc_n, List.all_cons, List.all_nil, mj_noMk_int, mj_noMk_long, mj_noMk_ref, mj_noMk_junk, List.length_nil, List.length_cons, Nat.zero_le, Nat.reduceLeDiff, Nat.reduceAdd, Bool.and_true, Bool.true_and, Bool.and_self, Nat.reduceBNe, true_or, or_true, true_and, and_true, mj_z0, mj_z1, mj_z01, decide_true, decide_false, Bool.true_and, Bool.false_and, Bool.and_true, Bool.and_false, Bool.true_or, Bool.false_or, Bool.or_false, Bool.or_true, Bool.not_true, Bool.not_false, Bool.and_self, Bool.or_self, if_true, if_false, Bool.true_eq_false, Bool.false_eq_true, not_true, not_false_eq_true]
      | succ j ih =>
        intro k v2 v3 v4 v5 hk
        have q : nI k < nI n := nI_lt (by omega) (by omega)
        refine u71_167.mpr ?_
        simp only [u71_0, u71_1, u71_3, u71_4, u71_7, u71_10, u71_11, u71_14, u71_15, u71_16, u71_19, u71_22, u71_23, u71_26, u71_27, u71_28, u71_29, u71_30, u71_33, u71_36, u71_37, u71_39, u71_40, u71_43, u71_46, u71_47, u71_49, u71_50, u71_53, u71_56, u71_57, u71_60, u71_61, u71_62, u71_63, u71_64, u71_67, u71_68, u71_71, u71_72, u71_75, u71_78, u71_79, u71_82, u71_83, u71_84, u71_85, u71_86, u71_89, u71_90, u71_93, u71_94, u71_96, u71_97, u71_100, u71_101, u71_102, u71_105, u71_108, u71_110, u71_113, u71_114, u71_117, u71_118, u71_119, u71_120, u71_123, u71_126, u71_127, u71_130, u71_131, u71_132, u71_133, u71_134, u71_136, u71_137, u71_140, u71_141, u71_142, u71_145, u71_146, u71_147, u71_149, u71_152, u71_153, u71_156, u71_159, u71_162, u71_165, u71_166, u71_168, u71_169, u71_172, u71_175, u71_176, u71_178, u71_181, u71_182, u71_185, u71_186, u71_189, u71_190, u71_191, u71_192, u71_193, u71_194, u71_195, u71_198, u71_199, u71_200, u71_203, u71_204, u71_207, u71_208, u71_209, u71_212, u71_213, u71_214, u71_215, u71_216, u71_217, u71_220, u71_223, u71_224, u71_227, u71_228, u71_229, u71_230, u71_233, u71_236, s _ 46 (by decide), n1, q, mj_cc_v, mj_cc_n, List.all_cons, List.all_nil, mj_noMk_int, mj_noMk_long, mj_noMk_ref, mj_noMk_junk, List.length_nil, List.length_cons, Nat.zero_le, Nat.reduceLeDiff, Nat.reduceAdd, Bool.and_true, Bool.true_and, Bool.and_self, Nat.reduceBNe, true_or, or_true, true_and, and_true, mj_z0, mj_z1, mj_z01, decide_true, decide_false, Bool.true_and, Bool.false_and, Bool.and_true, Bool.and_false, Bool.true_or, Bool.false_or, Bool.or_false, Bool.or_true, Bool.not_true, Bool.not_false, Bool.and_self, Bool.or_self, if_true, if_false, Bool.true_eq_false, Bool.false_eq_true, not_true, not_false_eq_true]
        exact inner k _ v3 v4 v5 (by omega) k _ (Nat.le_refl _) (mj_ord_in k (by omega)) (fun at' => ih (k + 1) (.int at') v3 v4 v5 (by omega))
    exact loop n 0 v2 v3 v4 v5 (by omega)
  -- the rounds
  have ph2 : ∀ (v2 v3 v4 v5 : Value), mj_Runs X (mj_ev X d) 3 none prog_5_method_10_code (38, [.ref 46, .int (nI 0), v2, v3, v4, v5], [], mj_cw σ 50 (mj_dl0 σ n)) (none, mj_dlS σ n) := by
    have inner : ∀ (i : Nat) (r : mj_Rs) (f : Nat → Int32), (∀ (v3 v4 v5 : Value), mj_Runs X (mj_ev X d) 3 none prog_5_method_10_code (38, [.ref 46, .int (nI (i + 1)), .int (nI n), v3, v4, v5], [], mj_cw σ 50 (mj_drd σ n f n)) r) → ∀ (j k : Nat) (v3 v4 v5 : Value), k + j = n → mj_Runs X (mj_ev X d) 3 none prog_5_method_10_code (48, [.ref 46, .int (nI i), .int (nI k), v3, v4, v5], [], mj_cw σ 50 (mj_drd σ n f k)) r := by
      intro i r f hr j
      induction j with
      | zero =>
        intro k v3 v4 v5 hk
        have hk' : k = n := by omega
        subst hk'
        have q : ¬ nI k < nI k := nI_nlt (Nat.le_refl _) (by omega)
        refine u71_48.mpr ?_
        simp only [u71_0, u71_1, u71_3, u71_4, u71_7, u71_10, u71_11, u71_14, u71_15, u71_16, u71_19, u71_22, u71_23, u71_26, u71_27, u71_28, u71_29, u71_30, u71_33, u71_36, u71_37, u71_39, u71_40, u71_43, u71_46, u71_47, u71_49, u71_50, u71_53, u71_56, u71_57, u71_60, u71_61, u71_62, u71_63, u71_64, u71_67, u71_68, u71_71, u71_72, u71_75, u71_78, u71_79, u71_82, u71_83, u71_84, u71_85, u71_86, u71_89, u71_90, u71_93, u71_94, u71_96, u71_97, u71_100, u71_101, u71_102, u71_105, u71_108, u71_110, u71_113, u71_114, u71_117, u71_118, u71_119, u71_120, u71_123, u71_126, u71_127, u71_130, u71_131, u71_132, u71_133, u71_134, u71_136, u71_137, u71_140, u71_141, u71_142, u71_145, u71_146, u71_147, u71_149, u71_152, u71_153, u71_156, u71_159, u71_162, u71_165, u71_166, u71_168, u71_169, u71_172, u71_175, u71_176, u71_178, u71_181, u71_182, u71_185, u71_186, u71_189, u71_190, u71_191, u71_192, u71_193, u71_194, u71_195, u71_198, u71_199, u71_200, u71_203, u71_204, u71_207, u71_208, u71_209, u71_212, u71_213, u71_214, u71_215, u71_216, u71_217, u71_220, u71_223, u71_224, u71_227, u71_228, u71_229, u71_230, u71_233, u71_236, o _ 46 (by decide), n1, q, nI_1, mj_cc_v, mj_cc_n, List.all_cons, List.all_nil, mj_noMk_int, mj_noMk_long, mj_noMk_ref, mj_noMk_junk, List.length_nil, List.length_cons, Nat.zero_le, Nat.reduceLeDiff, Nat.reduceAdd, Bool.and_true, Bool.true_and, Bool.and_self, Nat.reduceBNe, true_or, or_true, true_and, and_true, mj_z0, mj_z1, mj_z01, decide_true, decide_false, Bool.true_and, Bool.false_and, Bool.and_true, Bool.and_false, Bool.true_or, Bool.false_or, Bool.or_false, Bool.or_true, Bool.not_true, Bool.not_false, Bool.and_self, Bool.or_self, if_true, if_false, Bool.true_eq_false, Bool.false_eq_true, not_true, not_false_eq_true]
        exact hr v3 v4 v5
      | succ j ih =>
        intro k v3 v4 v5 hk
        have hk6 : k < 6 := by omega
        have q : nI k < nI n := nI_lt (by omega) (by omega)
        obtain ⟨m, hm, em⟩ := mj_nI_of (n3 k (by omega)) (by decide)
        have em' : (σ.1 47 k).toNatClampNeg = m := by rw [em]; exact nI_clamp (by omega)
        have e1 : mj_drd σ n f (k + 1) = mj_dst σ n k (mj_drd σ n f k) := rfl
        have hi := ih (k + 1)
        rw [e1] at hi
        generalize mj_drd σ n f k = g at *
        unfold mj_dst mj_dcc at hi
        rw [em'] at hi
        have main : ∀ (b : Bool), ((decide (σ.1 46 2 = 1) || decide (σ.1 20 m = -1)) = b) → mj_Runs X (mj_ev X d) 3 none prog_5_method_10_code (96, [.ref 46, .int (nI i), .int (nI k), .int (σ.1 48 k), .int (mj_z b), v5], [], mj_cw σ 50 g) r := by
          intro b hb
          rw [hb] at hi
          refine u71_96.mpr ?_
          cases c2 : mj_lt0 (σ.1 48 k) (nI n)
          · rw [c2] at hi
            simp only [Bool.and_false, Bool.false_eq_true, if_false] at hi
            by_cases c3 : σ.1 48 k < 0
            · simp only [u71_0, u71_1, u71_3, u71_4, u71_7, u71_10, u71_11, u71_14, u71_15, u71_16, u71_19, u71_22, u71_23, u71_26, u71_27, u71_28, u71_29, u71_30, u71_33, u71_36, u71_37, u71_39, u71_40, u71_43, u71_46, u71_47, u71_49, u71_50, u71_53, u71_56, u71_57, u71_60, u71_61, u71_62, u71_63, u71_64, u71_67, u71_68, u71_71, u71_72, u71_75, u71_78, u71_79, u71_82, u71_83, u71_84, u71_85, u71_86, u71_89, u71_90, u71_93, u71_94, u71_97, u71_100, u71_101, u71_102, u71_105, u71_108, u71_110, u71_113, u71_114, u71_117, u71_118, u71_119, u71_120, u71_123, u71_126, u71_127, u71_130, u71_131, u71_132, u71_133, u71_134, u71_136, u71_137, u71_140, u71_141, u71_142, u71_145, u71_146, u71_147, u71_149, u71_152, u71_153, u71_156, u71_159, u71_162, u71_165, u71_166, u71_168, u71_169, u71_172, u71_175, u71_176, u71_178, u71_181, u71_182, u71_185, u71_186, u71_189, u71_190, u71_191, u71_192, u71_193, u71_194, u71_195, u71_198, u71_199, u71_200, u71_203, u71_204, u71_207, u71_208, u71_209, u71_212, u71_213, u71_214, u71_215, u71_216, u71_217, u71_220, u71_223, u71_224, u71_227, u71_228, u71_229, u71_230, u71_233, u71_236, eq_true c3, nI_1, mj_cc_v, mj_cc_n, List.all_cons, List.all_nil, mj_noMk_int, mj_noMk_long, mj_noMk_ref, mj_noMk_junk, List.length_nil, List.length_cons, Nat.zero_le, Nat.reduceLeDiff, Nat.reduceAdd, Bool.and_true, Bool.true_and, Bool.and_self, Nat.reduceBNe, true_or, or_true, true_and, and_true, mj_z0, mj_z1, mj_z01, decide_true, decide_false, Bool.true_and, Bool.false_and, Bool.and_true, Bool.and_false, Bool.true_or, Bool.false_or, Bool.or_false, Bool.or_true, Bool.not_true, Bool.not_false, Bool.and_self, Bool.or_self, if_true, if_false, Bool.true_eq_false, Bool.false_eq_true, not_true, not_false_eq_true]
              exact hi _ _ _ (by omega)
            · have c4 : ¬ σ.1 48 k < nI n := by
                unfold mj_lt0 at c2
                rw [decide_eq_false c3] at c2
                simpa using c2
              simp only [u71_0, u71_1, u71_3, u71_4, u71_7, u71_10, u71_11, u71_14, u71_15, u71_16, u71_19, u71_22, u71_23, u71_26, u71_27, u71_28, u71_29, u71_30, u71_33, u71_36, u71_37, u71_39, u71_40, u71_43, u71_46, u71_47, u71_49, u71_50, u71_53, u71_56, u71_57, u71_60, u71_61, u71_62, u71_63, u71_64, u71_67, u71_68, u71_71, u71_72, u71_75, u71_78, u71_79, u71_82, u71_83, u71_84, u71_85, u71_86, u71_89, u71_90, u71_93, u71_94, u71_97, u71_100, u71_101, u71_102, u71_105, u71_108, u71_110, u71_113, u71_114, u71_117, u71_118, u71_119, u71_120, u71_123, u71_126, u71_127, u71_130, u71_131, u71_132, u71_133, u71_134, u71_136, u71_137, u71_140, u71_141, u71_142, u71_145, u71_146, u71_147, u71_149, u71_152, u71_153, u71_156, u71_159, u71_162, u71_165, u71_166, u71_168, u71_169, u71_172, u71_175, u71_176, u71_178, u71_181, u71_182, u71_185, u71_186, u71_189, u71_190, u71_191, u71_192, u71_193, u71_194, u71_195, u71_198, u71_199, u71_200, u71_203, u71_204, u71_207, u71_208, u71_209, u71_212, u71_213, u71_214, u71_215, u71_216, u71_217, u71_220, u71_223, u71_224, u71_227, u71_228, u71_229, u71_230, u71_233, u71_236, eq_false c3, eq_false c4, o _ 46 (by decide), n1, nI_1, mj_cc_v, mj_cc_n, List.all_cons, List.all_nil, mj_noMk_int, mj_noMk_long, mj_noMk_ref, mj_noMk_junk, List.length_nil, List.length_cons, Nat.zero_le, Nat.reduceLeDiff, Nat.reduceAdd, Bool.and_true, Bool.true_and, Bool.and_self, Nat.reduceBNe, true_or, or_true, true_and, and_true, mj_z0, mj_z1, mj_z01, decide_true, decide_false, Bool.true_and, Bool.false_and, Bool.and_true, Bool.and_false, Bool.true_or, Bool.false_or, Bool.or_false, Bool.or_true, Bool.not_true, Bool.not_false, Bool.and_self, Bool.or_self, if_true, if_false, Bool.true_eq_false, Bool.false_eq_true, not_true, not_false_eq_true]
              exact hi _ _ _ (by omega)
          · obtain ⟨c3, c4⟩ := mj_lt0_eq c2
            have hin := mj_lt0_in (k := 6) c2 (by rw [nI_toInt (by omega)]; omega)
            obtain ⟨t, ht, et⟩ := mj_nI_of hin (by decide)
            have et' : (σ.1 48 k).toNatClampNeg = t := by rw [et]; exact nI_clamp (by omega)
            rw [c2, et'] at hi
            cases b
            · simp only [Bool.false_and, Bool.false_eq_true, if_false] at hi
              simp only [u71_0, u71_1, u71_3, u71_4, u71_7, u71_10, u71_11, u71_14, u71_15, u71_16, u71_19, u71_22, u71_23, u71_26, u71_27, u71_28, u71_29, u71_30, u71_33, u71_36, u71_37, u71_39, u71_40, u71_43, u71_46, u71_47, u71_49, u71_50, u71_53, u71_56, u71_57, u71_60, u71_61, u71_62, u71_63, u71_64, u71_67, u71_68, u71_71, u71_72, u71_75, u71_78, u71_79, u71_82, u71_83, u71_84, u71_85, u71_86, u71_89, u71_90, u71_93, u71_94, u71_97, u71_100, u71_101, u71_102, u71_105, u71_108, u71_110, u71_113, u71_114, u71_117, u71_118, u71_119, u71_120, u71_123, u71_126, u71_127, u71_130, u71_131, u71_132, u71_133, u71_134, u71_136, u71_137, u71_140, u71_141, u71_142, u71_145, u71_146, u71_147, u71_149, u71_152, u71_153, u71_156, u71_159, u71_162, u71_165, u71_166, u71_168, u71_169, u71_172, u71_175, u71_176, u71_178, u71_181, u71_182, u71_185, u71_186, u71_189, u71_190, u71_191, u71_192, u71_193, u71_194, u71_195, u71_198, u71_199, u71_200, u71_203, u71_204, u71_207, u71_208, u71_209, u71_212, u71_213, u71_214, u71_215, u71_216, u71_217, u71_220, u71_223, u71_224, u71_227, u71_228, u71_229, u71_230, u71_233, u71_236, eq_false c3, eq_true c4, o _ 46 (by decide), n1, mj_zF, nI_1, mj_cc_v, mj_cc_n, List.all_cons, List.all_nil, mj_noMk_int, mj_noMk_long, mj_noMk_ref, mj_noMk_junk, List.length_nil, List.length_cons, Nat.zero_le, Nat.reduceLeDiff, Nat.reduceAdd, Bool.and_true, Bool.true_and, Bool.and_self, Nat.reduceBNe, true_or, or_true, true_and, and_true, mj_z0, mj_z1, mj_z01, decide_true, decide_false, Bool.true_and, Bool.false_and, Bool.and_true, Bool.and_false, Bool.true_or, Bool.false_or, Bool.or_false, Bool.or_true, Bool.not_true, Bool.not_false, Bool.and_self, Bool.or_self, if_true, if_false, Bool.true_eq_false, Bool.false_eq_true, not_true, not_false_eq_true]
              exact hi _ _ _ (by omega)
            · simp only [Bool.and_self, if_true] at hi
              rw [et] at c3 c4 ⊢
              simp only [u71_0, u71_1, u71_3, u71_4, u71_7, u71_10, u71_11, u71_14, u71_15, u71_16, u71_19, u71_22, u71_23, u71_26, u71_27, u71_28, u71_29, u71_30, u71_33, u71_36, u71_37, u71_39, u71_40, u71_43, u71_46, u71_47, u71_49, u71_50, u71_53, u71_56, u71_57, u71_60, u71_61, u71_62, u71_63, u71_64, u71_67, u71_68, u71_71, u71_72, u71_75, u71_78, u71_79, u71_82, u71_83, u71_84, u71_85, u71_86, u71_89, u71_90, u71_93, u71_94, u71_97, u71_100, u71_101, u71_102, u71_105, u71_108, u71_110, u71_113, u71_114, u71_117, u71_118, u71_119, u71_120, u71_123, u71_126, u71_127, u71_130, u71_131, u71_132, u71_133, u71_134, u71_136, u71_137, u71_140, u71_141, u71_142, u71_145, u71_146, u71_147, u71_149, u71_152, u71_153, u71_156, u71_159, u71_162, u71_165, u71_166, u71_168, u71_169, u71_172, u71_175, u71_176, u71_178, u71_181, u71_182, u71_185, u71_186, u71_189, u71_190, u71_191, u71_192, u71_193, u71_194, u71_195, u71_198, u71_199, u71_200, u71_203, u71_204, u71_207, u71_208, u71_209, u71_212, u71_213, u71_214, u71_215, u71_216, u71_217, u71_220, u71_223, u71_224, u71_227, u71_228, u71_229, u71_230, u71_233, u71_236, eq_false c3, eq_true c4, o _ 46 (by decide), o _ 47 (by decide), o _ 25 (by decide), oo, o50, n1, mj_zT, mj_n10, d1, mj_rf_some, mj_rf14, mj_in_nI hk6 (by decide), mj_nz9 hk6 (by decide), em, mj_in_nI hm (by decide), mj_nz9 hm (by decide), mj_in_nI ht (by decide), mj_nz9 ht (by decide), mj_cw_s, nI_1, mj_cc_v, mj_cc_n, List.all_cons, List.all_nil, mj_noMk_int, mj_noMk_long, mj_noMk_ref, mj_noMk_junk, List.length_nil, List.length_cons, Nat.zero_le, Nat.reduceLeDiff, Nat.reduceAdd, Bool.and_true, Bool.true_and, Bool.and_self, Nat.reduceBNe, true_or, or_true, true_and, and_true, mj_z0, mj_z1, mj_z01, decide_true, decide_false, Bool.true_and, Bool.false_and, Bool.and_true, Bool.and_false, Bool.true_or, Bool.false_or, Bool.or_false, Bool.or_true, Bool.not_true, Bool.not_false, Bool.and_self, Bool.or_self, if_true, if_false, Bool.true_eq_false, Bool.false_eq_true, not_true, not_false_eq_true]
              exact hi _ _ _ (by omega)
        refine u71_48.mpr ?_
        by_cases c1 : σ.1 46 2 = 1
        · have h := main true (by rw [decide_eq_true c1]; rfl)
          simp only [u71_0, u71_1, u71_3, u71_4, u71_7, u71_10, u71_11, u71_14, u71_15, u71_16, u71_19, u71_22, u71_23, u71_26, u71_27, u71_28, u71_29, u71_30, u71_33, u71_36, u71_37, u71_39, u71_40, u71_43, u71_46, u71_47, u71_49, u71_50, u71_53, u71_56, u71_57, u71_60, u71_61, u71_62, u71_63, u71_64, u71_67, u71_68, u71_71, u71_72, u71_75, u71_78, u71_79, u71_82, u71_83, u71_84, u71_85, u71_86, u71_89, u71_90, u71_93, u71_94, u71_97, u71_100, u71_101, u71_102, u71_105, u71_108, u71_110, u71_113, u71_114, u71_117, u71_118, u71_119, u71_120, u71_123, u71_126, u71_127, u71_130, u71_131, u71_132, u71_133, u71_134, u71_136, u71_137, u71_140, u71_141, u71_142, u71_145, u71_146, u71_147, u71_149, u71_152, u71_153, u71_156, u71_159, u71_162, u71_165, u71_166, u71_168, u71_169, u71_172, u71_175, u71_176, u71_178, u71_181, u71_182, u71_185, u71_186, u71_189, u71_190, u71_191, u71_192, u71_193, u71_194, u71_195, u71_198, u71_199, u71_200, u71_203, u71_204, u71_207, u71_208, u71_209, u71_212, u71_213, u71_214, u71_215, u71_216, u71_217, u71_220, u71_223, u71_224, u71_227, u71_228, u71_229, u71_230, u71_233, u71_236, o _ 46 (by decide), o _ 48 (by decide), n1, q, mj_in_nI hk6 (by decide), mj_nz9 hk6 (by decide), eq_true c1, mj_cc_v, mj_cc_n, List.all_cons, List.all_nil, mj_noMk_int, mj_noMk_long, mj_noMk_ref, mj_noMk_junk, List.length_nil, List.length_cons, Nat.zero_le, Nat.reduceLeDiff, Nat.reduceAdd, Bool.and_true, Bool.true_and, Bool.and_self, Nat.reduceBNe, true_or, or_true, true_and, and_true, mj_z0, mj_z1, mj_z01, decide_true, decide_false, Bool.true_and, Bool.false_and, Bool.and_true, Bool.and_false, Bool.true_or, Bool.false_or, Bool.or_false, Bool.or_true, Bool.not_true, Bool.not_false, Bool.and_self, Bool.or_self, if_true, if_false, Bool.true_eq_false, Bool.false_eq_true, not_true, not_false_eq_true]
          exact h
        · by_cases c2 : σ.1 20 m = -1
          · have h := main true (by rw [decide_eq_true c2, Bool.or_true])
            simp only [u71_0, u71_1, u71_3, u71_4, u71_7, u71_10, u71_11, u71_14, u71_15, u71_16, u71_19, u71_22, u71_23, u71_26, u71_27, u71_28, u71_29, u71_30, u71_33, u71_36, u71_37, u71_39, u71_40, u71_43, u71_46, u71_47, u71_49, u71_50, u71_53, u71_56, u71_57, u71_60, u71_61, u71_62, u71_63, u71_64, u71_67, u71_68, u71_71, u71_72, u71_75, u71_78, u71_79, u71_82, u71_83, u71_84, u71_85, u71_86, u71_89, u71_90, u71_93, u71_94, u71_97, u71_100, u71_101, u71_102, u71_105, u71_108, u71_110, u71_113, u71_114, u71_117, u71_118, u71_119, u71_120, u71_123, u71_126, u71_127, u71_130, u71_131, u71_132, u71_133, u71_134, u71_136, u71_137, u71_140, u71_141, u71_142, u71_145, u71_146, u71_147, u71_149, u71_152, u71_153, u71_156, u71_159, u71_162, u71_165, u71_166, u71_168, u71_169, u71_172, u71_175, u71_176, u71_178, u71_181, u71_182, u71_185, u71_186, u71_189, u71_190, u71_191, u71_192, u71_193, u71_194, u71_195, u71_198, u71_199, u71_200, u71_203, u71_204, u71_207, u71_208, u71_209, u71_212, u71_213, u71_214, u71_215, u71_216, u71_217, u71_220, u71_223, u71_224, u71_227, u71_228, u71_229, u71_230, u71_233, u71_236, o _ 46 (by decide), o _ 47 (by decide), o _ 48 (by decide), o _ 20 (by decide), oo, d1, mj_rf_some, mj_rf14, n1, q, mj_in_nI hk6 (by decide), mj_nz9 hk6 (by decide), em, mj_in_nI hm (by decide), mj_nz9 hm (by decide), eq_false c1, eq_true c2, mj_cc_v, mj_cc_n, List.all_cons, List.all_nil, mj_noMk_int, mj_noMk_long, mj_noMk_ref, mj_noMk_junk, List.length_nil, List.length_cons, Nat.zero_le, Nat.reduceLeDiff, Nat.reduceAdd, Bool.and_true, Bool.true_and, Bool.and_self, Nat.reduceBNe, true_or, or_true, true_and, and_true, mj_z0, mj_z1, mj_z01, decide_true, decide_false, Bool.true_and, Bool.false_and, Bool.and_true, Bool.and_false, Bool.true_or, Bool.false_or, Bool.or_false, Bool.or_true, Bool.not_true, Bool.not_false, Bool.and_self, Bool.or_self, if_true, if_false, Bool.true_eq_false, Bool.false_eq_true, not_true, not_false_eq_true]
            exact h
          · have h := main false (by rw [decide_eq_false c1, decide_eq_false c2]; rfl)
            simp only [u71_0, u71_1, u71_3, u71_4, u71_7, u71_10, u71_11, u71_14, u71_15, u71_16, u71_19, u71_22, u71_23, u71_26, u71_27, u71_28, u71_29, u71_30, u71_33, u71_36, u71_37, u71_39, u71_40, u71_43, u71_46, u71_47, u71_49, u71_50, u71_53, u71_56, u71_57, u71_60, u71_61, u71_62, u71_63, u71_64, u71_67, u71_68, u71_71, u71_72, u71_75, u71_78, u71_79, u71_82, u71_83, u71_84, u71_85, u71_86, u71_89, u71_90, u71_93, u71_94, u71_97, u71_100, u71_101, u71_102, u71_105, u71_108, u71_110, u71_113, u71_114, u71_117, u71_118, u71_119, u71_120, u71_123, u71_126, u71_127, u71_130, u71_131, u71_132, u71_133, u71_134, u71_136, u71_137, u71_140, u71_141, u71_142, u71_145, u71_146, u71_147, u71_149, u71_152, u71_153, u71_156, u71_159, u71_162, u71_165, u71_166, u71_168, u71_169, u71_172, u71_175, u71_176, u71_178, u71_181, u71_182, u71_185, u71_186, u71_189, u71_190, u71_191, u71_192, u71_193, u71_194, u71_195, u71_198, u71_199, u71_200, u71_203, u71_204, u71_207, u71_208, u71_209, u71_212, u71_213, u71_214, u71_215, u71_216, u71_217, u71_220, u71_223, u71_224, u71_227, u71_228, u71_229, u71_230, u71_233, u71_236, o _ 46 (by decide), o _ 47 (by decide), o _ 48 (by decide), o _ 20 (by decide), oo, d1, mj_rf_some, mj_rf14, n1, q, mj_in_nI hk6 (by decide), mj_nz9 hk6 (by decide), em, mj_in_nI hm (by decide), mj_nz9 hm (by decide), eq_false c1, eq_false c2, mj_cc_v, mj_cc_n, List.all_cons, List.all_nil, mj_noMk_int, mj_noMk_long, mj_noMk_ref, mj_noMk_junk, List.length_nil, List.length_cons, Nat.zero_le, Nat.reduceLeDiff, Nat.reduceAdd, Bool.and_true, Bool.true_and, Bool.and_self, Nat.reduceBNe, true_or, or_true, true_and, and_true, mj_z0, mj_z1, mj_z01, decide_true, decide_false, Bool.true_and, Bool.false_and, Bool.and_true, Bool.and_false, Bool.true_or, Bool.false_or, Bool.or_false, Bool.or_true, Bool.not_true, Bool.not_false, Bool.and_self, Bool.or_self, if_true, if_false, Bool.true_eq_false, Bool.false_eq_true, not_true, not_false_eq_true]
            exact h
    have loop : ∀ (j k : Nat) (v2 v3 v4 v5 : Value), k + j = n → mj_Runs X (mj_ev X d) 3 none prog_5_method_10_code (38, [.ref 46, .int (nI k), v2, v3, v4, v5], [], mj_cw σ 50 (mj_dl σ n k)) (none, mj_dlS σ n) := by
      intro j
      induction j with
      | zero =>
        intro k v2 v3 v4 v5 hk
        have hk' : k = n := by omega
        subst hk'
        have q : ¬ nI k < nI k := nI_nlt (Nat.le_refl _) (by omega)
        refine u71_38.mpr ?_
        simp only [u71_0, u71_1, u71_3, u71_4, u71_7, u71_10, u71_11, u71_14, u71_15, u71_16, u71_19, u71_22, u71_23, u71_26, u71_27, u71_28, u71_29, u71_30, u71_33, u71_36, u71_37, u71_39, u71_40, u71_43, u71_46, u71_47, u71_49, u71_50, u71_53, u71_56, u71_57, u71_60, u71_61, u71_62, u71_63, u71_64, u71_67, u71_68, u71_71, u71_72, u71_75, u71_78, u71_79, u71_82, u71_83, u71_84, u71_85, u71_86, u71_89, u71_90, u71_93, u71_94, u71_96, u71_97, u71_100, u71_101, u71_102, u71_105, u71_108, u71_110, u71_113, u71_114, u71_117, u71_118, u71_119, u71_120, u71_123, u71_126, u71_127, u71_130, u71_131, u71_132, u71_133, u71_134, u71_136, u71_137, u71_140, u71_141, u71_142, u71_145, u71_146, u71_147, u71_149, u71_152, u71_153, u71_156, u71_159, u71_162, u71_165, u71_166, u71_168, u71_169, u71_172, u71_175, u71_176, u71_178, u71_181, u71_182, u71_185, u71_186, u71_189, u71_190, u71_191, u71_192, u71_193, u71_194, u71_195, u71_198, u71_199, u71_200, u71_203, u71_204, u71_207, u71_208, u71_209, u71_212, u71_213, u71_214, u71_215, u71_216, u71_217, u71_220, u71_223, u71_224, u71_227, u71_228, u71_229, u71_230, u71_233, u71_236, o _ 46 (by decide), n1, q, mj_cc_v, mj_cc_n, List.all_cons, List.all_nil, mj_noMk_int, mj_noMk_long, mj_noMk_ref, mj_noMk_junk, List.length_nil, List.length_cons, Nat.zero_le, Nat.reduceLeDiff, Nat.reduceAdd, Bool.and_true, Bool.true_and, Bool.and_self, Nat.reduceBNe, true_or, or_true, true_and, and_true, mj_z0, mj_z1, mj_z01, decide_true, decide_false, Bool.true_and, Bool.false_and, Bool.and_true, Bool.and_false, Bool.true_or, Bool.false_or, Bool.or_false, Bool.or_true, Bool.not_true, Bool.not_false, Bool.and_self, Bool.or_self, if_true, if_false, Bool.true_eq_false, Bool.false_eq_true, not_true, not_false_eq_true]
        have h := ph3 (mj_dl σ k k) v2 v3 v4 v5
        have e : mj_cw (mj_cw σ 50 (mj_dl σ k k)) 49 (σ.1 49) = mj_cw σ 50 (mj_dl σ k k) := by
          rw [← o (mj_dl σ k k) 49 (by decide)]
          exact mj_cw_self
        rw [e] at h
        exact h
      | succ j ih =>
        intro k v2 v3 v4 v5 hk
        have q : nI k < nI n := nI_lt (by omega) (by omega)
        refine u71_38.mpr ?_
        simp only [u71_0, u71_1, u71_3, u71_4, u71_7, u71_10, u71_11, u71_14, u71_15, u71_16, u71_19, u71_22, u71_23, u71_26, u71_27, u71_28, u71_29, u71_30, u71_33, u71_36, u71_37, u71_39, u71_40, u71_43, u71_46, u71_47, u71_49, u71_50, u71_53, u71_56, u71_57, u71_60, u71_61, u71_62, u71_63, u71_64, u71_67, u71_68, u71_71, u71_72, u71_75, u71_78, u71_79, u71_82, u71_83, u71_84, u71_85, u71_86, u71_89, u71_90, u71_93, u71_94, u71_96, u71_97, u71_100, u71_101, u71_102, u71_105, u71_108, u71_110, u71_113, u71_114, u71_117, u71_118, u71_119, u71_120, u71_123, u71_126, u71_127, u71_130, u71_131, u71_132, u71_133, u71_134, u71_136, u71_137, u71_140, u71_141, u71_142, u71_145, u71_146, u71_147, u71_149, u71_152, u71_153, u71_156, u71_159, u71_162, u71_165, u71_166, u71_168, u71_169, u71_172, u71_175, u71_176, u71_178, u71_181, u71_182, u71_185, u71_186, u71_189, u71_190, u71_191, u71_192, u71_193, u71_194, u71_195, u71_198, u71_199, u71_200, u71_203, u71_204, u71_207, u71_208, u71_209, u71_212, u71_213, u71_214, u71_215, u71_216, u71_217, u71_220, u71_223, u71_224, u71_227, u71_228, u71_229, u71_230, u71_233, u71_236, o _ 46 (by decide), n1, q, mj_cc_v, mj_cc_n, List.all_cons, List.all_nil, mj_noMk_int, mj_noMk_long, mj_noMk_ref, mj_noMk_junk, List.length_nil, List.length_cons, Nat.zero_le, Nat.reduceLeDiff, Nat.reduceAdd, Bool.and_true, Bool.true_and, Bool.and_self, Nat.reduceBNe, true_or, or_true, true_and, and_true, mj_z0, mj_z1, mj_z01, decide_true, decide_false, Bool.true_and, Bool.false_and, Bool.and_true, Bool.and_false, Bool.true_or, Bool.false_or, Bool.or_false, Bool.or_true, Bool.not_true, Bool.not_false, Bool.and_self, Bool.or_self, if_true, if_false, Bool.true_eq_false, Bool.false_eq_true, not_true, not_false_eq_true]
        exact inner k _ (mj_dl σ n k) (fun v3 v4 v5 => ih (k + 1) _ v3 v4 v5 (by omega)) n 0 v3 v4 v5 (by omega)
    intro v2 v3 v4 v5
    exact loop n 0 v2 v3 v4 v5 (by omega)
  -- the first
  refine st71 ?_
  simp only [u71_0, u71_1, u71_3, u71_4, u71_7, u71_10, u71_11, u71_14, u71_15, u71_16, u71_19, u71_22, u71_23, u71_26, u71_27, u71_28, u71_29, u71_30, u71_33, u71_36, u71_37, u71_39, u71_40, u71_43, u71_46, u71_47, u71_49, u71_50, u71_53, u71_56, u71_57, u71_60, u71_61, u71_62, u71_63, u71_64, u71_67, u71_68, u71_71, u71_72, u71_75, u71_78, u71_79, u71_82, u71_83, u71_84, u71_85, u71_86, u71_89, u71_90, u71_93, u71_94, u71_96, u71_97, u71_100, u71_101, u71_102, u71_105, u71_108, u71_110, u71_113, u71_114, u71_117, u71_118, u71_119, u71_120, u71_123, u71_126, u71_127, u71_130, u71_131, u71_132, u71_133, u71_134, u71_136, u71_137, u71_140, u71_141, u71_142, u71_145, u71_146, u71_147, u71_149, u71_152, u71_153, u71_156, u71_159, u71_162, u71_165, u71_166, u71_168, u71_169, u71_172, u71_175, u71_176, u71_178, u71_181, u71_182, u71_185, u71_186, u71_189, u71_190, u71_191, u71_192, u71_193, u71_194, u71_195, u71_198, u71_199, u71_200, u71_203, u71_204, u71_207, u71_208, u71_209, u71_212, u71_213, u71_214, u71_215, u71_216, u71_217, u71_220, u71_223, u71_224, u71_227, u71_228, u71_229, u71_230, u71_233, u71_236, mj_cc_v, mj_cc_n, List.all_cons, List.all_nil, mj_noMk_int, mj_noMk_long, mj_noMk_ref, mj_noMk_junk, List.length_nil, List.length_cons, Nat.zero_le, Nat.reduceLeDiff, Nat.reduceAdd, Bool.and_true, Bool.true_and, Bool.and_self, Nat.reduceBNe, true_or, or_true, true_and, and_true, mj_z0, mj_z1, mj_z01, decide_true, decide_false, Bool.true_and, Bool.false_and, Bool.and_true, Bool.and_false, Bool.true_or, Bool.false_or, Bool.or_false, Bool.or_true, Bool.not_true, Bool.not_false, Bool.and_self, Bool.or_self, if_true, if_false, Bool.true_eq_false, Bool.false_eq_true, not_true, not_false_eq_true]
  have h0 : mj_Runs X (mj_ev X d) 3 none prog_5_method_10_code (2, [.ref 46, .int (nI 0), mj_junk, mj_junk, mj_junk, mj_junk], [], mj_cw σ 50 (σ.1 50)) (none, mj_dlS σ n) :=
    mj_count (X := X) (call := mj_ev X d) (oc := 3) (ret := none) (cc := prog_5_method_10_code) (N := n) (S := fun k => (2, [.ref 46, .int (nI k), mj_junk, mj_junk, mj_junk, mj_junk], [], mj_cw σ 50 (mj_dl0 σ k))) (fun k hk hr => by
      have hk6 : k < 6 := by omega
      have q : nI k < nI n := nI_lt hk (by omega)
      obtain ⟨m, hm, em⟩ := mj_nI_of (n3 k hk) (by decide)
      have em' : (σ.1 47 k).toNatClampNeg = m := by rw [em]; exact nI_clamp (by omega)
      have e1 : mj_dl0 σ (k + 1) = mj_ud (mj_dl0 σ k) k (σ.1 17 (σ.1 47 k).toNatClampNeg) := rfl
      rw [e1, em'] at hr
      refine u71_2.mpr ?_
      simp only [u71_0, u71_1, u71_3, u71_4, u71_7, u71_10, u71_11, u71_14, u71_15, u71_16, u71_19, u71_22, u71_23, u71_26, u71_27, u71_28, u71_29, u71_30, u71_33, u71_36, u71_37, u71_39, u71_40, u71_43, u71_46, u71_47, u71_49, u71_50, u71_53, u71_56, u71_57, u71_60, u71_61, u71_62, u71_63, u71_64, u71_67, u71_68, u71_71, u71_72, u71_75, u71_78, u71_79, u71_82, u71_83, u71_84, u71_85, u71_86, u71_89, u71_90, u71_93, u71_94, u71_96, u71_97, u71_100, u71_101, u71_102, u71_105, u71_108, u71_110, u71_113, u71_114, u71_117, u71_118, u71_119, u71_120, u71_123, u71_126, u71_127, u71_130, u71_131, u71_132, u71_133, u71_134, u71_136, u71_137, u71_140, u71_141, u71_142, u71_145, u71_146, u71_147, u71_149, u71_152, u71_153, u71_156, u71_159, u71_162, u71_165, u71_166, u71_168, u71_169, u71_172, u71_175, u71_176, u71_178, u71_181, u71_182, u71_185, u71_186, u71_189, u71_190, u71_191, u71_192, u71_193, u71_194, u71_195, u71_198, u71_199, u71_200, u71_203, u71_204, u71_207, u71_208, u71_209, u71_212, u71_213, u71_214, u71_215, u71_216, u71_217, u71_220, u71_223, u71_224, u71_227, u71_228, u71_229, u71_230, u71_233, u71_236, o _ 46 (by decide), o _ 47 (by decide), o _ 17 (by decide), oo, d1, mj_rf_some, mj_rf14, n1, q, mj_in_nI hk6 (by decide), mj_nz9 hk6 (by decide), em, mj_in_nI hm (by decide), mj_nz9 hm (by decide), mj_cw_s, nI_1, mj_cc_v, mj_cc_n, List.all_cons, List.all_nil, mj_noMk_int, mj_noMk_long, mj_noMk_ref, mj_noMk_junk, List.length_nil, List.length_cons, Nat.zero_le, Nat.reduceLeDiff, Nat.reduceAdd, Bool.and_true, Bool.true_and, Bool.and_self, Nat.reduceBNe, true_or, or_true, true_and, and_true, mj_z0, mj_z1, mj_z01, decide_true, decide_false, Bool.true_and, Bool.false_and, Bool.and_true, Bool.and_false, Bool.true_or, Bool.false_or, Bool.or_false, Bool.or_true, Bool.not_true, Bool.not_false, Bool.and_self, Bool.or_self, if_true, if_false, Bool.true_eq_false, Bool.false_eq_true, not_true, not_false_eq_true]
      exact hr) (by
      have q : ¬ nI n < nI n := nI_nlt (Nat.le_refl _) (by omega)
      refine u71_2.mpr ?_
      simp only [u71_0, u71_1, u71_3, u71_4, u71_7, u71_10, u71_11, u71_14, u71_15, u71_16, u71_19, u71_22, u71_23, u71_26, u71_27, u71_28, u71_29, u71_30, u71_33, u71_36, u71_37, u71_39, u71_40, u71_43, u71_46, u71_47, u71_49, u71_50, u71_53, u71_56, u71_57, u71_60, u71_61, u71_62, u71_63, u71_64, u71_67, u71_68, u71_71, u71_72, u71_75, u71_78, u71_79, u71_82, u71_83, u71_84, u71_85, u71_86, u71_89, u71_90, u71_93, u71_94, u71_96, u71_97, u71_100, u71_101, u71_102, u71_105, u71_108, u71_110, u71_113, u71_114, u71_117, u71_118, u71_119, u71_120, u71_123, u71_126, u71_127, u71_130, u71_131, u71_132, u71_133, u71_134, u71_136, u71_137, u71_140, u71_141, u71_142, u71_145, u71_146, u71_147, u71_149, u71_152, u71_153, u71_156, u71_159, u71_162, u71_165, u71_166, u71_168, u71_169, u71_172, u71_175, u71_176, u71_178, u71_181, u71_182, u71_185, u71_186, u71_189, u71_190, u71_191, u71_192, u71_193, u71_194, u71_195, u71_198, u71_199, u71_200, u71_203, u71_204, u71_207, u71_208, u71_209, u71_212, u71_213, u71_214, u71_215, u71_216, u71_217, u71_220, u71_223, u71_224, u71_227, u71_228, u71_229, u71_230, u71_233, u71_236, o _ 46 (by decide), n1, q, mj_cc_v, mj_cc_n, List.all_cons, List.all_nil, mj_noMk_int, mj_noMk_long, mj_noMk_ref, mj_noMk_junk, List.length_nil, List.length_cons, Nat.zero_le, Nat.reduceLeDiff, Nat.reduceAdd, Bool.and_true, Bool.true_and, Bool.and_self, Nat.reduceBNe, true_or, or_true, true_and, and_true, mj_z0, mj_z1, mj_z01, decide_true, decide_false, Bool.true_and, Bool.false_and, Bool.and_true, Bool.and_false, Bool.true_or, Bool.false_or, Bool.or_false, Bool.or_true, Bool.not_true, Bool.not_false, Bool.and_self, Bool.or_self, if_true, if_false, Bool.true_eq_false, Bool.false_eq_true, not_true, not_false_eq_true]
      exact ph2 _ _ _ _) 0 (Nat.zero_le _)
  rw [mj_cw_self] at h0
  exact h0
end
