section
variable {X : mj_X} {d : Nat} {σ τ ρ : mj_St}
-- opening
def mj_Cop1 (σ : mj_St) (i : Nat) (p : Int32 × Nat) : Int32 × Nat := if mj_b p.1 i = true then (p.1 &&& (mj_ch (σ.1 19) (σ.1 14 14) 9 (nI i) 0 ^^^ -1), p.2 + 1) else p
def mj_Cop (σ : mj_St) (l : Int32) (n : Nat) : Int32 × Nat := mj_it (mj_Cop1 σ) (l, 0) n
theorem sp_opening {N : Nat} (hN : σ.1 14 14 = nI N) (h9 : N ≤ 9) : mj_ev X (d + 4) 125 [.ref 0] σ = some (some (.int (nI (mj_Cop σ (mj_ring σ N) N).2)), σ) := by
  have hring : mj_ev X (d + 3) 63 [.ref 14] σ = some (some (.int (mj_ring σ N)), σ) := sp_ringOnes hN h9
  have hch : ∀ i, mj_ev X (d + 3) 64 [.ref 14, .int i] σ = some (some (.int (mj_ch (σ.1 19) (σ.1 14 14) 9 i 0)), σ) := fun i => sp_chainOf (d := d + 1) (by rw [hN, nI_toInt (by omega)]; omega)
  have hl : mj_Runs X (mj_ev X (d + 3)) 5 (some .int) prog_1_method_31_code (12, [.ref 0, .int (mj_Cop σ (mj_ring σ N) 0).1, .int (nI (mj_Cop σ (mj_ring σ N) 0).2), .int (nI 0)], [], σ) (some (.int (nI (mj_Cop σ (mj_ring σ N) N).2)), σ) :=
    mj_count (X := X) (call := mj_ev X (d + 3)) (oc := 5) (ret := (some .int)) (cc := prog_1_method_31_code) (N := N) (S := fun k => (12, [.ref 0, .int (mj_Cop σ (mj_ring σ N) k).1, .int (nI (mj_Cop σ (mj_ring σ N) k).2), .int (nI k)], [], σ)) (fun k hk hr => by
      have hk9 : k < 9 := by omega
      have q : nI k < nI N := nI_lt hk (by omega)
      have e1 : mj_Cop σ (mj_ring σ N) (k + 1) = mj_Cop1 σ k (mj_Cop σ (mj_ring σ N) k) := rfl
      rw [e1] at hr
      generalize mj_Cop σ (mj_ring σ N) k = p at *
      have hbt : (p.1 >>> (nI k &&& 31)) &&& 1 = mj_z (mj_b p.1 k) := mj_bt (by omega)
      unfold mj_Cop1 at hr
      refine u125_12.mpr ?_
      cases c : mj_b p.1 k
      · rw [c] at hbt
        rw [if_neg (by rw [c]; decide)] at hr
        simp only [u125_0, u125_1, u125_4, u125_7, u125_8, u125_9, u125_10, u125_11, u125_13, u125_14, u125_17, u125_20, u125_23, u125_24, u125_25, u125_26, u125_27, u125_28, u125_31, u125_34, u125_35, u125_36, u125_39, u125_40, u125_43, u125_44, u125_45, u125_46, u125_47, u125_50, u125_53, u125_54, hN, q, hbt, mj_zF, nI_1, mj_cc_v, mj_cc_n, List.all_cons, List.all_nil, mj_noMk_int, mj_noMk_long, mj_noMk_ref, mj_noMk_junk, List.length_nil, List.length_cons, Nat.zero_le, Nat.reduceLeDiff, Nat.reduceAdd, Bool.and_true, Bool.true_and, Bool.and_self, Nat.reduceBNe, true_or, or_true, true_and, and_true, mj_z0, mj_z1, mj_z01, decide_true, decide_false, Bool.true_and, Bool.false_and, Bool.and_true, Bool.and_false, Bool.true_or, Bool.false_or, Bool.or_false, Bool.or_true, Bool.not_true, Bool.not_false, Bool.and_self, Bool.or_self, if_true, if_false, Bool.true_eq_false, Bool.false_eq_true, not_true, not_false_eq_true]
        exact hr
      · rw [c] at hbt
        rw [if_pos c, hN] at hr
        have hchk := hch (nI k)
        rw [hN] at hchk
        simp only [u125_0, u125_1, u125_4, u125_7, u125_8, u125_9, u125_10, u125_11, u125_13, u125_14, u125_17, u125_20, u125_23, u125_24, u125_25, u125_26, u125_27, u125_28, u125_31, u125_34, u125_35, u125_36, u125_39, u125_40, u125_43, u125_44, u125_45, u125_46, u125_47, u125_50, u125_53, u125_54, hN, q, hbt, hchk, mj_zT, mj_n10, nI_1, mj_cc_v, mj_cc_n, List.all_cons, List.all_nil, mj_noMk_int, mj_noMk_long, mj_noMk_ref, mj_noMk_junk, List.length_nil, List.length_cons, Nat.zero_le, Nat.reduceLeDiff, Nat.reduceAdd, Bool.and_true, Bool.true_and, Bool.and_self, Nat.reduceBNe, true_or, or_true, true_and, and_true, mj_z0, mj_z1, mj_z01, decide_true, decide_false, Bool.true_and, Bool.false_and, Bool.and_true, Bool.and_false, Bool.true_or, Bool.false_or, Bool.or_false, Bool.or_true, Bool.not_true, Bool.not_false, Bool.and_self, Bool.or_self, if_true, if_false, Bool.true_eq_false, Bool.false_eq_true, not_true, not_false_eq_true]
        exact hr) (by
      have q : ¬ nI N < nI N := nI_nlt (Nat.le_refl _) (by omega)
      refine u125_12.mpr ?_
      simp only [u125_0, u125_1, u125_4, u125_7, u125_8, u125_9, u125_10, u125_11, u125_13, u125_14, u125_17, u125_20, u125_23, u125_24, u125_25, u125_26, u125_27, u125_28, u125_31, u125_34, u125_35, u125_36, u125_39, u125_40, u125_43, u125_44, u125_45, u125_46, u125_47, u125_50, u125_53, u125_54, hN, q, mj_cc_v, mj_cc_n, List.all_cons, List.all_nil, mj_noMk_int, mj_noMk_long, mj_noMk_ref, mj_noMk_junk, List.length_nil, List.length_cons, Nat.zero_le, Nat.reduceLeDiff, Nat.reduceAdd, Bool.and_true, Bool.true_and, Bool.and_self, Nat.reduceBNe, true_or, or_true, true_and, and_true, mj_z0, mj_z1, mj_z01, decide_true, decide_false, Bool.true_and, Bool.false_and, Bool.and_true, Bool.and_false, Bool.true_or, Bool.false_or, Bool.or_false, Bool.or_true, Bool.not_true, Bool.not_false, Bool.and_self, Bool.or_self, if_true, if_false, Bool.true_eq_false, Bool.false_eq_true, not_true, not_false_eq_true]) 0 (Nat.zero_le _)
  have e0 : nI 0 = 0 := rfl
  have e1 : mj_Cop σ (mj_ring σ N) 0 = (mj_ring σ N, 0) := rfl
  rw [e1, e0] at hl
  refine st125 ?_
  simp only [u125_0, u125_1, u125_4, u125_7, u125_8, u125_9, u125_10, u125_11, u125_13, u125_14, u125_17, u125_20, u125_23, u125_24, u125_25, u125_26, u125_27, u125_28, u125_31, u125_34, u125_35, u125_36, u125_39, u125_40, u125_43, u125_44, u125_45, u125_46, u125_47, u125_50, u125_53, u125_54, hring, mj_cc_v, mj_cc_n, List.all_cons, List.all_nil, mj_noMk_int, mj_noMk_long, mj_noMk_ref, mj_noMk_junk, List.length_nil, List.length_cons, Nat.zero_le, Nat.reduceLeDiff, Nat.reduceAdd, Bool.and_true, Bool.true_and, Bool.and_self, Nat.reduceBNe, true_or, or_true, true_and, and_true, mj_z0, mj_z1, mj_z01, decide_true, decide_false, Bool.true_and, Bool.false_and, Bool.and_true, Bool.and_false, Bool.true_or, Bool.false_or, Bool.or_false, Bool.or_true, Bool.not_true, Bool.not_false, Bool.and_self, Bool.or_self, if_true, if_false, Bool.true_eq_false, Bool.false_eq_true, not_true, not_false_eq_true]
  exact hl
-- rows told by hand
def mj_Chr (σ : mj_St) (s o w : Int32) : Int32 := if mj_inb w 6 = true then (if mj_rr σ s = 0 then (if mj_inb o 8 = true then 0 else -6) else mj_rr σ s) else -1
theorem sp_handRefusal {s o w : Int32} : mj_ev X (d + 3) 127 [.ref 0, .int s, .int o, .int w] σ = some (some (.int (mj_Chr σ s o w)), σ) := by
  have hw : mj_ev X (d + 2) 128 [.int w] σ = some (some (.int (mj_z (mj_inb w 6))), σ) := sp_isPerson (d := d + 1)
  have ho : mj_ev X (d + 2) 52 [.int o] σ = some (some (.int (mj_z (mj_inb o 8))), σ) := sp_isOutcome (d := d + 1)
  have hr := sp_rowRefusal (X := X) (d := d) (s := s) (σ := σ)
  unfold mj_Chr
  refine st127 ?_
  cases c1 : mj_inb w 6
  · rw [c1] at hw
    simp only [u127_0, u127_1, u127_4, u127_7, u127_8, u127_9, u127_10, u127_11, u127_14, u127_16, u127_18, u127_21, u127_22, u127_25, u127_28, u127_30, u127_32, u127_34, hw, mj_zF, mj_cc_v, mj_cc_n, List.all_cons, List.all_nil, mj_noMk_int, mj_noMk_long, mj_noMk_ref, mj_noMk_junk, List.length_nil, List.length_cons, Nat.zero_le, Nat.reduceLeDiff, Nat.reduceAdd, Bool.and_true, Bool.true_and, Bool.and_self, Nat.reduceBNe, true_or, or_true, true_and, and_true, mj_z0, mj_z1, mj_z01, decide_true, decide_false, Bool.true_and, Bool.false_and, Bool.and_true, Bool.and_false, Bool.true_or, Bool.false_or, Bool.or_false, Bool.or_true, Bool.not_true, Bool.not_false, Bool.and_self, Bool.or_self, if_true, if_false, Bool.true_eq_false, Bool.false_eq_true, not_true, not_false_eq_true]
  · rw [c1] at hw
    by_cases c2 : mj_rr σ s = 0
    · rw [c2] at hr
      cases c3 : mj_inb o 8
      · rw [c3] at ho
        simp only [u127_0, u127_1, u127_4, u127_7, u127_8, u127_9, u127_10, u127_11, u127_14, u127_16, u127_18, u127_21, u127_22, u127_25, u127_28, u127_30, u127_32, u127_34, hw, hr, ho, eq_true c2, mj_zT, mj_zF, mj_n10, mj_cc_v, mj_cc_n, List.all_cons, List.all_nil, mj_noMk_int, mj_noMk_long, mj_noMk_ref, mj_noMk_junk, List.length_nil, List.length_cons, Nat.zero_le, Nat.reduceLeDiff, Nat.reduceAdd, Bool.and_true, Bool.true_and, Bool.and_self, Nat.reduceBNe, true_or, or_true, true_and, and_true, mj_z0, mj_z1, mj_z01, decide_true, decide_false, Bool.true_and, Bool.false_and, Bool.and_true, Bool.and_false, Bool.true_or, Bool.false_or, Bool.or_false, Bool.or_true, Bool.not_true, Bool.not_false, Bool.and_self, Bool.or_self, if_true, if_false, Bool.true_eq_false, Bool.false_eq_true, not_true, not_false_eq_true]
      · rw [c3] at ho
        simp only [u127_0, u127_1, u127_4, u127_7, u127_8, u127_9, u127_10, u127_11, u127_14, u127_16, u127_18, u127_21, u127_22, u127_25, u127_28, u127_30, u127_32, u127_34, hw, hr, ho, eq_true c2, mj_zT, mj_n10, mj_cc_v, mj_cc_n, List.all_cons, List.all_nil, mj_noMk_int, mj_noMk_long, mj_noMk_ref, mj_noMk_junk, List.length_nil, List.length_cons, Nat.zero_le, Nat.reduceLeDiff, Nat.reduceAdd, Bool.and_true, Bool.true_and, Bool.and_self, Nat.reduceBNe, true_or, or_true, true_and, and_true, mj_z0, mj_z1, mj_z01, decide_true, decide_false, Bool.true_and, Bool.false_and, Bool.and_true, Bool.and_false, Bool.true_or, Bool.false_or, Bool.or_false, Bool.or_true, Bool.not_true, Bool.not_false, Bool.and_self, Bool.or_self, if_true, if_false, Bool.true_eq_false, Bool.false_eq_true, not_true, not_false_eq_true]
    · simp only [u127_0, u127_1, u127_4, u127_7, u127_8, u127_9, u127_10, u127_11, u127_14, u127_16, u127_18, u127_21, u127_22, u127_25, u127_28, u127_30, u127_32, u127_34, hw, hr, eq_false c2, mj_zT, mj_n10, mj_cc_v, mj_cc_n, List.all_cons, List.all_nil, mj_noMk_int, mj_noMk_long, mj_noMk_ref, mj_noMk_junk, List.length_nil, List.length_cons, Nat.zero_le, Nat.reduceLeDiff, Nat.reduceAdd, Bool.and_true, Bool.true_and, Bool.and_self, Nat.reduceBNe, true_or, or_true, true_and, and_true, mj_z0, mj_z1, mj_z01, decide_true, decide_false, Bool.true_and, Bool.false_and, Bool.and_true, Bool.and_false, Bool.true_or, Bool.false_or, Bool.or_false, Bool.or_true, Bool.not_true, Bool.not_false, Bool.and_self, Bool.or_self, if_true, if_false, Bool.true_eq_false, Bool.false_eq_true, not_true, not_false_eq_true]
theorem mj_Chr_neg {s o w : Int32} (h : ¬ mj_Chr σ s o w = 0) : mj_inb (-(mj_Chr σ s o w)) 8 = true ∧ 0 < -(mj_Chr σ s o w) := by
  unfold mj_Chr at h ⊢
  by_cases c1 : mj_inb w 6 = true
  · rw [if_pos c1] at h ⊢
    by_cases c2 : mj_rr σ s = 0
    · rw [if_pos c2] at h ⊢
      by_cases c3 : mj_inb o 8 = true
      · rw [if_pos c3] at h
        exact absurd rfl h
      · rw [if_neg c3]
        exact ⟨by decide, by decide⟩
    · rw [if_neg c2]
      rcases mj_rr_ne c2 with e | e | e <;> rw [e] <;> exact ⟨by decide, by decide⟩
  · rw [if_neg c1]
    exact ⟨by decide, by decide⟩
/-- an hour told: the state (with the clash), the works that are lost, what is broken -/
def mj_te1 (st : Nat → Int32) (o : Int32) (N h : Nat) (p : mj_St × Int32 × Int32) : mj_St × Int32 × Int32 :=
  (mj_psS (if ¬ mj_why p.1 60 (st h) (nI h) o p.2.1 N = 0 ∧ p.1.1 59 2 = -1 then mj_setI p.1 59 2 (10 * nI h + mj_why p.1 60 (st h) (nI h) o p.2.1 N) else p.1) 60 (if mj_why p.1 60 (st h) (nI h) o p.2.1 N = 0 then st h else 0) N,
   p.2.1 ||| mj_pls p.1 60 (if mj_why p.1 60 (st h) (nI h) o p.2.1 N = 0 then st h else 0) (nI h) o p.2.1 N,
   if mj_why p.1 60 (st h) (nI h) o p.2.1 N = 4 then p.2.2 ||| mj_broken p.1 6 (st h) (nI h) o N N else if mj_why p.1 60 (st h) (nI h) o p.2.1 N = 5 then p.2.2 ||| mj_broken p.1 5 (st h) (nI h) o N N else p.2.2)
def mj_te (σ : mj_St) (st : Nat → Int32) (o : Int32) (N n : Nat) : mj_St × Int32 × Int32 := mj_it (mj_te1 st o N) (mj_setI (mj_cpyI σ 24 60 0 0 9) 59 2 (-1), 0, 0) n
def mj_Cst (σ : mj_St) (c e h : Nat) : Int32 := if h < e then mj_kl σ c h else 0
/-- what a telling leaves -/
def mj_Ctl (σ : mj_St) (c e : Nat) (o : Int32) (N : Nat) : mj_St := mj_setI (mj_te σ (mj_Cst σ c e) o N 12).1 59 1 ((mj_te σ (mj_Cst σ c e) o N 12).2.1 ||| (mj_te σ (mj_Cst σ c e) o N 12).2.2)
theorem mj_te_fr {st : Nat → Int32} {o : Int32} {N : Nat} : ∀ n, (mj_te σ st o N n).1.2 = σ.2 ∧ ∀ c, c ≠ 59 → c ≠ 60 → (mj_te σ st o N n).1.1 c = σ.1 c := by
  intro n
  induction n with
  | zero =>
    refine ⟨rfl, fun c h1 h2 => ?_⟩
    show (mj_setI (mj_cpyI σ 24 60 0 0 9) 59 2 (-1)).1 c = σ.1 c
    rw [mj_setI_ne _ _ _ h1]
    show (if c = 60 then va_cpy (σ.1 24) (σ.1 60) 0 0 9 else σ.1 c) = σ.1 c
    rw [if_neg h2]
  | succ n ih =>
    have e : mj_te σ st o N (n + 1) = mj_te1 st o N n (mj_te σ st o N n) := rfl
    rw [e]
    generalize mj_te σ st o N n = p at *
    unfold mj_te1
    refine ⟨?_, fun c h1 h2 => ?_⟩
    · rw [mj_psS_2]
      split
      · exact ih.1
      · exact ih.1
    · rw [mj_psS_o h2]
      split
      · rw [mj_setI_ne _ _ _ h1]
        exact ih.2 c h1 h2
      · exact ih.2 c h1 h2
theorem sp_tell {c e N : Nat} {o : Int32} (hN : σ.1 14 14 = nI N) (h9 : N ≤ 9) (hf : ∀ k, k < N → σ.1 20 k = -1 ∨ mj_inb (σ.1 20 k) 3 = true) (hc4 : 4 ≤ c) (hc12 : c < 12) (he : e ≤ 60) : mj_ev X (d + 6) 129 [.ref 59, .ref 14, .ref c, .int (nI e), .int o] σ = some (none, mj_Ctl σ c e o N) := by
  have n9 := mj_noMk_row hc12
  have sh24 : mj_shp 24 = (1, 9, []) := by decide +kernel
  have sh60 : mj_shp 60 = (1, 9, []) := by decide +kernel
  have hcp : mj_cpS σ 24 60 0 0 9 = some (mj_cpyI σ 24 60 0 0 9) := by
    unfold mj_cpS
    rw [sh24, sh60]
    rfl
  have hlen : ∀ τ : mj_St, mj_lenA X τ c = some 60 := by
    intro τ
    have : c = 4 ∨ c = 5 ∨ c = 6 ∨ c = 7 ∨ c = 8 ∨ c = 9 ∨ c = 10 ∨ c = 11 := by omega
    rcases this with q | q | q | q | q | q | q | q <;> subst q <;> rfl
  have main : ∀ (j h : Nat) (v8 v9 : Value), mj_noMk v8 = true → mj_noMk v9 = true → h + j = 12 → mj_Runs X (mj_ev X (d + 5)) 4 none prog_6_method_2_code (29, [.ref 59, .ref 14, .ref c, .int (nI e), .int o, .int (mj_te σ (mj_Cst σ c e) o N h).2.1, .int (mj_te σ (mj_Cst σ c e) o N h).2.2, .int (nI h), v8, v9], [], (mj_te σ (mj_Cst σ c e) o N h).1) (none, mj_Ctl σ c e o N) := by
    intro j
    induction j with
    | zero =>
      intro h v8 v9 m8 m9 hj
      have : h = 12 := by omega
      subst this
      have q : ¬ nI 12 < 12 := by decide
      unfold mj_Ctl
      refine u129_29.mpr ?_
      simp only [u129_0, u129_1, u129_4, u129_5, u129_6, u129_9, u129_10, u129_12, u129_15, u129_16, u129_18, u129_19, u129_21, u129_22, u129_23, u129_26, u129_27, u129_31, u129_33, u129_36, u129_38, u129_39, u129_42, u129_44, u129_45, u129_46, u129_49, u129_50, u129_52, u129_53, u129_54, u129_57, u129_58, u129_60, u129_61, u129_63, u129_65, u129_67, u129_68, u129_71, u129_73, u129_76, u129_78, u129_80, u129_83, u129_84, u129_87, u129_88, u129_91, u129_92, u129_94, u129_96, u129_97, u129_99, u129_100, u129_103, u129_105, u129_106, u129_109, u129_111, u129_112, u129_114, u129_116, u129_118, u129_120, u129_123, u129_124, u129_126, u129_129, u129_131, u129_132, u129_135, u129_137, u129_138, u129_139, u129_141, u129_143, u129_145, u129_148, u129_149, u129_151, u129_153, u129_154, u129_156, u129_159, u129_161, u129_164, u129_165, u129_167, u129_169, u129_170, u129_173, u129_175, u129_178, u129_179, u129_181, u129_184, u129_187, u129_188, u129_190, u129_192, u129_193, u129_196, q, mj_cc_v, mj_cc_n, List.all_cons, List.all_nil, mj_noMk_int, mj_noMk_long, mj_noMk_ref, mj_noMk_junk, List.length_nil, List.length_cons, Nat.zero_le, Nat.reduceLeDiff, Nat.reduceAdd, Bool.and_true, Bool.true_and, Bool.and_self, Nat.reduceBNe, true_or, or_true, true_and, and_true, mj_z0, mj_z1, mj_z01, decide_true, decide_false, Bool.true_and, Bool.false_and, Bool.and_true, Bool.and_false, Bool.true_or, Bool.false_or, Bool.or_false, Bool.or_true, Bool.not_true, Bool.not_false, Bool.and_self, Bool.or_self, if_true, if_false, Bool.true_eq_false, Bool.false_eq_true, not_true, not_false_eq_true]
    | succ j ih =>
      intro h v8 v9 m8 m9 hj
      have hh : h < 12 := by omega
      have q12 : nI h < 12 := nI_lt (b := 12) hh (by decide)
      have q60 : nI h < 60 := nI_lt (b := 60) (by omega) (by decide)
      obtain ⟨f2, fc⟩ := mj_te_fr (σ := σ) (st := mj_Cst σ c e) (o := o) (N := N) h
      have es : mj_te σ (mj_Cst σ c e) o N (h + 1) = mj_te1 (mj_Cst σ c e) o N h (mj_te σ (mj_Cst σ c e) o N h) := rfl
      generalize hp : mj_te σ (mj_Cst σ c e) o N h = p at *
      obtain ⟨τ, lw, br⟩ := p
      have f2' : τ.2 = σ.2 := f2
      have fc' : ∀ c, c ≠ 59 → c ≠ 60 → τ.1 c = σ.1 c := fc
      have row : ∀ r, mj_Runs X (mj_ev X (d + 5)) 4 none prog_6_method_2_code (58, [.ref 59, .ref 14, .ref c, .int (nI e), .int o, .int lw, .int br, .int (nI h), v8, v9], [.int (mj_Cst σ c e h)], τ) r → mj_Runs X (mj_ev X (d + 5)) 4 none prog_6_method_2_code (29, [.ref 59, .ref 14, .ref c, .int (nI e), .int o, .int lw, .int br, .int (nI h), v8, v9], [], τ) r := by
        intro r hr
        unfold mj_Cst at hr
        refine u129_29.mpr ?_
        by_cases c1 : h < e
        · have q : nI h < nI e := nI_lt c1 (by omega)
          rw [if_pos c1] at hr
          have el : (τ.2.1 c h).toInt32 = mj_kl σ c h := by
            unfold mj_kl
            rw [f2']
          simp only [u129_0, u129_1, u129_4, u129_5, u129_6, u129_9, u129_10, u129_12, u129_15, u129_16, u129_18, u129_19, u129_21, u129_22, u129_23, u129_26, u129_27, u129_31, u129_33, u129_36, u129_38, u129_39, u129_42, u129_44, u129_45, u129_46, u129_49, u129_50, u129_52, u129_53, u129_54, u129_57, u129_60, u129_61, u129_63, u129_65, u129_67, u129_68, u129_71, u129_73, u129_76, u129_78, u129_80, u129_83, u129_84, u129_87, u129_88, u129_91, u129_92, u129_94, u129_96, u129_97, u129_99, u129_100, u129_103, u129_105, u129_106, u129_109, u129_111, u129_112, u129_114, u129_116, u129_118, u129_120, u129_123, u129_124, u129_126, u129_129, u129_131, u129_132, u129_135, u129_137, u129_138, u129_139, u129_141, u129_143, u129_145, u129_148, u129_149, u129_151, u129_153, u129_154, u129_156, u129_159, u129_161, u129_164, u129_165, u129_167, u129_169, u129_170, u129_173, u129_175, u129_178, u129_179, u129_181, u129_184, u129_187, u129_188, u129_190, u129_192, u129_193, u129_196, q12, q, hlen, mj_kN, q60, mj_kL_row hc4 hc12 (show h < 60 by omega), el, mj_cc_v, mj_cc_n, List.all_cons, List.all_nil, mj_noMk_int, mj_noMk_long, mj_noMk_ref, mj_noMk_junk, List.length_nil, List.length_cons, Nat.zero_le, Nat.reduceLeDiff, Nat.reduceAdd, Bool.and_true, Bool.true_and, Bool.and_self, Nat.reduceBNe, true_or, or_true, true_and, and_true, mj_z0, mj_z1, mj_z01, decide_true, decide_false, Bool.true_and, Bool.false_and, Bool.and_true, Bool.and_false, Bool.true_or, Bool.false_or, Bool.or_false, Bool.or_true, Bool.not_true, Bool.not_false, Bool.and_self, Bool.or_self, if_true, if_false, Bool.true_eq_false, Bool.false_eq_true, not_true, not_false_eq_true]
          exact hr
        · have q : ¬ nI h < nI e := nI_nlt (by omega) (by omega)
          rw [if_neg c1] at hr
          simp only [u129_0, u129_1, u129_4, u129_5, u129_6, u129_9, u129_10, u129_12, u129_15, u129_16, u129_18, u129_19, u129_21, u129_22, u129_23, u129_26, u129_27, u129_31, u129_33, u129_36, u129_38, u129_39, u129_42, u129_44, u129_45, u129_46, u129_49, u129_50, u129_52, u129_53, u129_54, u129_57, u129_60, u129_61, u129_63, u129_65, u129_67, u129_68, u129_71, u129_73, u129_76, u129_78, u129_80, u129_83, u129_84, u129_87, u129_88, u129_91, u129_92, u129_94, u129_96, u129_97, u129_99, u129_100, u129_103, u129_105, u129_106, u129_109, u129_111, u129_112, u129_114, u129_116, u129_118, u129_120, u129_123, u129_124, u129_126, u129_129, u129_131, u129_132, u129_135, u129_137, u129_138, u129_139, u129_141, u129_143, u129_145, u129_148, u129_149, u129_151, u129_153, u129_154, u129_156, u129_159, u129_161, u129_164, u129_165, u129_167, u129_169, u129_170, u129_173, u129_175, u129_178, u129_179, u129_181, u129_184, u129_187, u129_188, u129_190, u129_192, u129_193, u129_196, q12, q, mj_cc_v, mj_cc_n, List.all_cons, List.all_nil, mj_noMk_int, mj_noMk_long, mj_noMk_ref, mj_noMk_junk, List.length_nil, List.length_cons, Nat.zero_le, Nat.reduceLeDiff, Nat.reduceAdd, Bool.and_true, Bool.true_and, Bool.and_self, Nat.reduceBNe, true_or, or_true, true_and, and_true, mj_z0, mj_z1, mj_z01, decide_true, decide_false, Bool.true_and, Bool.false_and, Bool.and_true, Bool.and_false, Bool.true_or, Bool.false_or, Bool.or_false, Bool.or_true, Bool.not_true, Bool.not_false, Bool.and_self, Bool.or_self, if_true, if_false, Bool.true_eq_false, Bool.false_eq_true, not_true, not_false_eq_true]
          exact hr
      refine row _ ?_
      unfold mj_te1 at es
      generalize hset : mj_Cst σ c e h = set at *
      have hNτ : τ.1 14 14 = nI N := by rw [fc' 14 (by decide) (by decide)]; exact hN
      have hfτ : ∀ k, k < N → τ.1 20 k = -1 ∨ mj_inb (τ.1 20 k) 3 = true := by
        intro k hk
        rw [fc' 20 (by decide) (by decide)]
        exact hf k hk
      have hwn : mj_ev X (d + 5) 130 [.ref 14, .int set, .int (nI h), .int o, .ref 60, .int lw] τ = some (some (.int (mj_why τ 60 set (nI h) o lw N)), τ) := sp_whyNot hNτ h9 sh60 hfτ (mj_in_nI hh (by decide))
      simp only [hset] at es
      generalize hwy : mj_why τ 60 set (nI h) o lw N = w at *
      -- the clash
      generalize hτ1 : (if ¬ w = 0 ∧ τ.1 59 2 = -1 then mj_setI τ 59 2 (10 * nI h + w) else τ) = τ1 at *
      have f1 : τ1.2 = τ.2 ∧ ∀ c, c ≠ 59 → τ1.1 c = τ.1 c := by
        rw [← hτ1]
        split
        · exact ⟨rfl, fun c hc => mj_setI_ne _ _ _ hc⟩
        · exact ⟨rfl, fun _ _ => rfl⟩
      have clash : ∀ r, mj_Runs X (mj_ev X (d + 5)) 4 none prog_6_method_2_code (103, [.ref 59, .ref 14, .ref c, .int (nI e), .int o, .int lw, .int br, .int (nI h), .int set, .int w], [], τ1) r → mj_Runs X (mj_ev X (d + 5)) 4 none prog_6_method_2_code (58, [.ref 59, .ref 14, .ref c, .int (nI e), .int o, .int lw, .int br, .int (nI h), v8, v9], [.int set], τ) r := by
        intro r hr
        rw [← hτ1] at hr
        refine u129_58.mpr ?_
        by_cases c1 : w = 0
        · rw [if_neg (fun z => z.1 c1)] at hr
          rw [c1] at hr hwn
          simp only [u129_0, u129_1, u129_4, u129_5, u129_6, u129_9, u129_10, u129_12, u129_15, u129_16, u129_18, u129_19, u129_21, u129_22, u129_23, u129_26, u129_27, u129_31, u129_33, u129_36, u129_38, u129_39, u129_42, u129_44, u129_45, u129_46, u129_49, u129_50, u129_52, u129_53, u129_54, u129_57, u129_60, u129_61, u129_63, u129_65, u129_67, u129_68, u129_71, u129_73, u129_76, u129_78, u129_80, u129_83, u129_84, u129_87, u129_88, u129_91, u129_92, u129_94, u129_96, u129_97, u129_99, u129_100, u129_105, u129_106, u129_109, u129_111, u129_112, u129_114, u129_116, u129_118, u129_120, u129_123, u129_124, u129_126, u129_129, u129_131, u129_132, u129_135, u129_137, u129_138, u129_139, u129_141, u129_143, u129_145, u129_148, u129_149, u129_151, u129_153, u129_154, u129_156, u129_159, u129_161, u129_164, u129_165, u129_167, u129_169, u129_170, u129_173, u129_175, u129_178, u129_179, u129_181, u129_184, u129_187, u129_188, u129_190, u129_192, u129_193, u129_196, hwn, m9, n9, mj_noMk_ref, mj_cc_v, mj_cc_n, List.all_cons, List.all_nil, mj_noMk_int, mj_noMk_long, mj_noMk_ref, mj_noMk_junk, List.length_nil, List.length_cons, Nat.zero_le, Nat.reduceLeDiff, Nat.reduceAdd, Bool.and_true, Bool.true_and, Bool.and_self, Nat.reduceBNe, true_or, or_true, true_and, and_true, mj_z0, mj_z1, mj_z01, decide_true, decide_false, Bool.true_and, Bool.false_and, Bool.and_true, Bool.and_false, Bool.true_or, Bool.false_or, Bool.or_false, Bool.or_true, Bool.not_true, Bool.not_false, Bool.and_self, Bool.or_self, if_true, if_false, Bool.true_eq_false, Bool.false_eq_true, not_true, not_false_eq_true]
          exact hr
        · by_cases c2 : τ.1 59 2 = -1
          · rw [if_pos ⟨c1, c2⟩] at hr
            simp only [u129_0, u129_1, u129_4, u129_5, u129_6, u129_9, u129_10, u129_12, u129_15, u129_16, u129_18, u129_19, u129_21, u129_22, u129_23, u129_26, u129_27, u129_31, u129_33, u129_36, u129_38, u129_39, u129_42, u129_44, u129_45, u129_46, u129_49, u129_50, u129_52, u129_53, u129_54, u129_57, u129_60, u129_61, u129_63, u129_65, u129_67, u129_68, u129_71, u129_73, u129_76, u129_78, u129_80, u129_83, u129_84, u129_87, u129_88, u129_91, u129_92, u129_94, u129_96, u129_97, u129_99, u129_100, u129_105, u129_106, u129_109, u129_111, u129_112, u129_114, u129_116, u129_118, u129_120, u129_123, u129_124, u129_126, u129_129, u129_131, u129_132, u129_135, u129_137, u129_138, u129_139, u129_141, u129_143, u129_145, u129_148, u129_149, u129_151, u129_153, u129_154, u129_156, u129_159, u129_161, u129_164, u129_165, u129_167, u129_169, u129_170, u129_173, u129_175, u129_178, u129_179, u129_181, u129_184, u129_187, u129_188, u129_190, u129_192, u129_193, u129_196, hwn, eq_false c1, eq_true c2, m9, n9, mj_noMk_ref, mj_cc_v, mj_cc_n, List.all_cons, List.all_nil, mj_noMk_int, mj_noMk_long, mj_noMk_ref, mj_noMk_junk, List.length_nil, List.length_cons, Nat.zero_le, Nat.reduceLeDiff, Nat.reduceAdd, Bool.and_true, Bool.true_and, Bool.and_self, Nat.reduceBNe, true_or, or_true, true_and, and_true, mj_z0, mj_z1, mj_z01, decide_true, decide_false, Bool.true_and, Bool.false_and, Bool.and_true, Bool.and_false, Bool.true_or, Bool.false_or, Bool.or_false, Bool.or_true, Bool.not_true, Bool.not_false, Bool.and_self, Bool.or_self, if_true, if_false, Bool.true_eq_false, Bool.false_eq_true, not_true, not_false_eq_true]
            exact hr
          · rw [if_neg (fun z => c2 z.2)] at hr
            simp only [u129_0, u129_1, u129_4, u129_5, u129_6, u129_9, u129_10, u129_12, u129_15, u129_16, u129_18, u129_19, u129_21, u129_22, u129_23, u129_26, u129_27, u129_31, u129_33, u129_36, u129_38, u129_39, u129_42, u129_44, u129_45, u129_46, u129_49, u129_50, u129_52, u129_53, u129_54, u129_57, u129_60, u129_61, u129_63, u129_65, u129_67, u129_68, u129_71, u129_73, u129_76, u129_78, u129_80, u129_83, u129_84, u129_87, u129_88, u129_91, u129_92, u129_94, u129_96, u129_97, u129_99, u129_100, u129_105, u129_106, u129_109, u129_111, u129_112, u129_114, u129_116, u129_118, u129_120, u129_123, u129_124, u129_126, u129_129, u129_131, u129_132, u129_135, u129_137, u129_138, u129_139, u129_141, u129_143, u129_145, u129_148, u129_149, u129_151, u129_153, u129_154, u129_156, u129_159, u129_161, u129_164, u129_165, u129_167, u129_169, u129_170, u129_173, u129_175, u129_178, u129_179, u129_181, u129_184, u129_187, u129_188, u129_190, u129_192, u129_193, u129_196, hwn, eq_false c1, eq_false c2, m9, n9, mj_noMk_ref, mj_cc_v, mj_cc_n, List.all_cons, List.all_nil, mj_noMk_int, mj_noMk_long, mj_noMk_ref, mj_noMk_junk, List.length_nil, List.length_cons, Nat.zero_le, Nat.reduceLeDiff, Nat.reduceAdd, Bool.and_true, Bool.true_and, Bool.and_self, Nat.reduceBNe, true_or, or_true, true_and, and_true, mj_z0, mj_z1, mj_z01, decide_true, decide_false, Bool.true_and, Bool.false_and, Bool.and_true, Bool.and_false, Bool.true_or, Bool.false_or, Bool.or_false, Bool.or_true, Bool.not_true, Bool.not_false, Bool.and_self, Bool.or_self, if_true, if_false, Bool.true_eq_false, Bool.false_eq_true, not_true, not_false_eq_true]
            exact hr
      refine clash _ ?_
      -- what is broken
      have hN1 : τ1.1 14 14 = nI N := by rw [f1.2 14 (by decide)]; exact hNτ
      have eb : ∀ a, mj_broken τ1 a set (nI h) o N N = mj_broken τ a set (nI h) o N N := by
        intro a
        unfold mj_broken
        apply mj_it_congr
        intro i hi u
        unfold mj_brk
        rw [f1.2 15 (by decide), f1.2 16 (by decide), f1.2 17 (by decide), f1.2 18 (by decide), f1.2 20 (by decide), f1.2 21 (by decide)]
      have hbr : ∀ a, mj_ev X (d + 5) 135 [.ref 14, .int a, .int set, .int (nI h), .int o] τ1 = some (some (.int (mj_broken τ a set (nI h) o N N)), τ1) := fun a => by
        rw [← eb a]
        exact sp_brokenOnes (d := d + 3) hN1 h9
      generalize hbr' : (if w = 4 then br ||| mj_broken τ 6 set (nI h) o N N else if w = 5 then br ||| mj_broken τ 5 set (nI h) o N N else br) = br' at *
      have broken : ∀ r, mj_Runs X (mj_ev X (d + 5)) 4 none prog_6_method_2_code (151, [.ref 59, .ref 14, .ref c, .int (nI e), .int o, .int lw, .int br', .int (nI h), .int set, .int w], [], τ1) r → mj_Runs X (mj_ev X (d + 5)) 4 none prog_6_method_2_code (103, [.ref 59, .ref 14, .ref c, .int (nI e), .int o, .int lw, .int br, .int (nI h), .int set, .int w], [], τ1) r := by
        intro r hr
        rw [← hbr'] at hr
        refine u129_103.mpr ?_
        by_cases c1 : w = 4
        · rw [if_pos c1] at hr
          simp only [u129_0, u129_1, u129_4, u129_5, u129_6, u129_9, u129_10, u129_12, u129_15, u129_16, u129_18, u129_19, u129_21, u129_22, u129_23, u129_26, u129_27, u129_31, u129_33, u129_36, u129_38, u129_39, u129_42, u129_44, u129_45, u129_46, u129_49, u129_50, u129_52, u129_53, u129_54, u129_57, u129_60, u129_61, u129_63, u129_65, u129_67, u129_68, u129_71, u129_73, u129_76, u129_78, u129_80, u129_83, u129_84, u129_87, u129_88, u129_91, u129_92, u129_94, u129_96, u129_97, u129_99, u129_100, u129_105, u129_106, u129_109, u129_111, u129_112, u129_114, u129_116, u129_118, u129_120, u129_123, u129_124, u129_126, u129_129, u129_131, u129_132, u129_135, u129_137, u129_138, u129_139, u129_141, u129_143, u129_145, u129_148, u129_149, u129_153, u129_154, u129_156, u129_159, u129_161, u129_164, u129_165, u129_167, u129_169, u129_170, u129_173, u129_175, u129_178, u129_179, u129_181, u129_184, u129_187, u129_188, u129_190, u129_192, u129_193, u129_196, hbr 6, eq_true c1, n9, mj_noMk_ref, mj_cc_v, mj_cc_n, List.all_cons, List.all_nil, mj_noMk_int, mj_noMk_long, mj_noMk_ref, mj_noMk_junk, List.length_nil, List.length_cons, Nat.zero_le, Nat.reduceLeDiff, Nat.reduceAdd, Bool.and_true, Bool.true_and, Bool.and_self, Nat.reduceBNe, true_or, or_true, true_and, and_true, mj_z0, mj_z1, mj_z01, decide_true, decide_false, Bool.true_and, Bool.false_and, Bool.and_true, Bool.and_false, Bool.true_or, Bool.false_or, Bool.or_false, Bool.or_true, Bool.not_true, Bool.not_false, Bool.and_self, Bool.or_self, if_true, if_false, Bool.true_eq_false, Bool.false_eq_true, not_true, not_false_eq_true]
          exact hr
        · rw [if_neg c1] at hr
          by_cases c2 : w = 5
          · rw [if_pos c2] at hr
            simp only [u129_0, u129_1, u129_4, u129_5, u129_6, u129_9, u129_10, u129_12, u129_15, u129_16, u129_18, u129_19, u129_21, u129_22, u129_23, u129_26, u129_27, u129_31, u129_33, u129_36, u129_38, u129_39, u129_42, u129_44, u129_45, u129_46, u129_49, u129_50, u129_52, u129_53, u129_54, u129_57, u129_60, u129_61, u129_63, u129_65, u129_67, u129_68, u129_71, u129_73, u129_76, u129_78, u129_80, u129_83, u129_84, u129_87, u129_88, u129_91, u129_92, u129_94, u129_96, u129_97, u129_99, u129_100, u129_105, u129_106, u129_109, u129_111, u129_112, u129_114, u129_116, u129_118, u129_120, u129_123, u129_124, u129_126, u129_129, u129_131, u129_132, u129_135, u129_137, u129_138, u129_139, u129_141, u129_143, u129_145, u129_148, u129_149, u129_153, u129_154, u129_156, u129_159, u129_161, u129_164, u129_165, u129_167, u129_169, u129_170, u129_173, u129_175, u129_178, u129_179, u129_181, u129_184, u129_187, u129_188, u129_190, u129_192, u129_193, u129_196, hbr 5, eq_false c1, eq_true c2, n9, mj_noMk_ref, mj_cc_v, mj_cc_n, List.all_cons, List.all_nil, mj_noMk_int, mj_noMk_long, mj_noMk_ref, mj_noMk_junk, List.length_nil, List.length_cons, Nat.zero_le, Nat.reduceLeDiff, Nat.reduceAdd, Bool.and_true, Bool.true_and, Bool.and_self, Nat.reduceBNe, true_or, or_true, true_and, and_true, mj_z0, mj_z1, mj_z01, decide_true, decide_false, Bool.true_and, Bool.false_and, Bool.and_true, Bool.and_false, Bool.true_or, Bool.false_or, Bool.or_false, Bool.or_true, Bool.not_true, Bool.not_false, Bool.and_self, Bool.or_self, if_true, if_false, Bool.true_eq_false, Bool.false_eq_true, not_true, not_false_eq_true]
            exact hr
          · rw [if_neg c2] at hr
            simp only [u129_0, u129_1, u129_4, u129_5, u129_6, u129_9, u129_10, u129_12, u129_15, u129_16, u129_18, u129_19, u129_21, u129_22, u129_23, u129_26, u129_27, u129_31, u129_33, u129_36, u129_38, u129_39, u129_42, u129_44, u129_45, u129_46, u129_49, u129_50, u129_52, u129_53, u129_54, u129_57, u129_60, u129_61, u129_63, u129_65, u129_67, u129_68, u129_71, u129_73, u129_76, u129_78, u129_80, u129_83, u129_84, u129_87, u129_88, u129_91, u129_92, u129_94, u129_96, u129_97, u129_99, u129_100, u129_105, u129_106, u129_109, u129_111, u129_112, u129_114, u129_116, u129_118, u129_120, u129_123, u129_124, u129_126, u129_129, u129_131, u129_132, u129_135, u129_137, u129_138, u129_139, u129_141, u129_143, u129_145, u129_148, u129_149, u129_153, u129_154, u129_156, u129_159, u129_161, u129_164, u129_165, u129_167, u129_169, u129_170, u129_173, u129_175, u129_178, u129_179, u129_181, u129_184, u129_187, u129_188, u129_190, u129_192, u129_193, u129_196, eq_false c1, eq_false c2, mj_cc_v, mj_cc_n, List.all_cons, List.all_nil, mj_noMk_int, mj_noMk_long, mj_noMk_ref, mj_noMk_junk, List.length_nil, List.length_cons, Nat.zero_le, Nat.reduceLeDiff, Nat.reduceAdd, Bool.and_true, Bool.true_and, Bool.and_self, Nat.reduceBNe, true_or, or_true, true_and, and_true, mj_z0, mj_z1, mj_z01, decide_true, decide_false, Bool.true_and, Bool.false_and, Bool.and_true, Bool.and_false, Bool.true_or, Bool.false_or, Bool.or_false, Bool.or_true, Bool.not_true, Bool.not_false, Bool.and_self, Bool.or_self, if_true, if_false, Bool.true_eq_false, Bool.false_eq_true, not_true, not_false_eq_true]
            exact hr
      refine broken _ ?_
      have ep : ∀ s', mj_pls τ1 60 s' (nI h) o lw N = mj_pls τ 60 s' (nI h) o lw N := by
        intro s'
        unfold mj_pls
        apply mj_it_congr
        intro i hi u
        unfold mj_pl
        rw [f1.2 15 (by decide), f1.2 16 (by decide), f1.2 17 (by decide), f1.2 20 (by decide), f1.2 21 (by decide), f1.2 24 (by decide), f1.2 26 (by decide), f1.2 60 (by decide)]
      have hps : ∀ s', mj_ev X (d + 5) 136 [.ref 14, .int s', .int (nI h), .int o, .ref 60, .int lw] τ1 = some (some (.int (mj_pls τ 60 s' (nI h) o lw N)), mj_psS τ1 60 s' N) := fun s' => by
        rw [← ep s']
        exact sp_pass (d := d + 1) hN1 h9 (Or.inr rfl)
      have hnx := ih (h + 1) (.int set) (.int w) rfl rfl (by omega)
      rw [es] at hnx
      have hfin : mj_Runs X (mj_ev X (d + 5)) 4 none prog_6_method_2_code (29, [.ref 59, .ref 14, .ref c, .int (nI e), .int o, .int (lw ||| mj_pls τ 60 (if w = 0 then set else 0) (nI h) o lw N), .int br', .int (nI (h + 1)), .int set, .int w], [], mj_psS τ1 60 (if w = 0 then set else 0) N) (none, mj_Ctl σ c e o N) := hnx
      refine u129_151.mpr ?_
      by_cases c1 : w = 0
      · rw [if_pos c1] at hfin
        simp only [u129_0, u129_1, u129_4, u129_5, u129_6, u129_9, u129_10, u129_12, u129_15, u129_16, u129_18, u129_19, u129_21, u129_22, u129_23, u129_26, u129_27, u129_31, u129_33, u129_36, u129_38, u129_39, u129_42, u129_44, u129_45, u129_46, u129_49, u129_50, u129_52, u129_53, u129_54, u129_57, u129_60, u129_61, u129_63, u129_65, u129_67, u129_68, u129_71, u129_73, u129_76, u129_78, u129_80, u129_83, u129_84, u129_87, u129_88, u129_91, u129_92, u129_94, u129_96, u129_97, u129_99, u129_100, u129_105, u129_106, u129_109, u129_111, u129_112, u129_114, u129_116, u129_118, u129_120, u129_123, u129_124, u129_126, u129_129, u129_131, u129_132, u129_135, u129_137, u129_138, u129_139, u129_141, u129_143, u129_145, u129_148, u129_149, u129_153, u129_154, u129_156, u129_159, u129_161, u129_164, u129_165, u129_167, u129_169, u129_170, u129_173, u129_175, u129_178, u129_179, u129_181, u129_184, u129_187, u129_188, u129_190, u129_192, u129_193, u129_196, hps, eq_true c1, n9, mj_noMk_ref, nI_1, mj_cc_v, mj_cc_n, List.all_cons, List.all_nil, mj_noMk_int, mj_noMk_long, mj_noMk_ref, mj_noMk_junk, List.length_nil, List.length_cons, Nat.zero_le, Nat.reduceLeDiff, Nat.reduceAdd, Bool.and_true, Bool.true_and, Bool.and_self, Nat.reduceBNe, true_or, or_true, true_and, and_true, mj_z0, mj_z1, mj_z01, decide_true, decide_false, Bool.true_and, Bool.false_and, Bool.and_true, Bool.and_false, Bool.true_or, Bool.false_or, Bool.or_false, Bool.or_true, Bool.not_true, Bool.not_false, Bool.and_self, Bool.or_self, if_true, if_false, Bool.true_eq_false, Bool.false_eq_true, not_true, not_false_eq_true]
        exact hfin
      · rw [if_neg c1] at hfin
        simp only [u129_0, u129_1, u129_4, u129_5, u129_6, u129_9, u129_10, u129_12, u129_15, u129_16, u129_18, u129_19, u129_21, u129_22, u129_23, u129_26, u129_27, u129_31, u129_33, u129_36, u129_38, u129_39, u129_42, u129_44, u129_45, u129_46, u129_49, u129_50, u129_52, u129_53, u129_54, u129_57, u129_60, u129_61, u129_63, u129_65, u129_67, u129_68, u129_71, u129_73, u129_76, u129_78, u129_80, u129_83, u129_84, u129_87, u129_88, u129_91, u129_92, u129_94, u129_96, u129_97, u129_99, u129_100, u129_105, u129_106, u129_109, u129_111, u129_112, u129_114, u129_116, u129_118, u129_120, u129_123, u129_124, u129_126, u129_129, u129_131, u129_132, u129_135, u129_137, u129_138, u129_139, u129_141, u129_143, u129_145, u129_148, u129_149, u129_153, u129_154, u129_156, u129_159, u129_161, u129_164, u129_165, u129_167, u129_169, u129_170, u129_173, u129_175, u129_178, u129_179, u129_181, u129_184, u129_187, u129_188, u129_190, u129_192, u129_193, u129_196, hps, eq_false c1, n9, mj_noMk_ref, nI_1, mj_cc_v, mj_cc_n, List.all_cons, List.all_nil, mj_noMk_int, mj_noMk_long, mj_noMk_ref, mj_noMk_junk, List.length_nil, List.length_cons, Nat.zero_le, Nat.reduceLeDiff, Nat.reduceAdd, Bool.and_true, Bool.true_and, Bool.and_self, Nat.reduceBNe, true_or, or_true, true_and, and_true, mj_z0, mj_z1, mj_z01, decide_true, decide_false, Bool.true_and, Bool.false_and, Bool.and_true, Bool.and_false, Bool.true_or, Bool.false_or, Bool.or_false, Bool.or_true, Bool.not_true, Bool.not_false, Bool.and_self, Bool.or_self, if_true, if_false, Bool.true_eq_false, Bool.false_eq_true, not_true, not_false_eq_true]
        exact hfin
  have hl := main 12 0 mj_junk mj_junk rfl rfl (by omega)
  have e0 : nI 0 = 0 := rfl
  have e1 : mj_te σ (mj_Cst σ c e) o N 0 = (mj_setI (mj_cpyI σ 24 60 0 0 9) 59 2 (-1), 0, 0) := rfl
  rw [e1, e0] at hl
  have z0 : ¬ (0 : Int32) < 0 := by decide
  have z9 : ¬ (9 : Int32) < 0 := by decide
  have c0 : (0 : Int32).toNatClampNeg = 0 := by decide
  have c9 : (9 : Int32).toNatClampNeg = 9 := by decide
  refine st129 ?_
  simp only [u129_0, u129_1, u129_4, u129_5, u129_6, u129_9, u129_10, u129_12, u129_15, u129_16, u129_18, u129_19, u129_21, u129_22, u129_23, u129_26, u129_27, u129_31, u129_33, u129_36, u129_38, u129_39, u129_42, u129_44, u129_45, u129_46, u129_49, u129_50, u129_52, u129_53, u129_54, u129_57, u129_58, u129_60, u129_61, u129_63, u129_65, u129_67, u129_68, u129_71, u129_73, u129_76, u129_78, u129_80, u129_83, u129_84, u129_87, u129_88, u129_91, u129_92, u129_94, u129_96, u129_97, u129_99, u129_100, u129_103, u129_105, u129_106, u129_109, u129_111, u129_112, u129_114, u129_116, u129_118, u129_120, u129_123, u129_124, u129_126, u129_129, u129_131, u129_132, u129_135, u129_137, u129_138, u129_139, u129_141, u129_143, u129_145, u129_148, u129_149, u129_151, u129_153, u129_154, u129_156, u129_159, u129_161, u129_164, u129_165, u129_167, u129_169, u129_170, u129_173, u129_175, u129_178, u129_179, u129_181, u129_184, u129_187, u129_188, u129_190, u129_192, u129_193, u129_196, z0, z9, c0, c9, hcp, mj_kP, mj_cc_v, mj_cc_n, List.all_cons, List.all_nil, mj_noMk_int, mj_noMk_long, mj_noMk_ref, mj_noMk_junk, List.length_nil, List.length_cons, Nat.zero_le, Nat.reduceLeDiff, Nat.reduceAdd, Bool.and_true, Bool.true_and, Bool.and_self, Nat.reduceBNe, true_or, or_true, true_and, and_true, mj_z0, mj_z1, mj_z01, decide_true, decide_false, Bool.true_and, Bool.false_and, Bool.and_true, Bool.and_false, Bool.true_or, Bool.false_or, Bool.or_false, Bool.or_true, Bool.not_true, Bool.not_false, Bool.and_self, Bool.or_self, if_true, if_false, Bool.true_eq_false, Bool.false_eq_true, not_true, not_false_eq_true]
  exact hl
/-- what a row told by hand comes to: the clash, what is lost -/
theorem sp_judge_no {s o : Int32} (h : ¬ mj_Chr σ s o 0 = 0) : mj_ev X (d + 4) 126 [.ref 0, .int s, .int o] σ = some (some (.int (mj_Chr σ s o 0 - 10)), mj_rfC σ (mj_Chr σ s o 0)) := by
  have hh := sp_handRefusal (X := X) (d := d) (σ := σ) (s := s) (o := o) (w := 0)
  have hr : mj_ev X (d + 3) 3 [.ref 0, .int (mj_Chr σ s o 0)] σ = _ := sp_rfA (d := d + 2) (mj_Chr_neg h).1 (mj_Chr_neg h).2
  refine st126 ?_
  simp only [u126_0, u126_1, u126_2, u126_3, u126_4, u126_7, u126_8, u126_9, u126_12, u126_13, u126_14, u126_17, u126_19, u126_20, u126_21, u126_22, u126_25, u126_26, u126_29, u126_30, u126_33, u126_34, u126_35, u126_36, u126_39, u126_40, u126_41, u126_42, u126_45, u126_46, u126_49, u126_52, hh, h, hr, mj_cc_v, mj_cc_n, List.all_cons, List.all_nil, mj_noMk_int, mj_noMk_long, mj_noMk_ref, mj_noMk_junk, List.length_nil, List.length_cons, Nat.zero_le, Nat.reduceLeDiff, Nat.reduceAdd, Bool.and_true, Bool.true_and, Bool.and_self, Nat.reduceBNe, true_or, or_true, true_and, and_true, mj_z0, mj_z1, mj_z01, decide_true, decide_false, Bool.true_and, Bool.false_and, Bool.and_true, Bool.and_false, Bool.true_or, Bool.false_or, Bool.or_false, Bool.or_true, Bool.not_true, Bool.not_false, Bool.and_self, Bool.or_self, if_true, if_false, Bool.true_eq_false, Bool.false_eq_true, not_true, not_false_eq_true]
theorem sp_judge {s e N : Nat} {o : Int32} (h : mj_Chr σ (nI s) o 0 = 0) (hs : s < 8) (hsz : σ.1 2 s = nI e) (he : e ≤ 60) (hN : σ.1 14 14 = nI N) (h9 : N ≤ 9) (hf : ∀ k, k < N → σ.1 20 k = -1 ∨ mj_inb (σ.1 20 k) 3 = true) : mj_ev X (d + 7) 126 [.ref 0, .int (nI s), .int o] σ = some (some (.int ((mj_Ctl σ (4 + s) e o N).1 59 2)), mj_Ctl σ (4 + s) e o N) := by
  have hh : mj_ev X (d + 6) 127 [.ref 0, .int (nI s), .int o, .int 0] σ = some (some (.int (mj_Chr σ (nI s) o 0)), σ) := sp_handRefusal (d := d + 3)
  rw [h] at hh
  have ht := sp_tell (X := X) (d := d) (σ := σ) (c := 4 + s) (e := e) (N := N) (o := o) hN h9 hf (by omega) (by omega) he
  have n9 : ((4 + s) != 999) = true := mj_noMk_row (by omega)
  refine st126 ?_
  simp only [u126_0, u126_1, u126_2, u126_3, u126_4, u126_7, u126_8, u126_9, u126_12, u126_13, u126_14, u126_17, u126_19, u126_20, u126_21, u126_22, u126_25, u126_26, u126_29, u126_30, u126_33, u126_34, u126_35, u126_36, u126_39, u126_40, u126_41, u126_42, u126_45, u126_46, u126_49, u126_52, hh, hsz, ht, n9, mj_in_nI hs (by decide), mj_nz9 hs (by decide), mj_noMk_ref, mj_cc_v, mj_cc_n, List.all_cons, List.all_nil, mj_noMk_int, mj_noMk_long, mj_noMk_ref, mj_noMk_junk, List.length_nil, List.length_cons, Nat.zero_le, Nat.reduceLeDiff, Nat.reduceAdd, Bool.and_true, Bool.true_and, Bool.and_self, Nat.reduceBNe, true_or, or_true, true_and, and_true, mj_z0, mj_z1, mj_z01, decide_true, decide_false, Bool.true_and, Bool.false_and, Bool.and_true, Bool.and_false, Bool.true_or, Bool.false_or, Bool.or_false, Bool.or_true, Bool.not_true, Bool.not_false, Bool.and_self, Bool.or_self, if_true, if_false, Bool.true_eq_false, Bool.false_eq_true, not_true, not_false_eq_true]
theorem sp_lost_no {s o : Int32} (h : ¬ mj_Chr σ s o 0 = 0) : mj_ev X (d + 4) 138 [.ref 0, .int s, .int o] σ = some (some (.int (mj_Chr σ s o 0)), mj_rfC σ (mj_Chr σ s o 0)) := by
  have hh := sp_handRefusal (X := X) (d := d) (σ := σ) (s := s) (o := o) (w := 0)
  have hr : mj_ev X (d + 3) 3 [.ref 0, .int (mj_Chr σ s o 0)] σ = _ := sp_rfA (d := d + 2) (mj_Chr_neg h).1 (mj_Chr_neg h).2
  refine st138 ?_
  simp only [u138_0, u138_1, u138_2, u138_3, u138_4, u138_7, u138_8, u138_9, u138_12, u138_13, u138_14, u138_17, u138_18, u138_19, u138_22, u138_23, u138_26, u138_27, u138_30, u138_31, u138_32, u138_33, u138_36, u138_37, u138_38, u138_39, u138_42, u138_43, u138_46, u138_49, hh, h, hr, mj_cc_v, mj_cc_n, List.all_cons, List.all_nil, mj_noMk_int, mj_noMk_long, mj_noMk_ref, mj_noMk_junk, List.length_nil, List.length_cons, Nat.zero_le, Nat.reduceLeDiff, Nat.reduceAdd, Bool.and_true, Bool.true_and, Bool.and_self, Nat.reduceBNe, true_or, or_true, true_and, and_true, mj_z0, mj_z1, mj_z01, decide_true, decide_false, Bool.true_and, Bool.false_and, Bool.and_true, Bool.and_false, Bool.true_or, Bool.false_or, Bool.or_false, Bool.or_true, Bool.not_true, Bool.not_false, Bool.and_self, Bool.or_self, if_true, if_false, Bool.true_eq_false, Bool.false_eq_true, not_true, not_false_eq_true]
theorem sp_lost {s e N : Nat} {o : Int32} (h : mj_Chr σ (nI s) o 0 = 0) (hs : s < 8) (hsz : σ.1 2 s = nI e) (he : e ≤ 60) (hN : σ.1 14 14 = nI N) (h9 : N ≤ 9) (hf : ∀ k, k < N → σ.1 20 k = -1 ∨ mj_inb (σ.1 20 k) 3 = true) : mj_ev X (d + 7) 138 [.ref 0, .int (nI s), .int o] σ = some (some (.int ((mj_Ctl σ (4 + s) e o N).1 59 1)), mj_Ctl σ (4 + s) e o N) := by
  have hh : mj_ev X (d + 6) 127 [.ref 0, .int (nI s), .int o, .int 0] σ = some (some (.int (mj_Chr σ (nI s) o 0)), σ) := sp_handRefusal (d := d + 3)
  rw [h] at hh
  have ht := sp_tell (X := X) (d := d) (σ := σ) (c := 4 + s) (e := e) (N := N) (o := o) hN h9 hf (by omega) (by omega) he
  have n9 : ((4 + s) != 999) = true := mj_noMk_row (by omega)
  refine st138 ?_
  simp only [u138_0, u138_1, u138_2, u138_3, u138_4, u138_7, u138_8, u138_9, u138_12, u138_13, u138_14, u138_17, u138_18, u138_19, u138_22, u138_23, u138_26, u138_27, u138_30, u138_31, u138_32, u138_33, u138_36, u138_37, u138_38, u138_39, u138_42, u138_43, u138_46, u138_49, hh, hsz, ht, n9, mj_in_nI hs (by decide), mj_nz9 hs (by decide), mj_noMk_ref, mj_cc_v, mj_cc_n, List.all_cons, List.all_nil, mj_noMk_int, mj_noMk_long, mj_noMk_ref, mj_noMk_junk, List.length_nil, List.length_cons, Nat.zero_le, Nat.reduceLeDiff, Nat.reduceAdd, Bool.and_true, Bool.true_and, Bool.and_self, Nat.reduceBNe, true_or, or_true, true_and, and_true, mj_z0, mj_z1, mj_z01, decide_true, decide_false, Bool.true_and, Bool.false_and, Bool.and_true, Bool.and_false, Bool.true_or, Bool.false_or, Bool.or_false, Bool.or_true, Bool.not_true, Bool.not_false, Bool.and_self, Bool.or_self, if_true, if_false, Bool.true_eq_false, Bool.false_eq_true, not_true, not_false_eq_true]
theorem sp_owed_no {s o w : Int32} (h : ¬ mj_Chr σ s o w = 0) : mj_ev X (d + 4) 139 [.ref 0, .int s, .int o, .int w] σ = some (some (.int (mj_Chr σ s o w)), mj_rfC σ (mj_Chr σ s o w)) := by
  have hh := sp_handRefusal (X := X) (d := d) (σ := σ) (s := s) (o := o) (w := w)
  have hr : mj_ev X (d + 3) 3 [.ref 0, .int (mj_Chr σ s o w)] σ = _ := sp_rfA (d := d + 2) (mj_Chr_neg h).1 (mj_Chr_neg h).2
  refine st139 ?_
  simp only [u139_0, u139_1, u139_2, u139_3, u139_4, u139_7, u139_9, u139_11, u139_14, u139_15, u139_17, u139_20, u139_21, u139_22, u139_25, u139_26, u139_29, u139_30, u139_33, u139_34, u139_35, u139_36, u139_39, u139_40, u139_41, u139_42, u139_45, u139_46, u139_49, u139_50, u139_53, u139_56, u139_57, u139_60, hh, h, hr, mj_cc_v, mj_cc_n, List.all_cons, List.all_nil, mj_noMk_int, mj_noMk_long, mj_noMk_ref, mj_noMk_junk, List.length_nil, List.length_cons, Nat.zero_le, Nat.reduceLeDiff, Nat.reduceAdd, Bool.and_true, Bool.true_and, Bool.and_self, Nat.reduceBNe, true_or, or_true, true_and, and_true, mj_z0, mj_z1, mj_z01, decide_true, decide_false, Bool.true_and, Bool.false_and, Bool.and_true, Bool.and_false, Bool.true_or, Bool.false_or, Bool.or_false, Bool.or_true, Bool.not_true, Bool.not_false, Bool.and_self, Bool.or_self, if_true, if_false, Bool.true_eq_false, Bool.false_eq_true, not_true, not_false_eq_true]
theorem mj_Ctl_fr {c e N : Nat} {o : Int32} : (mj_Ctl σ c e o N).2 = σ.2 ∧ ∀ c', c' ≠ 59 → c' ≠ 60 → (mj_Ctl σ c e o N).1 c' = σ.1 c' := by
  obtain ⟨a, b⟩ := mj_te_fr (σ := σ) (st := mj_Cst σ c e) (o := o) (N := N) 12
  unfold mj_Ctl
  exact ⟨a, fun c' h1 h2 => by rw [mj_setI_ne _ _ _ h1]; exact b c' h1 h2⟩
theorem sp_owed {s e N : Nat} {o w : Int32} (h : mj_Chr σ (nI s) o w = 0) (hs : s < 8) (hsz : σ.1 2 s = nI e) (he : e ≤ 60) (hN : σ.1 14 14 = nI N) (h9 : N ≤ 9) (hf : ∀ k, k < N → σ.1 20 k = -1 ∨ mj_inb (σ.1 20 k) 3 = true) : mj_ev X (d + 7) 139 [.ref 0, .int (nI s), .int o, .int w] σ = some (some (.int (mj_owed σ 23 22 w (mj_b ((mj_Ctl σ (4 + s) e o N).1 59 1)) N)), mj_Ctl σ (4 + s) e o N) := by
  have hh : mj_ev X (d + 6) 127 [.ref 0, .int (nI s), .int o, .int w] σ = some (some (.int (mj_Chr σ (nI s) o w)), σ) := sp_handRefusal (d := d + 3)
  rw [h] at hh
  have ht := sp_tell (X := X) (d := d) (σ := σ) (c := 4 + s) (e := e) (N := N) (o := o) hN h9 hf (by omega) (by omega) he
  have n9 : ((4 + s) != 999) = true := mj_noMk_row (by omega)
  obtain ⟨-, fc⟩ := mj_Ctl_fr (σ := σ) (c := 4 + s) (e := e) (N := N) (o := o)
  generalize mj_Ctl σ (4 + s) e o N = τ at *
  have hNτ : τ.1 14 14 = nI N := by rw [fc 14 (by decide) (by decide)]; exact hN
  have how : mj_ev X (d + 6) 140 [.ref 14, .int (τ.1 59 1), .int w] τ = some (some (.int (mj_owed τ 23 22 w (mj_b (τ.1 59 1)) N)), τ) := sp_owedBy (d := d + 5) hNτ h9
  have eo : mj_owed τ 23 22 w (mj_b (τ.1 59 1)) N = mj_owed σ 23 22 w (mj_b (τ.1 59 1)) N := by
    unfold mj_owed
    rw [fc 22 (by decide) (by decide), fc 23 (by decide) (by decide)]
  rw [eo] at how
  refine st139 ?_
  simp only [u139_0, u139_1, u139_2, u139_3, u139_4, u139_7, u139_9, u139_11, u139_14, u139_15, u139_17, u139_20, u139_21, u139_22, u139_25, u139_26, u139_29, u139_30, u139_33, u139_34, u139_35, u139_36, u139_39, u139_40, u139_41, u139_42, u139_45, u139_46, u139_49, u139_50, u139_53, u139_56, u139_57, u139_60, hh, hsz, ht, how, n9, mj_in_nI hs (by decide), mj_nz9 hs (by decide), mj_noMk_ref, mj_cc_v, mj_cc_n, List.all_cons, List.all_nil, mj_noMk_int, mj_noMk_long, mj_noMk_ref, mj_noMk_junk, List.length_nil, List.length_cons, Nat.zero_le, Nat.reduceLeDiff, Nat.reduceAdd, Bool.and_true, Bool.true_and, Bool.and_self, Nat.reduceBNe, true_or, or_true, true_and, and_true, mj_z0, mj_z1, mj_z01, decide_true, decide_false, Bool.true_and, Bool.false_and, Bool.and_true, Bool.and_false, Bool.true_or, Bool.false_or, Bool.or_false, Bool.or_true, Bool.not_true, Bool.not_false, Bool.and_self, Bool.or_self, if_true, if_false, Bool.true_eq_false, Bool.false_eq_true, not_true, not_false_eq_true]
end
