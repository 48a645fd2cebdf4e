section
variable {X : mj_X} {d : Nat} {σ τ ρ : mj_St}
theorem mj_fst_cases {p : Nat → Bool} : ∀ (j l : Nat), (mj_fst p l j = -1 ∧ ∀ i, l ≤ i → i < l + j → p i = false) ∨ ∃ k, l ≤ k ∧ k < l + j ∧ p k = true ∧ mj_fst p l j = nI k ∧ ∀ i, l ≤ i → i < k → p i = false := by
  intro j
  induction j with
  | zero => intro l; exact Or.inl ⟨rfl, fun i a b => absurd b (by omega)⟩
  | succ j ih =>
    intro l
    simp only [mj_fst]
    rcases (Bool.eq_false_or_eq_true (p l)).symm with c | c
    · rw [if_neg (by rw [c]; decide)]
      rcases ih (l + 1) with ⟨a, b⟩ | ⟨k, a1, a2, a3, a4, a5⟩
      · refine Or.inl ⟨a, fun i h1 h2 => ?_⟩
        by_cases q : i = l
        · rw [q]; exact c
        · exact b i (by omega) (by omega)
      · refine Or.inr ⟨k, by omega, by omega, a3, a4, fun i h1 h2 => ?_⟩
        by_cases q : i = l
        · rw [q]; exact c
        · exact a5 i (by omega) h2
    · rw [if_pos c]
      exact Or.inr ⟨l, Nat.le_refl _, by omega, c, rfl, fun i h1 h2 => absurd h2 (by omega)⟩
/-- a choice is none, or a move that wins -/
theorem mj_nxc_cases {n w gr r g s l : Nat} (hd : mj_sd σ n w gr) : mj_nxc σ n r g s l = -1 ∨ ∃ k, l ≤ k ∧ k < 22 ∧ mj_nxc σ n r g s l = nI k ∧ ¬ mj_mvs σ g (11 - r) s n = -1 ∧ mj_cho3 σ n r g s (mj_mvs σ g (11 - r) s n) k = true ∧ mj_tK k ≤ s := by
  have ht := mj_top_lt hd.2.2.1
  unfold mj_nxc
  by_cases hv : mj_mvs σ g (11 - r) s n = -1
  · rw [if_pos hv]
    exact Or.inl rfl
  · rw [if_neg hv]
    rcases mj_fst_cases (p := mj_cho3 σ n r g s (mj_mvs σ g (11 - r) s n)) (mj_top n + 1 - l) l with ⟨a, -⟩ | ⟨k, a1, a2, a3, a4, -⟩
    · exact Or.inl a
    · have hk : k < 22 := by omega
      have h3 := a3
      unfold mj_cho3 at h3
      simp only [Bool.and_eq_true] at h3
      exact Or.inr ⟨k, a1, hk, a4, hv, a3, mj_imv_le rfl hv h3.1 hk hd.2.2.1⟩
/-- the choices of the hours one after the other: the last -/
def mj_fso (σ : mj_St) (n sg : Nat) : Nat → Nat → Nat → Int32 → Int32
  | 0, _, _, c => c
  | j + 1, h, s, _ => if mj_nxc σ n (11 - h) sg s 0 = -1 then -1 else mj_fso σ n sg j (h + 1) (s - mj_tK (mj_nxc σ n (11 - h) sg s 0).toNatClampNeg) (mj_nxc σ n (11 - h) sg s 0)
def mj_fsv (σ : mj_St) (n w sg st hh : Nat) : Int32 := if mj_suc σ n w sg st = true then (if mj_fso σ n sg (hh + 1 - w) w st (-1) = -1 then -1 else mj_pof σ (nI (mj_sK (mj_fso σ n sg (hh + 1 - w) w st (-1)).toNatClampNeg)) n) else -1
theorem sp_firstSetOf {n w gr sg st hh : Nat} (hX : mj_XS X) (hd : mj_sd σ n w gr) (hfr : mj_sfr σ gr) (hsg : σ.1 46 7 = nI sg) (hst : σ.1 46 6 = nI st) (hg : sg < gr) (hs : st < 4 ^ n) (hM : σ.1 46 4 = 0 → w < 12 → mj_MI σ n w gr) (hw : w ≤ hh) (hh11 : hh ≤ 11) : ∃ ρ, mj_Fm σ ρ ∧ ∀ d, mj_ev X (d + 41) 96 [.ref 46, .int (nI hh)] σ = some (some (.int (mj_fsv σ n w sg st hh)), ρ) := by
  obtain ⟨ρ, F, M, hsu⟩ := sp_succeeds hX hd hfr hsg hst hg hs hM
  have hn := hd.2.2.1
  unfold mj_fsv
  rcases (Bool.eq_false_or_eq_true (mj_suc σ n w sg st)).symm with c | c
  · refine ⟨ρ, F, fun d => ?_⟩
    have hd' := hsu d
    rw [c] at hd' ⊢
    refine st96 ?_
    simp only [u96_0, u96_1, u96_4, u96_7, u96_8, u96_9, u96_10, u96_13, u96_14, u96_15, u96_16, u96_17, u96_20, u96_23, u96_27, u96_28, u96_31, u96_33, u96_35, u96_38, u96_39, u96_41, u96_42, u96_45, u96_46, u96_47, u96_50, u96_51, u96_52, u96_53, u96_56, u96_57, u96_58, u96_59, u96_62, u96_63, u96_64, u96_65, u96_66, u96_69, u96_73, u96_74, u96_77, u96_78, u96_81, u96_82, u96_85, u96_86, u96_87, u96_90, hd', mj_zF, mj_cc_v, mj_cc_n, List.all_cons, List.all_nil, mj_noMk_int, mj_noMk_long, mj_noMk_ref, mj_noMk_junk, List.length_nil, List.length_cons, Nat.zero_le, Nat.reduceLeDiff, Nat.reduceAdd, Bool.and_true, Bool.true_and, Bool.and_self, Nat.reduceBNe, true_or, or_true, true_and, and_true, mj_z0, mj_z1, mj_z01, decide_true, decide_false, Bool.true_and, Bool.false_and, Bool.and_true, Bool.and_false, Bool.true_or, Bool.false_or, Bool.or_false, Bool.or_true, Bool.not_true, Bool.not_false, Bool.and_self, Bool.or_self, if_true, if_false, Bool.true_eq_false, Bool.false_eq_true, not_true, not_false_eq_true]
  · have c' := c
    unfold mj_suc at c'
    simp only [Bool.and_eq_true, decide_eq_true_eq] at c'
    have MI := M c'.1 (by omega)
    rw [if_pos c]
    -- the end
    have fin : ∀ (τ : mj_St) (s : Nat) (x : Int32) (i : Int32), mj_Fm σ τ → (x = -1 ∨ ∃ k, k < 22 ∧ x = nI k) → ∀ d, mj_Runs X (mj_ev X (d + 40)) 3 (some .int) prog_5_method_31_code (72, [.ref 46, .int (nI hh), .int (nI s), .int x, .int i], [], τ) (some (.int (if x = -1 then -1 else mj_pof σ (nI (mj_sK x.toNatClampNeg)) n)), τ) := by
      intro τ s x i F2 hx d
      refine u96_72.mpr ?_
      rcases hx with q | ⟨k, hk, q⟩
      · simp only [u96_0, u96_1, u96_4, u96_7, u96_8, u96_9, u96_10, u96_13, u96_14, u96_15, u96_16, u96_17, u96_20, u96_23, u96_27, u96_28, u96_31, u96_33, u96_35, u96_38, u96_39, u96_41, u96_42, u96_45, u96_46, u96_47, u96_50, u96_51, u96_52, u96_53, u96_56, u96_57, u96_58, u96_59, u96_62, u96_63, u96_64, u96_65, u96_66, u96_69, u96_73, u96_74, u96_77, u96_78, u96_81, u96_82, u96_85, u96_86, u96_87, u96_90, eq_true q, mj_cc_v, mj_cc_n, List.all_cons, List.all_nil, mj_noMk_int, mj_noMk_long, mj_noMk_ref, mj_noMk_junk, List.length_nil, List.length_cons, Nat.zero_le, Nat.reduceLeDiff, Nat.reduceAdd, Bool.and_true, Bool.true_and, Bool.and_self, Nat.reduceBNe, true_or, or_true, true_and, and_true, mj_z0, mj_z1, mj_z01, decide_true, decide_false, Bool.true_and, Bool.false_and, Bool.and_true, Bool.and_false, Bool.true_or, Bool.false_or, Bool.or_false, Bool.or_true, Bool.not_true, Bool.not_false, Bool.and_self, Bool.or_self, if_true, if_false, Bool.true_eq_false, Bool.false_eq_true, not_true, not_false_eq_true]
      · subst q
        have n1 := mj_nIm1 (p := k) (by omega)
        have hp : mj_ev X (d + 40) 98 [.ref 46, .int (nI (mj_sK k))] τ = some (some (.int (mj_pof σ (nI (mj_sK k)) n)), τ) := by
          have e : mj_pof τ = mj_pof σ := by
            funext a b
            unfold mj_pof
            rw [F2.1]
          rw [← e]
          exact sp_promisesOf (d := d + 39) (mj_sd_Fm F2 hd)
        rw [nI_clamp (by omega)]
        simp only [u96_0, u96_1, u96_4, u96_7, u96_8, u96_9, u96_10, u96_13, u96_14, u96_15, u96_16, u96_17, u96_20, u96_23, u96_27, u96_28, u96_31, u96_33, u96_35, u96_38, u96_39, u96_41, u96_42, u96_45, u96_46, u96_47, u96_50, u96_51, u96_52, u96_53, u96_56, u96_57, u96_58, u96_59, u96_62, u96_63, u96_64, u96_65, u96_66, u96_69, u96_73, u96_74, u96_77, u96_78, u96_81, u96_82, u96_85, u96_86, u96_87, u96_90, eq_false n1, mj_kI_S hX hk, hp, mj_cc_v, mj_cc_n, List.all_cons, List.all_nil, mj_noMk_int, mj_noMk_long, mj_noMk_ref, mj_noMk_junk, List.length_nil, List.length_cons, Nat.zero_le, Nat.reduceLeDiff, Nat.reduceAdd, Bool.and_true, Bool.true_and, Bool.and_self, Nat.reduceBNe, true_or, or_true, true_and, and_true, mj_z0, mj_z1, mj_z01, decide_true, decide_false, Bool.true_and, Bool.false_and, Bool.and_true, Bool.and_false, Bool.true_or, Bool.false_or, Bool.or_false, Bool.or_true, Bool.not_true, Bool.not_false, Bool.and_self, Bool.or_self, if_true, if_false, Bool.true_eq_false, Bool.false_eq_true, not_true, not_false_eq_true]
    have loop : ∀ (j h s : Nat) (τ : mj_St) (x : Int32), h + j = hh + 1 → w ≤ h → s < 4 ^ n → mj_Fm σ τ → mj_MI τ n w gr → (x = -1 ∨ ∃ k, k < 22 ∧ x = nI k) → ∃ ρ, mj_Fm σ ρ ∧ ∀ d, mj_Runs X (mj_ev X (d + 40)) 3 (some .int) prog_5_method_31_code (25, [.ref 46, .int (nI hh), .int (nI s), .int x, .int (nI h)], [], τ) (some (.int (if mj_fso σ n sg j h s x = -1 then -1 else mj_pof σ (nI (mj_sK (mj_fso σ n sg j h s x).toNatClampNeg)) n)), ρ) := by
      intro j
      induction j with
      | zero =>
        intro h s τ x hj hwh hs F2 M2 hx
        have q : nI hh < nI h := nI_lt (by omega) (by omega)
        refine ⟨τ, F2, fun d => ?_⟩
        have hf := fin τ s x (nI h) F2 hx d
        refine u96_25.mpr ?_
        simp only [u96_0, u96_1, u96_4, u96_7, u96_8, u96_9, u96_10, u96_13, u96_14, u96_15, u96_16, u96_17, u96_20, u96_23, u96_27, u96_28, u96_31, u96_33, u96_35, u96_38, u96_39, u96_41, u96_42, u96_45, u96_46, u96_47, u96_50, u96_51, u96_52, u96_53, u96_56, u96_57, u96_58, u96_59, u96_62, u96_63, u96_64, u96_65, u96_66, u96_69, u96_73, u96_74, u96_77, u96_78, u96_81, u96_82, u96_85, u96_86, u96_87, u96_90, q, mj_fso, mj_cc_v, mj_cc_n, List.all_cons, List.all_nil, mj_noMk_int, mj_noMk_long, mj_noMk_ref, mj_noMk_junk, List.length_nil, List.length_cons, Nat.zero_le, Nat.reduceLeDiff, Nat.reduceAdd, Bool.and_true, Bool.true_and, Bool.and_self, Nat.reduceBNe, true_or, or_true, true_and, and_true, mj_z0, mj_z1, mj_z01, decide_true, decide_false, Bool.true_and, Bool.false_and, Bool.and_true, Bool.and_false, Bool.true_or, Bool.false_or, Bool.or_false, Bool.or_true, Bool.not_true, Bool.not_false, Bool.and_self, Bool.or_self, if_true, if_false, Bool.true_eq_false, Bool.false_eq_true, not_true, not_false_eq_true]
        exact hf
      | succ j ih =>
        intro h s τ x hj hwh hs F2 M2 hx
        have q : ¬ nI hh < nI h := nI_nlt (by omega) (by omega)
        have q12 : nI h < 12 := nI_lt (b := 12) (by omega) (by decide)
        have hsg' : τ.1 46 7 = nI sg := by rw [F2.1]; exact hsg
        obtain ⟨ρ2, F3, M3, hnc⟩ := sp_nextChoice hX hd hfr (r := 11 - h) (l := 0) (by have := hd.2.2.2.2.1; omega) F2 M2 hg hs (by decide)
        rw [show 11 - (11 - h) = h by omega] at hnc
        have hnc' : ∀ d, mj_ev X (d + 40) 97 [.ref 46, .int (nI h), .int (nI sg), .int (nI s), .int 0] τ = some (some (.int (mj_nxc σ n (11 - h) sg s 0)), ρ2) := hnc
        rcases mj_nxc_cases (r := 11 - h) (g := sg) (s := s) (l := 0) hd with z | ⟨k, -, hk, ek, -, -, hle⟩
        · have e : mj_fso σ n sg (j + 1) h s x = -1 := by
            simp only [mj_fso]
            rw [if_pos z]
          refine ⟨ρ2, F3, fun d => ?_⟩
          have hnd := hnc' d
          rw [z] at hnd
          rw [e]
          refine u96_25.mpr ?_
          simp only [u96_0, u96_1, u96_4, u96_7, u96_8, u96_9, u96_10, u96_13, u96_14, u96_15, u96_16, u96_17, u96_20, u96_23, u96_27, u96_28, u96_31, u96_33, u96_35, u96_38, u96_39, u96_41, u96_42, u96_45, u96_46, u96_47, u96_50, u96_51, u96_52, u96_53, u96_56, u96_57, u96_58, u96_59, u96_62, u96_63, u96_64, u96_65, u96_66, u96_69, u96_73, u96_74, u96_77, u96_78, u96_81, u96_82, u96_85, u96_86, u96_87, u96_90, q, q12, hsg', hnd, mj_cc_v, mj_cc_n, List.all_cons, List.all_nil, mj_noMk_int, mj_noMk_long, mj_noMk_ref, mj_noMk_junk, List.length_nil, List.length_cons, Nat.zero_le, Nat.reduceLeDiff, Nat.reduceAdd, Bool.and_true, Bool.true_and, Bool.and_self, Nat.reduceBNe, true_or, or_true, true_and, and_true, mj_z0, mj_z1, mj_z01, decide_true, decide_false, Bool.true_and, Bool.false_and, Bool.and_true, Bool.and_false, Bool.true_or, Bool.false_or, Bool.or_false, Bool.or_true, Bool.not_true, Bool.not_false, Bool.and_self, Bool.or_self, if_true, if_false, Bool.true_eq_false, Bool.false_eq_true, not_true, not_false_eq_true]
        · have n1 := mj_nIm1 (p := k) (by omega)
          have e : mj_fso σ n sg (j + 1) h s x = mj_fso σ n sg j (h + 1) (s - mj_tK k) (nI k) := by
            simp only [mj_fso]
            rw [ek, if_neg n1, nI_clamp (by omega)]
          obtain ⟨ρ3, F4, hl⟩ := ih (h + 1) (s - mj_tK k) ρ2 (nI k) (by omega) (by omega) (by omega) F3 M3 (Or.inr ⟨k, hk, rfl⟩)
          refine ⟨ρ3, F4, fun d => ?_⟩
          have hnd := hnc' d
          have hld := hl d
          have es : nI s - nI (mj_tK k) = nI (s - mj_tK k) := mj_nI_sub hle
          rw [ek] at hnd
          rw [e]
          refine u96_25.mpr ?_
          simp only [u96_0, u96_1, u96_4, u96_7, u96_8, u96_9, u96_10, u96_13, u96_14, u96_15, u96_16, u96_17, u96_20, u96_23, u96_27, u96_28, u96_31, u96_33, u96_35, u96_38, u96_39, u96_41, u96_42, u96_45, u96_46, u96_47, u96_50, u96_51, u96_52, u96_53, u96_56, u96_57, u96_58, u96_59, u96_62, u96_63, u96_64, u96_65, u96_66, u96_69, u96_73, u96_74, u96_77, u96_78, u96_81, u96_82, u96_85, u96_86, u96_87, u96_90, q, q12, hsg', hnd, eq_false n1, mj_kI_T hX hk, es, nI_1, mj_cc_v, mj_cc_n, List.all_cons, List.all_nil, mj_noMk_int, mj_noMk_long, mj_noMk_ref, mj_noMk_junk, List.length_nil, List.length_cons, Nat.zero_le, Nat.reduceLeDiff, Nat.reduceAdd, Bool.and_true, Bool.true_and, Bool.and_self, Nat.reduceBNe, true_or, or_true, true_and, and_true, mj_z0, mj_z1, mj_z01, decide_true, decide_false, Bool.true_and, Bool.false_and, Bool.and_true, Bool.and_false, Bool.true_or, Bool.false_or, Bool.or_false, Bool.or_true, Bool.not_true, Bool.not_false, Bool.and_self, Bool.or_self, if_true, if_false, Bool.true_eq_false, Bool.false_eq_true, not_true, not_false_eq_true]
          exact hld
    obtain ⟨ρ2, F3, hl⟩ := loop (hh + 1 - w) w st ρ (-1) (by omega) (Nat.le_refl _) hs F MI (Or.inl rfl)
    refine ⟨ρ2, F3, fun d => ?_⟩
    have hd' := hsu d
    have hld := hl d
    rw [c] at hd'
    have e1 : ρ.2.2.1 46 0 = some 14 := by rw [F.2.2]; exact hd.1
    have e2 : ρ.1 14 17 = nI w := by rw [F.1]; exact hd.2.2.2.1
    have e3 : ρ.1 46 6 = nI st := by rw [F.1]; exact hst
    refine st96 ?_
    simp only [u96_0, u96_1, u96_4, u96_7, u96_8, u96_9, u96_10, u96_13, u96_14, u96_15, u96_16, u96_17, u96_20, u96_23, u96_27, u96_28, u96_31, u96_33, u96_35, u96_38, u96_39, u96_41, u96_42, u96_45, u96_46, u96_47, u96_50, u96_51, u96_52, u96_53, u96_56, u96_57, u96_58, u96_59, u96_62, u96_63, u96_64, u96_65, u96_66, u96_69, u96_73, u96_74, u96_77, u96_78, u96_81, u96_82, u96_85, u96_86, u96_87, u96_90, hd', e1, mj_rf_some, mj_rf14, mj_noMk_ref, e2, e3, mj_zT, mj_n10, mj_cc_v, mj_cc_n, List.all_cons, List.all_nil, mj_noMk_int, mj_noMk_long, mj_noMk_ref, mj_noMk_junk, List.length_nil, List.length_cons, Nat.zero_le, Nat.reduceLeDiff, Nat.reduceAdd, Bool.and_true, Bool.true_and, Bool.and_self, Nat.reduceBNe, true_or, or_true, true_and, and_true, mj_z0, mj_z1, mj_z01, decide_true, decide_false, Bool.true_and, Bool.false_and, Bool.and_true, Bool.and_false, Bool.true_or, Bool.false_or, Bool.or_false, Bool.or_true, Bool.not_true, Bool.not_false, Bool.and_self, Bool.or_self, if_true, if_false, Bool.true_eq_false, Bool.false_eq_true, not_true, not_false_eq_true]
    exact hld
/-- what all choices of an hour have in common -/
def mj_csl (σ : mj_St) (n r sg st : Nat) : Nat → Int32 → Int32 → Int32
  | 0, c, _ => c
  | j + 1, c, x => if x = -1 then c else if c = 0 then c else mj_csl σ n r sg st j (c &&& nI (mj_sK x.toNatClampNeg)) (mj_nxc σ n r sg st (x.toNatClampNeg + 1))
def mj_csv (σ : mj_St) (n w sg st : Nat) : Int32 := if mj_suc σ n w sg st = true then mj_pof σ (mj_csl σ n (11 - w) sg st 22 63 (mj_nxc σ n (11 - w) sg st 0)) n else -1
theorem sp_commonSetNow {n w gr sg st : Nat} (hX : mj_XS X) (hd : mj_sd σ n w gr) (hfr : mj_sfr σ gr) (hsg : σ.1 46 7 = nI sg) (hst : σ.1 46 6 = nI st) (hg : sg < gr) (hs : st < 4 ^ n) (hM : σ.1 46 4 = 0 → w < 12 → mj_MI σ n w gr) (hw : w ≤ 11) : ∃ ρ, mj_Fm σ ρ ∧ ∀ d, mj_ev X (d + 41) 118 [.ref 46] σ = some (some (.int (mj_csv σ n w sg st)), ρ) := by
  obtain ⟨ρ, F, M, hsu⟩ := sp_succeeds hX hd hfr hsg hst hg hs hM
  have hn := hd.2.2.1
  unfold mj_csv
  rcases (Bool.eq_false_or_eq_true (mj_suc σ n w sg st)).symm with c | c
  · refine ⟨ρ, F, fun d => ?_⟩
    have hd' := hsu d
    rw [c] at hd' ⊢
    refine st118 ?_
    simp only [u118_0, u118_1, u118_4, u118_7, u118_8, u118_9, u118_11, u118_12, u118_13, u118_14, u118_17, u118_20, u118_21, u118_24, u118_25, u118_28, u118_29, u118_32, u118_33, u118_34, u118_36, u118_39, u118_40, u118_43, u118_44, u118_45, u118_48, u118_49, u118_52, u118_53, u118_56, u118_57, u118_58, u118_59, u118_60, u118_61, u118_62, u118_65, u118_68, u118_69, u118_72, u118_73, u118_76, u118_77, u118_78, u118_79, u118_82, u118_83, u118_86, u118_89, u118_90, u118_91, u118_94, hd', mj_zF, mj_cc_v, mj_cc_n, List.all_cons, List.all_nil, mj_noMk_int, mj_noMk_long, mj_noMk_ref, mj_noMk_junk, List.length_nil, List.length_cons, Nat.zero_le, Nat.reduceLeDiff, Nat.reduceAdd, Bool.and_true, Bool.true_and, Bool.and_self, Nat.reduceBNe, true_or, or_true, true_and, and_true, mj_z0, mj_z1, mj_z01, decide_true, decide_false, Bool.true_and, Bool.false_and, Bool.and_true, Bool.and_false, Bool.true_or, Bool.false_or, Bool.or_false, Bool.or_true, Bool.not_true, Bool.not_false, Bool.and_self, Bool.or_self, if_true, if_false, Bool.true_eq_false, Bool.false_eq_true, not_true, not_false_eq_true]
  · have c' := c
    unfold mj_suc at c'
    simp only [Bool.and_eq_true, decide_eq_true_eq] at c'
    have MI := M c'.1 (by omega)
    rw [if_pos c]
    have hlen : ∀ τ : mj_St, mj_lenA X τ 1001 = some (nI 22) := by
      intro τ
      obtain ⟨⟨f, hf, -⟩, -⟩ := hX
      unfold mj_lenA
      rw [if_neg (by decide), if_pos (by decide), show 1001 - 1000 = 1 from rfl, hf]
      rfl
    have loop : ∀ (j i : Nat) (τ : mj_St) (x y : Int32), i + j = 22 → mj_Fm σ τ → mj_MI τ n w gr → (x = -1 ∨ ∃ k, k < 22 ∧ x = nI k) → ∃ ρ, mj_Fm σ ρ ∧ ∀ d, mj_Runs X (mj_ev X (d + 40)) 3 (some .int) prog_5_method_32_code (35, [.ref 46, .int y, .int x, .int (nI i)], [], τ) (some (.int (mj_pof σ (mj_csl σ n (11 - w) sg st j y x) n)), ρ) := by
      have fin : ∀ (τ : mj_St) (x y : Int32) (i : Int32), mj_Fm σ τ → ∀ d, mj_Runs X (mj_ev X (d + 40)) 3 (some .int) prog_5_method_32_code (89, [.ref 46, .int y, .int x, .int i], [], τ) (some (.int (mj_pof σ y n)), τ) := by
        intro τ x y i F2 d
        have hp : mj_ev X (d + 40) 98 [.ref 46, .int y] τ = some (some (.int (mj_pof σ y n)), τ) := by
          have e : mj_pof τ = mj_pof σ := by
            funext a b
            unfold mj_pof
            rw [F2.1]
          rw [← e]
          exact sp_promisesOf (d := d + 39) (mj_sd_Fm F2 hd)
        refine u118_89.mpr ?_
        simp only [u118_0, u118_1, u118_4, u118_7, u118_8, u118_9, u118_11, u118_12, u118_13, u118_14, u118_17, u118_20, u118_21, u118_24, u118_25, u118_28, u118_29, u118_32, u118_33, u118_34, u118_36, u118_39, u118_40, u118_43, u118_44, u118_45, u118_48, u118_49, u118_52, u118_53, u118_56, u118_57, u118_58, u118_59, u118_60, u118_61, u118_62, u118_65, u118_68, u118_69, u118_72, u118_73, u118_76, u118_77, u118_78, u118_79, u118_82, u118_83, u118_86, u118_90, u118_91, u118_94, hp, mj_cc_v, mj_cc_n, List.all_cons, List.all_nil, mj_noMk_int, mj_noMk_long, mj_noMk_ref, mj_noMk_junk, List.length_nil, List.length_cons, Nat.zero_le, Nat.reduceLeDiff, Nat.reduceAdd, Bool.and_true, Bool.true_and, Bool.and_self, Nat.reduceBNe, true_or, or_true, true_and, and_true, mj_z0, mj_z1, mj_z01, decide_true, decide_false, Bool.true_and, Bool.false_and, Bool.and_true, Bool.and_false, Bool.true_or, Bool.false_or, Bool.or_false, Bool.or_true, Bool.not_true, Bool.not_false, Bool.and_self, Bool.or_self, if_true, if_false, Bool.true_eq_false, Bool.false_eq_true, not_true, not_false_eq_true]
      intro j
      induction j with
      | zero =>
        intro i τ x y hi F2 M2 hx
        have q : ¬ nI i < nI 22 := nI_nlt (by omega) (by omega)
        refine ⟨τ, F2, fun d => ?_⟩
        have hf := fin τ x y (nI i) F2 d
        refine u118_35.mpr ?_
        simp only [u118_0, u118_1, u118_4, u118_7, u118_8, u118_9, u118_11, u118_12, u118_13, u118_14, u118_17, u118_20, u118_21, u118_24, u118_25, u118_28, u118_29, u118_32, u118_33, u118_34, u118_36, u118_39, u118_40, u118_43, u118_44, u118_45, u118_48, u118_49, u118_52, u118_53, u118_56, u118_57, u118_58, u118_59, u118_60, u118_61, u118_62, u118_65, u118_68, u118_69, u118_72, u118_73, u118_76, u118_77, u118_78, u118_79, u118_82, u118_83, u118_86, u118_90, u118_91, u118_94, hlen, mj_kN, q, mj_csl, mj_cc_v, mj_cc_n, List.all_cons, List.all_nil, mj_noMk_int, mj_noMk_long, mj_noMk_ref, mj_noMk_junk, List.length_nil, List.length_cons, Nat.zero_le, Nat.reduceLeDiff, Nat.reduceAdd, Bool.and_true, Bool.true_and, Bool.and_self, Nat.reduceBNe, true_or, or_true, true_and, and_true, mj_z0, mj_z1, mj_z01, decide_true, decide_false, Bool.true_and, Bool.false_and, Bool.and_true, Bool.and_false, Bool.true_or, Bool.false_or, Bool.or_false, Bool.or_true, Bool.not_true, Bool.not_false, Bool.and_self, Bool.or_self, if_true, if_false, Bool.true_eq_false, Bool.false_eq_true, not_true, not_false_eq_true]
        exact hf
      | succ j ih =>
        intro i τ x y hi F2 M2 hx
        have q : nI i < nI 22 := nI_lt (by omega) (by omega)
        have e1 : τ.2.2.1 46 0 = some 14 := by rw [F2.2.2]; exact hd.1
        have e2 : τ.1 14 17 = nI w := by rw [F2.1]; exact hd.2.2.2.1
        have e3 : τ.1 46 6 = nI st := by rw [F2.1]; exact hst
        have e4 : τ.1 46 7 = nI sg := by rw [F2.1]; exact hsg
        by_cases x1 : x = -1
        · refine ⟨τ, F2, fun d => ?_⟩
          have hf := fin τ x y (nI i) F2 d
          have e : mj_csl σ n (11 - w) sg st (j + 1) y x = y := by
            simp only [mj_csl]
            rw [if_pos x1]
          rw [e]
          refine u118_35.mpr ?_
          simp only [u118_0, u118_1, u118_4, u118_7, u118_8, u118_9, u118_11, u118_12, u118_13, u118_14, u118_17, u118_20, u118_21, u118_24, u118_25, u118_28, u118_29, u118_32, u118_33, u118_34, u118_36, u118_39, u118_40, u118_43, u118_44, u118_45, u118_48, u118_49, u118_52, u118_53, u118_56, u118_57, u118_58, u118_59, u118_60, u118_61, u118_62, u118_65, u118_68, u118_69, u118_72, u118_73, u118_76, u118_77, u118_78, u118_79, u118_82, u118_83, u118_86, u118_90, u118_91, u118_94, hlen, mj_kN, q, eq_true x1, mj_cc_v, mj_cc_n, List.all_cons, List.all_nil, mj_noMk_int, mj_noMk_long, mj_noMk_ref, mj_noMk_junk, List.length_nil, List.length_cons, Nat.zero_le, Nat.reduceLeDiff, Nat.reduceAdd, Bool.and_true, Bool.true_and, Bool.and_self, Nat.reduceBNe, true_or, or_true, true_and, and_true, mj_z0, mj_z1, mj_z01, decide_true, decide_false, Bool.true_and, Bool.false_and, Bool.and_true, Bool.and_false, Bool.true_or, Bool.false_or, Bool.or_false, Bool.or_true, Bool.not_true, Bool.not_false, Bool.and_self, Bool.or_self, if_true, if_false, Bool.true_eq_false, Bool.false_eq_true, not_true, not_false_eq_true]
          exact hf
        · by_cases y0 : y = 0
          · refine ⟨τ, F2, fun d => ?_⟩
            have hf := fin τ x y (nI i) F2 d
            have e : mj_csl σ n (11 - w) sg st (j + 1) y x = y := by
              simp only [mj_csl]
              rw [if_neg x1, if_pos y0]
            rw [e]
            refine u118_35.mpr ?_
            simp only [u118_0, u118_1, u118_4, u118_7, u118_8, u118_9, u118_11, u118_12, u118_13, u118_14, u118_17, u118_20, u118_21, u118_24, u118_25, u118_28, u118_29, u118_32, u118_33, u118_34, u118_36, u118_39, u118_40, u118_43, u118_44, u118_45, u118_48, u118_49, u118_52, u118_53, u118_56, u118_57, u118_58, u118_59, u118_60, u118_61, u118_62, u118_65, u118_68, u118_69, u118_72, u118_73, u118_76, u118_77, u118_78, u118_79, u118_82, u118_83, u118_86, u118_90, u118_91, u118_94, hlen, mj_kN, q, eq_false x1, eq_true y0, mj_cc_v, mj_cc_n, List.all_cons, List.all_nil, mj_noMk_int, mj_noMk_long, mj_noMk_ref, mj_noMk_junk, List.length_nil, List.length_cons, Nat.zero_le, Nat.reduceLeDiff, Nat.reduceAdd, Bool.and_true, Bool.true_and, Bool.and_self, Nat.reduceBNe, true_or, or_true, true_and, and_true, mj_z0, mj_z1, mj_z01, decide_true, decide_false, Bool.true_and, Bool.false_and, Bool.and_true, Bool.and_false, Bool.true_or, Bool.false_or, Bool.or_false, Bool.or_true, Bool.not_true, Bool.not_false, Bool.and_self, Bool.or_self, if_true, if_false, Bool.true_eq_false, Bool.false_eq_true, not_true, not_false_eq_true]
            exact hf
          · obtain ⟨k, hk, ek⟩ := hx.resolve_left x1
            subst ek
            obtain ⟨ρ2, F3, M3, hnc⟩ := sp_nextChoice hX hd hfr (r := 11 - w) (l := k + 1) (s := st) (g := sg) (by omega) F2 M2 hg hs (by omega)
            rw [show 11 - (11 - w) = w by omega] at hnc
            have hx2 : mj_nxc σ n (11 - w) sg st (k + 1) = -1 ∨ ∃ k', k' < 22 ∧ mj_nxc σ n (11 - w) sg st (k + 1) = nI k' := by
              rcases mj_nxc_cases (r := 11 - w) (g := sg) (s := st) (l := k + 1) hd with z | ⟨k', -, b, e, -⟩
              · exact Or.inl z
              · exact Or.inr ⟨k', b, e⟩
            have e : mj_csl σ n (11 - w) sg st (j + 1) y (nI k) = mj_csl σ n (11 - w) sg st j (y &&& nI (mj_sK k)) (mj_nxc σ n (11 - w) sg st (k + 1)) := by
              simp only [mj_csl]
              rw [if_neg x1, if_neg y0, nI_clamp (by omega)]
            obtain ⟨ρ3, F4, hl⟩ := ih (i + 1) ρ2 (mj_nxc σ n (11 - w) sg st (k + 1)) (y &&& nI (mj_sK k)) (by omega) F3 M3 hx2
            refine ⟨ρ3, F4, fun d => ?_⟩
            have hnd := hnc d
            have hld := hl d
            rw [e]
            refine u118_35.mpr ?_
            simp only [u118_0, u118_1, u118_4, u118_7, u118_8, u118_9, u118_11, u118_12, u118_13, u118_14, u118_17, u118_20, u118_21, u118_24, u118_25, u118_28, u118_29, u118_32, u118_33, u118_34, u118_36, u118_39, u118_40, u118_43, u118_44, u118_45, u118_48, u118_49, u118_52, u118_53, u118_56, u118_57, u118_58, u118_59, u118_60, u118_61, u118_62, u118_65, u118_68, u118_69, u118_72, u118_73, u118_76, u118_77, u118_78, u118_79, u118_82, u118_83, u118_86, u118_90, u118_91, u118_94, hlen, mj_kN, q, eq_false x1, eq_false y0, mj_kI_S hX hk, e1, mj_rf_some, mj_rf14, mj_noMk_ref, e2, e3, e4, nI_1, hnd, mj_cc_v, mj_cc_n, List.all_cons, List.all_nil, mj_noMk_int, mj_noMk_long, mj_noMk_ref, mj_noMk_junk, List.length_nil, List.length_cons, Nat.zero_le, Nat.reduceLeDiff, Nat.reduceAdd, Bool.and_true, Bool.true_and, Bool.and_self, Nat.reduceBNe, true_or, or_true, true_and, and_true, mj_z0, mj_z1, mj_z01, decide_true, decide_false, Bool.true_and, Bool.false_and, Bool.and_true, Bool.and_false, Bool.true_or, Bool.false_or, Bool.or_false, Bool.or_true, Bool.not_true, Bool.not_false, Bool.and_self, Bool.or_self, if_true, if_false, Bool.true_eq_false, Bool.false_eq_true, not_true, not_false_eq_true]
            exact hld
    obtain ⟨ρ1, F1, M1, hnc⟩ := sp_nextChoice hX hd hfr (r := 11 - w) (l := 0) (s := st) (g := sg) (by omega) F MI hg hs (by decide)
    rw [show 11 - (11 - w) = w by omega] at hnc
    have hnc' : ∀ d, mj_ev X (d + 40) 97 [.ref 46, .int (nI w), .int (nI sg), .int (nI st), .int 0] ρ = some (some (.int (mj_nxc σ n (11 - w) sg st 0)), ρ1) := hnc
    have hx2 : mj_nxc σ n (11 - w) sg st 0 = -1 ∨ ∃ k', k' < 22 ∧ mj_nxc σ n (11 - w) sg st 0 = nI k' := by
      rcases mj_nxc_cases (r := 11 - w) (g := sg) (s := st) (l := 0) hd with z | ⟨k', -, b, e, -⟩
      · exact Or.inl z
      · exact Or.inr ⟨k', b, e⟩
    obtain ⟨ρ2, F3, hl⟩ := loop 22 0 ρ1 (mj_nxc σ n (11 - w) sg st 0) 63 (by omega) F1 M1 hx2
    refine ⟨ρ2, F3, fun d => ?_⟩
    have hd' := hsu d
    have hld := hl d
    rw [c] at hd'
    have e1 : ρ.2.2.1 46 0 = some 14 := by rw [F.2.2]; exact hd.1
    have e2 : ρ.1 14 17 = nI w := by rw [F.1]; exact hd.2.2.2.1
    have e3 : ρ.1 46 6 = nI st := by rw [F.1]; exact hst
    have e4 : ρ.1 46 7 = nI sg := by rw [F.1]; exact hsg
    have e0 : nI 0 = 0 := rfl
    rw [e0] at hld
    refine st118 ?_
    simp only [u118_0, u118_1, u118_4, u118_7, u118_8, u118_9, u118_11, u118_12, u118_13, u118_14, u118_17, u118_20, u118_21, u118_24, u118_25, u118_28, u118_29, u118_32, u118_33, u118_34, u118_36, u118_39, u118_40, u118_43, u118_44, u118_45, u118_48, u118_49, u118_52, u118_53, u118_56, u118_57, u118_58, u118_59, u118_60, u118_61, u118_62, u118_65, u118_68, u118_69, u118_72, u118_73, u118_76, u118_77, u118_78, u118_79, u118_82, u118_83, u118_86, u118_89, u118_90, u118_91, u118_94, hd', e1, mj_rf_some, mj_rf14, mj_noMk_ref, e2, e3, e4, hnc' d, mj_zT, mj_n10, mj_cc_v, mj_cc_n, List.all_cons, List.all_nil, mj_noMk_int, mj_noMk_long, mj_noMk_ref, mj_noMk_junk, List.length_nil, List.length_cons, Nat.zero_le, Nat.reduceLeDiff, Nat.reduceAdd, Bool.and_true, Bool.true_and, Bool.and_self, Nat.reduceBNe, true_or, or_true, true_and, and_true, mj_z0, mj_z1, mj_z01, decide_true, decide_false, Bool.true_and, Bool.false_and, Bool.and_true, Bool.and_false, Bool.true_or, Bool.false_or, Bool.or_false, Bool.or_true, Bool.not_true, Bool.not_false, Bool.and_self, Bool.or_self, if_true, if_false, Bool.true_eq_false, Bool.false_eq_true, not_true, not_false_eq_true]
    exact hld
end
