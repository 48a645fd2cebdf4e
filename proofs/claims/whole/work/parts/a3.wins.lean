section
variable {X : mj_X} {d : Nat} {σ τ ρ : mj_St}
theorem mj_anyS (f : Nat → Bool) : ∀ (j k : Nat), mj_anyF f k (j + 1) = (mj_anyF f k j || f (k + j)) := by
  intro j
  induction j with
  | zero =>
    intro k
    simp [mj_anyF]
  | succ j ih =>
    intro k
    have e1 : mj_anyF f k (j + 1 + 1) = (f k || mj_anyF f (k + 1) (j + 1)) := rfl
    have e2 : mj_anyF f k (j + 1) = (f k || mj_anyF f (k + 1) j) := rfl
    rw [e1, e2, ih (k + 1), Bool.or_assoc, show k + 1 + j = k + (j + 1) by omega]
theorem mj_fbi_b {b : Int32} {p : Nat → Bool} {k : Nat} (hk : k < 32) : ∀ n, n ≤ 32 → mj_b (mj_fbi b p n) k = (mj_b b k || (decide (k < n) && p k)) := by
  intro n
  induction n with
  | zero =>
    intro _
    show mj_b b k = _
    rw [decide_eq_false (Nat.not_lt_zero k), Bool.false_and, Bool.or_false]
  | succ n ih =>
    intro hn
    have e : mj_fbi b p (n + 1) = if p n = true then mj_fbi b p n ||| 1 <<< (nI n &&& 31) else mj_fbi b p n := rfl
    rw [e]
    by_cases c : k = n
    · subst c
      rcases (Bool.eq_false_or_eq_true (p k)).symm with q | q
      · rw [if_neg (by rw [q]; decide), ih (by omega), q, Bool.and_false, Bool.and_false]
      · rw [if_pos q, mj_b_or, ih (by omega), mj_b_sh1 (by omega) hk, decide_eq_true rfl, q, decide_eq_true (show k < k + 1 by omega), Bool.or_true, Bool.and_true, Bool.or_true]
    · have ec : decide (k < n + 1) = decide (k < n) := by
        by_cases z : k < n
        · rw [decide_eq_true z, decide_eq_true (by omega)]
        · rw [decide_eq_false z, decide_eq_false (by omega)]
      rw [ec]
      split
      · rw [mj_b_or, ih (by omega), mj_b_sh1 (by omega) hk, decide_eq_false c, Bool.or_false]
      · exact ih (by omega)
/-- the moves, bit by bit -/
theorem mj_mv_b {op fo : Int32} {k : Nat} (h : ¬ mj_mvf op fo = -1) (hk : k < 6) : mj_b (mj_mvf op fo) k = mj_b op k := by
  unfold mj_mvf at h ⊢
  by_cases c : fo &&& (op ^^^ -1) = 0
  · rw [if_pos c, mj_b_or]
    have e6 : (6 : Int32) &&& 31 = nI 6 &&& 31 := rfl
    rw [e6, mj_b_shl (by decide) (by omega), decide_eq_false (show ¬ 6 ≤ k by omega), Bool.false_and, Bool.or_false]
  · rw [if_neg c] at h
    exact absurd rfl h
theorem mj_mvs_ne {g h s n : Nat} (hv : ¬ mj_mvs σ g h s n = -1) : mj_hrm σ h ((mj_sts σ g h >>> (12 &&& 31)) &&& 63) s n = true ∧ mj_anyF (mj_mbd σ g h s) 0 n = false ∧ mj_mvs σ g h s n = mj_mvf (mj_fbi 0 (mj_mop σ g h s) n) (mj_fbi (mj_pin σ h) (mj_mfo σ g h s) n) := by
  unfold mj_mvs at hv ⊢
  by_cases c1 : mj_hrm σ h ((mj_sts σ g h >>> (12 &&& 31)) &&& 63) s n = true
  · rw [if_pos c1] at hv ⊢
    by_cases c2 : mj_anyF (mj_mbd σ g h s) 0 n = true
    · rw [if_pos c2] at hv
      exact absurd rfl hv
    · rw [if_neg c2] at hv ⊢
      exact ⟨c1, eq_false_of_ne_true c2, rfl⟩
  · rw [if_neg c1] at hv
    exact absurd rfl hv
theorem mj_sK_lt : ∀ k : Nat, k < 22 → mj_sK k < 64 := by decide
/-- what a move takes is there -/
theorem mj_imv_op {g h s n k p : Nat} {m : Int32} (hm : m = mj_mvs σ g h s n) (hv : ¬ m = -1) (hi : mj_imv σ k h m = true) (hk : k < 22) (hn : n ≤ 6) (hp : p < 6) (hb : (mj_sK k).testBit p = true) : p < n ∧ mj_mop σ g h s p = true := by
  subst hm
  obtain ⟨-, -, e⟩ := mj_mvs_ne hv
  unfold mj_imv at hi
  simp only [Bool.and_eq_true, decide_eq_true_eq] at hi
  have h1 := mj_sub_b (k := p) hi.1 (by
    rw [mj_b_nI (by have := mj_sK_lt k hk; omega)]
    exact hb)
  rw [e] at hv h1
  rw [mj_mv_b hv hp, mj_fbi_b (by omega) n (by omega), mj_b_0, Bool.false_or] at h1
  simp only [Bool.and_eq_true, decide_eq_true_eq] at h1
  exact h1
theorem mj_imv_le {g h s n k : Nat} {m : Int32} (hm : m = mj_mvs σ g h s n) (hv : ¬ m = -1) (hi : mj_imv σ k h m = true) (hk : k < 22) (hn : n ≤ 6) : mj_tK k ≤ s := by
  have key : ∀ p, p < 6 → (mj_sK k).testBit p = true → 1 ≤ s / 4 ^ p % 4 := by
    intro p hp hb
    have := (mj_imv_op hm hv hi hk hn hp hb).2
    unfold mj_mop mj_lf at this
    simp only [Bool.and_eq_true, decide_eq_true_eq] at this
    omega
  have k0 := key 0 (by decide)
  have k1 := key 1 (by decide)
  have k2 := key 2 (by decide)
  have k3 := key 3 (by decide)
  have k4 := key 4 (by decide)
  have k5 := key 5 (by decide)
  clear key hi hm
  simp only [Nat.reducePow, Nat.div_one] at k0 k1 k2 k3 k4 k5
  have hcase : ∀ j, j < 22 → ((mj_sK j).testBit 0 = true → 1 ≤ s % 4) → ((mj_sK j).testBit 1 = true → 1 ≤ s / 4 % 4) → ((mj_sK j).testBit 2 = true → 1 ≤ s / 16 % 4) → ((mj_sK j).testBit 3 = true → 1 ≤ s / 64 % 4) → ((mj_sK j).testBit 4 = true → 1 ≤ s / 256 % 4) → ((mj_sK j).testBit 5 = true → 1 ≤ s / 1024 % 4) → mj_tK j ≤ s := by
    intro j hj a0 a1 a2 a3 a4 a5
    have : j = 0 ∨ j = 1 ∨ j = 2 ∨ j = 3 ∨ j = 4 ∨ j = 5 ∨ j = 6 ∨ j = 7 ∨ j = 8 ∨ j = 9 ∨ j = 10 ∨ j = 11 ∨ j = 12 ∨ j = 13 ∨ j = 14 ∨ j = 15 ∨ j = 16 ∨ j = 17 ∨ j = 18 ∨ j = 19 ∨ j = 20 ∨ j = 21 := by omega
    rcases this with q | q | q | q | q | q | q | q | q | q | q | q | q | q | q | q | q | q | q | q | q | q <;> subst q <;> simp (config := {decide := true}) [mj_sK, mj_tK, mj_SETS, mj_TAKES] at a0 a1 a2 a3 a4 a5 ⊢ <;> omega
  exact hcase k hk k0 k1 k2 k3 k4 k5
theorem sp_halfOfMarks {n w gr : Nat} (hd : mj_sd σ n w gr) : mj_ev X (d + 1) 83 [.ref 46] σ = some (some (.int (nI (mj_hf w gr n))), σ) := by
  obtain ⟨d1, d2, d3, d4, d5, d6, d7, -⟩ := hd
  obtain ⟨l1, l2⟩ := mj_hf_lt (w := w) d7 d3
  have e1 : (12 : Int32) - nI w = nI (12 - w) := mj_nI_sub (a := 12) d5
  have e2 : nI (12 - w) * nI gr = nI ((12 - w) * gr) := mj_nI_mul _ _
  have e3 : nI ((12 - w) * gr) <<< ((2 * nI n) &&& 31) = nI ((12 - w) * gr * 4 ^ n) := by
    rw [mj_n2, mj_nI_shl (by omega) (by rw [Nat.pow_mul]; show (12 - w) * gr * 4 ^ n < 2 ^ 31; omega), Nat.pow_mul]
  have e4 : nI ((12 - w) * gr * 4 ^ n) + 63 = nI ((12 - w) * gr * 4 ^ n + 63) := by
    show nI _ + nI 63 = _
    rw [nI_add]
  have e5 : nI ((12 - w) * gr * 4 ^ n + 63) >>> (6 &&& 31) = nI (mj_hf w gr n) := by
    have e6 : (6 : Int32) &&& 31 = nI 6 &&& 31 := rfl
    rw [e6, mj_nI_shr (by decide) (by omega)]
    rfl
  refine st83 ?_
  simp only [u83_0, u83_2, u83_3, u83_6, u83_9, u83_10, u83_11, u83_14, u83_15, u83_16, u83_17, u83_20, u83_21, u83_22, u83_24, u83_25, u83_27, u83_28, d1, mj_rf_some, mj_rf14, mj_noMk_ref, d2, d4, d6, e1, e2, e3, e4, e5, mj_cc_v, mj_cc_n, List.all_cons, List.all_nil, mj_noMk_int, mj_noMk_long, mj_noMk_ref, mj_noMk_junk, List.length_nil, List.length_cons, Nat.zero_le, Nat.reduceLeDiff, Nat.reduceAdd, Bool.and_true, Bool.true_and, Bool.and_self, Nat.reduceBNe, true_or, or_true, true_and, and_true, mj_z0, mj_z1, mj_z01, decide_true, decide_false, Bool.true_and, Bool.false_and, Bool.and_true, Bool.and_false, Bool.true_or, Bool.false_or, Bool.or_false, Bool.or_true, Bool.not_true, Bool.not_false, Bool.and_self, Bool.or_self, if_true, if_false, Bool.true_eq_false, Bool.false_eq_true, not_true, not_false_eq_true]
/-- no forks get known where there is one group -/
def mj_sfr (σ : mj_St) (gr : Nat) : Prop := gr = 1 → ∀ h, ¬ nI h < σ.1 14 17 → h < 12 → mj_sts σ 0 h >>> (18 &&& 31) = 0
theorem mj_or8 : ∀ g : Nat, g < 8 → ∀ u : Nat, u < 8 → nI g ||| nI u = nI (g ||| u) ∧ g ||| u < 8 := by decide +kernel
/-- a search that goes on from here tells the truth -/
def mj_Wok (X : mj_X) (σ : mj_St) (n w gr r : Nat) : Prop := ∀ τ g s, mj_Fm σ τ → mj_MI τ n w gr → g < gr → s < 4 ^ n → ∃ ρ, mj_Fm σ ρ ∧ mj_MI ρ n w gr ∧ ∀ d, mj_ev X (d + 3 * r + 3) 87 [.ref 46, .int (nI (12 - r)), .int (nI g), .int (nI s)] τ = some (some (.int (mj_z (mj_W σ n r g s))), ρ)
theorem sp_follows {n w gr r : Nat} (hd : mj_sd σ n w gr) (hfr : mj_sfr σ gr) (hr : r + 1 ≤ 12 - w) (hW : mj_Wok X σ n w gr r) {g s : Nat} (F : mj_Fm σ τ) (hM : mj_MI τ n w gr) (hg : g < gr) (hs : s < 4 ^ n) : ∃ ρ, mj_Fm σ ρ ∧ mj_MI ρ n w gr ∧ ∀ d, mj_ev X (d + 3 * r + 4) 94 [.ref 46, .int (nI (11 - r)), .int (nI g), .int (nI s)] τ = some (some (.int (mj_z (mj_fl σ (mj_W σ n r) r g s))), ρ) := by
  have hdτ := mj_sd_Fm F hd
  have hgr := hd.2.2.2.2.2.2.1
  have hg8 : g < 8 := by rcases hgr with q | q <;> omega
  by_cases r0 : r = 0
  · subst r0
    refine ⟨τ, F, hM, fun d => ?_⟩
    have q : ¬ nI (11 - 0) + 1 < 12 := by decide
    have e : mj_fl σ (mj_W σ n 0) 0 g s = true := rfl
    rw [e]
    refine st94 ?_
    simp only [u94_0, u94_1, u94_2, u94_3, u94_5, u94_8, u94_9, u94_10, u94_11, u94_14, u94_15, u94_17, u94_18, u94_19, u94_20, u94_21, u94_22, u94_23, u94_25, u94_26, u94_28, u94_30, u94_33, u94_34, u94_35, u94_36, u94_37, u94_38, u94_39, u94_42, u94_43, u94_44, u94_48, u94_50, u94_53, u94_55, u94_57, u94_58, u94_59, u94_60, u94_63, u94_64, u94_65, u94_66, u94_67, u94_68, u94_70, u94_71, u94_72, u94_75, u94_78, u94_79, u94_80, u94_83, u94_86, u94_87, q, mj_zT, mj_cc_v, mj_cc_n, List.all_cons, List.all_nil, mj_noMk_int, mj_noMk_long, mj_noMk_ref, mj_noMk_junk, List.length_nil, List.length_cons, Nat.zero_le, Nat.reduceLeDiff, Nat.reduceAdd, Bool.and_true, Bool.true_and, Bool.and_self, Nat.reduceBNe, true_or, or_true, true_and, and_true, mj_z0, mj_z1, mj_z01, decide_true, decide_false, Bool.true_and, Bool.false_and, Bool.and_true, Bool.and_false, Bool.true_or, Bool.false_or, Bool.or_false, Bool.or_true, Bool.not_true, Bool.not_false, Bool.and_self, Bool.or_self, if_true, if_false, Bool.true_eq_false, Bool.false_eq_true, not_true, not_false_eq_true]
  · have q : nI (11 - r) + 1 < 12 := by
      rw [nI_1]
      exact nI_lt (b := 12) (by omega) (by decide)
    have e11 : 11 - r + 1 = 12 - r := by omega
    have q12 : nI (12 - r) < 12 := nI_lt (b := 12) (by omega) (by decide)
    have e12 : nI g * 12 = nI (g * 12) := mj_nI_mul g 12
    have h96 : g * 12 + (11 - r) + 1 < 96 := by omega
    have est : τ.1 51 (g * 12 + (11 - r) + 1) = mj_sts σ g (12 - r) := by
      unfold mj_sts
      rw [F.1, show g * 12 + (11 - r) + 1 = g * 12 + (12 - r) by omega]
    have efl : mj_fl σ (mj_W σ n r) r g s = if mj_sts σ g (12 - r) >>> (18 &&& 31) = 0 then mj_W σ n r g s else !(mj_anyF (fun u => decide (nI u &&& ((mj_sts σ g (12 - r) >>> (18 &&& 31)) ^^^ -1) = 0) && !(mj_W σ n r (g ||| u) s)) 0 8) := by
      unfold mj_fl
      rw [if_neg r0]
    rw [efl]
    by_cases c : mj_sts σ g (12 - r) >>> (18 &&& 31) = 0
    · obtain ⟨ρ, F2, M2, hw⟩ := hW τ g s F hM hg hs
      refine ⟨ρ, F2, M2, fun d => ?_⟩
      rw [if_pos c]
      have hwd := hw d
      refine st94 ?_
      simp only [u94_0, u94_1, u94_2, u94_3, u94_5, u94_8, u94_9, u94_10, u94_11, u94_14, u94_15, u94_17, u94_18, u94_19, u94_20, u94_21, u94_22, u94_23, u94_25, u94_26, u94_28, u94_30, u94_33, u94_34, u94_35, u94_36, u94_37, u94_38, u94_39, u94_42, u94_43, u94_44, u94_48, u94_50, u94_53, u94_55, u94_57, u94_58, u94_59, u94_60, u94_63, u94_64, u94_65, u94_66, u94_67, u94_68, u94_70, u94_71, u94_72, u94_75, u94_78, u94_79, u94_80, u94_83, u94_86, u94_87, q12, e12, nI_add, nI_1, mj_in_nI h96 (by decide), mj_nz9 h96 (by decide), est, c, e11, hwd, mj_cc_v, mj_cc_n, List.all_cons, List.all_nil, mj_noMk_int, mj_noMk_long, mj_noMk_ref, mj_noMk_junk, List.length_nil, List.length_cons, Nat.zero_le, Nat.reduceLeDiff, Nat.reduceAdd, Bool.and_true, Bool.true_and, Bool.and_self, Nat.reduceBNe, true_or, or_true, true_and, and_true, mj_z0, mj_z1, mj_z01, decide_true, decide_false, Bool.true_and, Bool.false_and, Bool.and_true, Bool.and_false, Bool.true_or, Bool.false_or, Bool.or_false, Bool.or_true, Bool.not_true, Bool.not_false, Bool.and_self, Bool.or_self, if_true, if_false, Bool.true_eq_false, Bool.false_eq_true, not_true, not_false_eq_true]
      exact (Bool.eq_false_or_eq_true _).symm
    · have hgr8 : gr = 8 := by
        rcases hgr with z | z
        · have g0 : g = 0 := by omega
          rw [g0] at c
          exact absurd (hfr z (12 - r) (by rw [hd.2.2.2.1]; exact nI_nlt (by omega) (by omega)) (by omega)) c
        · exact z
      generalize hfrs : mj_sts σ g (12 - r) >>> (18 &&& 31) = fr at *
      have loop : ∀ (j u : Nat) (τ : mj_St), u + j = 8 → mj_Fm σ τ → mj_MI τ n w gr → ∃ ρ, mj_Fm σ ρ ∧ mj_MI ρ n w gr ∧ ∀ d, mj_Runs X (mj_ev X (d + 3 * r + 3)) 3 (some .boolean) prog_5_method_25_code (46, [.ref 46, .int (nI (11 - r)), .int (nI g), .int (nI s), .int fr, .int (nI u)], [], τ) (some (.int (mj_z (!(mj_anyF (fun u => decide (nI u &&& (fr ^^^ -1) = 0) && !(mj_W σ n r (g ||| u) s)) u j)))), ρ) := by
        intro j
        induction j with
        | zero =>
          intro u τ hu F hM
          have hu8 : u = 8 := by omega
          subst hu8
          have q8 : ¬ nI 8 < 8 := by decide
          refine ⟨τ, F, hM, fun d => ?_⟩
          refine u94_46.mpr ?_
          simp only [u94_0, u94_1, u94_2, u94_3, u94_5, u94_8, u94_9, u94_10, u94_11, u94_14, u94_15, u94_17, u94_18, u94_19, u94_20, u94_21, u94_22, u94_23, u94_25, u94_26, u94_28, u94_30, u94_33, u94_34, u94_35, u94_36, u94_37, u94_38, u94_39, u94_42, u94_43, u94_44, u94_48, u94_50, u94_53, u94_55, u94_57, u94_58, u94_59, u94_60, u94_63, u94_64, u94_65, u94_66, u94_67, u94_68, u94_70, u94_71, u94_72, u94_75, u94_78, u94_79, u94_80, u94_83, u94_86, u94_87, q8, mj_anyF, mj_zT, mj_cc_v, mj_cc_n, List.all_cons, List.all_nil, mj_noMk_int, mj_noMk_long, mj_noMk_ref, mj_noMk_junk, List.length_nil, List.length_cons, Nat.zero_le, Nat.reduceLeDiff, Nat.reduceAdd, Bool.and_true, Bool.true_and, Bool.and_self, Nat.reduceBNe, true_or, or_true, true_and, and_true, mj_z0, mj_z1, mj_z01, decide_true, decide_false, Bool.true_and, Bool.false_and, Bool.and_true, Bool.and_false, Bool.true_or, Bool.false_or, Bool.or_false, Bool.or_true, Bool.not_true, Bool.not_false, Bool.and_self, Bool.or_self, if_true, if_false, Bool.true_eq_false, Bool.false_eq_true, not_true, not_false_eq_true]
        | succ j ih =>
          intro u τ hu F hM
          have q8 : nI u < 8 := nI_lt (b := 8) (by omega) (by decide)
          obtain ⟨o1, o2⟩ := mj_or8 g hg8 u (by omega)
          simp only [mj_anyF]
          by_cases c1 : nI u &&& (fr ^^^ -1) = 0
          · obtain ⟨ρ, F2, M2, hw⟩ := hW τ (g ||| u) s F hM (by omega) hs
            rw [decide_eq_true c1, Bool.true_and]
            rcases (Bool.eq_false_or_eq_true (mj_W σ n r (g ||| u) s)).symm with c2 | c2
            · refine ⟨ρ, F2, M2, fun d => ?_⟩
              have hwd := hw d
              rw [c2] at hwd ⊢
              refine u94_46.mpr ?_
              simp only [u94_0, u94_1, u94_2, u94_3, u94_5, u94_8, u94_9, u94_10, u94_11, u94_14, u94_15, u94_17, u94_18, u94_19, u94_20, u94_21, u94_22, u94_23, u94_25, u94_26, u94_28, u94_30, u94_33, u94_34, u94_35, u94_36, u94_37, u94_38, u94_39, u94_42, u94_43, u94_44, u94_48, u94_50, u94_53, u94_55, u94_57, u94_58, u94_59, u94_60, u94_63, u94_64, u94_65, u94_66, u94_67, u94_68, u94_70, u94_71, u94_72, u94_75, u94_78, u94_79, u94_80, u94_83, u94_86, u94_87, q8, c1, o1, nI_1, e11, hwd, mj_zF, mj_cc_v, mj_cc_n, List.all_cons, List.all_nil, mj_noMk_int, mj_noMk_long, mj_noMk_ref, mj_noMk_junk, List.length_nil, List.length_cons, Nat.zero_le, Nat.reduceLeDiff, Nat.reduceAdd, Bool.and_true, Bool.true_and, Bool.and_self, Nat.reduceBNe, true_or, or_true, true_and, and_true, mj_z0, mj_z1, mj_z01, decide_true, decide_false, Bool.true_and, Bool.false_and, Bool.and_true, Bool.and_false, Bool.true_or, Bool.false_or, Bool.or_false, Bool.or_true, Bool.not_true, Bool.not_false, Bool.and_self, Bool.or_self, if_true, if_false, Bool.true_eq_false, Bool.false_eq_true, not_true, not_false_eq_true]
            · obtain ⟨ρ2, F3, M3, hl⟩ := ih (u + 1) ρ (by omega) F2 M2
              refine ⟨ρ2, F3, M3, fun d => ?_⟩
              have hwd := hw d
              have hld := hl d
              rw [c2] at hwd ⊢
              refine u94_46.mpr ?_
              simp only [u94_0, u94_1, u94_2, u94_3, u94_5, u94_8, u94_9, u94_10, u94_11, u94_14, u94_15, u94_17, u94_18, u94_19, u94_20, u94_21, u94_22, u94_23, u94_25, u94_26, u94_28, u94_30, u94_33, u94_34, u94_35, u94_36, u94_37, u94_38, u94_39, u94_42, u94_43, u94_44, u94_48, u94_50, u94_53, u94_55, u94_57, u94_58, u94_59, u94_60, u94_63, u94_64, u94_65, u94_66, u94_67, u94_68, u94_70, u94_71, u94_72, u94_75, u94_78, u94_79, u94_80, u94_83, u94_86, u94_87, q8, c1, o1, nI_1, e11, hwd, mj_zT, mj_n10, mj_cc_v, mj_cc_n, List.all_cons, List.all_nil, mj_noMk_int, mj_noMk_long, mj_noMk_ref, mj_noMk_junk, List.length_nil, List.length_cons, Nat.zero_le, Nat.reduceLeDiff, Nat.reduceAdd, Bool.and_true, Bool.true_and, Bool.and_self, Nat.reduceBNe, true_or, or_true, true_and, and_true, mj_z0, mj_z1, mj_z01, decide_true, decide_false, Bool.true_and, Bool.false_and, Bool.and_true, Bool.and_false, Bool.true_or, Bool.false_or, Bool.or_false, Bool.or_true, Bool.not_true, Bool.not_false, Bool.and_self, Bool.or_self, if_true, if_false, Bool.true_eq_false, Bool.false_eq_true, not_true, not_false_eq_true]
              exact hld
          · obtain ⟨ρ2, F3, M3, hl⟩ := ih (u + 1) τ (by omega) F hM
            refine ⟨ρ2, F3, M3, fun d => ?_⟩
            have hld := hl d
            rw [decide_eq_false c1, Bool.false_and, Bool.false_or]
            refine u94_46.mpr ?_
            simp only [u94_0, u94_1, u94_2, u94_3, u94_5, u94_8, u94_9, u94_10, u94_11, u94_14, u94_15, u94_17, u94_18, u94_19, u94_20, u94_21, u94_22, u94_23, u94_25, u94_26, u94_28, u94_30, u94_33, u94_34, u94_35, u94_36, u94_37, u94_38, u94_39, u94_42, u94_43, u94_44, u94_48, u94_50, u94_53, u94_55, u94_57, u94_58, u94_59, u94_60, u94_63, u94_64, u94_65, u94_66, u94_67, u94_68, u94_70, u94_71, u94_72, u94_75, u94_78, u94_79, u94_80, u94_83, u94_86, u94_87, q8, c1, nI_1, mj_cc_v, mj_cc_n, List.all_cons, List.all_nil, mj_noMk_int, mj_noMk_long, mj_noMk_ref, mj_noMk_junk, List.length_nil, List.length_cons, Nat.zero_le, Nat.reduceLeDiff, Nat.reduceAdd, Bool.and_true, Bool.true_and, Bool.and_self, Nat.reduceBNe, true_or, or_true, true_and, and_true, mj_z0, mj_z1, mj_z01, decide_true, decide_false, Bool.true_and, Bool.false_and, Bool.and_true, Bool.and_false, Bool.true_or, Bool.false_or, Bool.or_false, Bool.or_true, Bool.not_true, Bool.not_false, Bool.and_self, Bool.or_self, if_true, if_false, Bool.true_eq_false, Bool.false_eq_true, not_true, not_false_eq_true]
            exact hld
      obtain ⟨ρ, F2, M2, hl⟩ := loop 8 0 τ (by omega) F hM
      refine ⟨ρ, F2, M2, fun d => ?_⟩
      have hld := hl d
      have e0 : nI 0 = 0 := rfl
      rw [e0] at hld
      rw [if_neg c]
      refine st94 ?_
      simp only [u94_0, u94_1, u94_2, u94_3, u94_5, u94_8, u94_9, u94_10, u94_11, u94_14, u94_15, u94_17, u94_18, u94_19, u94_20, u94_21, u94_22, u94_23, u94_25, u94_26, u94_28, u94_30, u94_33, u94_34, u94_35, u94_36, u94_37, u94_38, u94_39, u94_42, u94_43, u94_44, u94_48, u94_50, u94_53, u94_55, u94_57, u94_58, u94_59, u94_60, u94_63, u94_64, u94_65, u94_66, u94_67, u94_68, u94_70, u94_71, u94_72, u94_75, u94_78, u94_79, u94_80, u94_83, u94_86, u94_87, q12, e12, nI_add, nI_1, mj_in_nI h96 (by decide), mj_nz9 h96 (by decide), est, hfrs, c, e11, mj_cc_v, mj_cc_n, List.all_cons, List.all_nil, mj_noMk_int, mj_noMk_long, mj_noMk_ref, mj_noMk_junk, List.length_nil, List.length_cons, Nat.zero_le, Nat.reduceLeDiff, Nat.reduceAdd, Bool.and_true, Bool.true_and, Bool.and_self, Nat.reduceBNe, true_or, or_true, true_and, and_true, mj_z0, mj_z1, mj_z01, decide_true, decide_false, Bool.true_and, Bool.false_and, Bool.and_true, Bool.and_false, Bool.true_or, Bool.false_or, Bool.or_false, Bool.or_true, Bool.not_true, Bool.not_false, Bool.and_self, Bool.or_self, if_true, if_false, Bool.true_eq_false, Bool.false_eq_true, not_true, not_false_eq_true]
      exact hld
/-- a move that wins -/
def mj_cho3 (σ : mj_St) (n r g s : Nat) (mv : Int32) (k : Nat) : Bool := mj_imv σ k (11 - r) mv && mj_fl σ (mj_W σ n r) r g (s - mj_tK k)
theorem sp_winsBy {n w gr r : Nat} (hX : mj_XS X) (hd : mj_sd σ n w gr) (hfr : mj_sfr σ gr) (hr : r + 1 ≤ 12 - w) (hW : mj_Wok X σ n w gr r) {g s : Nat} {mv : Int32} (hmv : mv = mj_mvs σ g (11 - r) s n) (hv : ¬ mv = -1) (F : mj_Fm σ τ) (hM : mj_MI τ n w gr) (hg : g < gr) (hs : s < 4 ^ n) : ∃ ρ, mj_Fm σ ρ ∧ mj_MI ρ n w gr ∧ ∀ d, mj_ev X (d + 3 * r + 5) 92 [.ref 46, .int mv, .int (nI (11 - r)), .int (nI g), .int (nI s)] τ = some (some (.int (mj_z (mj_anyF (mj_cho3 σ n r g s mv) 0 (mj_top n + 1)))), ρ) := by
  have hn := hd.2.2.1
  have ht := mj_top_lt hn
  have loop : ∀ (j : Nat) (τ : mj_St), j ≤ 22 → mj_Fm σ τ → mj_MI τ n w gr → ∃ ρ, mj_Fm σ ρ ∧ mj_MI ρ n w gr ∧ ∀ d, mj_Runs X (mj_ev X (d + 3 * r + 4)) 3 (some .boolean) prog_5_method_22_code (15, [.ref 46, .int mv, .int (nI (11 - r)), .int (nI g), .int (nI s), .int (nI j - 1)], [], τ) (some (.int (mj_z (mj_anyF (mj_cho3 σ n r g s mv) 0 j))), ρ) := by
    intro j
    induction j with
    | zero =>
      intro τ _ F hM
      have q : nI 0 - 1 < 0 := by decide
      refine ⟨τ, F, hM, fun d => ?_⟩
      refine u92_15.mpr ?_
      simp only [u92_0, u92_1, u92_4, u92_5, u92_8, u92_9, u92_10, u92_11, u92_12, u92_13, u92_17, u92_20, u92_21, u92_23, u92_24, u92_25, u92_28, u92_31, u92_32, u92_33, u92_34, u92_36, u92_39, u92_41, u92_42, u92_43, u92_46, u92_49, u92_50, u92_51, u92_54, u92_57, u92_58, q, mj_anyF, mj_zF, mj_cc_v, mj_cc_n, List.all_cons, List.all_nil, mj_noMk_int, mj_noMk_long, mj_noMk_ref, mj_noMk_junk, List.length_nil, List.length_cons, Nat.zero_le, Nat.reduceLeDiff, Nat.reduceAdd, Bool.and_true, Bool.true_and, Bool.and_self, Nat.reduceBNe, true_or, or_true, true_and, and_true, mj_z0, mj_z1, mj_z01, decide_true, decide_false, Bool.true_and, Bool.false_and, Bool.and_true, Bool.and_false, Bool.true_or, Bool.false_or, Bool.or_false, Bool.or_true, Bool.not_true, Bool.not_false, Bool.and_self, Bool.or_self, if_true, if_false, Bool.true_eq_false, Bool.false_eq_true, not_true, not_false_eq_true]
    | succ j ih =>
      intro τ hj F hM
      have hdτ := mj_sd_Fm F hd
      have q : ¬ nI j < 0 := nI_nlt (b := 0) (Nat.zero_le _) (by omega)
      have hj22 : j < 22 := by omega
      have him : ∀ d, mj_ev X (d + 3 * r + 4) 93 [.ref 46, .int (nI j), .int mv, .int (nI (11 - r))] τ = some (some (.int (mj_z (mj_imv σ j (11 - r) mv))), τ) := fun d => by
        rw [← mj_imv_1 F.1]
        exact sp_isMove (d := d + 3 * r + 2) hX hdτ hj22 (by omega)
      have eneg : ∀ x : Int32, x + Int32.ofInt (-1) = x - 1 := fun x => by
        have e1 : Int32.ofInt (-1) = -1 := by decide
        rw [e1]
        grind
      rw [mj_anyS, Nat.zero_add]
      rcases (Bool.eq_false_or_eq_true (mj_imv σ j (11 - r) mv)).symm with c1 | c1
      · have e1 : mj_cho3 σ n r g s mv j = false := by
          unfold mj_cho3
          rw [c1, Bool.false_and]
        rw [e1, Bool.or_false]
        obtain ⟨ρ, F2, M2, hl⟩ := ih τ (by omega) F hM
        refine ⟨ρ, F2, M2, fun d => ?_⟩
        have hid := him d
        have hld := hl d
        rw [c1] at hid
        refine u92_15.mpr ?_
        simp only [u92_0, u92_1, u92_4, u92_5, u92_8, u92_9, u92_10, u92_11, u92_12, u92_13, u92_17, u92_20, u92_21, u92_23, u92_24, u92_25, u92_28, u92_31, u92_32, u92_33, u92_34, u92_36, u92_39, u92_41, u92_42, u92_43, u92_46, u92_49, u92_50, u92_51, u92_54, u92_57, u92_58, mj_sub1, q, hid, eneg, mj_zF, mj_cc_v, mj_cc_n, List.all_cons, List.all_nil, mj_noMk_int, mj_noMk_long, mj_noMk_ref, mj_noMk_junk, List.length_nil, List.length_cons, Nat.zero_le, Nat.reduceLeDiff, Nat.reduceAdd, Bool.and_true, Bool.true_and, Bool.and_self, Nat.reduceBNe, true_or, or_true, true_and, and_true, mj_z0, mj_z1, mj_z01, decide_true, decide_false, Bool.true_and, Bool.false_and, Bool.and_true, Bool.and_false, Bool.true_or, Bool.false_or, Bool.or_false, Bool.or_true, Bool.not_true, Bool.not_false, Bool.and_self, Bool.or_self, if_true, if_false, Bool.true_eq_false, Bool.false_eq_true, not_true, not_false_eq_true]
        exact hld
      · have hle := mj_imv_le hmv hv c1 hj22 hn
        have es : nI s - nI (mj_tK j) = nI (s - mj_tK j) := mj_nI_sub hle
        obtain ⟨ρ, F2, M2, hfo⟩ := sp_follows hd hfr hr hW (g := g) (s := s - mj_tK j) F hM hg (by omega)
        rcases (Bool.eq_false_or_eq_true (mj_fl σ (mj_W σ n r) r g (s - mj_tK j))).symm with c2 | c2
        · have e1 : mj_cho3 σ n r g s mv j = false := by
            unfold mj_cho3
            rw [c1, c2, Bool.and_false]
          rw [e1, Bool.or_false]
          obtain ⟨ρ2, F3, M3, hl⟩ := ih ρ (by omega) F2 M2
          refine ⟨ρ2, F3, M3, fun d => ?_⟩
          have hid := him d
          have hld := hl d
          have hfd := hfo d
          rw [c1] at hid
          rw [c2] at hfd
          refine u92_15.mpr ?_
          simp only [u92_0, u92_1, u92_4, u92_5, u92_8, u92_9, u92_10, u92_11, u92_12, u92_13, u92_17, u92_20, u92_21, u92_23, u92_24, u92_25, u92_28, u92_31, u92_32, u92_33, u92_34, u92_36, u92_39, u92_41, u92_42, u92_43, u92_46, u92_49, u92_50, u92_51, u92_54, u92_57, u92_58, mj_sub1, q, hid, mj_kI_T hX hj22, es, hfd, eneg, mj_zF, mj_zT, mj_n10, mj_cc_v, mj_cc_n, List.all_cons, List.all_nil, mj_noMk_int, mj_noMk_long, mj_noMk_ref, mj_noMk_junk, List.length_nil, List.length_cons, Nat.zero_le, Nat.reduceLeDiff, Nat.reduceAdd, Bool.and_true, Bool.true_and, Bool.and_self, Nat.reduceBNe, true_or, or_true, true_and, and_true, mj_z0, mj_z1, mj_z01, decide_true, decide_false, Bool.true_and, Bool.false_and, Bool.and_true, Bool.and_false, Bool.true_or, Bool.false_or, Bool.or_false, Bool.or_true, Bool.not_true, Bool.not_false, Bool.and_self, Bool.or_self, if_true, if_false, Bool.true_eq_false, Bool.false_eq_true, not_true, not_false_eq_true]
          exact hld
        · have e1 : mj_cho3 σ n r g s mv j = true := by
            unfold mj_cho3
            rw [c1, c2, Bool.and_self]
          rw [e1, Bool.or_true]
          refine ⟨ρ, F2, M2, fun d => ?_⟩
          have hid := him d
          have hfd := hfo d
          rw [c1] at hid
          rw [c2] at hfd
          refine u92_15.mpr ?_
          simp only [u92_0, u92_1, u92_4, u92_5, u92_8, u92_9, u92_10, u92_11, u92_12, u92_13, u92_17, u92_20, u92_21, u92_23, u92_24, u92_25, u92_28, u92_31, u92_32, u92_33, u92_34, u92_36, u92_39, u92_41, u92_42, u92_43, u92_46, u92_49, u92_50, u92_51, u92_54, u92_57, u92_58, mj_sub1, q, hid, mj_kI_T hX hj22, es, hfd, mj_zT, mj_n10, mj_cc_v, mj_cc_n, List.all_cons, List.all_nil, mj_noMk_int, mj_noMk_long, mj_noMk_ref, mj_noMk_junk, List.length_nil, List.length_cons, Nat.zero_le, Nat.reduceLeDiff, Nat.reduceAdd, Bool.and_true, Bool.true_and, Bool.and_self, Nat.reduceBNe, true_or, or_true, true_and, and_true, mj_z0, mj_z1, mj_z01, decide_true, decide_false, Bool.true_and, Bool.false_and, Bool.and_true, Bool.and_false, Bool.true_or, Bool.false_or, Bool.or_false, Bool.or_true, Bool.not_true, Bool.not_false, Bool.and_self, Bool.or_self, if_true, if_false, Bool.true_eq_false, Bool.false_eq_true, not_true, not_false_eq_true]
  obtain ⟨ρ, F2, M2, hl⟩ := loop (mj_top n + 1) τ (by omega) F hM
  refine ⟨ρ, F2, M2, fun d => ?_⟩
  have hld := hl d
  have d2 : τ.1 46 5 = nI n := by rw [F.1]; exact hd.2.1
  have e1 : nI n * nI (n + 1) = nI (n * (n + 1)) := mj_nI_mul _ _
  have e2 : nI (n * (n + 1)) / 2 = nI (mj_top n) := by
    show nI (n * (n + 1)) / nI 2 = _
    rw [mj_nI_div (by rcases mj_n6 hn with z | z | z | z | z | z | z <;> subst z <;> decide) (by decide)]
    rfl
  have n20 : ¬ (2 : Int32) = 0 := by decide
  rw [mj_sub1] at hld
  refine st92 ?_
  simp only [u92_0, u92_1, u92_4, u92_5, u92_8, u92_9, u92_10, u92_11, u92_12, u92_13, u92_17, u92_20, u92_21, u92_23, u92_24, u92_25, u92_28, u92_31, u92_32, u92_33, u92_34, u92_36, u92_39, u92_41, u92_42, u92_43, u92_46, u92_49, u92_50, u92_51, u92_54, u92_57, u92_58, d2, nI_1, e1, e2, n20, mj_cc_v, mj_cc_n, List.all_cons, List.all_nil, mj_noMk_int, mj_noMk_long, mj_noMk_ref, mj_noMk_junk, List.length_nil, List.length_cons, Nat.zero_le, Nat.reduceLeDiff, Nat.reduceAdd, Bool.and_true, Bool.true_and, Bool.and_self, Nat.reduceBNe, true_or, or_true, true_and, and_true, mj_z0, mj_z1, mj_z01, decide_true, decide_false, Bool.true_and, Bool.false_and, Bool.and_true, Bool.and_false, Bool.true_or, Bool.false_or, Bool.or_false, Bool.or_true, Bool.not_true, Bool.not_false, Bool.and_self, Bool.or_self, if_true, if_false, Bool.true_eq_false, Bool.false_eq_true, not_true, not_false_eq_true]
  exact hld
end
