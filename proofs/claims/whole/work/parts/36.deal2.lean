section
variable {X : mj_X} {d : Nat} {σ : mj_St}
def mj_anyF (p : Nat → Bool) : Nat → Nat → Bool
  | _, 0 => false
  | k, j + 1 => p k || mj_anyF p (k + 1) j
theorem mj_anyF_iff {p : Nat → Bool} : ∀ (j k : Nat), mj_anyF p k j = true ↔ ∃ i, k ≤ i ∧ i < k + j ∧ p i = true := by
  intro j
  induction j with
  | zero => intro k; simp [mj_anyF]; omega
  | succ j ih =>
    intro k
    simp only [mj_anyF, Bool.or_eq_true, ih]
    constructor
    · rintro (h | ⟨i, h1, h2, h3⟩)
      · exact ⟨k, Nat.le_refl _, by omega, h⟩
      · exact ⟨i, by omega, by omega, h3⟩
    · rintro ⟨i, h1, h2, h3⟩
      by_cases q : i = k
      · subst q
        exact Or.inl h3
      · exact Or.inr ⟨i, by omega, by omega, h3⟩
theorem sp_toldForks : mj_ev X (d + 1) 56 [.ref 14] σ = some (some (.int (mj_it (fun f u => u ||| (if σ.1 14 17 < σ.1 28 f then (0 : Int32) else 1 <<< (nI f &&& 31))) 0 3)), σ) := by
  refine st56 ?_
  simp only [u56_0, u56_1, u56_2, u56_3, u56_5, u56_6, u56_9, u56_10, u56_11, u56_14, u56_15, u56_16, u56_17, u56_20, u56_23, u56_24, u56_25, u56_26, u56_29, u56_30, u56_31, u56_32, u56_35, u56_38, u56_39]
  exact mj_count (X := X) (call := mj_ev X d) (oc := 1) (ret := (some .int)) (cc := prog_3_method_17_code) (N := 3) (S := fun k => (4, [.ref 14, .int (mj_it (fun f u => u ||| (if σ.1 14 17 < σ.1 28 f then (0 : Int32) else 1 <<< (nI f &&& 31))) 0 k), .int (nI k)], [], σ)) (fun k hk hr => by
      refine u56_4.mpr ?_
      have h3 : nI k < 3 := nI_lt (b := 3) hk (by decide)
      simp only [u56_0, u56_1, u56_2, u56_3, u56_5, u56_6, u56_9, u56_10, u56_11, u56_14, u56_15, u56_16, u56_17, u56_20, u56_23, u56_24, u56_25, u56_26, u56_29, u56_30, u56_31, u56_32, u56_35, u56_38, u56_39, h3, if_true, mj_in_nI hk (by decide), mj_nz9 hk (by decide), true_and, nI_1]
      simp only [mj_it] at hr
      split
      · rename_i h
        rw [if_pos h] at hr
        exact hr
      · rename_i h
        rw [if_neg h] at hr
        exact hr) (by
      refine u56_4.mpr ?_
      have h3 : ¬ nI 3 < 3 := by decide
      simp only [u56_0, u56_1, u56_2, u56_3, u56_5, u56_6, u56_9, u56_10, u56_11, u56_14, u56_15, u56_16, u56_17, u56_20, u56_23, u56_24, u56_25, u56_26, u56_29, u56_30, u56_31, u56_32, u56_35, u56_38, u56_39, h3, if_false]) 0 (Nat.zero_le _)
theorem sp_hasBegunBy {N : Nat} {f : Int32} (hN : σ.1 14 14 = nI N) (h9 : N ≤ 9) : mj_ev X (d + 1) 49 [.ref 14, .int f] σ = some (some (.int (mj_z (mj_anyF (fun i => decide (σ.1 20 i = f) && decide (σ.1 16 i < σ.1 14 17)) 0 N))), σ) := by
  refine st49 ?_
  simp only [u49_0, u49_1, u49_3, u49_4, u49_7, u49_10, u49_11, u49_14, u49_15, u49_16, u49_17, u49_20, u49_21, u49_24, u49_25, u49_26, u49_27, u49_30, u49_33, u49_34, u49_35, u49_38, u49_41, u49_42]
  have key : ∀ j k : Nat, k + j = N → mj_Runs X (mj_ev X d) 1 (some .boolean) prog_3_method_19_code (2, [.ref 14, .int f, .int (nI k)], [], σ) (some (.int (mj_z (mj_anyF (fun i => decide (σ.1 20 i = f) && decide (σ.1 16 i < σ.1 14 17)) k j))), σ) := by
    intro j
    induction j with
    | zero =>
      intro k hk
      have hkN : k = N := by omega
      subst hkN
      refine u49_2.mpr ?_
      simp only [u49_0, u49_1, u49_3, u49_4, u49_7, u49_10, u49_11, u49_14, u49_15, u49_16, u49_17, u49_20, u49_21, u49_24, u49_25, u49_26, u49_27, u49_30, u49_33, u49_34, u49_35, u49_38, u49_41, u49_42, hN, nI_nlt (Nat.le_refl k) (show k < 2 ^ 31 by omega), if_false]
      simp [mj_anyF, mj_z]
    | succ j ih =>
      intro k hk
      have hr := ih (k + 1) (by omega)
      refine u49_2.mpr ?_
      simp only [u49_0, u49_1, u49_3, u49_4, u49_7, u49_10, u49_11, u49_14, u49_15, u49_16, u49_17, u49_20, u49_21, u49_24, u49_25, u49_26, u49_27, u49_30, u49_33, u49_34, u49_35, u49_38, u49_41, u49_42, hN, nI_lt (show k < N by omega) (show N < 2 ^ 31 by omega), if_true, mj_in_nI (show k < 9 by omega) (by decide), mj_nz9 (show k < 9 by omega) (by decide), true_and, nI_1]
      by_cases h1 : σ.1 20 k = f
      · by_cases h2 : σ.1 16 k < σ.1 14 17
        · simp [h1, h2, mj_anyF, mj_z]
        · simp only [h1, h2, if_true, if_false, mj_anyF, decide_true, decide_false, Bool.and_false, Bool.false_or] at hr ⊢
          exact hr
      · simp only [h1, if_false, mj_anyF, decide_false, Bool.false_and, Bool.false_or] at hr ⊢
        exact hr
  exact key N 0 (by omega)
/-- the works that one is after, and those that these are after -/
def mj_ch (af : Nat → Int32) (n : Int32) : Nat → Int32 → Int32 → Int32
  | 0, _, acc => acc
  | s + 1, at_, acc => if mj_lt0 at_ n = true then mj_ch af n s (af at_.toNatClampNeg) (acc ||| 1 <<< (at_ &&& 31)) else acc
theorem sp_chainOf {i : Int32} (h9 : (σ.1 14 14).toInt ≤ 9) : mj_ev X (d + 2) 64 [.ref 14, .int i] σ = some (some (.int (mj_ch (σ.1 19) (σ.1 14 14) 9 i 0)), σ) := by
  refine st64 ?_
  simp only [u64_0, u64_1, u64_2, u64_3, u64_4, u64_5, u64_9, u64_11, u64_14, u64_15, u64_16, u64_19, u64_22, u64_23, u64_24, u64_25, u64_26, u64_27, u64_28, u64_29, u64_32, u64_33, u64_34, u64_35, u64_38, u64_41, u64_42]
  have key : ∀ (j : Nat) (at_ acc : Int32), j ≤ 9 → mj_Runs X (mj_ev X (d + 1)) 1 (some .int) prog_3_method_20_code (7, [.ref 14, .int i, .int acc, .int at_, .int (nI (9 - j))], [], σ) (some (.int (mj_ch (σ.1 19) (σ.1 14 14) j at_ acc)), σ) := by
    intro j
    induction j with
    | zero =>
      intro at_ acc _
      refine u64_7.mpr ?_
      have h : ¬ nI (9 - 0) < 9 := by decide
      simp only [u64_0, u64_1, u64_2, u64_3, u64_4, u64_5, u64_9, u64_11, u64_14, u64_15, u64_16, u64_19, u64_22, u64_23, u64_24, u64_25, u64_26, u64_27, u64_28, u64_29, u64_32, u64_33, u64_34, u64_35, u64_38, u64_41, u64_42, h, if_false, mj_ch]
    | succ j ih =>
      intro at_ acc hj
      refine u64_7.mpr ?_
      have h : nI (9 - (j + 1)) < 9 := nI_lt (b := 9) (by omega) (by decide)
      have e : nI (9 - (j + 1)) + 1 = nI (9 - j) := by rw [nI_1]; congr 1; omega
      simp only [u64_0, u64_1, u64_2, u64_3, u64_4, u64_5, u64_9, u64_11, u64_14, u64_15, u64_16, u64_19, u64_22, u64_23, u64_24, u64_25, u64_26, u64_27, u64_28, u64_29, u64_32, u64_33, u64_34, u64_35, u64_38, u64_41, u64_42, h, if_true, sp_has, mj_cc_v, mj_cc_n, List.all_cons, List.all_nil, mj_noMk_int, mj_noMk_long, mj_noMk_ref, mj_noMk_junk, List.length_nil, List.length_cons, Nat.zero_le, Nat.reduceLeDiff, Nat.reduceAdd, Bool.and_true, Bool.true_and, Bool.and_self, Nat.reduceBNe, true_or, true_and, and_true, mj_z0, mj_z1, mj_z01, mj_ch]
      cases hh : mj_lt0 at_ (σ.1 14 14)
      · simp
      · have hin := mj_lt0_in hh h9
        simp only [hin, if_true, if_false, Bool.true_eq_false, true_and, e]
        exact ih _ _ (by omega)
  exact key 9 i 0 (Nat.le_refl _)
def mj_ringc (σ : mj_St) (i : Nat) : Bool := mj_wk (σ.1 15 i) && (!(decide (σ.1 19 i = -1)) && mj_b (mj_ch (σ.1 19) (σ.1 14 14) 9 (σ.1 19 i) 0) i)
def mj_ring (σ : mj_St) (N : Nat) : Int32 := mj_it (fun i u => if mj_ringc σ i = true then u ||| 1 <<< (nI i &&& 31) else u) 0 N
theorem mj_lt0_nI {k N : Nat} (h : k < N) (hN : N < 2147483648) : mj_lt0 (nI k) (nI N) = true := by
  unfold mj_lt0
  simp [nI_lt h hN, nI_pos (show k < 2 ^ 31 by omega)]
theorem sp_ringOnes {N : Nat} (hN : σ.1 14 14 = nI N) (h9 : N ≤ 9) : mj_ev X (d + 3) 63 [.ref 14] σ = some (some (.int (mj_ring σ N)), σ) := by
  have h9' : (σ.1 14 14).toInt ≤ 9 := by rw [hN, nI_toInt (by omega)]; omega
  refine st63 ?_
  simp only [u63_0, u63_1, u63_2, u63_3, u63_5, u63_6, u63_9, u63_12, u63_13, u63_14, u63_17, u63_20, u63_21, u63_24, u63_25, u63_26, u63_27, u63_30, u63_31, u63_32, u63_35, u63_36, u63_37, u63_40, u63_41, u63_42, u63_43, u63_44, u63_47, u63_48, u63_49, u63_50, u63_51, u63_52, u63_53, u63_56, u63_59, u63_60]
  exact mj_count (X := X) (call := mj_ev X (d + 2)) (oc := 1) (ret := (some .int)) (cc := prog_3_method_21_code) (N := N) (S := fun k => (4, [.ref 14, .int (mj_ring σ k), .int (nI k)], [], σ)) (fun k hk hr => by
      refine u63_4.mpr ?_
      have hl := mj_lt0_nI hk (show N < 2147483648 by omega)
      rw [← hN] at hl
      have h1 : nI k < σ.1 14 14 := by rw [hN]; exact nI_lt hk (by omega)
      simp only [u63_0, u63_1, u63_2, u63_3, u63_5, u63_6, u63_9, u63_12, u63_13, u63_14, u63_17, u63_20, u63_21, u63_24, u63_25, u63_26, u63_27, u63_30, u63_31, u63_32, u63_35, u63_36, u63_37, u63_40, u63_41, u63_42, u63_43, u63_44, u63_47, u63_48, u63_49, u63_50, u63_51, u63_52, u63_53, u63_56, u63_59, u63_60, h1, if_true, sp_isWork h9', sp_chainOf h9', hl, mj_in_nI (show k < 9 by omega) (by decide), mj_nz9 (show k < 9 by omega) (by decide), mj_cc_v, mj_cc_n, List.all_cons, List.all_nil, mj_noMk_int, mj_noMk_long, mj_noMk_ref, mj_noMk_junk, List.length_nil, List.length_cons, Nat.zero_le, Nat.reduceLeDiff, Nat.reduceAdd, Bool.and_true, Bool.true_and, Bool.and_self, Nat.reduceBNe, true_or, true_and, and_true, mj_z0, mj_z1, mj_z01, nI_1, mj_bt (show k < 32 by omega)]
      simp only [mj_ring, mj_it, mj_ringc] at hr ⊢
      cases hw : mj_wk (σ.1 15 k)
      · simp only [hw, Bool.false_and, if_true, if_false, Bool.false_eq_true] at hr ⊢
        exact hr
      · by_cases ha : σ.1 19 k = -1
        · simp only [hw, ha, decide_true, Bool.not_true, Bool.false_and, Bool.true_and, if_true, if_false, Bool.false_eq_true, Bool.true_eq_false] at hr ⊢
          exact hr
        · cases hb : mj_b (mj_ch (σ.1 19) (σ.1 14 14) 9 (σ.1 19 k) 0) k
          · simp only [hw, ha, hb, decide_false, Bool.not_false, Bool.and_false, Bool.true_and, if_true, if_false, Bool.false_eq_true, Bool.true_eq_false] at hr ⊢
            exact hr
          · simp only [hw, ha, hb, decide_false, Bool.not_false, Bool.and_true, Bool.true_and, if_true, if_false, Bool.false_eq_true, Bool.true_eq_false] at hr ⊢
            exact hr) (by
      refine u63_4.mpr ?_
      have h1 : ¬ nI N < σ.1 14 14 := by rw [hN]; exact nI_nlt (Nat.le_refl _) (by omega)
      simp only [u63_0, u63_1, u63_2, u63_3, u63_5, u63_6, u63_9, u63_12, u63_13, u63_14, u63_17, u63_20, u63_21, u63_24, u63_25, u63_26, u63_27, u63_30, u63_31, u63_32, u63_35, u63_36, u63_37, u63_40, u63_41, u63_42, u63_43, u63_44, u63_47, u63_48, u63_49, u63_50, u63_51, u63_52, u63_53, u63_56, u63_59, u63_60, h1, if_false]) 0 (Nat.zero_le _)
end
