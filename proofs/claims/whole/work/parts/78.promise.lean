section
variable {X : mj_X} {d : Nat} {σ τ ρ : mj_St}
def mj_TF : List Nat := [3, 26, 27, 28, 29, 30, 31, 32, 33, 34, 35, 36, 37, 38, 39, 40, 41, 42, 43]
def mj_rtx (σ : mj_St) (s e : Nat) : Bool × Nat × (Nat → Int32) := mj_rd (mj_lt σ s) e (mj_wkM σ)
def mj_tby (σ : mj_St) (s e : Nat) : Int32 := if (mj_rtx σ s e).1 = true ∧ ¬ (mj_rtx σ s e).2.2 34 < σ.1 61 1 then 0 else -6
def mj_tft (σ : mj_St) (s e : Nat) : Int32 := if (mj_rtx σ s e).1 = true then -1 else nI (mj_rtx σ s e).2.1
theorem sp_M_text {s e : Nat} (hs : s < 8) (hw : mj_Mw σ (nI s) = 0) (hsz : σ.1 80 s = nI e) (he : e ≤ 60) (h9 : (σ.1 61 0).toInt ≤ 9) : ∃ ρ, mj_Fx mj_TF σ ρ ∧ ρ.1 61 3 = mj_tft σ s e ∧ ((mj_rtx σ s e).1 = true → ∀ i, 33 ≤ i → i ≤ 43 → ρ.1 61 i = (mj_rtx σ s e).2.2 i) ∧ ∀ d, mj_ev X (d + 6) 167 [.ref 61, .int (nI s)] σ = some (some (.int (mj_tby σ s e)), ρ) := by
  have e60 : (60 : Int32) * nI s = nI (60 * s) := mj_nI_mul 60 s
  have hwt : ∀ d, mj_ev X (d + 5) 168 [.ref 61, .int (nI s)] σ = some (some (.int 0), σ) := fun d => by
    rw [← hw]
    exact sp_M_wants (d := d + 3)
  generalize hσ1 : mj_setI (mj_setI (mj_setI (mj_setI σ 61 26 (nI (60 * s))) 61 27 0) 61 28 (nI e)) 61 3 (-1) = σ1
  have F1 : mj_Fx mj_TF σ σ1 := by
    rw [← hσ1]
    exact mj_Fx_set (by decide) (mj_Fx_set (by decide) (mj_Fx_set (by decide) (mj_Fx_set (by decide) mj_Fx_rf)))
  have hr : mj_rat σ1 s 0 e := ⟨by rw [← hσ1]; rfl, by rw [← hσ1]; rfl, by rw [← hσ1]; rfl, hs, Nat.zero_le _, he⟩
  have i3 : σ1.1 61 3 = -1 := by rw [← hσ1]; rfl
  obtain ⟨ρ, F2, hy, hn, hrd⟩ := sp_M_reads (X := X) hr (by rw [F1.2.2 0 (by decide)]; exact h9)
  rw [mj_lt_Fx F1, mj_wkM_Fx F1 (by decide)] at hy hn hrd
  have eT : mj_rd (mj_lt σ s) e (mj_wkM σ) = mj_rtx σ s e := rfl
  rw [eT] at hy hn hrd
  have Fρ : mj_Fx mj_TF σ ρ := mj_Fx_tr F1 (mj_Fx_sub (by decide) F2)
  have en : ρ.1 61 1 = σ.1 61 1 := Fρ.2.2 1 (by decide)
  have e80 : (mj_setI (mj_setI σ 61 26 (nI (60 * s))) 61 27 0).1 80 s = nI e := hsz
  rcases (Bool.eq_false_or_eq_true (mj_rtx σ s e).1).symm with c | c
  · refine ⟨mj_setI ρ 61 3 (nI (mj_rtx σ s e).2.1), mj_Fx_set (by decide) Fρ, ?_, fun z => ?_, fun d => ?_⟩
    · unfold mj_tft
      rw [if_neg (by rw [c]; decide)]
      exact mj_setI_eq
    · rw [c] at z
      exact absurd z mj_ft
    · have eb : mj_tby σ s e = -6 := by
        unfold mj_tby
        rw [if_neg (fun z => by rw [c] at z; exact absurd z.1 mj_ft)]
      rw [eb]
      have hd := hrd d
      rw [c] at hd
      have hn' := hn c
      refine st167 ?_
      simp only [u167_0, u167_1, u167_2, u167_5, u167_6, u167_7, u167_10, u167_11, u167_12, u167_13, u167_15, u167_16, u167_17, u167_20, u167_21, u167_22, u167_25, u167_26, u167_27, u167_30, u167_31, u167_32, u167_35, u167_36, u167_37, u167_40, u167_41, u167_44, u167_47, u167_48, u167_49, u167_52, u167_55, u167_57, u167_58, u167_59, u167_62, u167_63, u167_66, u167_69, u167_71, u167_74, u167_75, hwt d, e60, e80, mj_in_nI hs (by decide), mj_nz9 hs (by decide), hσ1, hd, hn', mj_zF, mj_cc_v, mj_cc_n, List.all_cons, List.all_nil, mj_noMk_int, mj_noMk_long, mj_noMk_ref, mj_noMk_junk, List.length_nil, List.length_cons, Nat.zero_le, Nat.reduceLeDiff, Nat.reduceAdd, Bool.and_true, Bool.true_and, Bool.and_self, Nat.reduceBNe, true_or, or_true, true_and, and_true, mj_z0, mj_z1, mj_z01, decide_true, decide_false, Bool.true_and, Bool.false_and, Bool.and_true, Bool.and_false, Bool.true_or, Bool.false_or, Bool.or_false, Bool.or_true, Bool.not_true, Bool.not_false, Bool.and_self, Bool.or_self, if_true, if_false, Bool.true_eq_false, Bool.false_eq_true, not_true, not_false_eq_true]
  · refine ⟨ρ, Fρ, ?_, fun _ => hy c, fun d => ?_⟩
    · unfold mj_tft
      rw [if_pos c, F2.2.2 3 (by decide)]
      exact i3
    · have hd := hrd d
      rw [c] at hd
      have e34 := hy c 34 (by decide) (by decide)
      unfold mj_tby
      by_cases c2 : (mj_rtx σ s e).2.2 34 < σ.1 61 1
      · rw [if_neg (fun z => z.2 c2)]
        refine st167 ?_
        simp only [u167_0, u167_1, u167_2, u167_5, u167_6, u167_7, u167_10, u167_11, u167_12, u167_13, u167_15, u167_16, u167_17, u167_20, u167_21, u167_22, u167_25, u167_26, u167_27, u167_30, u167_31, u167_32, u167_35, u167_36, u167_37, u167_40, u167_41, u167_44, u167_47, u167_48, u167_49, u167_52, u167_55, u167_57, u167_58, u167_59, u167_62, u167_63, u167_66, u167_69, u167_71, u167_74, u167_75, hwt d, e60, e80, mj_in_nI hs (by decide), mj_nz9 hs (by decide), hσ1, hd, e34, en, c2, mj_n10, mj_zT, mj_cc_v, mj_cc_n, List.all_cons, List.all_nil, mj_noMk_int, mj_noMk_long, mj_noMk_ref, mj_noMk_junk, List.length_nil, List.length_cons, Nat.zero_le, Nat.reduceLeDiff, Nat.reduceAdd, Bool.and_true, Bool.true_and, Bool.and_self, Nat.reduceBNe, true_or, or_true, true_and, and_true, mj_z0, mj_z1, mj_z01, decide_true, decide_false, Bool.true_and, Bool.false_and, Bool.and_true, Bool.and_false, Bool.true_or, Bool.false_or, Bool.or_false, Bool.or_true, Bool.not_true, Bool.not_false, Bool.and_self, Bool.or_self, if_true, if_false, Bool.true_eq_false, Bool.false_eq_true, not_true, not_false_eq_true]
      · rw [if_pos ⟨c, c2⟩]
        refine st167 ?_
        simp only [u167_0, u167_1, u167_2, u167_5, u167_6, u167_7, u167_10, u167_11, u167_12, u167_13, u167_15, u167_16, u167_17, u167_20, u167_21, u167_22, u167_25, u167_26, u167_27, u167_30, u167_31, u167_32, u167_35, u167_36, u167_37, u167_40, u167_41, u167_44, u167_47, u167_48, u167_49, u167_52, u167_55, u167_57, u167_58, u167_59, u167_62, u167_63, u167_66, u167_69, u167_71, u167_74, u167_75, hwt d, e60, e80, mj_in_nI hs (by decide), mj_nz9 hs (by decide), hσ1, hd, e34, en, c2, mj_n10, mj_zT, mj_cc_v, mj_cc_n, List.all_cons, List.all_nil, mj_noMk_int, mj_noMk_long, mj_noMk_ref, mj_noMk_junk, List.length_nil, List.length_cons, Nat.zero_le, Nat.reduceLeDiff, Nat.reduceAdd, Bool.and_true, Bool.true_and, Bool.and_self, Nat.reduceBNe, true_or, or_true, true_and, and_true, mj_z0, mj_z1, mj_z01, decide_true, decide_false, Bool.true_and, Bool.false_and, Bool.and_true, Bool.and_false, Bool.true_or, Bool.false_or, Bool.or_false, Bool.or_true, Bool.not_true, Bool.not_false, Bool.and_self, Bool.or_self, if_true, if_false, Bool.true_eq_false, Bool.false_eq_true, not_true, not_false_eq_true]
theorem sp_M_text_no {s : Int32} (hw : ¬ mj_Mw σ s = 0) : mj_ev X (d + 3) 167 [.ref 61, .int s] σ = some (some (.int (mj_Mw σ s)), σ) := by
  have hwt := sp_M_wants (X := X) (d := d) (s := s) (σ := σ)
  refine st167 ?_
  simp only [u167_0, u167_1, u167_2, u167_5, u167_6, u167_7, u167_10, u167_11, u167_12, u167_13, u167_15, u167_16, u167_17, u167_20, u167_21, u167_22, u167_25, u167_26, u167_27, u167_30, u167_31, u167_32, u167_35, u167_36, u167_37, u167_40, u167_41, u167_44, u167_47, u167_48, u167_49, u167_52, u167_55, u167_57, u167_58, u167_59, u167_62, u167_63, u167_66, u167_69, u167_71, u167_74, u167_75, hwt, hw, mj_cc_v, mj_cc_n, List.all_cons, List.all_nil, mj_noMk_int, mj_noMk_long, mj_noMk_ref, mj_noMk_junk, List.length_nil, List.length_cons, Nat.zero_le, Nat.reduceLeDiff, Nat.reduceAdd, Bool.and_true, Bool.true_and, Bool.and_self, Nat.reduceBNe, true_or, or_true, true_and, and_true, mj_z0, mj_z1, mj_z01, decide_true, decide_false, Bool.true_and, Bool.false_and, Bool.and_true, Bool.and_false, Bool.true_or, Bool.false_or, Bool.or_false, Bool.or_true, Bool.not_true, Bool.not_false, Bool.and_self, Bool.or_self, if_true, if_false, Bool.true_eq_false, Bool.false_eq_true, not_true, not_false_eq_true]
def mj_rm (σ : mj_St) (N : Nat) : Bool := decide (N < 9) && (if σ.1 61 33 < 5 then decide (mj_Mkn σ true N < 6) else decide (mj_Mkn σ false N < 3))
theorem mj_Mkn_le {b : Bool} : ∀ n, mj_Mkn σ b n ≤ n := by
  intro n
  induction n with
  | zero => exact Nat.le_refl _
  | succ n ih =>
    have e : mj_Mkn σ b (n + 1) = if decide (σ.1 65 n < 5) = b then mj_Mkn σ b n + 1 else mj_Mkn σ b n := rfl
    rw [e]
    split <;> omega
theorem sp_M_isRoom {N : Nat} (hN : σ.1 61 0 = nI N) (h9 : N ≤ 9) : mj_ev X (d + 3) 180 [.ref 61] σ = some (some (.int (mj_z (mj_rm σ N))), σ) := by
  have hT : mj_ev X (d + 2) 181 [.ref 61, .int 1] σ = some (some (.int (nI (mj_Mkn σ true N))), σ) := sp_M_kinds (b := true) hN h9
  have hF : mj_ev X (d + 2) 181 [.ref 61, .int 0] σ = some (some (.int (nI (mj_Mkn σ false N))), σ) := sp_M_kinds (b := false) hN h9
  have lT := mj_Mkn_le (σ := σ) (b := true) N
  have lF := mj_Mkn_le (σ := σ) (b := false) N
  have lt : ∀ (n k : Nat), n ≤ 9 → k < 2147483648 → (nI n < nI k) = (n < k) := fun n k hn hk => propext ⟨fun z => Classical.byContradiction (fun y => nI_nlt (Nat.le_of_not_lt y) (by omega) z), fun z => nI_lt z (by omega)⟩
  have x1 : (nI N < 9) = (N < 9) := lt N 9 h9 (by decide)
  have x2 : (nI (mj_Mkn σ true N) < 6) = (mj_Mkn σ true N < 6) := lt _ 6 (by omega) (by decide)
  have x3 : (nI (mj_Mkn σ false N) < 3) = (mj_Mkn σ false N < 3) := lt _ 3 (by omega) (by decide)
  unfold mj_rm
  refine st180 ?_
  by_cases c1 : N < 9
  · by_cases c2 : σ.1 61 33 < 5
    · by_cases c3 : mj_Mkn σ true N < 6
      · simp only [u180_0, u180_1, u180_4, u180_6, u180_9, u180_10, u180_13, u180_14, u180_17, u180_18, u180_19, u180_22, u180_24, u180_27, u180_30, u180_31, u180_32, u180_35, u180_36, u180_39, u180_40, u180_43, u180_44, hN, x1, x2, x3, hT, hF, c1, c2, c3, mj_zT, mj_cc_v, mj_cc_n, List.all_cons, List.all_nil, mj_noMk_int, mj_noMk_long, mj_noMk_ref, mj_noMk_junk, List.length_nil, List.length_cons, Nat.zero_le, Nat.reduceLeDiff, Nat.reduceAdd, Bool.and_true, Bool.true_and, Bool.and_self, Nat.reduceBNe, true_or, or_true, true_and, and_true, mj_z0, mj_z1, mj_z01, decide_true, decide_false, Bool.true_and, Bool.false_and, Bool.and_true, Bool.and_false, Bool.true_or, Bool.false_or, Bool.or_false, Bool.or_true, Bool.not_true, Bool.not_false, Bool.and_self, Bool.or_self, if_true, if_false, Bool.true_eq_false, Bool.false_eq_true, not_true, not_false_eq_true]
      · simp only [u180_0, u180_1, u180_4, u180_6, u180_9, u180_10, u180_13, u180_14, u180_17, u180_18, u180_19, u180_22, u180_24, u180_27, u180_30, u180_31, u180_32, u180_35, u180_36, u180_39, u180_40, u180_43, u180_44, hN, x1, x2, x3, hT, hF, c1, c2, c3, mj_zF, mj_cc_v, mj_cc_n, List.all_cons, List.all_nil, mj_noMk_int, mj_noMk_long, mj_noMk_ref, mj_noMk_junk, List.length_nil, List.length_cons, Nat.zero_le, Nat.reduceLeDiff, Nat.reduceAdd, Bool.and_true, Bool.true_and, Bool.and_self, Nat.reduceBNe, true_or, or_true, true_and, and_true, mj_z0, mj_z1, mj_z01, decide_true, decide_false, Bool.true_and, Bool.false_and, Bool.and_true, Bool.and_false, Bool.true_or, Bool.false_or, Bool.or_false, Bool.or_true, Bool.not_true, Bool.not_false, Bool.and_self, Bool.or_self, if_true, if_false, Bool.true_eq_false, Bool.false_eq_true, not_true, not_false_eq_true]
    · by_cases c3 : mj_Mkn σ false N < 3
      · simp only [u180_0, u180_1, u180_4, u180_6, u180_9, u180_10, u180_13, u180_14, u180_17, u180_18, u180_19, u180_22, u180_24, u180_27, u180_30, u180_31, u180_32, u180_35, u180_36, u180_39, u180_40, u180_43, u180_44, hN, x1, x2, x3, hT, hF, c1, c2, c3, mj_zT, mj_cc_v, mj_cc_n, List.all_cons, List.all_nil, mj_noMk_int, mj_noMk_long, mj_noMk_ref, mj_noMk_junk, List.length_nil, List.length_cons, Nat.zero_le, Nat.reduceLeDiff, Nat.reduceAdd, Bool.and_true, Bool.true_and, Bool.and_self, Nat.reduceBNe, true_or, or_true, true_and, and_true, mj_z0, mj_z1, mj_z01, decide_true, decide_false, Bool.true_and, Bool.false_and, Bool.and_true, Bool.and_false, Bool.true_or, Bool.false_or, Bool.or_false, Bool.or_true, Bool.not_true, Bool.not_false, Bool.and_self, Bool.or_self, if_true, if_false, Bool.true_eq_false, Bool.false_eq_true, not_true, not_false_eq_true]
      · simp only [u180_0, u180_1, u180_4, u180_6, u180_9, u180_10, u180_13, u180_14, u180_17, u180_18, u180_19, u180_22, u180_24, u180_27, u180_30, u180_31, u180_32, u180_35, u180_36, u180_39, u180_40, u180_43, u180_44, hN, x1, x2, x3, hT, hF, c1, c2, c3, mj_zF, mj_cc_v, mj_cc_n, List.all_cons, List.all_nil, mj_noMk_int, mj_noMk_long, mj_noMk_ref, mj_noMk_junk, List.length_nil, List.length_cons, Nat.zero_le, Nat.reduceLeDiff, Nat.reduceAdd, Bool.and_true, Bool.true_and, Bool.and_self, Nat.reduceBNe, true_or, or_true, true_and, and_true, mj_z0, mj_z1, mj_z01, decide_true, decide_false, Bool.true_and, Bool.false_and, Bool.and_true, Bool.and_false, Bool.true_or, Bool.false_or, Bool.or_false, Bool.or_true, Bool.not_true, Bool.not_false, Bool.and_self, Bool.or_self, if_true, if_false, Bool.true_eq_false, Bool.false_eq_true, not_true, not_false_eq_true]
  · simp only [u180_0, u180_1, u180_4, u180_6, u180_9, u180_10, u180_13, u180_14, u180_17, u180_18, u180_19, u180_22, u180_24, u180_27, u180_30, u180_31, u180_32, u180_35, u180_36, u180_39, u180_40, u180_43, u180_44, hN, x1, c1, mj_zF, mj_cc_v, mj_cc_n, List.all_cons, List.all_nil, mj_noMk_int, mj_noMk_long, mj_noMk_ref, mj_noMk_junk, List.length_nil, List.length_cons, Nat.zero_le, Nat.reduceLeDiff, Nat.reduceAdd, Bool.and_true, Bool.true_and, Bool.and_self, Nat.reduceBNe, true_or, or_true, true_and, and_true, mj_z0, mj_z1, mj_z01, decide_true, decide_false, Bool.true_and, Bool.false_and, Bool.and_true, Bool.and_false, Bool.true_or, Bool.false_or, Bool.or_false, Bool.or_true, Bool.not_true, Bool.not_false, Bool.and_self, Bool.or_self, if_true, if_false, Bool.true_eq_false, Bool.false_eq_true, not_true, not_false_eq_true]
/-- the reference with one more -/
def mj_adM (σ : mj_St) (N : Nat) : mj_St := mj_setI (mj_setI (mj_setI (mj_setI (mj_setI (mj_setI (mj_setI (mj_setI (mj_setI (mj_setI (mj_setI (mj_setI (mj_setI (mj_setI σ 65 N (σ.1 61 33)) 66 N (σ.1 61 34)) 67 N (σ.1 61 35)) 68 N (σ.1 61 36)) 69 N (σ.1 61 37)) 70 N (σ.1 61 38)) 71 N (σ.1 61 39)) 72 N (σ.1 61 40)) 73 N (σ.1 61 41)) 74 N (σ.1 61 42)) 75 N (σ.1 61 43)) 76 N (σ.1 61 42)) 77 N 0) 61 0 (nI (N + 1))
theorem mj_adM_2 {N : Nat} : (mj_adM σ N).2 = σ.2 := rfl
theorem mj_adM_c {N c : Nat} (h : c < 65 ∨ 77 < c) (h2 : c ≠ 61) : (mj_adM σ N).1 c = σ.1 c := by
  funext i
  simp only [mj_adM, mj_rI]
  rw [if_neg (by omega), if_neg (by omega), if_neg (by omega), if_neg (by omega), if_neg (by omega), if_neg (by omega), if_neg (by omega), if_neg (by omega), if_neg (by omega), if_neg (by omega), if_neg (by omega), if_neg (by omega), if_neg (by omega), if_neg (by omega)]
theorem mj_adM_k {N c k : Nat} (h : k ≠ N) (h2 : c ≠ 61) : (mj_adM σ N).1 c k = σ.1 c k := by
  simp only [mj_adM, mj_rI]
  rw [if_neg (by omega), if_neg (by omega), if_neg (by omega), if_neg (by omega), if_neg (by omega), if_neg (by omega), if_neg (by omega), if_neg (by omega), if_neg (by omega), if_neg (by omega), if_neg (by omega), if_neg (by omega), if_neg (by omega), if_neg (by omega)]
theorem mj_adM_i {N i : Nat} (h : i ≠ 0) : (mj_adM σ N).1 61 i = σ.1 61 i := by
  simp only [mj_adM, mj_rI]
  rw [if_neg (by omega), if_neg (by omega), if_neg (by omega), if_neg (by omega), if_neg (by omega), if_neg (by omega), if_neg (by omega), if_neg (by omega), if_neg (by omega), if_neg (by omega), if_neg (by omega), if_neg (by omega), if_neg (by omega), if_neg (by omega)]
theorem mj_adM_0 {N : Nat} : (mj_adM σ N).1 61 0 = nI (N + 1) := rfl
theorem mj_adM_N {N c : Nat} (h1 : 65 ≤ c) (h2 : c ≤ 75) : (mj_adM σ N).1 c N = σ.1 61 (c - 32) := by
  have : c = 65 ∨ c = 66 ∨ c = 67 ∨ c = 68 ∨ c = 69 ∨ c = 70 ∨ c = 71 ∨ c = 72 ∨ c = 73 ∨ c = 74 ∨ c = 75 := by omega
  rcases this with q | q | q | q | q | q | q | q | q | q | q <;> subst q <;> simp [mj_adM, mj_rI]
theorem mj_adM_76 {N : Nat} : (mj_adM σ N).1 76 N = σ.1 61 42 := by simp [mj_adM, mj_rI]
theorem mj_adM_77 {N : Nat} : (mj_adM σ N).1 77 N = 0 := by simp [mj_adM, mj_rI]
theorem sp_M_adds {N : Nat} (hN : σ.1 61 0 = nI N) (h9 : N < 9) : mj_ev X (d + 1) 182 [.ref 61] σ = some (none, mj_adM σ N) := by
  refine st182 ?_
  unfold mj_adM
  simp (config := {decide := true}) only [u182_0, u182_1, u182_4, u182_5, u182_8, u182_9, u182_12, u182_13, u182_14, u182_17, u182_18, u182_21, u182_22, u182_25, u182_26, u182_27, u182_30, u182_31, u182_34, u182_35, u182_38, u182_39, u182_40, u182_43, u182_44, u182_47, u182_48, u182_51, u182_52, u182_53, u182_56, u182_57, u182_60, u182_61, u182_64, u182_65, u182_66, u182_69, u182_70, u182_73, u182_74, u182_77, u182_78, u182_79, u182_82, u182_83, u182_86, u182_87, u182_90, u182_91, u182_92, u182_95, u182_96, u182_99, u182_100, u182_103, u182_104, u182_105, u182_108, u182_109, u182_112, u182_113, u182_116, u182_117, u182_118, u182_121, u182_122, u182_125, u182_126, u182_129, u182_130, u182_131, u182_134, u182_135, u182_138, u182_139, u182_142, u182_143, u182_144, u182_147, u182_148, u182_151, u182_152, u182_155, u182_156, u182_157, u182_160, u182_161, u182_164, u182_165, u182_166, u182_167, u182_168, u182_171, u182_172, u182_173, u182_176, hN, mj_rI, false_and, and_false,  mj_in_nI h9 (by decide), mj_nz9 h9 (by decide), nI_1, mj_cc_v, mj_cc_n, List.all_cons, List.all_nil, mj_noMk_int, mj_noMk_long, mj_noMk_ref, mj_noMk_junk, List.length_nil, List.length_cons, Nat.zero_le, Nat.reduceLeDiff, Nat.reduceAdd, Bool.and_true, Bool.true_and, Bool.and_self, Nat.reduceBNe, true_or, or_true, true_and, and_true, mj_z0, mj_z1, mj_z01, decide_true, decide_false, Bool.true_and, Bool.false_and, Bool.and_true, Bool.and_false, Bool.true_or, Bool.false_or, Bool.or_false, Bool.or_true, Bool.not_true, Bool.not_false, Bool.and_self, Bool.or_self, if_true, if_false, Bool.true_eq_false, Bool.false_eq_true, not_true, not_false_eq_true]
/-- what is asked of a state between calls, but for what it stands on -/
theorem mj_Mst_Fx {S : List Nat} {N R w t : Nat} (F : mj_Fx S σ ρ) (hS : 0 ∉ S ∧ 1 ∉ S ∧ 2 ∉ S ∧ 51 ∉ S) (h : mj_Mst σ N R w t) : mj_Mst ρ N R w t := by
  have c := F.2.1
  have ew : mj_wc ρ = mj_wc σ := by
    funext n
    unfold mj_wc
    rw [c 65 (by decide)]
  have el : mj_lvn ρ = mj_lvn σ := by
    funext n
    unfold mj_lvn
    rw [c 76 (by decide), c 77 (by decide)]
  unfold mj_Mst mj_Wd mj_Mok mj_Scr mj_Pw at h ⊢
  rw [ew, el, c 65 (by decide), c 68 (by decide), c 69 (by decide), c 70 (by decide), c 75 (by decide), c 84 (by decide), c 85 (by decide), c 87 (by decide), F.2.2 0 hS.1, F.2.2 1 hS.2.1, F.2.2 2 hS.2.2.1, F.2.2 51 hS.2.2.2]
  exact h
theorem mj_Mkn_wc {n : Nat} : mj_Mkn σ true n = mj_wc σ n := by
  unfold mj_Mkn mj_wc
  apply mj_it_congr
  intro i hi u
  by_cases c : σ.1 65 i < 5
  · rw [if_pos c, decide_eq_true c, if_pos rfl]
  · rw [if_neg c, decide_eq_false c, if_neg (by decide)]
theorem mj_wc_ext {n : Nat} (h : ∀ k, k < n → τ.1 65 k = σ.1 65 k) : mj_wc τ n = mj_wc σ n := by
  unfold mj_wc
  apply mj_it_congr
  intro i hi u
  rw [h i hi]
theorem mj_Mst_add {N R w t : Nat} {f : Nat → Int32} (hM : mj_Mst σ N R w t) (hf : mj_Fok (mj_wkM σ) f) (hfs : ∀ i, 33 ≤ i → i ≤ 43 → σ.1 61 i = f i) (hr : mj_rm σ N = true) : mj_Mst (mj_adM σ N) (N + 1) R w t := by
  obtain ⟨⟨w1, w2, w3, w4, w5, w6, w7, w8⟩, hS, m1, m2, m3, m4⟩ := hM
  obtain ⟨a1, a2, a3, a4, a5, a6, a7, a8, a9, b1, b2, b3, b4, b5, b6, b7, b8, b9, c1, c2⟩ := hf
  unfold mj_rm at hr
  simp only [Bool.and_eq_true, decide_eq_true_eq] at hr
  have hN : N < 9 := hr.1
  have k65 : (mj_adM σ N).1 65 N = f 33 := (mj_adM_N (by decide) (by decide)).trans (hfs 33 (by decide) (by decide))
  have k68 : (mj_adM σ N).1 68 N = f 36 := (mj_adM_N (by decide) (by decide)).trans (hfs 36 (by decide) (by decide))
  have k69 : (mj_adM σ N).1 69 N = f 37 := (mj_adM_N (by decide) (by decide)).trans (hfs 37 (by decide) (by decide))
  have k70 : (mj_adM σ N).1 70 N = f 38 := (mj_adM_N (by decide) (by decide)).trans (hfs 38 (by decide) (by decide))
  have k75 : (mj_adM σ N).1 75 N = f 43 := (mj_adM_N (by decide) (by decide)).trans (hfs 43 (by decide) (by decide))
  have k76 : (mj_adM σ N).1 76 N = f 42 := mj_adM_76.trans (hfs 42 (by decide) (by decide))
  have haft : ¬ f 37 = -1 → (f 37).toNatClampNeg < N ∧ σ.1 65 (f 37).toNatClampNeg < 5 := by
    intro z
    have := a7.resolve_left z
    unfold mj_wkM mj_lt0 at this
    simp only [Bool.and_eq_true, Bool.not_eq_true', decide_eq_true_eq, decide_eq_false_iff_not] at this
    refine ⟨?_, this.2⟩
    have q := this.1
    rw [w1] at q
    have q1 := mj_clamp q.1
    have q2 := q.2
    rw [Int32.lt_iff_toInt_lt, nI_toInt (by omega)] at q2
    omega
  have haf9 : f 37 = -1 ∨ mj_inb (f 37) 9 = true := by
    by_cases z : f 37 = -1
    · exact Or.inl z
    · right
      have q := haft z
      have q2 := a7.resolve_left z
      unfold mj_wkM mj_lt0 at q2
      simp only [Bool.and_eq_true, Bool.not_eq_true', decide_eq_true_eq, decide_eq_false_iff_not] at q2
      rw [mj_in_iff]
      intro y
      rcases y with y | y
      · exact q2.1.1 y
      · omega
  refine ⟨⟨mj_adM_0, by omega, ?_, ?_, ?_, ?_, ?_, ?_⟩, ?_, ?_, m2, ?_, m4⟩
  · intro k hk
    by_cases z : k = N
    · subst z
      refine ⟨by rw [k70]; exact a8, by rw [k69]; exact haf9, ?_, by rw [k68]; exact a5⟩
      rw [k75]
      obtain ⟨n, n1, n6, e⟩ := b4
      rw [e]
      intro y
      have := (nI_eq (b := 0) (by omega) (by decide)).mp y
      omega
    · have := w3 k (by omega)
      unfold mj_Mok at this ⊢
      rw [mj_adM_k z (by decide), mj_adM_k z (by decide), mj_adM_k z (by decide), mj_adM_k z (by decide)]
      exact this
  · intro k hk
    by_cases z : k = N
    · subst z
      rw [k69]
      intro y
      obtain ⟨q1, q2⟩ := haft y
      refine ⟨by omega, ?_⟩
      rw [mj_adM_k (by omega) (by decide)]
      exact q2
    · rw [mj_adM_k z (by decide)]
      intro y
      obtain ⟨q1, q2⟩ := w4 k (by omega) y
      refine ⟨by omega, ?_⟩
      rw [mj_adM_k (by omega) (by decide)]
      exact q2
  · intro k hk
    by_cases z : k = N
    · subst z
      rw [k65, k68]
      exact a6
    · rw [mj_adM_k z (by decide), mj_adM_k z (by decide)]
      exact w5 k (by omega)
  · intro k hk
    by_cases z : k = N
    · subst z
      rw [k69]
      exact haf9
    · rw [mj_adM_k z (by decide)]
      exact w6 k hk
  · have e : mj_wc (mj_adM σ N) (N + 1) = if (mj_adM σ N).1 65 N < 5 then mj_wc (mj_adM σ N) N + 1 else mj_wc (mj_adM σ N) N := rfl
    have e2 : mj_wc (mj_adM σ N) N = mj_wc σ N := mj_wc_ext (fun k hk => mj_adM_k (by omega) (by decide))
    rw [e, e2, k65]
    by_cases z : f 33 < 5
    · rw [if_pos z]
      have q := hr.2
      rw [hfs 33 (by decide) (by decide), if_pos z, mj_Mkn_wc, decide_eq_true_eq] at q
      omega
    · rw [if_neg z]
      exact w7
  · intro i hi
    unfold mj_lvn
    by_cases z : i = N
    · subst z
      rw [mj_adM_77, if_neg (by decide), k76]
      obtain ⟨n, n3, e, -⟩ := b3
      exact ⟨n, by omega, e⟩
    · rw [mj_adM_k z (by decide), mj_adM_k z (by decide)]
      exact w8 i (by omega)
  · unfold mj_Scr mj_Pw at hS ⊢
    rw [mj_adM_c (Or.inr (by decide)) (by decide), mj_adM_c (Or.inr (by decide)) (by decide), mj_adM_c (Or.inr (by decide)) (by decide), mj_adM_i (by decide)]
    exact hS
  · rw [mj_adM_i (by decide)]
    exact m1
  · rw [mj_adM_i (by decide)]
    exact m3
theorem mj_wc_mon2 {a b : Nat} (h : a ≤ b) : mj_wc σ a ≤ mj_wc σ b := by
  induction b with
  | zero =>
    have : a = 0 := by omega
    subst this
    exact Nat.le_refl _
  | succ b ih =>
    by_cases c : a = b + 1
    · rw [c]; exact Nat.le_refl _
    · have q := ih (by omega)
      have e : mj_wc σ (b + 1) = if σ.1 65 b < 5 then mj_wc σ b + 1 else mj_wc σ b := rfl
      rw [e]
      split <;> omega
theorem mj_Mst_cut {N N' R w t : Nat} (hN : N ≤ N') (haf : ∀ k, k < N → ¬ σ.1 69 k = -1 → (σ.1 69 k).toNatClampNeg < N) (h : mj_Mst σ N' R w t) : mj_Mst (mj_setI σ 61 0 (nI N)) N R w t := by
  obtain ⟨⟨w1, w2, w3, w4, w5, w6, w7, w8⟩, hS, m1, m2, m3, m4⟩ := h
  exact ⟨⟨rfl, by omega, fun k hk => w3 k (by omega), fun k hk z => ⟨haf k hk z, (w4 k (by omega) z).2⟩, fun k hk => w5 k (by omega), w6, Nat.le_trans (mj_wc_mon2 hN) w7, fun i hi => w8 i (by omega)⟩, hS, m1, m2, m3, m4⟩
end
