section
variable {X : mj_X} {d : Nat} {σ τ ρ : mj_St}
theorem mj_n10 : ¬ (1 : Int32) = 0 := by decide
/-- the letters of a row, as the reference keeps them -/
def mj_lt (σ : mj_St) (s a : Nat) : Int32 := (σ.2.1 82 (60 * s + a)).toInt32
/-- the reference reads row s, is at a, up to e -/
def mj_rat (σ : mj_St) (s a e : Nat) : Prop := σ.1 61 26 = nI (60 * s) ∧ σ.1 61 27 = nI a ∧ σ.1 61 28 = nI e ∧ s < 8 ∧ a ≤ e ∧ e ≤ 60
theorem mj_rat_at {s a a' e : Nat} (h : mj_rat σ s a e) (h' : a' ≤ e) : mj_rat (mj_setI σ 61 27 (nI a')) s a' e := ⟨h.1, mj_setI_eq, h.2.2.1, h.2.2.2.1, h', h.2.2.2.2.2⟩
theorem mj_rat_Fx {S : List Nat} {s a a' e : Nat} (F : mj_Fx S σ ρ) (hS : 26 ∉ S ∧ 28 ∉ S) (h : mj_rat σ s a e) (h' : a' ≤ e) (ha : ρ.1 61 27 = nI a') : mj_rat ρ s a' e := ⟨by rw [F.2.2 26 hS.1]; exact h.1, ha, by rw [F.2.2 28 hS.2]; exact h.2.2.1, h.2.2.2.1, h', h.2.2.2.2.2⟩
theorem mj_lt_Fx {S : List Nat} {s : Nat} (F : mj_Fx S σ ρ) : mj_lt ρ s = mj_lt σ s := by
  unfold mj_lt
  rw [F.1]
theorem sp_M_letter {s a e : Nat} (h : mj_rat σ s a e) (ha : a < e) : mj_ev X (d + 1) 171 [.ref 61] σ = some (some (.int (mj_lt σ s a)), σ) := by
  obtain ⟨h1, h2, h3, h4, h5, h6⟩ := h
  refine st171 ?_
  have q : nI a < nI e := nI_lt ha (by omega)
  simp only [u171_0, u171_1, u171_4, u171_5, u171_8, u171_11, u171_12, u171_15, u171_16, u171_19, u171_20, u171_23, u171_24, u171_25, u171_26, u171_29, u171_30, h1, h2, h3, q, nI_add, mj_in_nI (show 60 * s + a < 480 by omega) (by decide), mj_nz9 (show 60 * s + a < 480 by omega) (by decide), mj_cc_v, mj_cc_n, List.all_cons, List.all_nil, mj_noMk_int, mj_noMk_long, mj_noMk_ref, mj_noMk_junk, List.length_nil, List.length_cons, Nat.zero_le, Nat.reduceLeDiff, Nat.reduceAdd, Bool.and_true, Bool.true_and, Bool.and_self, Nat.reduceBNe, true_or, or_true, true_and, and_true, mj_z0, mj_z1, mj_z01, decide_true, decide_false, Bool.true_and, Bool.false_and, Bool.and_true, Bool.and_false, Bool.true_or, Bool.false_or, Bool.or_false, Bool.or_true, Bool.not_true, Bool.not_false, Bool.and_self, Bool.or_self, if_true, if_false, Bool.true_eq_false, Bool.false_eq_true, not_true, not_false_eq_true]
  rfl
theorem sp_M_letter_no {s a e : Nat} (h : mj_rat σ s a e) (ha : ¬ a < e) : mj_ev X (d + 1) 171 [.ref 61] σ = some (some (.int (-1)), σ) := by
  obtain ⟨h1, h2, h3, h4, h5, h6⟩ := h
  refine st171 ?_
  have q : ¬ nI a < nI e := nI_nlt (by omega) (by omega)
  simp only [u171_0, u171_1, u171_4, u171_5, u171_8, u171_11, u171_12, u171_15, u171_16, u171_19, u171_20, u171_23, u171_24, u171_25, u171_26, u171_29, u171_30, h1, h2, h3, q, mj_cc_v, mj_cc_n, List.all_cons, List.all_nil, mj_noMk_int, mj_noMk_long, mj_noMk_ref, mj_noMk_junk, List.length_nil, List.length_cons, Nat.zero_le, Nat.reduceLeDiff, Nat.reduceAdd, Bool.and_true, Bool.true_and, Bool.and_self, Nat.reduceBNe, true_or, or_true, true_and, and_true, mj_z0, mj_z1, mj_z01, decide_true, decide_false, Bool.true_and, Bool.false_and, Bool.and_true, Bool.and_false, Bool.true_or, Bool.false_or, Bool.or_false, Bool.or_true, Bool.not_true, Bool.not_false, Bool.and_self, Bool.or_self, if_true, if_false, Bool.true_eq_false, Bool.false_eq_true, not_true, not_false_eq_true]
theorem sp_M_wrong {x : Int32} : mj_ev X (d + 1) 173 [.ref 61, .int x] σ = some (some (.int 0), mj_setI σ 61 31 x) := by
  refine st173 ?_
  simp only [u173_0, u173_1, u173_2, u173_5, u173_6, mj_cc_v, mj_cc_n, List.all_cons, List.all_nil, mj_noMk_int, mj_noMk_long, mj_noMk_ref, mj_noMk_junk, List.length_nil, List.length_cons, Nat.zero_le, Nat.reduceLeDiff, Nat.reduceAdd, Bool.and_true, Bool.true_and, Bool.and_self, Nat.reduceBNe, true_or, or_true, true_and, and_true, mj_z0, mj_z1, mj_z01, decide_true, decide_false, Bool.true_and, Bool.false_and, Bool.and_true, Bool.and_false, Bool.true_or, Bool.false_or, Bool.or_false, Bool.or_true, Bool.not_true, Bool.not_false, Bool.and_self, Bool.or_self, if_true, if_false, Bool.true_eq_false, Bool.false_eq_true, not_true, not_false_eq_true]
theorem sp_M_takes {s a e : Nat} {c : Int32} (h : mj_rat σ s a e) : mj_ev X (d + 2) 172 [.ref 61, .int c] σ = some (some (.int (mj_z (decide (a < e ∧ mj_lt σ s a = c)))), if a < e ∧ mj_lt σ s a = c then mj_setI σ 61 27 (nI (a + 1)) else mj_setI σ 61 31 (nI a)) := by
  have h' := h
  obtain ⟨h1, h2, h3, h4, h5, h6⟩ := h
  have hw := sp_M_wrong (X := X) (d := d) (σ := σ) (x := nI a)
  refine st172 ?_
  by_cases ha : a < e
  · have q : nI a < nI e := nI_lt ha (by omega)
    have hl := sp_M_letter (X := X) (d := d) h' ha
    by_cases hc : mj_lt σ s a = c
    · simp only [u172_0, u172_1, u172_4, u172_5, u172_8, u172_11, u172_12, u172_15, u172_16, u172_19, u172_20, u172_21, u172_24, u172_27, u172_28, u172_29, u172_30, u172_33, u172_34, u172_35, u172_38, u172_39, h2, h3, q, hl, hc, ha, and_self, mj_zT, nI_1, mj_cc_v, mj_cc_n, List.all_cons, List.all_nil, mj_noMk_int, mj_noMk_long, mj_noMk_ref, mj_noMk_junk, List.length_nil, List.length_cons, Nat.zero_le, Nat.reduceLeDiff, Nat.reduceAdd, Bool.and_true, Bool.true_and, Bool.and_self, Nat.reduceBNe, true_or, or_true, true_and, and_true, mj_z0, mj_z1, mj_z01, decide_true, decide_false, Bool.true_and, Bool.false_and, Bool.and_true, Bool.and_false, Bool.true_or, Bool.false_or, Bool.or_false, Bool.or_true, Bool.not_true, Bool.not_false, Bool.and_self, Bool.or_self, if_true, if_false, Bool.true_eq_false, Bool.false_eq_true, not_true, not_false_eq_true]
    · simp only [u172_0, u172_1, u172_4, u172_5, u172_8, u172_11, u172_12, u172_15, u172_16, u172_19, u172_20, u172_21, u172_24, u172_27, u172_28, u172_29, u172_30, u172_33, u172_34, u172_35, u172_38, u172_39, h2, h3, q, hl, hc, ha, hw, and_false, mj_zF, mj_cc_v, mj_cc_n, List.all_cons, List.all_nil, mj_noMk_int, mj_noMk_long, mj_noMk_ref, mj_noMk_junk, List.length_nil, List.length_cons, Nat.zero_le, Nat.reduceLeDiff, Nat.reduceAdd, Bool.and_true, Bool.true_and, Bool.and_self, Nat.reduceBNe, true_or, or_true, true_and, and_true, mj_z0, mj_z1, mj_z01, decide_true, decide_false, Bool.true_and, Bool.false_and, Bool.and_true, Bool.and_false, Bool.true_or, Bool.false_or, Bool.or_false, Bool.or_true, Bool.not_true, Bool.not_false, Bool.and_self, Bool.or_self, if_true, if_false, Bool.true_eq_false, Bool.false_eq_true, not_true, not_false_eq_true]
  · have q : ¬ nI a < nI e := nI_nlt (by omega) (by omega)
    simp only [u172_0, u172_1, u172_4, u172_5, u172_8, u172_11, u172_12, u172_15, u172_16, u172_19, u172_20, u172_21, u172_24, u172_27, u172_28, u172_29, u172_30, u172_33, u172_34, u172_35, u172_38, u172_39, h2, h3, q, ha, hw, false_and, mj_zF, mj_cc_v, mj_cc_n, List.all_cons, List.all_nil, mj_noMk_int, mj_noMk_long, mj_noMk_ref, mj_noMk_junk, List.length_nil, List.length_cons, Nat.zero_le, Nat.reduceLeDiff, Nat.reduceAdd, Bool.and_true, Bool.true_and, Bool.and_self, Nat.reduceBNe, true_or, or_true, true_and, and_true, mj_z0, mj_z1, mj_z01, decide_true, decide_false, Bool.true_and, Bool.false_and, Bool.and_true, Bool.and_false, Bool.true_or, Bool.false_or, Bool.or_false, Bool.or_true, Bool.not_true, Bool.not_false, Bool.and_self, Bool.or_self, if_true, if_false, Bool.true_eq_false, Bool.false_eq_true, not_true, not_false_eq_true]
theorem sp_M_isDigit {s a e : Nat} (h : mj_rat σ s a e) : mj_ev X (d + 2) 175 [.ref 61] σ = some (some (.int (mj_z (mj_dig (mj_lt σ s) e a))), σ) := by
  have h' := h
  obtain ⟨h1, h2, h3, h4, h5, h6⟩ := h
  refine st175 ?_
  unfold mj_dig
  by_cases ha : a < e
  · have q : nI a < nI e := nI_lt ha (by omega)
    have hl := sp_M_letter (X := X) (d := d) h' ha
    by_cases c1 : mj_lt σ s a < 48
    · simp only [u175_0, u175_1, u175_4, u175_5, u175_8, u175_11, u175_12, u175_15, u175_17, u175_20, u175_21, u175_24, u175_26, u175_29, u175_30, u175_33, u175_34, h2, h3, q, hl, c1, ha, mj_zF, mj_cc_v, mj_cc_n, List.all_cons, List.all_nil, mj_noMk_int, mj_noMk_long, mj_noMk_ref, mj_noMk_junk, List.length_nil, List.length_cons, Nat.zero_le, Nat.reduceLeDiff, Nat.reduceAdd, Bool.and_true, Bool.true_and, Bool.and_self, Nat.reduceBNe, true_or, or_true, true_and, and_true, mj_z0, mj_z1, mj_z01, decide_true, decide_false, Bool.true_and, Bool.false_and, Bool.and_true, Bool.and_false, Bool.true_or, Bool.false_or, Bool.or_false, Bool.or_true, Bool.not_true, Bool.not_false, Bool.and_self, Bool.or_self, if_true, if_false, Bool.true_eq_false, Bool.false_eq_true, not_true, not_false_eq_true]
    · by_cases c2 : 57 < mj_lt σ s a
      · simp only [u175_0, u175_1, u175_4, u175_5, u175_8, u175_11, u175_12, u175_15, u175_17, u175_20, u175_21, u175_24, u175_26, u175_29, u175_30, u175_33, u175_34, h2, h3, q, hl, c1, c2, ha, mj_zF, mj_cc_v, mj_cc_n, List.all_cons, List.all_nil, mj_noMk_int, mj_noMk_long, mj_noMk_ref, mj_noMk_junk, List.length_nil, List.length_cons, Nat.zero_le, Nat.reduceLeDiff, Nat.reduceAdd, Bool.and_true, Bool.true_and, Bool.and_self, Nat.reduceBNe, true_or, or_true, true_and, and_true, mj_z0, mj_z1, mj_z01, decide_true, decide_false, Bool.true_and, Bool.false_and, Bool.and_true, Bool.and_false, Bool.true_or, Bool.false_or, Bool.or_false, Bool.or_true, Bool.not_true, Bool.not_false, Bool.and_self, Bool.or_self, if_true, if_false, Bool.true_eq_false, Bool.false_eq_true, not_true, not_false_eq_true]
      · simp only [u175_0, u175_1, u175_4, u175_5, u175_8, u175_11, u175_12, u175_15, u175_17, u175_20, u175_21, u175_24, u175_26, u175_29, u175_30, u175_33, u175_34, h2, h3, q, hl, c1, c2, ha, mj_zT, mj_cc_v, mj_cc_n, List.all_cons, List.all_nil, mj_noMk_int, mj_noMk_long, mj_noMk_ref, mj_noMk_junk, List.length_nil, List.length_cons, Nat.zero_le, Nat.reduceLeDiff, Nat.reduceAdd, Bool.and_true, Bool.true_and, Bool.and_self, Nat.reduceBNe, true_or, or_true, true_and, and_true, mj_z0, mj_z1, mj_z01, decide_true, decide_false, Bool.true_and, Bool.false_and, Bool.and_true, Bool.and_false, Bool.true_or, Bool.false_or, Bool.or_false, Bool.or_true, Bool.not_true, Bool.not_false, Bool.and_self, Bool.or_self, if_true, if_false, Bool.true_eq_false, Bool.false_eq_true, not_true, not_false_eq_true]
  · have q : ¬ nI a < nI e := nI_nlt (by omega) (by omega)
    simp only [u175_0, u175_1, u175_4, u175_5, u175_8, u175_11, u175_12, u175_15, u175_17, u175_20, u175_21, u175_24, u175_26, u175_29, u175_30, u175_33, u175_34, h2, h3, q, ha, mj_zF, mj_cc_v, mj_cc_n, List.all_cons, List.all_nil, mj_noMk_int, mj_noMk_long, mj_noMk_ref, mj_noMk_junk, List.length_nil, List.length_cons, Nat.zero_le, Nat.reduceLeDiff, Nat.reduceAdd, Bool.and_true, Bool.true_and, Bool.and_self, Nat.reduceBNe, true_or, or_true, true_and, and_true, mj_z0, mj_z1, mj_z01, decide_true, decide_false, Bool.true_and, Bool.false_and, Bool.and_true, Bool.and_false, Bool.true_or, Bool.false_or, Bool.or_false, Bool.or_true, Bool.not_true, Bool.not_false, Bool.and_self, Bool.or_self, if_true, if_false, Bool.true_eq_false, Bool.false_eq_true, not_true, not_false_eq_true]
theorem mj_rat_set {s a e i : Nat} {v : Int32} (h : mj_rat σ s a e) (hi : i ≠ 26 ∧ i ≠ 27 ∧ i ≠ 28) : mj_rat (mj_setI σ 61 i v) s a e := by
  refine ⟨?_, ?_, ?_, h.2.2.2⟩
  · rw [mj_setI_i (Ne.symm hi.1)]
    exact h.1
  · rw [mj_setI_i (Ne.symm hi.2.1)]
    exact h.2.1
  · rw [mj_setI_i (Ne.symm hi.2.2)]
    exact h.2.2.1
theorem sp_M_digit {s a e : Nat} {lo hi : Int32} (h : mj_rat σ s a e) : ∃ ρ, mj_Fx [27, 29, 30, 31] σ ρ ∧ ρ.1 61 30 = nI a ∧ (mj_dg (mj_lt σ s) e lo hi a = true → ρ.1 61 27 = nI (a + 1) ∧ ρ.1 61 29 = mj_lt σ s a - 48) ∧ (mj_dg (mj_lt σ s) e lo hi a = false → ρ.1 61 31 = nI a) ∧ ∀ d, mj_ev X (d + 3) 174 [.ref 61, .int lo, .int hi] σ = some (some (.int (mj_z (mj_dg (mj_lt σ s) e lo hi a))), ρ) := by
  have h2 := h.2.1
  have h30 : mj_rat (mj_setI σ 61 30 (nI a)) s a e := mj_rat_set h (by decide)
  have e27 : (mj_setI σ 61 30 (nI a)).1 61 27 = nI a := h2
  have hdig : ∀ d, mj_ev X (d + 2) 175 [.ref 61] (mj_setI σ 61 30 (nI a)) = some (some (.int (mj_z (mj_dig (mj_lt σ s) e a))), mj_setI σ 61 30 (nI a)) := fun d => sp_M_isDigit h30
  have hw : ∀ d, mj_ev X (d + 2) 173 [.ref 61, .int (nI a)] (mj_setI σ 61 30 (nI a)) = some (some (.int 0), mj_setI (mj_setI σ 61 30 (nI a)) 61 31 (nI a)) := fun d => sp_M_wrong (d := d + 1)
  have hlet : a < e → ∀ d, mj_ev X (d + 2) 171 [.ref 61] (mj_setI σ 61 30 (nI a)) = some (some (.int (mj_lt σ s a)), mj_setI σ 61 30 (nI a)) := fun ha d => sp_M_letter (d := d + 1) h30 ha
  have Fno : mj_Fx [27, 29, 30, 31] σ (mj_setI (mj_setI σ 61 30 (nI a)) 61 31 (nI a)) := mj_Fx_set (by decide) (mj_Fx_set (by decide) mj_Fx_rf)
  rcases (Bool.eq_false_or_eq_true (mj_dig (mj_lt σ s) e a)).symm with c | c
  · have cd : mj_dg (mj_lt σ s) e lo hi a = false := by
      unfold mj_dg
      rw [c, Bool.false_and]
    refine ⟨_, Fno, rfl, fun q => ?_, fun _ => rfl, fun d => ?_⟩
    · rw [cd] at q
      exact absurd q (by decide)
    · have hd := hdig d
      have hwd := hw d
      rw [c] at hd
      rw [cd]
      refine st174 ?_
      simp only [u174_0, u174_1, u174_2, u174_5, u174_8, u174_9, u174_12, u174_15, u174_16, u174_19, u174_21, u174_22, u174_23, u174_26, u174_27, u174_30, u174_32, u174_33, u174_34, u174_37, u174_38, u174_39, u174_42, u174_45, u174_46, u174_47, u174_48, u174_51, u174_53, u174_54, u174_57, u174_58, u174_59, u174_62, u174_63, u174_64, u174_67, u174_68, h2, e27, hd, hwd, mj_zF, mj_cc_v, mj_cc_n, List.all_cons, List.all_nil, mj_noMk_int, mj_noMk_long, mj_noMk_ref, mj_noMk_junk, List.length_nil, List.length_cons, Nat.zero_le, Nat.reduceLeDiff, Nat.reduceAdd, Bool.and_true, Bool.true_and, Bool.and_self, Nat.reduceBNe, true_or, or_true, true_and, and_true, mj_z0, mj_z1, mj_z01, decide_true, decide_false, Bool.true_and, Bool.false_and, Bool.and_true, Bool.and_false, Bool.true_or, Bool.false_or, Bool.or_false, Bool.or_true, Bool.not_true, Bool.not_false, Bool.and_self, Bool.or_self, if_true, if_false, Bool.true_eq_false, Bool.false_eq_true, not_true, not_false_eq_true]
  · have hl := hlet (mj_dig_lt c)
    rcases (Bool.eq_false_or_eq_true (mj_dg (mj_lt σ s) e lo hi a)).symm with cd | cd
    · refine ⟨_, Fno, rfl, fun q => ?_, fun _ => rfl, fun d => ?_⟩
      · rw [cd] at q
        exact absurd q (by decide)
      · have hd := hdig d
        have hwd := hw d
        have hld := hl d
        rw [c] at hd
        rw [cd]
        unfold mj_dg at cd
        rw [c, Bool.true_and] at cd
        refine st174 ?_
        by_cases c1 : mj_lt σ s a - 48 < lo
        · simp only [u174_0, u174_1, u174_2, u174_5, u174_8, u174_9, u174_12, u174_15, u174_16, u174_19, u174_21, u174_22, u174_23, u174_26, u174_27, u174_30, u174_32, u174_33, u174_34, u174_37, u174_38, u174_39, u174_42, u174_45, u174_46, u174_47, u174_48, u174_51, u174_53, u174_54, u174_57, u174_58, u174_59, u174_62, u174_63, u174_64, u174_67, u174_68, h2, e27, hd, hwd, hld, c1, mj_n10, mj_zF, mj_zT, mj_cc_v, mj_cc_n, List.all_cons, List.all_nil, mj_noMk_int, mj_noMk_long, mj_noMk_ref, mj_noMk_junk, List.length_nil, List.length_cons, Nat.zero_le, Nat.reduceLeDiff, Nat.reduceAdd, Bool.and_true, Bool.true_and, Bool.and_self, Nat.reduceBNe, true_or, or_true, true_and, and_true, mj_z0, mj_z1, mj_z01, decide_true, decide_false, Bool.true_and, Bool.false_and, Bool.and_true, Bool.and_false, Bool.true_or, Bool.false_or, Bool.or_false, Bool.or_true, Bool.not_true, Bool.not_false, Bool.and_self, Bool.or_self, if_true, if_false, Bool.true_eq_false, Bool.false_eq_true, not_true, not_false_eq_true]
        · by_cases c2 : hi < mj_lt σ s a - 48
          · simp only [u174_0, u174_1, u174_2, u174_5, u174_8, u174_9, u174_12, u174_15, u174_16, u174_19, u174_21, u174_22, u174_23, u174_26, u174_27, u174_30, u174_32, u174_33, u174_34, u174_37, u174_38, u174_39, u174_42, u174_45, u174_46, u174_47, u174_48, u174_51, u174_53, u174_54, u174_57, u174_58, u174_59, u174_62, u174_63, u174_64, u174_67, u174_68, h2, e27, hd, hwd, hld, c1, c2, mj_n10, mj_zF, mj_zT, mj_cc_v, mj_cc_n, List.all_cons, List.all_nil, mj_noMk_int, mj_noMk_long, mj_noMk_ref, mj_noMk_junk, List.length_nil, List.length_cons, Nat.zero_le, Nat.reduceLeDiff, Nat.reduceAdd, Bool.and_true, Bool.true_and, Bool.and_self, Nat.reduceBNe, true_or, or_true, true_and, and_true, mj_z0, mj_z1, mj_z01, decide_true, decide_false, Bool.true_and, Bool.false_and, Bool.and_true, Bool.and_false, Bool.true_or, Bool.false_or, Bool.or_false, Bool.or_true, Bool.not_true, Bool.not_false, Bool.and_self, Bool.or_self, if_true, if_false, Bool.true_eq_false, Bool.false_eq_true, not_true, not_false_eq_true]
          · simp [c1, c2] at cd
    · refine ⟨mj_setI (mj_setI (mj_setI σ 61 30 (nI a)) 61 29 (mj_lt σ s a - 48)) 61 27 (nI (a + 1)), mj_Fx_set (by decide) (mj_Fx_set (by decide) (mj_Fx_set (by decide) mj_Fx_rf)), rfl, fun _ => ⟨rfl, rfl⟩, fun q => ?_, fun d => ?_⟩
      · rw [cd] at q
        exact absurd q (by decide)
      · have hd := hdig d
        have hwd := hw d
        have hld := hl d
        rw [c] at hd
        rw [cd]
        unfold mj_dg at cd
        rw [c, Bool.true_and] at cd
        simp only [Bool.and_eq_true, decide_eq_true_eq] at cd
        have e27' : (mj_setI (mj_setI σ 61 30 (nI a)) 61 29 (mj_lt σ s a - 48)).1 61 27 = nI a := h2
        refine st174 ?_
        simp only [u174_0, u174_1, u174_2, u174_5, u174_8, u174_9, u174_12, u174_15, u174_16, u174_19, u174_21, u174_22, u174_23, u174_26, u174_27, u174_30, u174_32, u174_33, u174_34, u174_37, u174_38, u174_39, u174_42, u174_45, u174_46, u174_47, u174_48, u174_51, u174_53, u174_54, u174_57, u174_58, u174_59, u174_62, u174_63, u174_64, u174_67, u174_68, h2, e27, e27', hd, hld, cd.1, cd.2, mj_n10, mj_zT, nI_1, mj_cc_v, mj_cc_n, List.all_cons, List.all_nil, mj_noMk_int, mj_noMk_long, mj_noMk_ref, mj_noMk_junk, List.length_nil, List.length_cons, Nat.zero_le, Nat.reduceLeDiff, Nat.reduceAdd, Bool.and_true, Bool.true_and, Bool.and_self, Nat.reduceBNe, true_or, or_true, true_and, and_true, mj_z0, mj_z1, mj_z01, decide_true, decide_false, Bool.true_and, Bool.false_and, Bool.and_true, Bool.and_false, Bool.true_or, Bool.false_or, Bool.or_false, Bool.or_true, Bool.not_true, Bool.not_false, Bool.and_self, Bool.or_self, if_true, if_false, Bool.true_eq_false, Bool.false_eq_true, not_true, not_false_eq_true]
theorem sp_M_digits {s a e : Nat} {hi : Int32} (h : mj_rat σ s a e) : ∃ ρ, mj_Fx [27, 29, 30, 31] σ ρ ∧ ρ.1 61 30 = nI a ∧ (mj_dsok (mj_lt σ s) e hi a = true → ρ.1 61 27 = nI (a + (mj_ds (mj_lt σ s) e a).1) ∧ ρ.1 61 29 = (mj_ds (mj_lt σ s) e a).2) ∧ (mj_dsok (mj_lt σ s) e hi a = false → ρ.1 61 31 = nI a) ∧ ∀ d, mj_ev X (d + 3) 177 [.ref 61, .int hi] σ = some (some (.int (mj_z (mj_dsok (mj_lt σ s) e hi a))), ρ) := by
  have h2 := h.2.1
  have h30 : mj_rat (mj_setI σ 61 30 (nI a)) s a e := mj_rat_set h (by decide)
  have e27 : (mj_setI σ 61 30 (nI a)).1 61 27 = nI a := h2
  have hdig : ∀ d, mj_ev X (d + 2) 175 [.ref 61] (mj_setI σ 61 30 (nI a)) = some (some (.int (mj_z (mj_dig (mj_lt σ s) e a))), mj_setI σ 61 30 (nI a)) := fun d => sp_M_isDigit h30
  have hw : ∀ d σ', mj_ev X (d + 2) 173 [.ref 61, .int (nI a)] σ' = some (some (.int 0), mj_setI σ' 61 31 (nI a)) := fun d σ' => sp_M_wrong (d := d + 1)
  rcases (Bool.eq_false_or_eq_true (mj_dig (mj_lt σ s) e a)).symm with c | c
  · have cd : mj_dsok (mj_lt σ s) e hi a = false := by
      unfold mj_dsok
      rw [c, Bool.false_and]
    refine ⟨mj_setI (mj_setI σ 61 30 (nI a)) 61 31 (nI a), mj_Fx_set (by decide) (mj_Fx_set (by decide) mj_Fx_rf), rfl, fun q => ?_, fun _ => rfl, fun d => ?_⟩
    · rw [cd] at q
      exact absurd q (by decide)
    · have hd := hdig d
      have hwd := hw d
      rw [c] at hd
      rw [cd]
      refine st177 ?_
      simp only [u177_0, u177_1, u177_2, u177_5, u177_8, u177_9, u177_12, u177_15, u177_16, u177_17, u177_20, u177_23, u177_24, u177_25, u177_26, u177_29, u177_31, u177_32, u177_35, u177_36, u177_37, u177_40, u177_41, u177_42, u177_45, u177_46, u177_49, u177_52, u177_53, u177_55, u177_56, u177_59, u177_60, u177_61, u177_64, u177_65, u177_67, u177_68, u177_71, u177_72, u177_73, u177_76, u177_77, u177_78, u177_82, u177_85, u177_86, u177_89, u177_90, u177_91, u177_94, u177_97, u177_100, u177_101, u177_104, u177_105, h2, e27, hd, hwd, mj_zF, mj_cc_v, mj_cc_n, List.all_cons, List.all_nil, mj_noMk_int, mj_noMk_long, mj_noMk_ref, mj_noMk_junk, List.length_nil, List.length_cons, Nat.zero_le, Nat.reduceLeDiff, Nat.reduceAdd, Bool.and_true, Bool.true_and, Bool.and_self, Nat.reduceBNe, true_or, or_true, true_and, and_true, mj_z0, mj_z1, mj_z01, decide_true, decide_false, Bool.true_and, Bool.false_and, Bool.and_true, Bool.and_false, Bool.true_or, Bool.false_or, Bool.or_false, Bool.or_true, Bool.not_true, Bool.not_false, Bool.and_self, Bool.or_self, if_true, if_false, Bool.true_eq_false, Bool.false_eq_true, not_true, not_false_eq_true]
  · have ha := mj_dig_lt c
    have hl : ∀ d, mj_ev X (d + 2) 171 [.ref 61] (mj_setI σ 61 30 (nI a)) = some (some (.int (mj_lt σ s a)), mj_setI σ 61 30 (nI a)) := fun d => sp_M_letter (d := d + 1) h30 ha
    -- behind the first digit
    have e27' : (mj_setI (mj_setI σ 61 30 (nI a)) 61 29 (mj_lt σ s a - 48)).1 61 27 = nI a := h2
    have h31 : mj_rat (mj_setI (mj_setI (mj_setI σ 61 30 (nI a)) 61 29 (mj_lt σ s a - 48)) 61 27 (nI (a + 1))) s (a + 1) e := mj_rat_at (mj_rat_set h30 (by decide)) (by omega)
    have hdig2 : ∀ d, mj_ev X (d + 2) 175 [.ref 61] (mj_setI (mj_setI (mj_setI σ 61 30 (nI a)) 61 29 (mj_lt σ s a - 48)) 61 27 (nI (a + 1))) = some (some (.int (mj_z (mj_dig (mj_lt σ s) e (a + 1)))), mj_setI (mj_setI (mj_setI σ 61 30 (nI a)) 61 29 (mj_lt σ s a - 48)) 61 27 (nI (a + 1))) := fun d => sp_M_isDigit h31
    -- the end, in any state
    have fin : ∀ (σ2 : mj_St), mj_Fx [27, 29, 30, 31] σ σ2 → σ2.1 61 30 = nI a → σ2.1 61 29 = (mj_ds (mj_lt σ s) e a).2 → σ2.1 61 27 = nI (a + (mj_ds (mj_lt σ s) e a).1) → (∀ d, mj_Runs X (mj_ev X (d + 2)) 6 (some .boolean) prog_8_method_21_code (81, [.ref 61, .int hi], [], σ2) (some (.int (mj_z (mj_dsok (mj_lt σ s) e hi a))), if mj_dsok (mj_lt σ s) e hi a = true then σ2 else mj_setI σ2 61 31 (nI a)) → mj_ev X (d + 3) 177 [.ref 61, .int hi] σ = some (some (.int (mj_z (mj_dsok (mj_lt σ s) e hi a))), if mj_dsok (mj_lt σ s) e hi a = true then σ2 else mj_setI σ2 61 31 (nI a))) → ∃ ρ, mj_Fx [27, 29, 30, 31] σ ρ ∧ ρ.1 61 30 = nI a ∧ (mj_dsok (mj_lt σ s) e hi a = true → ρ.1 61 27 = nI (a + (mj_ds (mj_lt σ s) e a).1) ∧ ρ.1 61 29 = (mj_ds (mj_lt σ s) e a).2) ∧ (mj_dsok (mj_lt σ s) e hi a = false → ρ.1 61 31 = nI a) ∧ ∀ d, mj_ev X (d + 3) 177 [.ref 61, .int hi] σ = some (some (.int (mj_z (mj_dsok (mj_lt σ s) e hi a))), ρ) := by
      intro σ2 F q30 q29 q27 hrun
      refine ⟨if mj_dsok (mj_lt σ s) e hi a = true then σ2 else mj_setI σ2 61 31 (nI a), ?_, ?_, fun q => ?_, fun q => ?_, fun d => hrun d ?_⟩
      · by_cases q : mj_dsok (mj_lt σ s) e hi a = true
        · rw [if_pos q]; exact F
        · rw [if_neg q]; exact mj_Fx_set (by decide) F
      · by_cases q : mj_dsok (mj_lt σ s) e hi a = true
        · rw [if_pos q]; exact q30
        · rw [if_neg q]; exact q30
      · rw [if_pos q]; exact ⟨q27, q29⟩
      · rw [if_neg (by rw [q]; decide)]; exact mj_setI_eq
      · have hwd := hw d σ2
        by_cases q : hi < (mj_ds (mj_lt σ s) e a).2
        · have cd : mj_dsok (mj_lt σ s) e hi a = false := by
            unfold mj_dsok
            rw [decide_eq_false (not_not_intro q), Bool.and_false]
          simp only [cd, mj_zF, decide_true, decide_false, Bool.true_and, Bool.false_and, Bool.and_true, Bool.and_false, Bool.true_or, Bool.false_or, Bool.or_false, Bool.or_true, Bool.not_true, Bool.not_false, Bool.and_self, Bool.or_self, if_true, if_false, Bool.true_eq_false, Bool.false_eq_true, not_true, not_false_eq_true]
          refine u177_81.mpr ?_
          simp only [u177_0, u177_1, u177_2, u177_5, u177_8, u177_9, u177_12, u177_15, u177_16, u177_17, u177_20, u177_23, u177_24, u177_25, u177_26, u177_29, u177_31, u177_32, u177_35, u177_36, u177_37, u177_40, u177_41, u177_42, u177_45, u177_46, u177_49, u177_52, u177_53, u177_55, u177_56, u177_59, u177_60, u177_61, u177_64, u177_65, u177_67, u177_68, u177_71, u177_72, u177_73, u177_76, u177_77, u177_78, u177_82, u177_85, u177_86, u177_89, u177_90, u177_91, u177_94, u177_97, u177_100, u177_101, u177_104, u177_105, q30, q29, q, hwd, mj_cc_v, mj_cc_n, List.all_cons, List.all_nil, mj_noMk_int, mj_noMk_long, mj_noMk_ref, mj_noMk_junk, List.length_nil, List.length_cons, Nat.zero_le, Nat.reduceLeDiff, Nat.reduceAdd, Bool.and_true, Bool.true_and, Bool.and_self, Nat.reduceBNe, true_or, or_true, true_and, and_true, mj_z0, mj_z1, mj_z01, decide_true, decide_false, Bool.true_and, Bool.false_and, Bool.and_true, Bool.and_false, Bool.true_or, Bool.false_or, Bool.or_false, Bool.or_true, Bool.not_true, Bool.not_false, Bool.and_self, Bool.or_self, if_true, if_false, Bool.true_eq_false, Bool.false_eq_true, not_true, not_false_eq_true]
        · have cd : mj_dsok (mj_lt σ s) e hi a = true := by
            unfold mj_dsok
            rw [decide_eq_true q, c]
            rfl
          simp only [cd, mj_zT, decide_true, decide_false, Bool.true_and, Bool.false_and, Bool.and_true, Bool.and_false, Bool.true_or, Bool.false_or, Bool.or_false, Bool.or_true, Bool.not_true, Bool.not_false, Bool.and_self, Bool.or_self, if_true, if_false, Bool.true_eq_false, Bool.false_eq_true, not_true, not_false_eq_true]
          refine u177_81.mpr ?_
          simp only [u177_0, u177_1, u177_2, u177_5, u177_8, u177_9, u177_12, u177_15, u177_16, u177_17, u177_20, u177_23, u177_24, u177_25, u177_26, u177_29, u177_31, u177_32, u177_35, u177_36, u177_37, u177_40, u177_41, u177_42, u177_45, u177_46, u177_49, u177_52, u177_53, u177_55, u177_56, u177_59, u177_60, u177_61, u177_64, u177_65, u177_67, u177_68, u177_71, u177_72, u177_73, u177_76, u177_77, u177_78, u177_82, u177_85, u177_86, u177_89, u177_90, u177_91, u177_94, u177_97, u177_100, u177_101, u177_104, u177_105, q30, q29, q, mj_cc_v, mj_cc_n, List.all_cons, List.all_nil, mj_noMk_int, mj_noMk_long, mj_noMk_ref, mj_noMk_junk, List.length_nil, List.length_cons, Nat.zero_le, Nat.reduceLeDiff, Nat.reduceAdd, Bool.and_true, Bool.true_and, Bool.and_self, Nat.reduceBNe, true_or, or_true, true_and, and_true, mj_z0, mj_z1, mj_z01, decide_true, decide_false, Bool.true_and, Bool.false_and, Bool.and_true, Bool.and_false, Bool.true_or, Bool.false_or, Bool.or_false, Bool.or_true, Bool.not_true, Bool.not_false, Bool.and_self, Bool.or_self, if_true, if_false, Bool.true_eq_false, Bool.false_eq_true, not_true, not_false_eq_true]
    rcases (Bool.eq_false_or_eq_true (mj_dig (mj_lt σ s) e (a + 1))).symm with c2 | c2
    · have ev : mj_ds (mj_lt σ s) e a = (1, mj_lt σ s a - 48) := by
        unfold mj_ds
        rw [if_neg (by rw [c2]; decide)]
      refine fin (mj_setI (mj_setI (mj_setI σ 61 30 (nI a)) 61 29 (mj_lt σ s a - 48)) 61 27 (nI (a + 1))) (mj_Fx_set (by decide) (mj_Fx_set (by decide) (mj_Fx_set (by decide) mj_Fx_rf))) rfl (by rw [ev]; rfl) (by rw [ev]; rfl) (fun d hr => ?_)
      have hd := hdig d
      have hld := hl d
      have hd2 := hdig2 d
      rw [c] at hd
      rw [c2] at hd2
      refine st177 ?_
      simp only [u177_0, u177_1, u177_2, u177_5, u177_8, u177_9, u177_12, u177_15, u177_16, u177_17, u177_20, u177_23, u177_24, u177_25, u177_26, u177_29, u177_31, u177_32, u177_35, u177_36, u177_37, u177_40, u177_41, u177_42, u177_45, u177_46, u177_49, u177_52, u177_53, u177_55, u177_56, u177_59, u177_60, u177_61, u177_64, u177_65, u177_67, u177_68, u177_71, u177_72, u177_73, u177_76, u177_77, u177_78, u177_82, u177_85, u177_86, u177_89, u177_90, u177_91, u177_94, u177_97, u177_100, u177_101, u177_104, u177_105, h2, e27, e27', hd, hld, hd2, mj_n10, mj_zT, mj_zF, nI_1, mj_cc_v, mj_cc_n, List.all_cons, List.all_nil, mj_noMk_int, mj_noMk_long, mj_noMk_ref, mj_noMk_junk, List.length_nil, List.length_cons, Nat.zero_le, Nat.reduceLeDiff, Nat.reduceAdd, Bool.and_true, Bool.true_and, Bool.and_self, Nat.reduceBNe, true_or, or_true, true_and, and_true, mj_z0, mj_z1, mj_z01, decide_true, decide_false, Bool.true_and, Bool.false_and, Bool.and_true, Bool.and_false, Bool.true_or, Bool.false_or, Bool.or_false, Bool.or_true, Bool.not_true, Bool.not_false, Bool.and_self, Bool.or_self, if_true, if_false, Bool.true_eq_false, Bool.false_eq_true, not_true, not_false_eq_true]
      exact hr
    · have ha2 := mj_dig_lt c2
      have ev : mj_ds (mj_lt σ s) e a = (2, 10 * (mj_lt σ s a - 48) + mj_lt σ s (a + 1) - 48) := by
        unfold mj_ds
        rw [if_pos c2]
      have hl2 : ∀ d, mj_ev X (d + 2) 171 [.ref 61] (mj_setI (mj_setI (mj_setI σ 61 30 (nI a)) 61 29 (mj_lt σ s a - 48)) 61 27 (nI (a + 1))) = some (some (.int (mj_lt σ s (a + 1))), mj_setI (mj_setI (mj_setI σ 61 30 (nI a)) 61 29 (mj_lt σ s a - 48)) 61 27 (nI (a + 1))) := fun d => sp_M_letter (d := d + 1) h31 ha2
      refine fin (mj_setI (mj_setI (mj_setI (mj_setI (mj_setI σ 61 30 (nI a)) 61 29 (mj_lt σ s a - 48)) 61 27 (nI (a + 1))) 61 29 (10 * (mj_lt σ s a - 48) + mj_lt σ s (a + 1) - 48)) 61 27 (nI (a + 2))) (mj_Fx_set (by decide) (mj_Fx_set (by decide) (mj_Fx_set (by decide) (mj_Fx_set (by decide) (mj_Fx_set (by decide) mj_Fx_rf))))) rfl (by rw [ev]; rfl) (by rw [ev]; rfl) (fun d hr => ?_)
      have hd := hdig d
      have hld := hl d
      have hd2 := hdig2 d
      have hld2 := hl2 d
      have e29 : (mj_setI (mj_setI (mj_setI σ 61 30 (nI a)) 61 29 (mj_lt σ s a - 48)) 61 27 (nI (a + 1))).1 61 29 = mj_lt σ s a - 48 := rfl
      have e27'' : (mj_setI (mj_setI (mj_setI (mj_setI σ 61 30 (nI a)) 61 29 (mj_lt σ s a - 48)) 61 27 (nI (a + 1))) 61 29 (10 * (mj_lt σ s a - 48) + mj_lt σ s (a + 1) - 48)).1 61 27 = nI (a + 1) := rfl
      rw [c] at hd
      rw [c2] at hd2
      refine st177 ?_
      simp only [u177_0, u177_1, u177_2, u177_5, u177_8, u177_9, u177_12, u177_15, u177_16, u177_17, u177_20, u177_23, u177_24, u177_25, u177_26, u177_29, u177_31, u177_32, u177_35, u177_36, u177_37, u177_40, u177_41, u177_42, u177_45, u177_46, u177_49, u177_52, u177_53, u177_55, u177_56, u177_59, u177_60, u177_61, u177_64, u177_65, u177_67, u177_68, u177_71, u177_72, u177_73, u177_76, u177_77, u177_78, u177_82, u177_85, u177_86, u177_89, u177_90, u177_91, u177_94, u177_97, u177_100, u177_101, u177_104, u177_105, h2, e27, e27', e29, e27'', hd, hld, hd2, hld2, mj_n10, mj_zT, mj_zF, nI_1, mj_cc_v, mj_cc_n, List.all_cons, List.all_nil, mj_noMk_int, mj_noMk_long, mj_noMk_ref, mj_noMk_junk, List.length_nil, List.length_cons, Nat.zero_le, Nat.reduceLeDiff, Nat.reduceAdd, Bool.and_true, Bool.true_and, Bool.and_self, Nat.reduceBNe, true_or, or_true, true_and, and_true, mj_z0, mj_z1, mj_z01, decide_true, decide_false, Bool.true_and, Bool.false_and, Bool.and_true, Bool.and_false, Bool.true_or, Bool.false_or, Bool.or_false, Bool.or_true, Bool.not_true, Bool.not_false, Bool.and_self, Bool.or_self, if_true, if_false, Bool.true_eq_false, Bool.false_eq_true, not_true, not_false_eq_true]
      exact hr
/-- a chain of letters in a method: each is taken, or the run goes on at F -/
def mj_Chn (X : mj_X) (d : Nat) (Q : Nat → mj_St → mj_Rs → Prop) (F : Nat) : List Int32 → Nat → Prop
  | [], _ => True
  | c :: w, p => (∀ σ1 t σ2 r, mj_ev X d 172 [.ref 61, .int c] σ1 = some (some (.int (mj_z t)), σ2) → Q (if t = true then p + 9 else F) σ2 r → Q p σ1 r) ∧ mj_Chn X d Q F w (p + 9)
theorem mj_Chn_yes {Q : Nat → mj_St → mj_Rs → Prop} {F : Nat} {s e : Nat} {r : mj_Rs} : ∀ (w : List Int32) (p a : Nat) (σ : mj_St), mj_Chn X (d + 2) Q F w p → mj_rat σ s a e → (mj_tk (mj_lt σ s) e w a).1 = true → Q (p + 9 * w.length) (mj_setI σ 61 27 (nI (mj_tk (mj_lt σ s) e w a).2)) r → Q p σ r := by
  intro w
  induction w with
  | nil =>
    intro p a σ _ h _ q
    have e1 : mj_setI σ 61 27 (nI (mj_tk (mj_lt σ s) e [] a).2) = σ := mj_setI_self h.2.1
    rw [e1] at q
    exact q
  | cons c w ih =>
    intro p a σ hC h ht q
    have hs := sp_M_takes (X := X) (d := d) (c := c) h
    by_cases ca : a < e ∧ mj_lt σ s a = c
    · rw [decide_eq_true ca, if_pos ca] at hs
      simp only [mj_tk, if_pos ca] at ht q
      refine hC.1 _ _ _ _ hs ?_
      rw [if_pos rfl]
      refine ih (p + 9) (a + 1) _ hC.2 (mj_rat_at h (by omega)) ht ?_
      rw [mj_setI_2]
      have e2 : p + 9 + 9 * w.length = p + 9 * (c :: w).length := by
        rw [List.length_cons]; omega
      rw [e2]
      exact q
    · simp only [mj_tk, if_neg ca] at ht
      exact absurd ht (by decide)
theorem mj_Chn_no {Q : Nat → mj_St → mj_Rs → Prop} {F : Nat} {s e : Nat} {r : mj_Rs} : ∀ (w : List Int32) (p a : Nat) (σ : mj_St), mj_Chn X (d + 2) Q F w p → mj_rat σ s a e → (mj_tk (mj_lt σ s) e w a).1 = false → Q F (mj_setI (mj_setI σ 61 27 (nI (mj_tk (mj_lt σ s) e w a).2)) 61 31 (nI (mj_tk (mj_lt σ s) e w a).2)) r → Q p σ r := by
  intro w
  induction w with
  | nil =>
    intro p a σ _ h ht _
    exact absurd ht (by simp [mj_tk])
  | cons c w ih =>
    intro p a σ hC h ht q
    have hs := sp_M_takes (X := X) (d := d) (c := c) h
    by_cases ca : a < e ∧ mj_lt σ s a = c
    · rw [decide_eq_true ca, if_pos ca] at hs
      simp only [mj_tk, if_pos ca] at ht q
      refine hC.1 _ _ _ _ hs ?_
      rw [if_pos rfl]
      refine ih (p + 9) (a + 1) _ hC.2 (mj_rat_at h (by omega)) ht ?_
      rw [mj_setI_2]
      exact q
    · simp only [mj_tk, if_neg ca] at q
      rw [decide_eq_false ca, if_neg ca] at hs
      refine hC.1 _ _ _ _ hs ?_
      rw [if_neg (by decide)]
      rw [mj_setI_self h.2.1] at q
      exact q
end
