section
variable {X : mj_X} {d : Nat} {σ τ ρ : mj_St}
theorem mj_plc_c {x : Int32} : ∀ (j k : Nat), mj_plc σ x j k = -2 ∨ ∃ p, k ≤ p ∧ p < k + j ∧ mj_plc σ x j k = nI p ∧ σ.1 47 p = x := by
  intro j
  induction j with
  | zero => intro k; exact Or.inl rfl
  | succ j ih =>
    intro k
    simp only [mj_plc]
    by_cases c : σ.1 47 k = x
    · rw [if_pos c]
      exact Or.inr ⟨k, Nat.le_refl _, by omega, rfl, c⟩
    · rw [if_neg c]
      rcases ih (k + 1) with z | ⟨p, h1, h2, h3, h4⟩
      · exact Or.inl z
      · exact Or.inr ⟨p, by omega, by omega, h3, h4⟩
/-- the hours ahead of the one that is pinned -/
def mj_pnS (σ : mj_St) (b : Int32) (w k : Nat) : mj_St := (fun c i => if c = 51 ∧ w ≤ i ∧ i < w + k then σ.1 51 i &&& (b ^^^ -1) else σ.1 c i, σ.2)
theorem mj_pnS_0 {b : Int32} {w : Nat} : mj_pnS σ b w 0 = σ := by
  refine Prod.ext ?_ rfl
  funext c i
  show (if c = 51 ∧ w ≤ i ∧ i < w + 0 then _ else _) = _
  rw [if_neg (by omega)]
theorem mj_pnS_o {b : Int32} {w k c : Nat} (h : c ≠ 51) : (mj_pnS σ b w k).1 c = σ.1 c := by
  funext i
  show (if c = 51 ∧ w ≤ i ∧ i < w + k then _ else _) = _
  rw [if_neg (fun z => h z.1)]
theorem mj_pnS_s {b : Int32} {w k : Nat} : mj_setI (mj_pnS σ b w k) 51 (w + k) (σ.1 51 (w + k) &&& (b ^^^ -1)) = mj_pnS σ b w (k + 1) := by
  refine Prod.ext ?_ rfl
  funext c i
  simp only [mj_setI, mj_pnS]
  by_cases c1 : c = 51
  · by_cases c2 : i = w + k
    · subst c2
      rw [if_pos ⟨c1, rfl⟩, if_pos ⟨c1, by omega, by omega⟩]
    · have e : (w ≤ i ∧ i < w + (k + 1)) = (w ≤ i ∧ i < w + k) := by apply propext; omega
      rw [if_neg (fun z => c2 z.2)]
      simp only [e]
  · rw [if_neg (fun z => c1 z.1), if_neg (fun z => c1 z.1), if_neg (fun z => c1 z.1)]
theorem mj_pnS_r {b : Int32} {w k : Nat} : (mj_pnS σ b w k).1 51 (w + k) = σ.1 51 (w + k) := by
  show (if 51 = 51 ∧ w ≤ w + k ∧ w + k < w + k then _ else _) = _
  rw [if_neg (by omega)]
def mj_pn1 (σ : mj_St) (h p : Nat) : mj_St := mj_setI (mj_setI σ 46 9 (nI h)) 46 10 (1 <<< (nI p &&& 31))
def mj_pn2 (σ : mj_St) (w n h p : Nat) : mj_St := mj_mkR (mj_pnS (mj_pn1 σ h p) (1 <<< (nI p &&& 31)) w (h - w)) w 1 n
theorem sp_pinN {N w n h : Nat} {x : Int32} (hd : mj_pd σ N w 1) (hn : mj_pn σ n) (hw : w ≤ h) (hh : h < 12) (h0 : ¬ σ.1 46 4 = 0 ∨ mj_plc σ x n 0 = -2) : mj_ev X (d + 2) 116 [.ref 46, .int x, .int (nI h)] σ = some (some (.int 0), σ) := by
  have hp := sp_placeOf (X := X) (d := d) (x := x) hn.1 hn.2.1
  refine st116 ?_
  by_cases c : σ.1 46 4 = 0
  · have e := h0.resolve_left (fun z => z c)
    rw [e] at hp
    have q : (-2 : Int32) < 0 := by decide
    simp only [u116_0, u116_1, u116_2, u116_5, u116_6, u116_7, u116_10, u116_13, u116_14, u116_17, u116_18, u116_19, u116_22, u116_25, u116_28, u116_29, u116_31, u116_34, u116_35, u116_36, u116_37, u116_38, u116_41, u116_42, u116_43, u116_44, u116_45, u116_48, u116_49, u116_52, u116_55, u116_59, u116_60, u116_63, u116_64, u116_67, u116_69, u116_70, u116_71, u116_72, u116_75, u116_76, u116_77, u116_78, u116_79, u116_82, u116_85, u116_86, u116_89, u116_90, hp, eq_true c, q, mj_cc_v, mj_cc_n, List.all_cons, List.all_nil, mj_noMk_int, mj_noMk_long, mj_noMk_ref, mj_noMk_junk, List.length_nil, List.length_cons, Nat.zero_le, Nat.reduceLeDiff, Nat.reduceAdd, Bool.and_true, Bool.true_and, Bool.and_self, Nat.reduceBNe, true_or, or_true, true_and, and_true, mj_z0, mj_z1, mj_z01, decide_true, decide_false, Bool.true_and, Bool.false_and, Bool.and_true, Bool.and_false, Bool.true_or, Bool.false_or, Bool.or_false, Bool.or_true, Bool.not_true, Bool.not_false, Bool.and_self, Bool.or_self, if_true, if_false, Bool.true_eq_false, Bool.false_eq_true, not_true, not_false_eq_true]
  · simp only [u116_0, u116_1, u116_2, u116_5, u116_6, u116_7, u116_10, u116_13, u116_14, u116_17, u116_18, u116_19, u116_22, u116_25, u116_28, u116_29, u116_31, u116_34, u116_35, u116_36, u116_37, u116_38, u116_41, u116_42, u116_43, u116_44, u116_45, u116_48, u116_49, u116_52, u116_55, u116_59, u116_60, u116_63, u116_64, u116_67, u116_69, u116_70, u116_71, u116_72, u116_75, u116_76, u116_77, u116_78, u116_79, u116_82, u116_85, u116_86, u116_89, u116_90, hp, eq_false c, mj_cc_v, mj_cc_n, List.all_cons, List.all_nil, mj_noMk_int, mj_noMk_long, mj_noMk_ref, mj_noMk_junk, List.length_nil, List.length_cons, Nat.zero_le, Nat.reduceLeDiff, Nat.reduceAdd, Bool.and_true, Bool.true_and, Bool.and_self, Nat.reduceBNe, true_or, or_true, true_and, and_true, mj_z0, mj_z1, mj_z01, decide_true, decide_false, Bool.true_and, Bool.false_and, Bool.and_true, Bool.and_false, Bool.true_or, Bool.false_or, Bool.or_false, Bool.or_true, Bool.not_true, Bool.not_false, Bool.and_self, Bool.or_self, if_true, if_false, Bool.true_eq_false, Bool.false_eq_true, not_true, not_false_eq_true]
theorem sp_pin {N w n h p : Nat} {x : Int32} (hd : mj_pd σ N w 1) (hn : mj_pn σ n) (hl : σ.2.2.2.1 ≤ 20000) (hw : w ≤ h) (hh : h < 12) (hM : σ.1 46 4 = 0) (hpl : mj_plc σ x n 0 = nI p) (hp6 : p < 6) : mj_ev X (d + 5) 116 [.ref 46, .int x, .int (nI h)] σ = some (some (.int 1), mj_pn2 σ w n h p) := by
  have hp := sp_placeOf (X := X) (d := d + 3) (x := x) hn.1 hn.2.1
  rw [hpl] at hp
  obtain ⟨d1, d2, d3, d4, d5, d6, d7, d8⟩ := hd
  have q1 : ¬ nI p < 0 := nI_nlt (b := 0) (Nat.zero_le _) (by omega)
  have q2 : ¬ nI h < nI w := nI_nlt hw (by omega)
  have q3 : nI h < 12 := nI_lt (b := 12) hh (by decide)
  have loop : ∀ (j k : Nat), w + k + j = h → mj_Runs X (mj_ev X (d + 4)) 3 (some .boolean) prog_5_method_19_code (57, [.ref 46, .int x, .int (nI h), .int (nI p), .int (nI (w + k))], [], mj_pnS (mj_pn1 σ h p) (1 <<< (nI p &&& 31)) w k) (some (.int 1), mj_pn2 σ w n h p) := by
    intro j
    induction j with
    | zero =>
      intro k hk
      have hk' : k = h - w := by omega
      have q : ¬ nI (w + k) < nI h := nI_nlt (by omega) (by omega)
      have s46 : ∀ i, i ≠ 9 → i ≠ 10 → (mj_pnS (mj_pn1 σ h p) (1 <<< (nI p &&& 31)) w k).1 46 i = σ.1 46 i := fun i a b => by
        rw [mj_pnS_o (by decide)]
        unfold mj_pn1
        rw [mj_setI_i b, mj_setI_i a]
      have sc : ∀ c, c ≠ 46 → c ≠ 51 → (mj_pnS (mj_pn1 σ h p) (1 <<< (nI p &&& 31)) w k).1 c = σ.1 c := fun c a b => by
        rw [mj_pnS_o b]
        unfold mj_pn1
        rw [mj_setI_ne _ _ _ a, mj_setI_ne _ _ _ a]
      have pd : mj_pd (mj_pnS (mj_pn1 σ h p) (1 <<< (nI p &&& 31)) w k) N w 1 := mj_pd_o (σ := σ) rfl (sc 14 (by decide) (by decide)) (s46 2 (by decide) (by decide)) (sc 20 (by decide) (by decide)) ⟨d1, d2, d3, d4, d5, d6, d7, d8⟩
      have pn : mj_pn (mj_pnS (mj_pn1 σ h p) (1 <<< (nI p &&& 31)) w k) n := mj_pn_o (σ := σ) (s46 5 (by decide) (by decide)) (sc 47 (by decide) (by decide)) hn
      have hm := sp_makeReady (X := X) (d := d) pd pn hl
      unfold mj_pn2
      rw [← hk']
      refine u116_57.mpr ?_
      simp only [u116_0, u116_1, u116_2, u116_5, u116_6, u116_7, u116_10, u116_13, u116_14, u116_17, u116_18, u116_19, u116_22, u116_25, u116_28, u116_29, u116_31, u116_34, u116_35, u116_36, u116_37, u116_38, u116_41, u116_42, u116_43, u116_44, u116_45, u116_48, u116_49, u116_52, u116_55, u116_59, u116_60, u116_63, u116_64, u116_67, u116_69, u116_70, u116_71, u116_72, u116_75, u116_76, u116_77, u116_78, u116_79, u116_82, u116_85, u116_86, u116_89, u116_90, q, hm, mj_cc_v, mj_cc_n, List.all_cons, List.all_nil, mj_noMk_int, mj_noMk_long, mj_noMk_ref, mj_noMk_junk, List.length_nil, List.length_cons, Nat.zero_le, Nat.reduceLeDiff, Nat.reduceAdd, Bool.and_true, Bool.true_and, Bool.and_self, Nat.reduceBNe, true_or, or_true, true_and, and_true, mj_z0, mj_z1, mj_z01, decide_true, decide_false, Bool.true_and, Bool.false_and, Bool.and_true, Bool.and_false, Bool.true_or, Bool.false_or, Bool.or_false, Bool.or_true, Bool.not_true, Bool.not_false, Bool.and_self, Bool.or_self, if_true, if_false, Bool.true_eq_false, Bool.false_eq_true, not_true, not_false_eq_true]
    | succ j ih =>
      intro k hk
      have q : nI (w + k) < nI h := nI_lt (by omega) (by omega)
      have k96 : w + k < 96 := by omega
      have r10 : (mj_pnS (mj_pn1 σ h p) (1 <<< (nI p &&& 31)) w k).1 46 10 = 1 <<< (nI p &&& 31) := by
        rw [mj_pnS_o (by decide)]
        exact mj_setI_eq
      have r51 : (mj_pnS (mj_pn1 σ h p) (1 <<< (nI p &&& 31)) w k).1 51 (w + k) = (mj_pn1 σ h p).1 51 (w + k) := mj_pnS_r
      have hl := ih (k + 1) (by omega)
      rw [← mj_pnS_s] at hl
      refine u116_57.mpr ?_
      simp only [u116_0, u116_1, u116_2, u116_5, u116_6, u116_7, u116_10, u116_13, u116_14, u116_17, u116_18, u116_19, u116_22, u116_25, u116_28, u116_29, u116_31, u116_34, u116_35, u116_36, u116_37, u116_38, u116_41, u116_42, u116_43, u116_44, u116_45, u116_48, u116_49, u116_52, u116_55, u116_59, u116_60, u116_63, u116_64, u116_67, u116_69, u116_70, u116_71, u116_72, u116_75, u116_76, u116_77, u116_78, u116_79, u116_82, u116_85, u116_86, u116_89, u116_90, q, mj_in_nI k96 (by decide), mj_nz9 k96 (by decide), r10, r51, nI_1, mj_cc_v, mj_cc_n, List.all_cons, List.all_nil, mj_noMk_int, mj_noMk_long, mj_noMk_ref, mj_noMk_junk, List.length_nil, List.length_cons, Nat.zero_le, Nat.reduceLeDiff, Nat.reduceAdd, Bool.and_true, Bool.true_and, Bool.and_self, Nat.reduceBNe, true_or, or_true, true_and, and_true, mj_z0, mj_z1, mj_z01, decide_true, decide_false, Bool.true_and, Bool.false_and, Bool.and_true, Bool.and_false, Bool.true_or, Bool.false_or, Bool.or_false, Bool.or_true, Bool.not_true, Bool.not_false, Bool.and_self, Bool.or_self, if_true, if_false, Bool.true_eq_false, Bool.false_eq_true, not_true, not_false_eq_true]
      exact hl
  have h1 := loop (h - w) 0 (by omega)
  rw [mj_pnS_0] at h1
  unfold mj_pn1 at h1
  have u1 : ∀ (i : Nat) (v : Int32), (mj_setI σ 46 i v).1 14 = σ.1 14 := fun i v => mj_setI_ne σ i v (by decide)
  have u2 : ∀ (S : mj_St) (i : Nat) (v : Int32), (mj_setI S 46 i v).1 14 = S.1 14 := fun S i v => mj_setI_ne S i v (by decide)
  have u3 : ∀ (S : mj_St) (i : Nat) (v : Int32), (mj_setI S 46 i v).2 = S.2 := fun S i v => rfl
  refine st116 ?_
  simp only [u116_0, u116_1, u116_2, u116_5, u116_6, u116_7, u116_10, u116_13, u116_14, u116_17, u116_18, u116_19, u116_22, u116_25, u116_28, u116_29, u116_31, u116_34, u116_35, u116_36, u116_37, u116_38, u116_41, u116_42, u116_43, u116_44, u116_45, u116_48, u116_49, u116_52, u116_55, u116_59, u116_60, u116_63, u116_64, u116_67, u116_69, u116_70, u116_71, u116_72, u116_75, u116_76, u116_77, u116_78, u116_79, u116_82, u116_85, u116_86, u116_89, u116_90, hp, eq_true hM, d1, d4, q1, q2, q3, u2, u3, mj_rf_some, mj_rf14, mj_cc_v, mj_cc_n, List.all_cons, List.all_nil, mj_noMk_int, mj_noMk_long, mj_noMk_ref, mj_noMk_junk, List.length_nil, List.length_cons, Nat.zero_le, Nat.reduceLeDiff, Nat.reduceAdd, Bool.and_true, Bool.true_and, Bool.and_self, Nat.reduceBNe, true_or, or_true, true_and, and_true, mj_z0, mj_z1, mj_z01, decide_true, decide_false, Bool.true_and, Bool.false_and, Bool.and_true, Bool.and_false, Bool.true_or, Bool.false_or, Bool.or_false, Bool.or_true, Bool.not_true, Bool.not_false, Bool.and_self, Bool.or_self, if_true, if_false, Bool.true_eq_false, Bool.false_eq_true, not_true, not_false_eq_true]
  exact h1
end
