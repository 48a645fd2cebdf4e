section
variable {X : mj_X} {d : Nat} {σ τ : mj_St}
/-- a state between calls, ready for searches of the reference -/
def mj_Mst (σ : mj_St) (N R w t : Nat) : Prop := mj_Wd σ N ∧ mj_Scr σ R ∧ σ.1 61 1 = nI w ∧ w ≤ 12 ∧ σ.1 61 2 = nI t ∧ t < 8
theorem mj_Mst_Fq {N R R' w t : Nat} (F : mj_Fq σ τ) (S : mj_Scr τ R') (h : mj_Mst σ N R w t) : mj_Mst τ N R' w t := by
  refine ⟨mj_Fq_Wd F h.1, S, ?_, h.2.2.2.1, ?_, h.2.2.2.2.2⟩
  · rw [F.2.2 1 (by decide) (by decide) (by decide) (by decide) (by decide) (by decide)]
    exact h.2.2.1
  · rw [F.2.2 2 (by decide) (by decide) (by decide) (by decide) (by decide) (by decide)]
    exact h.2.2.2.2.1
/-- what a search finds does not hang on what searches left -/
theorem mj_Fq_Sm {N : Nat} (F : mj_Fq σ τ) : mj_Sm (mj_cnS σ N) (mj_cnS τ N) := by
  refine ⟨fun c h1 h2 h3 h4 h5 => ?_, ?_⟩
  · rw [mj_cnS_o h2 h1, mj_cnS_o h2 h1, F.2.1 c h1 h2 h3 h4 h5]
  · show mj_Mring τ N N = mj_Mring σ N N
    unfold mj_Mring mj_Mrg
    rw [F.2.1 65 (by decide) (by decide) (by decide) (by decide) (by decide), F.2.1 69 (by decide) (by decide) (by decide) (by decide) (by decide)]
theorem mj_Fq_lvn (F : mj_Fq σ τ) : mj_lvn τ = mj_lvn σ := by
  funext i
  unfold mj_lvn
  rw [F.2.1 76 (by decide) (by decide) (by decide) (by decide) (by decide), F.2.1 77 (by decide) (by decide) (by decide) (by decide) (by decide)]
theorem mj_Fq_Mls (F : mj_Fq σ τ) : mj_Mls τ = mj_Mls σ := by
  funext m n
  unfold mj_Mls
  rw [F.2.1 77 (by decide) (by decide) (by decide) (by decide) (by decide)]
theorem mj_Fq_Mkept {N w : Nat} {o mt : Int32} (F : mj_Fq σ τ) : mj_Mkept τ o mt N w = mj_Mkept σ o mt N w := by
  unfold mj_Mkept
  rw [mj_Fq_Mls F, mj_Fq_lvn F, mj_Sm_Kp (mj_Fq_Sm F)]
theorem mj_Fq_evy (F : mj_Fq σ τ) : mj_evy τ = mj_evy σ := by
  unfold mj_evy
  rw [F.2.2 0 (by decide) (by decide) (by decide) (by decide) (by decide) (by decide)]
theorem mj_Fq_Mkb (F : mj_Fq σ τ) : mj_Mkb τ = mj_Mkb σ := by
  funext h n
  unfold mj_Mkb
  rw [F.2.1 64 (by decide) (by decide) (by decide) (by decide) (by decide)]
theorem sp_M_can {N R w t : Nat} {o : Int32} (hM : mj_Mst σ N R w t) (hR : R + 1 < 2147483648) : ∃ ρ, mj_Fq σ ρ ∧ mj_Scr ρ (R + 1) ∧ ∀ d, mj_ev X (d + 29) 190 [.ref 61, .int o] σ = some (if mj_inb o 8 = true then (some (.int (mj_z (mj_Mkept σ o (mj_evy σ) N w))), ρ) else (some (.int (-6)), mj_rfM σ (-6))) := by
  obtain ⟨hW, hS, hw, hw12, -, -⟩ := hM
  obtain ⟨ρ, F, S, hk⟩ := sp_M_isKept (X := X) (o := o) (mt := mj_evy σ) hW hS hR hw hw12
  refine ⟨ρ, F, S, fun d => ?_⟩
  have ho := sp_M_isOutcome (X := X) (d := d + 27) (x := o) (σ := σ)
  have hev := sp_M_everything (X := X) (d := d + 27) (σ := σ)
  have hev' : mj_ev X (d + 28) 192 [.ref 61] σ = some (some (.int (mj_evy σ)), σ) := hev
  have h6 := sp_no6 (X := X) (d := d + 27) (σ := σ)
  refine st190 ?_
  cases c : mj_inb o 8
  · rw [c] at ho
    simp only [u190_0, u190_1, u190_2, u190_5, u190_8, u190_9, u190_11, u190_14, u190_15, u190_16, u190_17, u190_18, u190_21, u190_24, u190_27, u190_28, u190_31, u190_32, ho, h6, mj_cc_v, mj_cc_n, List.all_cons, List.all_nil, mj_noMk_int, mj_noMk_long, mj_noMk_ref, mj_noMk_junk, List.length_nil, List.length_cons, Nat.zero_le, Nat.reduceLeDiff, Nat.reduceAdd, Bool.and_true, Bool.true_and, Bool.and_self, Nat.reduceBNe, true_or, or_true, true_and, and_true, mj_z0, mj_z1, mj_z01, decide_true, decide_false, Bool.true_and, Bool.false_and, Bool.and_true, Bool.and_false, Bool.true_or, Bool.false_or, Bool.or_false, Bool.or_true, Bool.not_true, Bool.not_false, Bool.and_self, Bool.or_self, if_true, if_false, Bool.true_eq_false, Bool.false_eq_true, not_true, not_false_eq_true]
  · rw [c] at ho
    have hkd := hk d
    cases c2 : mj_Mkept σ o (mj_evy σ) N w
    · rw [c2] at hkd
      simp only [u190_0, u190_1, u190_2, u190_5, u190_8, u190_9, u190_11, u190_14, u190_15, u190_16, u190_17, u190_18, u190_21, u190_24, u190_27, u190_28, u190_31, u190_32, ho, hev', hkd, mj_zF, mj_cc_v, mj_cc_n, List.all_cons, List.all_nil, mj_noMk_int, mj_noMk_long, mj_noMk_ref, mj_noMk_junk, List.length_nil, List.length_cons, Nat.zero_le, Nat.reduceLeDiff, Nat.reduceAdd, Bool.and_true, Bool.true_and, Bool.and_self, Nat.reduceBNe, true_or, or_true, true_and, and_true, mj_z0, mj_z1, mj_z01, decide_true, decide_false, Bool.true_and, Bool.false_and, Bool.and_true, Bool.and_false, Bool.true_or, Bool.false_or, Bool.or_false, Bool.or_true, Bool.not_true, Bool.not_false, Bool.and_self, Bool.or_self, if_true, if_false, Bool.true_eq_false, Bool.false_eq_true, not_true, not_false_eq_true]
    · rw [c2] at hkd
      simp only [u190_0, u190_1, u190_2, u190_5, u190_8, u190_9, u190_11, u190_14, u190_15, u190_16, u190_17, u190_18, u190_21, u190_24, u190_27, u190_28, u190_31, u190_32, ho, hev', hkd, mj_zT, mj_cc_v, mj_cc_n, List.all_cons, List.all_nil, mj_noMk_int, mj_noMk_long, mj_noMk_ref, mj_noMk_junk, List.length_nil, List.length_cons, Nat.zero_le, Nat.reduceLeDiff, Nat.reduceAdd, Bool.and_true, Bool.true_and, Bool.and_self, Nat.reduceBNe, true_or, or_true, true_and, and_true, mj_z0, mj_z1, mj_z01, decide_true, decide_false, Bool.true_and, Bool.false_and, Bool.and_true, Bool.and_false, Bool.true_or, Bool.false_or, Bool.or_false, Bool.or_true, Bool.not_true, Bool.not_false, Bool.and_self, Bool.or_self, if_true, if_false, Bool.true_eq_false, Bool.false_eq_true, not_true, not_false_eq_true]
      simp [mj_z]
theorem sp_M_all {N R w t : Nat} (hM : mj_Mst σ N R w t) (hR : R + 1 < 2147483648) : ∃ ρ, mj_Fq σ ρ ∧ mj_Scr ρ (R + 1) ∧ ∀ d, mj_ev X (d + 29) 213 [.ref 61] σ = some (some (.int (mj_z (mj_Mall σ N w))), ρ) := by
  obtain ⟨hW, hS, hw, hw12, ht, ht8⟩ := hM
  obtain ⟨ρ, F, S, hk⟩ := sp_M_bearsAll (X := X) hW hS hR hw hw12 ht ht8
  refine ⟨ρ, F, S, fun d => ?_⟩
  have hkd := hk d
  refine st213 ?_
  cases c : mj_Mall σ N w
  · rw [c] at hkd
    simp only [u213_0, u213_1, u213_4, u213_7, u213_8, u213_11, u213_12, hkd, mj_zF, mj_cc_v, mj_cc_n, List.all_cons, List.all_nil, mj_noMk_int, mj_noMk_long, mj_noMk_ref, mj_noMk_junk, List.length_nil, List.length_cons, Nat.zero_le, Nat.reduceLeDiff, Nat.reduceAdd, Bool.and_true, Bool.true_and, Bool.and_self, Nat.reduceBNe, true_or, or_true, true_and, and_true, mj_z0, mj_z1, mj_z01, decide_true, decide_false, Bool.true_and, Bool.false_and, Bool.and_true, Bool.and_false, Bool.true_or, Bool.false_or, Bool.or_false, Bool.or_true, Bool.not_true, Bool.not_false, Bool.and_self, Bool.or_self, if_true, if_false, Bool.true_eq_false, Bool.false_eq_true, not_true, not_false_eq_true]
  · rw [c] at hkd
    simp only [u213_0, u213_1, u213_4, u213_7, u213_8, u213_11, u213_12, hkd, mj_zT, mj_cc_v, mj_cc_n, List.all_cons, List.all_nil, mj_noMk_int, mj_noMk_long, mj_noMk_ref, mj_noMk_junk, List.length_nil, List.length_cons, Nat.zero_le, Nat.reduceLeDiff, Nat.reduceAdd, Bool.and_true, Bool.true_and, Bool.and_self, Nat.reduceBNe, true_or, or_true, true_and, and_true, mj_z0, mj_z1, mj_z01, decide_true, decide_false, Bool.true_and, Bool.false_and, Bool.and_true, Bool.and_false, Bool.true_or, Bool.false_or, Bool.or_false, Bool.or_true, Bool.not_true, Bool.not_false, Bool.and_self, Bool.or_self, if_true, if_false, Bool.true_eq_false, Bool.false_eq_true, not_true, not_false_eq_true]
    simp [mj_z]
/-- the first way that all can't be kept -/
def mj_Mtr (σ : mj_St) (N w : Nat) (t : Int32) (o : Nat) : Bool := decide (nI o &&& mj_Mkb σ (nI w) 3 = t &&& mj_Mkb σ (nI w) 3) && !(mj_Mkept σ (nI o) (mj_evy σ) N w)
theorem sp_M_trap {N R w t : Nat} (hM : mj_Mst σ N R w t) (hR : R + 8 < 2147483648) : ∃ ρ, mj_Fq σ ρ ∧ mj_Scr ρ (R + 8) ∧ ∀ d, mj_ev X (d + 29) 219 [.ref 61] σ = some (some (.int (mj_fst (mj_Mtr σ N w (nI t)) 0 8)), ρ) := by
  have loop : ∀ (j k : Nat) (τ : mj_St), k + j = 8 → mj_Fq σ τ → mj_Scr τ (R + k) → ∃ ρ, mj_Fq σ ρ ∧ mj_Scr ρ (R + 8) ∧ ∀ d, mj_Runs X (mj_ev X (d + 28)) 6 (some .int) prog_8_method_65_code (11, [.ref 61, .int (mj_Mkb σ (nI w) 3), .int (nI k)], [], τ) (some (.int (mj_fst (mj_Mtr σ N w (nI t)) k j)), ρ) := by
    intro j
    induction j with
    | zero =>
      intro k τ hk F S
      have hk8 : k = 8 := by omega
      subst hk8
      refine ⟨τ, F, S, fun d => ?_⟩
      refine u219_11.mpr ?_
      have h8 : ¬ nI 8 < 8 := by decide
      simp only [u219_0, u219_1, u219_2, u219_5, u219_8, u219_9, u219_10, u219_12, u219_14, u219_17, u219_18, u219_19, u219_20, u219_21, u219_24, u219_25, u219_26, u219_29, u219_30, u219_31, u219_32, u219_35, u219_38, u219_41, u219_42, u219_43, u219_46, u219_49, u219_50, h8, if_false, mj_fst]
    | succ j ih =>
      intro k τ hk F S
      have h8 : nI k < 8 := nI_lt (b := 8) (by omega) (by decide)
      have M := mj_Mst_Fq F S hM
      have et := M.2.2.2.2.1
      simp only [mj_fst]
      by_cases c1 : nI k &&& mj_Mkb σ (nI w) 3 = nI t &&& mj_Mkb σ (nI w) 3
      · obtain ⟨ρ, F2, S2, hq⟩ := sp_M_isKept (X := X) (o := nI k) (mt := mj_evy τ) M.1 M.2.1 (by omega) M.2.2.1 M.2.2.2.1
        rw [mj_Fq_Mkept F, mj_Fq_evy F] at hq
        have hev : ∀ d, mj_ev X (d + 28) 192 [.ref 61] τ = some (some (.int (mj_evy σ)), τ) := fun d => by
          have q := sp_M_everything (X := X) (d := d + 27) (σ := τ)
          rw [← mj_Fq_evy F]
          exact q
        have Fρ := mj_Fq_tr F F2
        cases c2 : mj_Mkept σ (nI k) (mj_evy σ) N w
        · refine ⟨ρ, Fρ, ⟨S2.1, S2.2.1, ?_, S2.2.2.2⟩, fun d => ?_⟩
          · have := S2.2.2.1
            omega
          · have hqd := hq d
            rw [c2] at hqd
            have e : mj_Mtr σ N w (nI t) k = true := by
              unfold mj_Mtr
              rw [c2, decide_eq_true c1]
              rfl
            refine u219_11.mpr ?_
            simp only [u219_0, u219_1, u219_2, u219_5, u219_8, u219_9, u219_10, u219_12, u219_14, u219_17, u219_18, u219_19, u219_20, u219_21, u219_24, u219_25, u219_26, u219_29, u219_30, u219_31, u219_32, u219_35, u219_38, u219_41, u219_42, u219_43, u219_46, u219_49, u219_50, h8, et, c1, hev d, hqd, e, mj_zF, mj_cc_v, mj_cc_n, List.all_cons, List.all_nil, mj_noMk_int, mj_noMk_long, mj_noMk_ref, mj_noMk_junk, List.length_nil, List.length_cons, Nat.zero_le, Nat.reduceLeDiff, Nat.reduceAdd, Bool.and_true, Bool.true_and, Bool.and_self, Nat.reduceBNe, true_or, or_true, true_and, and_true, mj_z0, mj_z1, mj_z01, decide_true, decide_false, Bool.true_and, Bool.false_and, Bool.and_true, Bool.and_false, Bool.true_or, Bool.false_or, Bool.or_false, Bool.or_true, Bool.not_true, Bool.not_false, Bool.and_self, Bool.or_self, if_true, if_false, Bool.true_eq_false, Bool.false_eq_true, not_true, not_false_eq_true]
        · obtain ⟨ρ2, F3, S3, hg⟩ := ih (k + 1) ρ (by omega) Fρ (by rw [← Nat.add_assoc]; exact S2)
          refine ⟨ρ2, F3, S3, fun d => ?_⟩
          have hqd := hq d
          rw [c2] at hqd
          have e : mj_Mtr σ N w (nI t) k = false := by
            unfold mj_Mtr
            rw [c2, Bool.not_true, Bool.and_false]
          have hf := hg d
          refine u219_11.mpr ?_
          simp only [u219_0, u219_1, u219_2, u219_5, u219_8, u219_9, u219_10, u219_12, u219_14, u219_17, u219_18, u219_19, u219_20, u219_21, u219_24, u219_25, u219_26, u219_29, u219_30, u219_31, u219_32, u219_35, u219_38, u219_41, u219_42, u219_43, u219_46, u219_49, u219_50, h8, et, c1, hev d, hqd, e, mj_cc_v, mj_cc_n, List.all_cons, List.all_nil, mj_noMk_int, mj_noMk_long, mj_noMk_ref, mj_noMk_junk, List.length_nil, List.length_cons, Nat.zero_le, Nat.reduceLeDiff, Nat.reduceAdd, Bool.and_true, Bool.true_and, Bool.and_self, Nat.reduceBNe, true_or, or_true, true_and, and_true, mj_z0, mj_z1, mj_z01, decide_true, decide_false, Bool.true_and, Bool.false_and, Bool.and_true, Bool.and_false, Bool.true_or, Bool.false_or, Bool.or_false, Bool.or_true, Bool.not_true, Bool.not_false, Bool.and_self, Bool.or_self, if_true, if_false, Bool.true_eq_false, Bool.false_eq_true, not_true, not_false_eq_true, nI_1]
          exact hf
      · obtain ⟨ρ2, F3, S3, hg⟩ := ih (k + 1) τ (by omega) F ⟨S.1, S.2.1, by have := S.2.2.1; omega, S.2.2.2⟩
        refine ⟨ρ2, F3, S3, fun d => ?_⟩
        have e : mj_Mtr σ N w (nI t) k = false := by
          unfold mj_Mtr
          rw [decide_eq_false c1, Bool.false_and]
        have hf := hg d
        refine u219_11.mpr ?_
        simp only [u219_0, u219_1, u219_2, u219_5, u219_8, u219_9, u219_10, u219_12, u219_14, u219_17, u219_18, u219_19, u219_20, u219_21, u219_24, u219_25, u219_26, u219_29, u219_30, u219_31, u219_32, u219_35, u219_38, u219_41, u219_42, u219_43, u219_46, u219_49, u219_50, h8, et, c1, e, mj_cc_v, mj_cc_n, List.all_cons, List.all_nil, mj_noMk_int, mj_noMk_long, mj_noMk_ref, mj_noMk_junk, List.length_nil, List.length_cons, Nat.zero_le, Nat.reduceLeDiff, Nat.reduceAdd, Bool.and_true, Bool.true_and, Bool.and_self, Nat.reduceBNe, true_or, or_true, true_and, and_true, mj_z0, mj_z1, mj_z01, decide_true, decide_false, Bool.true_and, Bool.false_and, Bool.and_true, Bool.and_false, Bool.true_or, Bool.false_or, Bool.or_false, Bool.or_true, Bool.not_true, Bool.not_false, Bool.and_self, Bool.or_self, if_true, if_false, Bool.true_eq_false, Bool.false_eq_true, not_true, not_false_eq_true, nI_1]
        exact hf
  obtain ⟨ρ, F, S, hq⟩ := loop 8 0 σ (by omega) mj_Fq_rf hM.2.1
  refine ⟨ρ, F, S, fun d => ?_⟩
  have hkb := sp_M_knownBy (X := X) (d := d + 27) (σ := σ) (h := nI w)
  have hf := hq d
  refine st219 ?_
  have ew := hM.2.2.1
  simp only [u219_0, u219_1, u219_2, u219_5, u219_8, u219_9, u219_10, u219_12, u219_14, u219_17, u219_18, u219_19, u219_20, u219_21, u219_24, u219_25, u219_26, u219_29, u219_30, u219_31, u219_32, u219_35, u219_38, u219_41, u219_42, u219_43, u219_46, u219_49, u219_50, ew, hkb, mj_cc_v, mj_cc_n, List.all_cons, List.all_nil, mj_noMk_int, mj_noMk_long, mj_noMk_ref, mj_noMk_junk, List.length_nil, List.length_cons, Nat.zero_le, Nat.reduceLeDiff, Nat.reduceAdd, Bool.and_true, Bool.true_and, Bool.and_self, Nat.reduceBNe, true_or, or_true, true_and, and_true, mj_z0, mj_z1, mj_z01]
  exact hf
end
