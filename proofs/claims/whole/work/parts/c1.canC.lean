section
variable {X : mj_X} {d : Nat} {σ τ ρ : mj_St}
theorem mj_evC_ev : mj_ev X (d + 1) 53 [.ref 14] σ = some (some (.int (mj_evC σ)), σ) := sp_everyone
theorem mj_evC_Fs (F : mj_Fs σ τ) : mj_evC τ = mj_evC σ := by
  unfold mj_evC
  rw [F.1 14 (Or.inl (by decide))]
theorem sp_canN {o : Int32} (h : mj_inb o 8 = false) : mj_ev X (d + 2) 51 [.ref 0, .int o] σ = some (some (.int (-6)), mj_rfC σ (-6)) := by
  have h1 := sp_isOutcome (X := X) (d := d) (x := o) (σ := σ)
  rw [h] at h1
  have h2 := sp_rf6 (X := X) (d := d) (σ := σ)
  have hr : (mj_rfC σ (-6)).2.2.2.2 = σ.2.2.2.2 := rfl
  refine st51 ?_
  simp only [u51_0, u51_1, u51_4, u51_7, u51_8, u51_10, u51_13, u51_14, u51_15, u51_16, u51_19, u51_22, u51_23, u51_26, u51_29, u51_30, u51_33, u51_34, h1, h2, hr, mj_zF, mj_cc_v, mj_cc_n, List.all_cons, List.all_nil, mj_noMk_int, mj_noMk_long, mj_noMk_ref, mj_noMk_junk, List.length_nil, List.length_cons, Nat.zero_le, Nat.reduceLeDiff, Nat.reduceAdd, Bool.and_true, Bool.true_and, Bool.and_self, Nat.reduceBNe, true_or, or_true, true_and, and_true, mj_z0, mj_z1, mj_z01, decide_true, decide_false, Bool.true_and, Bool.false_and, Bool.and_true, Bool.and_false, Bool.true_or, Bool.false_or, Bool.or_false, Bool.or_true, Bool.not_true, Bool.not_false, Bool.and_self, Bool.or_self, if_true, if_false, Bool.true_eq_false, Bool.false_eq_true, not_true, not_false_eq_true]
theorem sp_canC {N w o : Nat} {K : Int32 → Nat → Bool} (hX : mj_XS X) (hc : mj_pc σ N w) (he : mj_pe σ) (hK : mj_KH σ N w K) (ho : o < 8) : ∃ ρ, mj_Fs σ ρ ∧ ∀ d, mj_ev X (d + 42) 51 [.ref 0, .int (nI o)] σ = some (some (.int (mj_z (K (mj_evC σ) o))), ρ) := by
  obtain ⟨ρ, G, h⟩ := sp_keptC (set := mj_evC σ) (o := nI o) hX hc he
  rw [hK σ mj_Fs_rf (mj_evC σ) o ho] at h
  refine ⟨ρ, G, fun d => ?_⟩
  have h1 := sp_isOutcome (X := X) (d := d + 40) (x := nI o) (σ := σ)
  rw [mj_in_nI (show o < 8 by omega) (by decide)] at h1
  have h2 := mj_evC_ev (X := X) (d := d + 40) (σ := σ)
  have hd := h d
  refine st51 ?_
  cases b : K (mj_evC σ) o
  · rw [b] at hd
    simp only [u51_0, u51_1, u51_4, u51_7, u51_8, u51_10, u51_13, u51_14, u51_15, u51_16, u51_19, u51_22, u51_23, u51_26, u51_29, u51_30, u51_33, u51_34, h1, h2, hd, mj_zF, mj_zT, mj_n10, mj_cc_v, mj_cc_n, List.all_cons, List.all_nil, mj_noMk_int, mj_noMk_long, mj_noMk_ref, mj_noMk_junk, List.length_nil, List.length_cons, Nat.zero_le, Nat.reduceLeDiff, Nat.reduceAdd, Bool.and_true, Bool.true_and, Bool.and_self, Nat.reduceBNe, true_or, or_true, true_and, and_true, mj_z0, mj_z1, mj_z01, decide_true, decide_false, Bool.true_and, Bool.false_and, Bool.and_true, Bool.and_false, Bool.true_or, Bool.false_or, Bool.or_false, Bool.or_true, Bool.not_true, Bool.not_false, Bool.and_self, Bool.or_self, if_true, if_false, Bool.true_eq_false, Bool.false_eq_true, not_true, not_false_eq_true]
  · rw [b] at hd
    simp only [u51_0, u51_1, u51_4, u51_7, u51_8, u51_10, u51_13, u51_14, u51_15, u51_16, u51_19, u51_22, u51_23, u51_26, u51_29, u51_30, u51_33, u51_34, h1, h2, hd, mj_zT, mj_n10, mj_cc_v, mj_cc_n, List.all_cons, List.all_nil, mj_noMk_int, mj_noMk_long, mj_noMk_ref, mj_noMk_junk, List.length_nil, List.length_cons, Nat.zero_le, Nat.reduceLeDiff, Nat.reduceAdd, Bool.and_true, Bool.true_and, Bool.and_self, Nat.reduceBNe, true_or, or_true, true_and, and_true, mj_z0, mj_z1, mj_z01, decide_true, decide_false, Bool.true_and, Bool.false_and, Bool.and_true, Bool.and_false, Bool.true_or, Bool.false_or, Bool.or_false, Bool.or_true, Bool.not_true, Bool.not_false, Bool.and_self, Bool.or_self, if_true, if_false, Bool.true_eq_false, Bool.false_eq_true, not_true, not_false_eq_true]
theorem sp_allC {N w : Nat} {K : Int32 → Nat → Bool} {b : Bool} (hX : mj_XS X) (hc : mj_pc σ N w) (he : mj_pe σ) (hK : mj_KH σ N w K) (hB : mj_BH σ N w b) : ∃ ρ, mj_Fs σ ρ ∧ ∀ d, mj_ev X (d + 43) 99 [.ref 0] σ = some (some (.int (mj_z (mj_bav σ N K b))), ρ) := by
  obtain ⟨ρ, G, -, h⟩ := sp_bearsC hX hc he hK hB
  refine ⟨ρ, G, fun d => ?_⟩
  have hd := h d
  refine st99 ?_
  cases c : mj_bav σ N K b
  · rw [c] at hd
    simp only [u99_0, u99_1, u99_4, u99_7, u99_8, u99_11, u99_12, hd, mj_zF, mj_cc_v, mj_cc_n, List.all_cons, List.all_nil, mj_noMk_int, mj_noMk_long, mj_noMk_ref, mj_noMk_junk, List.length_nil, List.length_cons, Nat.zero_le, Nat.reduceLeDiff, Nat.reduceAdd, Bool.and_true, Bool.true_and, Bool.and_self, Nat.reduceBNe, true_or, or_true, true_and, and_true, mj_z0, mj_z1, mj_z01, decide_true, decide_false, Bool.true_and, Bool.false_and, Bool.and_true, Bool.and_false, Bool.true_or, Bool.false_or, Bool.or_false, Bool.or_true, Bool.not_true, Bool.not_false, Bool.and_self, Bool.or_self, if_true, if_false, Bool.true_eq_false, Bool.false_eq_true, not_true, not_false_eq_true]
  · rw [c] at hd
    simp only [u99_0, u99_1, u99_4, u99_7, u99_8, u99_11, u99_12, hd, mj_zT, mj_n10, mj_cc_v, mj_cc_n, List.all_cons, List.all_nil, mj_noMk_int, mj_noMk_long, mj_noMk_ref, mj_noMk_junk, List.length_nil, List.length_cons, Nat.zero_le, Nat.reduceLeDiff, Nat.reduceAdd, Bool.and_true, Bool.true_and, Bool.and_self, Nat.reduceBNe, true_or, or_true, true_and, and_true, mj_z0, mj_z1, mj_z01, decide_true, decide_false, Bool.true_and, Bool.false_and, Bool.and_true, Bool.and_false, Bool.true_or, Bool.false_or, Bool.or_false, Bool.or_true, Bool.not_true, Bool.not_false, Bool.and_self, Bool.or_self, if_true, if_false, Bool.true_eq_false, Bool.false_eq_true, not_true, not_false_eq_true]
-- trap: the first outcome that fails
def mj_tsl (σ : mj_St) (o : Nat) : Bool := decide ((nI o ^^^ σ.1 14 18) &&& mj_tld σ = 0)
def mj_trv (σ : mj_St) (K : Int32 → Nat → Bool) : Nat → Nat → Int32
  | 0, _ => -1
  | j + 1, o => if mj_tsl σ o = true ∧ K (mj_evC σ) o = false then nI o else mj_trv σ K j (o + 1)
theorem sp_trapC {N w : Nat} {K : Int32 → Nat → Bool} (hX : mj_XS X) (hc : mj_pc σ N w) (he : mj_pe σ) (hK : mj_KH σ N w K) : ∃ ρ, mj_Fs σ ρ ∧ ∀ d, mj_ev X (d + 42) 102 [.ref 0] σ = some (some (.int (mj_trv σ K 8 0)), ρ) := by
  have loop : ∀ (j o : Nat) (τ : mj_St), o + j = 8 → mj_Fs σ τ → ∃ ρ, mj_Fs σ ρ ∧ ∀ d, mj_Runs X (mj_ev X (d + 41)) 5 (some .int) prog_1_method_20_code (10, [.ref 0, .int (mj_tld σ), .int (nI o)], [], τ) (some (.int (mj_trv σ K j o)), ρ) := by
    intro j
    induction j with
    | zero =>
      intro o τ ho F
      have q : ¬ nI o < 8 := nI_nlt (b := 8) (by omega) (by omega)
      refine ⟨τ, F, fun d => ?_⟩
      refine u102_10.mpr ?_
      simp only [u102_0, u102_1, u102_4, u102_7, u102_8, u102_9, u102_11, u102_13, u102_16, u102_17, u102_18, u102_21, u102_24, u102_25, u102_26, u102_27, u102_30, u102_31, u102_32, u102_35, u102_38, u102_39, u102_42, u102_45, u102_46, u102_47, u102_50, u102_53, u102_54, q, mj_trv, mj_cc_v, mj_cc_n, List.all_cons, List.all_nil, mj_noMk_int, mj_noMk_long, mj_noMk_ref, mj_noMk_junk, List.length_nil, List.length_cons, Nat.zero_le, Nat.reduceLeDiff, Nat.reduceAdd, Bool.and_true, Bool.true_and, Bool.and_self, Nat.reduceBNe, true_or, or_true, true_and, and_true, mj_z0, mj_z1, mj_z01, decide_true, decide_false, Bool.true_and, Bool.false_and, Bool.and_true, Bool.and_false, Bool.true_or, Bool.false_or, Bool.or_false, Bool.or_true, Bool.not_true, Bool.not_false, Bool.and_self, Bool.or_self, if_true, if_false, Bool.true_eq_false, Bool.false_eq_true, not_true, not_false_eq_true]
    | succ j ih =>
      intro o τ ho F
      have hcτ := mj_Fs_pc F hc
      have heτ := mj_Fs_pe F he
      have e14 : τ.1 14 = σ.1 14 := F.1 14 (Or.inl (by decide))
      have q : nI o < 8 := nI_lt (b := 8) (by omega) (by decide)
      simp only [mj_trv]
      by_cases c1 : (nI o ^^^ σ.1 14 18) &&& mj_tld σ = 0
      · have e1 : mj_tsl σ o = true := decide_eq_true c1
        obtain ⟨ρ, G, h⟩ := sp_keptC (set := mj_evC σ) (o := nI o) hX hcτ heτ
        rw [hK τ F (mj_evC σ) o (by omega)] at h
        cases c2 : K (mj_evC σ) o
        · rw [c2] at h
          rw [if_pos ⟨e1, rfl⟩]
          refine ⟨ρ, mj_Fs_tr F G, fun d => ?_⟩
          have h2 := mj_evC_ev (X := X) (d := d + 40) (σ := τ)
          rw [mj_evC_Fs F] at h2
          have hd := h d
          refine u102_10.mpr ?_
          simp only [u102_0, u102_1, u102_4, u102_7, u102_8, u102_9, u102_11, u102_13, u102_16, u102_17, u102_18, u102_21, u102_24, u102_25, u102_26, u102_27, u102_30, u102_31, u102_32, u102_35, u102_38, u102_39, u102_42, u102_45, u102_46, u102_47, u102_50, u102_53, u102_54, q, e14, eq_true c1, h2, hd, mj_zF, mj_cc_v, mj_cc_n, List.all_cons, List.all_nil, mj_noMk_int, mj_noMk_long, mj_noMk_ref, mj_noMk_junk, List.length_nil, List.length_cons, Nat.zero_le, Nat.reduceLeDiff, Nat.reduceAdd, Bool.and_true, Bool.true_and, Bool.and_self, Nat.reduceBNe, true_or, or_true, true_and, and_true, mj_z0, mj_z1, mj_z01, decide_true, decide_false, Bool.true_and, Bool.false_and, Bool.and_true, Bool.and_false, Bool.true_or, Bool.false_or, Bool.or_false, Bool.or_true, Bool.not_true, Bool.not_false, Bool.and_self, Bool.or_self, if_true, if_false, Bool.true_eq_false, Bool.false_eq_true, not_true, not_false_eq_true]
        · rw [c2] at h
          rw [if_neg (fun z => absurd z.2 (by decide))]
          obtain ⟨ρ2, G2, h3⟩ := ih (o + 1) ρ (by omega) (mj_Fs_tr F G)
          refine ⟨ρ2, G2, fun d => ?_⟩
          have h2 := mj_evC_ev (X := X) (d := d + 40) (σ := τ)
          rw [mj_evC_Fs F] at h2
          have hd := h d
          have h3d := h3 d
          refine u102_10.mpr ?_
          simp only [u102_0, u102_1, u102_4, u102_7, u102_8, u102_9, u102_11, u102_13, u102_16, u102_17, u102_18, u102_21, u102_24, u102_25, u102_26, u102_27, u102_30, u102_31, u102_32, u102_35, u102_38, u102_39, u102_42, u102_45, u102_46, u102_47, u102_50, u102_53, u102_54, q, e14, eq_true c1, h2, hd, mj_zT, mj_n10, nI_1, mj_cc_v, mj_cc_n, List.all_cons, List.all_nil, mj_noMk_int, mj_noMk_long, mj_noMk_ref, mj_noMk_junk, List.length_nil, List.length_cons, Nat.zero_le, Nat.reduceLeDiff, Nat.reduceAdd, Bool.and_true, Bool.true_and, Bool.and_self, Nat.reduceBNe, true_or, or_true, true_and, and_true, mj_z0, mj_z1, mj_z01, decide_true, decide_false, Bool.true_and, Bool.false_and, Bool.and_true, Bool.and_false, Bool.true_or, Bool.false_or, Bool.or_false, Bool.or_true, Bool.not_true, Bool.not_false, Bool.and_self, Bool.or_self, if_true, if_false, Bool.true_eq_false, Bool.false_eq_true, not_true, not_false_eq_true]
          exact h3d
      · have e1 : mj_tsl σ o = false := decide_eq_false c1
        rw [if_neg (fun z => absurd z.1 (by rw [e1]; decide))]
        obtain ⟨ρ2, G2, h3⟩ := ih (o + 1) τ (by omega) F
        refine ⟨ρ2, G2, fun d => ?_⟩
        have h3d := h3 d
        refine u102_10.mpr ?_
        simp only [u102_0, u102_1, u102_4, u102_7, u102_8, u102_9, u102_11, u102_13, u102_16, u102_17, u102_18, u102_21, u102_24, u102_25, u102_26, u102_27, u102_30, u102_31, u102_32, u102_35, u102_38, u102_39, u102_42, u102_45, u102_46, u102_47, u102_50, u102_53, u102_54, q, e14, eq_false c1, nI_1, mj_cc_v, mj_cc_n, List.all_cons, List.all_nil, mj_noMk_int, mj_noMk_long, mj_noMk_ref, mj_noMk_junk, List.length_nil, List.length_cons, Nat.zero_le, Nat.reduceLeDiff, Nat.reduceAdd, Bool.and_true, Bool.true_and, Bool.and_self, Nat.reduceBNe, true_or, or_true, true_and, and_true, mj_z0, mj_z1, mj_z01, decide_true, decide_false, Bool.true_and, Bool.false_and, Bool.and_true, Bool.and_false, Bool.true_or, Bool.false_or, Bool.or_false, Bool.or_true, Bool.not_true, Bool.not_false, Bool.and_self, Bool.or_self, if_true, if_false, Bool.true_eq_false, Bool.false_eq_true, not_true, not_false_eq_true]
        exact h3d
  obtain ⟨ρ, F, h⟩ := loop 8 0 σ (by omega) mj_Fs_rf
  refine ⟨ρ, F, fun d => ?_⟩
  have ht : mj_ev X (d + 41) 56 [.ref 14] σ = some (some (.int (mj_tld σ)), σ) := sp_toldForks (d := d + 40)
  have hd := h d
  refine st102 ?_
  simp only [u102_0, u102_1, u102_4, u102_7, u102_8, u102_9, u102_11, u102_13, u102_16, u102_17, u102_18, u102_21, u102_24, u102_25, u102_26, u102_27, u102_30, u102_31, u102_32, u102_35, u102_38, u102_39, u102_42, u102_45, u102_46, u102_47, u102_50, u102_53, u102_54, ht, mj_cc_v, mj_cc_n, List.all_cons, List.all_nil, mj_noMk_int, mj_noMk_long, mj_noMk_ref, mj_noMk_junk, List.length_nil, List.length_cons, Nat.zero_le, Nat.reduceLeDiff, Nat.reduceAdd, Bool.and_true, Bool.true_and, Bool.and_self, Nat.reduceBNe, true_or, or_true, true_and, and_true, mj_z0, mj_z1, mj_z01, decide_true, decide_false, Bool.true_and, Bool.false_and, Bool.and_true, Bool.and_false, Bool.true_or, Bool.false_or, Bool.or_false, Bool.or_true, Bool.not_true, Bool.not_false, Bool.and_self, Bool.or_self, if_true, if_false, Bool.true_eq_false, Bool.false_eq_true, not_true, not_false_eq_true]
  exact hd
-- quarrel: one after the other left out, where the rest can't be kept either
def mj_qrv (K : Int32 → Nat → Bool) (o : Nat) : Nat → Nat → Int32 → Int32
  | 0, _, s => s
  | j + 1, i, s => mj_qrv K o j (i + 1) (if K (s &&& ((1 <<< (nI i &&& 31)) ^^^ -1)) o = true then s else s &&& ((1 <<< (nI i &&& 31)) ^^^ -1))
theorem sp_quarrelN {o : Int32} (h : mj_inb o 8 = false) : mj_ev X (d + 2) 103 [.ref 0, .int o] σ = some (some (.int (-6)), mj_rfC σ (-6)) := by
  have h1 := sp_isOutcome (X := X) (d := d) (x := o) (σ := σ)
  rw [h] at h1
  have h2 := sp_rf6 (X := X) (d := d) (σ := σ)
  have hr : (mj_rfC σ (-6)).2.2.2.2 = σ.2.2.2.2 := rfl
  refine st103 ?_
  simp only [u103_0, u103_1, u103_4, u103_7, u103_8, u103_10, u103_13, u103_14, u103_15, u103_18, u103_21, u103_22, u103_23, u103_24, u103_25, u103_28, u103_31, u103_32, u103_33, u103_34, u103_36, u103_37, u103_40, u103_43, u103_46, u103_47, u103_48, u103_49, u103_50, u103_51, u103_52, u103_53, u103_55, u103_56, u103_58, u103_59, u103_62, u103_65, u103_67, u103_68, u103_71, u103_74, u103_75, h1, h2, hr, mj_zF, mj_cc_v, mj_cc_n, List.all_cons, List.all_nil, mj_noMk_int, mj_noMk_long, mj_noMk_ref, mj_noMk_junk, List.length_nil, List.length_cons, Nat.zero_le, Nat.reduceLeDiff, Nat.reduceAdd, Bool.and_true, Bool.true_and, Bool.and_self, Nat.reduceBNe, true_or, or_true, true_and, and_true, mj_z0, mj_z1, mj_z01, decide_true, decide_false, Bool.true_and, Bool.false_and, Bool.and_true, Bool.and_false, Bool.true_or, Bool.false_or, Bool.or_false, Bool.or_true, Bool.not_true, Bool.not_false, Bool.and_self, Bool.or_self, if_true, if_false, Bool.true_eq_false, Bool.false_eq_true, not_true, not_false_eq_true]
theorem sp_quarrelC {N w o : Nat} {K : Int32 → Nat → Bool} (hX : mj_XS X) (hc : mj_pc σ N w) (he : mj_pe σ) (hK : mj_KH σ N w K) (ho : o < 8) : ∃ ρ, mj_Fs σ ρ ∧ ∀ d, mj_ev X (d + 42) 103 [.ref 0, .int (nI o)] σ = some (some (.int (if K (mj_evC σ) o = true then 0 else mj_qrv K o N 0 (mj_evC σ))), ρ) := by
  have hN := hc.1
  have h9 := hc.2.1
  have loop : ∀ (j i : Nat) (s : Int32) (τ : mj_St) (v : Value), mj_noMk v = true → i + j = N → mj_Fs σ τ → ∃ ρ, mj_Fs σ ρ ∧ ∀ d, mj_Runs X (mj_ev X (d + 41)) 5 (some .int) prog_1_method_21_code (35, [.ref 0, .int (nI o), .int s, .int (nI i), v], [], τ) (some (.int (mj_qrv K o j i s)), ρ) := by
    intro j
    induction j with
    | zero =>
      intro i s τ v mv hi F
      have e14 : τ.1 14 14 = nI N := by rw [F.1 14 (Or.inl (by decide))]; exact hN
      have q : ¬ nI i < nI N := nI_nlt (by omega) (by omega)
      refine ⟨τ, F, fun d => ?_⟩
      refine u103_35.mpr ?_
      simp only [u103_0, u103_1, u103_4, u103_7, u103_8, u103_10, u103_13, u103_14, u103_15, u103_18, u103_21, u103_22, u103_23, u103_24, u103_25, u103_28, u103_31, u103_32, u103_33, u103_34, u103_36, u103_37, u103_40, u103_43, u103_46, u103_47, u103_48, u103_49, u103_50, u103_51, u103_52, u103_53, u103_55, u103_56, u103_58, u103_59, u103_62, u103_65, u103_67, u103_68, u103_71, u103_74, u103_75, e14, q, mj_qrv, mj_cc_v, mj_cc_n, List.all_cons, List.all_nil, mj_noMk_int, mj_noMk_long, mj_noMk_ref, mj_noMk_junk, List.length_nil, List.length_cons, Nat.zero_le, Nat.reduceLeDiff, Nat.reduceAdd, Bool.and_true, Bool.true_and, Bool.and_self, Nat.reduceBNe, true_or, or_true, true_and, and_true, mj_z0, mj_z1, mj_z01, decide_true, decide_false, Bool.true_and, Bool.false_and, Bool.and_true, Bool.and_false, Bool.true_or, Bool.false_or, Bool.or_false, Bool.or_true, Bool.not_true, Bool.not_false, Bool.and_self, Bool.or_self, if_true, if_false, Bool.true_eq_false, Bool.false_eq_true, not_true, not_false_eq_true]
    | succ j ih =>
      intro i s τ v mv hi F
      have hcτ := mj_Fs_pc F hc
      have heτ := mj_Fs_pe F he
      have e14 : τ.1 14 14 = nI N := by rw [F.1 14 (Or.inl (by decide))]; exact hN
      have q : nI i < nI N := nI_lt (by omega) (by omega)
      simp only [mj_qrv]
      obtain ⟨ρ, G, h⟩ := sp_keptC (set := s &&& ((1 <<< (nI i &&& 31)) ^^^ -1)) (o := nI o) hX hcτ heτ
      rw [hK τ F _ o ho] at h
      cases c2 : K (s &&& ((1 <<< (nI i &&& 31)) ^^^ -1)) o
      · rw [c2] at h
        rw [if_neg (by decide)]
        obtain ⟨ρ2, G2, h3⟩ := ih (i + 1) (s &&& ((1 <<< (nI i &&& 31)) ^^^ -1)) ρ (.int (s &&& ((1 <<< (nI i &&& 31)) ^^^ -1))) rfl (by omega) (mj_Fs_tr F G)
        refine ⟨ρ2, G2, fun d => ?_⟩
        have hd := h d
        have h3d := h3 d
        refine u103_35.mpr ?_
        simp only [u103_0, u103_1, u103_4, u103_7, u103_8, u103_10, u103_13, u103_14, u103_15, u103_18, u103_21, u103_22, u103_23, u103_24, u103_25, u103_28, u103_31, u103_32, u103_33, u103_34, u103_36, u103_37, u103_40, u103_43, u103_46, u103_47, u103_48, u103_49, u103_50, u103_51, u103_52, u103_53, u103_55, u103_56, u103_58, u103_59, u103_62, u103_65, u103_67, u103_68, u103_71, u103_74, u103_75, e14, q, hd, mj_zF, nI_1, mj_cc_v, mj_cc_n, List.all_cons, List.all_nil, mj_noMk_int, mj_noMk_long, mj_noMk_ref, mj_noMk_junk, List.length_nil, List.length_cons, Nat.zero_le, Nat.reduceLeDiff, Nat.reduceAdd, Bool.and_true, Bool.true_and, Bool.and_self, Nat.reduceBNe, true_or, or_true, true_and, and_true, mj_z0, mj_z1, mj_z01, decide_true, decide_false, Bool.true_and, Bool.false_and, Bool.and_true, Bool.and_false, Bool.true_or, Bool.false_or, Bool.or_false, Bool.or_true, Bool.not_true, Bool.not_false, Bool.and_self, Bool.or_self, if_true, if_false, Bool.true_eq_false, Bool.false_eq_true, not_true, not_false_eq_true]
        exact h3d
      · rw [c2] at h
        rw [if_pos rfl]
        obtain ⟨ρ2, G2, h3⟩ := ih (i + 1) s ρ (.int (s &&& ((1 <<< (nI i &&& 31)) ^^^ -1))) rfl (by omega) (mj_Fs_tr F G)
        refine ⟨ρ2, G2, fun d => ?_⟩
        have hd := h d
        have h3d := h3 d
        refine u103_35.mpr ?_
        simp only [u103_0, u103_1, u103_4, u103_7, u103_8, u103_10, u103_13, u103_14, u103_15, u103_18, u103_21, u103_22, u103_23, u103_24, u103_25, u103_28, u103_31, u103_32, u103_33, u103_34, u103_36, u103_37, u103_40, u103_43, u103_46, u103_47, u103_48, u103_49, u103_50, u103_51, u103_52, u103_53, u103_55, u103_56, u103_58, u103_59, u103_62, u103_65, u103_67, u103_68, u103_71, u103_74, u103_75, e14, q, hd, mj_zT, mj_n10, nI_1, mj_cc_v, mj_cc_n, List.all_cons, List.all_nil, mj_noMk_int, mj_noMk_long, mj_noMk_ref, mj_noMk_junk, List.length_nil, List.length_cons, Nat.zero_le, Nat.reduceLeDiff, Nat.reduceAdd, Bool.and_true, Bool.true_and, Bool.and_self, Nat.reduceBNe, true_or, or_true, true_and, and_true, mj_z0, mj_z1, mj_z01, decide_true, decide_false, Bool.true_and, Bool.false_and, Bool.and_true, Bool.and_false, Bool.true_or, Bool.false_or, Bool.or_false, Bool.or_true, Bool.not_true, Bool.not_false, Bool.and_self, Bool.or_self, if_true, if_false, Bool.true_eq_false, Bool.false_eq_true, not_true, not_false_eq_true]
        exact h3d
  obtain ⟨ρ, G, h⟩ := sp_keptC (set := mj_evC σ) (o := nI o) hX hc he
  rw [hK σ mj_Fs_rf (mj_evC σ) o ho] at h
  cases c : K (mj_evC σ) o
  · rw [c] at h
    rw [if_neg (by decide)]
    obtain ⟨ρ2, G2, h3⟩ := loop N 0 (mj_evC σ) ρ mj_junk rfl (by omega) G
    refine ⟨ρ2, G2, fun d => ?_⟩
    have h1 := sp_isOutcome (X := X) (d := d + 40) (x := nI o) (σ := σ)
    rw [mj_in_nI (show o < 8 by omega) (by decide)] at h1
    have h2 := mj_evC_ev (X := X) (d := d + 40) (σ := σ)
    have hd := h d
    have h3d := h3 d
    refine st103 ?_
    simp only [u103_0, u103_1, u103_4, u103_7, u103_8, u103_10, u103_13, u103_14, u103_15, u103_18, u103_21, u103_22, u103_23, u103_24, u103_25, u103_28, u103_31, u103_32, u103_33, u103_34, u103_36, u103_37, u103_40, u103_43, u103_46, u103_47, u103_48, u103_49, u103_50, u103_51, u103_52, u103_53, u103_55, u103_56, u103_58, u103_59, u103_62, u103_65, u103_67, u103_68, u103_71, u103_74, u103_75, h1, h2, hd, mj_zF, mj_zT, mj_n10, mj_cc_v, mj_cc_n, List.all_cons, List.all_nil, mj_noMk_int, mj_noMk_long, mj_noMk_ref, mj_noMk_junk, List.length_nil, List.length_cons, Nat.zero_le, Nat.reduceLeDiff, Nat.reduceAdd, Bool.and_true, Bool.true_and, Bool.and_self, Nat.reduceBNe, true_or, or_true, true_and, and_true, mj_z0, mj_z1, mj_z01, decide_true, decide_false, Bool.true_and, Bool.false_and, Bool.and_true, Bool.and_false, Bool.true_or, Bool.false_or, Bool.or_false, Bool.or_true, Bool.not_true, Bool.not_false, Bool.and_self, Bool.or_self, if_true, if_false, Bool.true_eq_false, Bool.false_eq_true, not_true, not_false_eq_true]
    exact h3d
  · rw [c] at h
    rw [if_pos rfl]
    refine ⟨ρ, G, fun d => ?_⟩
    have h1 := sp_isOutcome (X := X) (d := d + 40) (x := nI o) (σ := σ)
    rw [mj_in_nI (show o < 8 by omega) (by decide)] at h1
    have h2 := mj_evC_ev (X := X) (d := d + 40) (σ := σ)
    have hd := h d
    refine st103 ?_
    simp only [u103_0, u103_1, u103_4, u103_7, u103_8, u103_10, u103_13, u103_14, u103_15, u103_18, u103_21, u103_22, u103_23, u103_24, u103_25, u103_28, u103_31, u103_32, u103_33, u103_34, u103_36, u103_37, u103_40, u103_43, u103_46, u103_47, u103_48, u103_49, u103_50, u103_51, u103_52, u103_53, u103_55, u103_56, u103_58, u103_59, u103_62, u103_65, u103_67, u103_68, u103_71, u103_74, u103_75, h1, h2, hd, mj_zT, mj_n10, mj_cc_v, mj_cc_n, List.all_cons, List.all_nil, mj_noMk_int, mj_noMk_long, mj_noMk_ref, mj_noMk_junk, List.length_nil, List.length_cons, Nat.zero_le, Nat.reduceLeDiff, Nat.reduceAdd, Bool.and_true, Bool.true_and, Bool.and_self, Nat.reduceBNe, true_or, or_true, true_and, and_true, mj_z0, mj_z1, mj_z01, decide_true, decide_false, Bool.true_and, Bool.false_and, Bool.and_true, Bool.and_false, Bool.true_or, Bool.false_or, Bool.or_false, Bool.or_true, Bool.not_true, Bool.not_false, Bool.and_self, Bool.or_self, if_true, if_false, Bool.true_eq_false, Bool.false_eq_true, not_true, not_false_eq_true]
end
