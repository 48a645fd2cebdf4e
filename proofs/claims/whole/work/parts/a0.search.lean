section
variable {X : mj_X} {d : Nat} {σ τ ρ : mj_St}
-- the search of the class: what it reads
/-- how much is left at a place, in a state -/
def mj_lf (s p : Nat) : Nat := s / 4 ^ p % 4
theorem mj_lf_lt {s p : Nat} : mj_lf s p < 4 := Nat.mod_lt _ (by decide)
theorem mj_n2 (p : Nat) : (2 : Int32) * nI p = nI (2 * p) := mj_nI_mul 2 p
theorem mj_lf_sh {s p : Nat} (hp : p < 6) (hs : s < 2 ^ 31) : (nI s >>> (((2 : Int32) * nI p) &&& 31)) &&& 3 = nI (mj_lf s p) := by
  rw [mj_n2]
  have h3 : (3 : Int32) = nI 3 := rfl
  apply mj_b_ext
  intro k hk
  rw [mj_b_and, h3, mj_b_nI (show (3 : Nat) < 2 ^ 32 by decide), mj_b_nI (show mj_lf s p < 2 ^ 32 by have := mj_lf_lt (s := s) (p := p); omega)]
  have e4 : 4 ^ p = 2 ^ (2 * p) := by rw [Nat.pow_mul]
  unfold mj_lf
  rw [e4, show (4 : Nat) = 2 ^ 2 from rfl, Nat.testBit_mod_two_pow, Nat.testBit_div_two_pow]
  by_cases c : k < 2
  · rw [mj_b_shr (by omega) (by omega), mj_b_nI (by omega), decide_eq_true c, Bool.true_and]
    have e3 : Nat.testBit 3 k = true := by
      have : k = 0 ∨ k = 1 := by omega
      rcases this with q | q <;> subst q <;> decide
    rw [e3, Bool.and_true, Nat.add_comm]
  · have e3 : Nat.testBit 3 k = false := by
      apply Nat.testBit_lt_two_pow
      have : 2 ^ 2 ≤ 2 ^ k := Nat.pow_le_pow_right (by decide) (by omega)
      omega
    rw [e3, Bool.and_false, decide_eq_false c, Bool.false_and]
/-- the sets of at most two of six, and what each takes off a state -/
def mj_SETS : List Nat := [0, 1, 2, 3, 4, 5, 6, 8, 9, 10, 12, 16, 17, 18, 20, 24, 32, 33, 34, 36, 40, 48]
def mj_TAKES : List Nat := [0, 1, 4, 5, 16, 17, 20, 64, 65, 68, 80, 256, 257, 260, 272, 320, 1024, 1025, 1028, 1040, 1088, 1280]
def mj_sK (k : Nat) : Nat := mj_SETS.getD k 0
def mj_tK (k : Nat) : Nat := mj_TAKES.getD k 0
/-- the tables of the class stand -/
def mj_XS (X : mj_X) : Prop := (∃ f, X 1 = some (22, f) ∧ ∀ k, k < 22 → f k = nI (mj_sK k)) ∧ ∃ f, X 2 = some (22, f) ∧ ∀ k, k < 22 → f k = nI (mj_tK k)
theorem mj_kI_S {k : Nat} {P : Int32 → Prop} (hX : mj_XS X) (hk : k < 22) : mj_kI X σ 1001 (nI k) P = P (nI (mj_sK k)) := by
  obtain ⟨⟨f, hf, hv⟩, -⟩ := hX
  have er : mj_rowI X σ 1001 = some (22, f) := by
    unfold mj_rowI
    rw [if_pos (by decide)]
    exact hf
  unfold mj_kI
  rw [er]
  show (mj_inb (nI k) 22 = true ∧ P (f (nI k).toNatClampNeg)) = _
  rw [mj_in_nI hk (by decide), mj_nz9 hk (by decide), hv k hk]
  simp
theorem mj_kI_T {k : Nat} {P : Int32 → Prop} (hX : mj_XS X) (hk : k < 22) : mj_kI X σ 1002 (nI k) P = P (nI (mj_tK k)) := by
  obtain ⟨-, f, hf, hv⟩ := hX
  have er : mj_rowI X σ 1002 = some (22, f) := by
    unfold mj_rowI
    rw [if_pos (by decide)]
    exact hf
  unfold mj_kI
  rw [er]
  show (mj_inb (nI k) 22 = true ∧ P (f (nI k).toNatClampNeg)) = _
  rw [mj_in_nI hk (by decide), mj_nz9 hk (by decide), hv k hk]
  simp
/-- what stands while a search goes on: n places, from hour w on, gr groups -/
def mj_sd (σ : mj_St) (n w gr : Nat) : Prop := σ.2.2.1 46 0 = some 14 ∧ σ.1 46 5 = nI n ∧ n ≤ 6 ∧ σ.1 14 17 = nI w ∧ w ≤ 12 ∧ σ.1 46 2 = nI gr ∧ (gr = 1 ∨ gr = 8) ∧ (∀ p, p < n → mj_inb (σ.1 47 p) 9 = true) ∧ (∀ p, p < n → σ.1 48 p < 0 ∨ mj_inb (σ.1 48 p) n = true) ∧ (∀ p, p < n → mj_inb (σ.1 49 p) n = true) ∧ (∀ p, p < n → -1000 ≤ (σ.1 50 p).toInt ∧ (σ.1 50 p).toInt ≤ 11) ∧ (∀ k, k < 9 → σ.1 18 k = -1 ∨ mj_inb (σ.1 18 k) 4 = true)
theorem mj_sd_fr {n w gr : Nat} (h2 : τ.2.2.1 46 0 = σ.2.2.1 46 0) (h1 : τ.1 = σ.1) (h : mj_sd σ n w gr) : mj_sd τ n w gr := by
  unfold mj_sd at h ⊢
  rw [h1, h2]
  exact h
theorem mj_rf14 : mj_noMk (va_rf (some 14)) = true := rfl
-- leaves
def mj_isr (σ : mj_St) (p h s : Nat) : Bool := (decide (σ.1 48 p < 0) || decide (mj_lf s (σ.1 48 p).toNatClampNeg = 0)) && (decide (σ.1 52 (p * 12 + h) = -1) || decide (σ.1 52 (p * 12 + h) = nI (mj_lf s p)))
theorem sp_isReady {n w gr p h s : Nat} (hd : mj_sd σ n w gr) (hp : p < n) (hh : h < 12) (hs : s < 2 ^ 31) : mj_ev X (d + 1) 90 [.ref 46, .int (nI p), .int (nI h), .int (nI (mj_lf s p)), .int (nI s)] σ = some (some (.int (mj_z (mj_isr σ p h s))), σ) := by
  obtain ⟨d1, d2, d3, d4, d5, d6, d7, d8, d9, d10, d11, d12⟩ := hd
  have e12 : nI p * 12 = nI (p * 12) := mj_nI_mul p 12
  have h72 : p * 12 + h < 72 := by omega
  unfold mj_isr
  refine st90 ?_
  by_cases c1 : σ.1 48 p < 0
  · by_cases c2 : σ.1 52 (p * 12 + h) = -1
    · simp only [u90_0, u90_1, u90_4, u90_5, u90_6, u90_8, u90_10, u90_13, u90_15, u90_16, u90_18, u90_19, u90_20, u90_21, u90_22, u90_25, u90_26, u90_27, u90_28, u90_31, u90_32, u90_34, u90_35, u90_36, u90_37, u90_38, u90_40, u90_42, u90_43, u90_46, u90_48, u90_49, u90_52, u90_53, u90_56, u90_57, mj_in_nI (show p < 6 by omega) (by decide), mj_nz9 (show p < 6 by omega) (by decide), c1, e12, nI_add, mj_in_nI h72 (by decide), mj_nz9 h72 (by decide), eq_true c2, mj_zT, mj_cc_v, mj_cc_n, List.all_cons, List.all_nil, mj_noMk_int, mj_noMk_long, mj_noMk_ref, mj_noMk_junk, List.length_nil, List.length_cons, Nat.zero_le, Nat.reduceLeDiff, Nat.reduceAdd, Bool.and_true, Bool.true_and, Bool.and_self, Nat.reduceBNe, true_or, or_true, true_and, and_true, mj_z0, mj_z1, mj_z01, decide_true, decide_false, Bool.true_and, Bool.false_and, Bool.and_true, Bool.and_false, Bool.true_or, Bool.false_or, Bool.or_false, Bool.or_true, Bool.not_true, Bool.not_false, Bool.and_self, Bool.or_self, if_true, if_false, Bool.true_eq_false, Bool.false_eq_true, not_true, not_false_eq_true]
    · by_cases c3 : σ.1 52 (p * 12 + h) = nI (mj_lf s p)
      · simp only [u90_0, u90_1, u90_4, u90_5, u90_6, u90_8, u90_10, u90_13, u90_15, u90_16, u90_18, u90_19, u90_20, u90_21, u90_22, u90_25, u90_26, u90_27, u90_28, u90_31, u90_32, u90_34, u90_35, u90_36, u90_37, u90_38, u90_40, u90_42, u90_43, u90_46, u90_48, u90_49, u90_52, u90_53, u90_56, u90_57, mj_in_nI (show p < 6 by omega) (by decide), mj_nz9 (show p < 6 by omega) (by decide), c1, e12, nI_add, mj_in_nI h72 (by decide), mj_nz9 h72 (by decide), eq_false c2, eq_true c3, mj_zT, mj_cc_v, mj_cc_n, List.all_cons, List.all_nil, mj_noMk_int, mj_noMk_long, mj_noMk_ref, mj_noMk_junk, List.length_nil, List.length_cons, Nat.zero_le, Nat.reduceLeDiff, Nat.reduceAdd, Bool.and_true, Bool.true_and, Bool.and_self, Nat.reduceBNe, true_or, or_true, true_and, and_true, mj_z0, mj_z1, mj_z01, decide_true, decide_false, Bool.true_and, Bool.false_and, Bool.and_true, Bool.and_false, Bool.true_or, Bool.false_or, Bool.or_false, Bool.or_true, Bool.not_true, Bool.not_false, Bool.and_self, Bool.or_self, if_true, if_false, Bool.true_eq_false, Bool.false_eq_true, not_true, not_false_eq_true]
      · simp only [u90_0, u90_1, u90_4, u90_5, u90_6, u90_8, u90_10, u90_13, u90_15, u90_16, u90_18, u90_19, u90_20, u90_21, u90_22, u90_25, u90_26, u90_27, u90_28, u90_31, u90_32, u90_34, u90_35, u90_36, u90_37, u90_38, u90_40, u90_42, u90_43, u90_46, u90_48, u90_49, u90_52, u90_53, u90_56, u90_57, mj_in_nI (show p < 6 by omega) (by decide), mj_nz9 (show p < 6 by omega) (by decide), c1, e12, nI_add, mj_in_nI h72 (by decide), mj_nz9 h72 (by decide), eq_false c2, eq_false c3, mj_zF, mj_cc_v, mj_cc_n, List.all_cons, List.all_nil, mj_noMk_int, mj_noMk_long, mj_noMk_ref, mj_noMk_junk, List.length_nil, List.length_cons, Nat.zero_le, Nat.reduceLeDiff, Nat.reduceAdd, Bool.and_true, Bool.true_and, Bool.and_self, Nat.reduceBNe, true_or, or_true, true_and, and_true, mj_z0, mj_z1, mj_z01, decide_true, decide_false, Bool.true_and, Bool.false_and, Bool.and_true, Bool.and_false, Bool.true_or, Bool.false_or, Bool.or_false, Bool.or_true, Bool.not_true, Bool.not_false, Bool.and_self, Bool.or_self, if_true, if_false, Bool.true_eq_false, Bool.false_eq_true, not_true, not_false_eq_true]
  · obtain ⟨o, ho, eo⟩ := mj_nI_of ((d9 p hp).resolve_left c1) (by omega)
    have el := mj_lf_sh (s := s) (p := o) (by omega) hs
    have ne : ∀ m, m < 4 → (nI m = 0) = (m = 0) := fun m hm => propext (nI_eq (b := 0) (by omega) (by decide))
    have nz := ne (mj_lf s o) mj_lf_lt
    have c1' : ¬ nI o < 0 := by rw [← eo]; exact c1
    rw [eo, nI_clamp (by omega)]
    by_cases c4 : mj_lf s o = 0
    · by_cases c2 : σ.1 52 (p * 12 + h) = -1
      · simp only [u90_0, u90_1, u90_4, u90_5, u90_6, u90_8, u90_10, u90_13, u90_15, u90_16, u90_18, u90_19, u90_20, u90_21, u90_22, u90_25, u90_26, u90_27, u90_28, u90_31, u90_32, u90_34, u90_35, u90_36, u90_37, u90_38, u90_40, u90_42, u90_43, u90_46, u90_48, u90_49, u90_52, u90_53, u90_56, u90_57, mj_in_nI (show p < 6 by omega) (by decide), mj_nz9 (show p < 6 by omega) (by decide), eo, c1', el, nz, eq_true c4, e12, nI_add, mj_in_nI h72 (by decide), mj_nz9 h72 (by decide), eq_true c2, mj_zT, mj_cc_v, mj_cc_n, List.all_cons, List.all_nil, mj_noMk_int, mj_noMk_long, mj_noMk_ref, mj_noMk_junk, List.length_nil, List.length_cons, Nat.zero_le, Nat.reduceLeDiff, Nat.reduceAdd, Bool.and_true, Bool.true_and, Bool.and_self, Nat.reduceBNe, true_or, or_true, true_and, and_true, mj_z0, mj_z1, mj_z01, decide_true, decide_false, Bool.true_and, Bool.false_and, Bool.and_true, Bool.and_false, Bool.true_or, Bool.false_or, Bool.or_false, Bool.or_true, Bool.not_true, Bool.not_false, Bool.and_self, Bool.or_self, if_true, if_false, Bool.true_eq_false, Bool.false_eq_true, not_true, not_false_eq_true]
      · by_cases c3 : σ.1 52 (p * 12 + h) = nI (mj_lf s p)
        · simp only [u90_0, u90_1, u90_4, u90_5, u90_6, u90_8, u90_10, u90_13, u90_15, u90_16, u90_18, u90_19, u90_20, u90_21, u90_22, u90_25, u90_26, u90_27, u90_28, u90_31, u90_32, u90_34, u90_35, u90_36, u90_37, u90_38, u90_40, u90_42, u90_43, u90_46, u90_48, u90_49, u90_52, u90_53, u90_56, u90_57, mj_in_nI (show p < 6 by omega) (by decide), mj_nz9 (show p < 6 by omega) (by decide), eo, c1', el, nz, eq_true c4, e12, nI_add, mj_in_nI h72 (by decide), mj_nz9 h72 (by decide), eq_false c2, eq_true c3, mj_zT, mj_cc_v, mj_cc_n, List.all_cons, List.all_nil, mj_noMk_int, mj_noMk_long, mj_noMk_ref, mj_noMk_junk, List.length_nil, List.length_cons, Nat.zero_le, Nat.reduceLeDiff, Nat.reduceAdd, Bool.and_true, Bool.true_and, Bool.and_self, Nat.reduceBNe, true_or, or_true, true_and, and_true, mj_z0, mj_z1, mj_z01, decide_true, decide_false, Bool.true_and, Bool.false_and, Bool.and_true, Bool.and_false, Bool.true_or, Bool.false_or, Bool.or_false, Bool.or_true, Bool.not_true, Bool.not_false, Bool.and_self, Bool.or_self, if_true, if_false, Bool.true_eq_false, Bool.false_eq_true, not_true, not_false_eq_true]
        · simp only [u90_0, u90_1, u90_4, u90_5, u90_6, u90_8, u90_10, u90_13, u90_15, u90_16, u90_18, u90_19, u90_20, u90_21, u90_22, u90_25, u90_26, u90_27, u90_28, u90_31, u90_32, u90_34, u90_35, u90_36, u90_37, u90_38, u90_40, u90_42, u90_43, u90_46, u90_48, u90_49, u90_52, u90_53, u90_56, u90_57, mj_in_nI (show p < 6 by omega) (by decide), mj_nz9 (show p < 6 by omega) (by decide), eo, c1', el, nz, eq_true c4, e12, nI_add, mj_in_nI h72 (by decide), mj_nz9 h72 (by decide), eq_false c2, eq_false c3, mj_zF, mj_cc_v, mj_cc_n, List.all_cons, List.all_nil, mj_noMk_int, mj_noMk_long, mj_noMk_ref, mj_noMk_junk, List.length_nil, List.length_cons, Nat.zero_le, Nat.reduceLeDiff, Nat.reduceAdd, Bool.and_true, Bool.true_and, Bool.and_self, Nat.reduceBNe, true_or, or_true, true_and, and_true, mj_z0, mj_z1, mj_z01, decide_true, decide_false, Bool.true_and, Bool.false_and, Bool.and_true, Bool.and_false, Bool.true_or, Bool.false_or, Bool.or_false, Bool.or_true, Bool.not_true, Bool.not_false, Bool.and_self, Bool.or_self, if_true, if_false, Bool.true_eq_false, Bool.false_eq_true, not_true, not_false_eq_true]
    · simp only [u90_0, u90_1, u90_4, u90_5, u90_6, u90_8, u90_10, u90_13, u90_15, u90_16, u90_18, u90_19, u90_20, u90_21, u90_22, u90_25, u90_26, u90_27, u90_28, u90_31, u90_32, u90_34, u90_35, u90_36, u90_37, u90_38, u90_40, u90_42, u90_43, u90_46, u90_48, u90_49, u90_52, u90_53, u90_56, u90_57, mj_in_nI (show p < 6 by omega) (by decide), mj_nz9 (show p < 6 by omega) (by decide), eo, c1', el, nz, eq_false c4, mj_zF, mj_cc_v, mj_cc_n, List.all_cons, List.all_nil, mj_noMk_int, mj_noMk_long, mj_noMk_ref, mj_noMk_junk, List.length_nil, List.length_cons, Nat.zero_le, Nat.reduceLeDiff, Nat.reduceAdd, Bool.and_true, Bool.true_and, Bool.and_self, Nat.reduceBNe, true_or, or_true, true_and, and_true, mj_z0, mj_z1, mj_z01, decide_true, decide_false, Bool.true_and, Bool.false_and, Bool.and_true, Bool.and_false, Bool.true_or, Bool.false_or, Bool.or_false, Bool.or_true, Bool.not_true, Bool.not_false, Bool.and_self, Bool.or_self, if_true, if_false, Bool.true_eq_false, Bool.false_eq_true, not_true, not_false_eq_true]
def mj_iuw (σ : mj_St) (p : Nat) (q : Int32) : Bool := decide (σ.1 15 (σ.1 47 p).toNatClampNeg = 2) && decide (q < σ.1 24 (σ.1 47 p).toNatClampNeg)
theorem sp_isUnderWay {n w gr p : Nat} {q : Int32} (hd : mj_sd σ n w gr) (hp : p < n) : mj_ev X (d + 1) 91 [.ref 46, .int (nI p), .int q] σ = some (some (.int (mj_z (mj_iuw σ p q))), σ) := by
  obtain ⟨d1, d2, d3, d4, d5, d6, d7, d8, d9, d10, d11, d12⟩ := hd
  have hi := d8 p hp
  unfold mj_iuw
  refine st91 ?_
  by_cases c1 : σ.1 15 (σ.1 47 p).toNatClampNeg = 2
  · by_cases c2 : q < σ.1 24 (σ.1 47 p).toNatClampNeg
    · simp only [u91_0, u91_1, u91_4, u91_5, u91_6, u91_7, u91_8, u91_11, u91_14, u91_15, u91_16, u91_17, u91_20, u91_21, u91_22, u91_25, u91_28, u91_29, u91_30, u91_33, u91_34, u91_37, u91_38, mj_in_nI (show p < 6 by omega) (by decide), mj_nz9 (show p < 6 by omega) (by decide), d1, mj_rf_some, mj_rf14, mj_noMk_ref, hi, eq_true c1, c2, mj_zT, mj_cc_v, mj_cc_n, List.all_cons, List.all_nil, mj_noMk_int, mj_noMk_long, mj_noMk_ref, mj_noMk_junk, List.length_nil, List.length_cons, Nat.zero_le, Nat.reduceLeDiff, Nat.reduceAdd, Bool.and_true, Bool.true_and, Bool.and_self, Nat.reduceBNe, true_or, or_true, true_and, and_true, mj_z0, mj_z1, mj_z01, decide_true, decide_false, Bool.true_and, Bool.false_and, Bool.and_true, Bool.and_false, Bool.true_or, Bool.false_or, Bool.or_false, Bool.or_true, Bool.not_true, Bool.not_false, Bool.and_self, Bool.or_self, if_true, if_false, Bool.true_eq_false, Bool.false_eq_true, not_true, not_false_eq_true]
    · simp only [u91_0, u91_1, u91_4, u91_5, u91_6, u91_7, u91_8, u91_11, u91_14, u91_15, u91_16, u91_17, u91_20, u91_21, u91_22, u91_25, u91_28, u91_29, u91_30, u91_33, u91_34, u91_37, u91_38, mj_in_nI (show p < 6 by omega) (by decide), mj_nz9 (show p < 6 by omega) (by decide), d1, mj_rf_some, mj_rf14, mj_noMk_ref, hi, eq_true c1, c2, mj_zF, mj_cc_v, mj_cc_n, List.all_cons, List.all_nil, mj_noMk_int, mj_noMk_long, mj_noMk_ref, mj_noMk_junk, List.length_nil, List.length_cons, Nat.zero_le, Nat.reduceLeDiff, Nat.reduceAdd, Bool.and_true, Bool.true_and, Bool.and_self, Nat.reduceBNe, true_or, or_true, true_and, and_true, mj_z0, mj_z1, mj_z01, decide_true, decide_false, Bool.true_and, Bool.false_and, Bool.and_true, Bool.and_false, Bool.true_or, Bool.false_or, Bool.or_false, Bool.or_true, Bool.not_true, Bool.not_false, Bool.and_self, Bool.or_self, if_true, if_false, Bool.true_eq_false, Bool.false_eq_true, not_true, not_false_eq_true]
  · simp only [u91_0, u91_1, u91_4, u91_5, u91_6, u91_7, u91_8, u91_11, u91_14, u91_15, u91_16, u91_17, u91_20, u91_21, u91_22, u91_25, u91_28, u91_29, u91_30, u91_33, u91_34, u91_37, u91_38, mj_in_nI (show p < 6 by omega) (by decide), mj_nz9 (show p < 6 by omega) (by decide), d1, mj_rf_some, mj_rf14, mj_noMk_ref, hi, eq_false c1, mj_zF, mj_cc_v, mj_cc_n, List.all_cons, List.all_nil, mj_noMk_int, mj_noMk_long, mj_noMk_ref, mj_noMk_junk, List.length_nil, List.length_cons, Nat.zero_le, Nat.reduceLeDiff, Nat.reduceAdd, Bool.and_true, Bool.true_and, Bool.and_self, Nat.reduceBNe, true_or, or_true, true_and, and_true, mj_z0, mj_z1, mj_z01, decide_true, decide_false, Bool.true_and, Bool.false_and, Bool.and_true, Bool.and_false, Bool.true_or, Bool.false_or, Bool.or_false, Bool.or_true, Bool.not_true, Bool.not_false, Bool.and_self, Bool.or_self, if_true, if_false, Bool.true_eq_false, Bool.false_eq_true, not_true, not_false_eq_true]
/-- a set may be done: open, with all that must be, hands, no thing twice -/
def mj_imv (σ : mj_St) (k h : Nat) (mv : Int32) : Bool := decide (nI (mj_sK k) &&& (mv ^^^ -1) = 0) && (decide (nI (mj_sK k) &&& (mv >>> (6 &&& 31)) = mv >>> (6 &&& 31)) && (decide (¬ σ.1 27 h < mj_pop (nI (mj_sK k))) && decide ((σ.1 46 8 >>> (nI k &&& 31)) &&& 1 = 0)))
theorem sp_isMove {n w gr k h : Nat} {mv : Int32} (hX : mj_XS X) (hd : mj_sd σ n w gr) (hk : k < 22) (hh : h < 12) : mj_ev X (d + 2) 93 [.ref 46, .int (nI k), .int mv, .int (nI h)] σ = some (some (.int (mj_z (mj_imv σ k h mv))), σ) := by
  obtain ⟨d1, d2, d3, d4, d5, d6, d7, d8, d9, d10, d11, d12⟩ := hd
  have hb := sp_bitCount (X := X) (d := d) (σ := σ) (x := nI (mj_sK k))
  unfold mj_imv
  refine st93 ?_
  by_cases c1 : nI (mj_sK k) &&& (mv ^^^ -1) = 0
  · by_cases c2 : nI (mj_sK k) &&& (mv >>> (6 &&& 31)) = mv >>> (6 &&& 31)
    · by_cases c3 : σ.1 27 h < mj_pop (nI (mj_sK k))
      · simp only [u93_0, u93_3, u93_4, u93_5, u93_7, u93_8, u93_10, u93_11, u93_13, u93_15, u93_16, u93_17, u93_18, u93_19, u93_22, u93_24, u93_26, u93_27, u93_29, u93_32, u93_34, u93_37, u93_38, u93_41, u93_44, u93_45, u93_46, u93_49, u93_50, u93_53, u93_54, u93_55, u93_56, u93_57, u93_60, u93_61, u93_64, u93_65, mj_kI_S hX hk, c1, eq_true c2, hb, d1, mj_rf_some, mj_rf14, mj_noMk_ref, mj_in_nI hh (by decide), mj_nz9 hh (by decide), c3, mj_zF, mj_cc_v, mj_cc_n, List.all_cons, List.all_nil, mj_noMk_int, mj_noMk_long, mj_noMk_ref, mj_noMk_junk, List.length_nil, List.length_cons, Nat.zero_le, Nat.reduceLeDiff, Nat.reduceAdd, Bool.and_true, Bool.true_and, Bool.and_self, Nat.reduceBNe, true_or, or_true, true_and, and_true, mj_z0, mj_z1, mj_z01, decide_true, decide_false, Bool.true_and, Bool.false_and, Bool.and_true, Bool.and_false, Bool.true_or, Bool.false_or, Bool.or_false, Bool.or_true, Bool.not_true, Bool.not_false, Bool.and_self, Bool.or_self, if_true, if_false, Bool.true_eq_false, Bool.false_eq_true, not_true, not_false_eq_true]
      · by_cases c4 : (σ.1 46 8 >>> (nI k &&& 31)) &&& 1 = 0
        · simp only [u93_0, u93_3, u93_4, u93_5, u93_7, u93_8, u93_10, u93_11, u93_13, u93_15, u93_16, u93_17, u93_18, u93_19, u93_22, u93_24, u93_26, u93_27, u93_29, u93_32, u93_34, u93_37, u93_38, u93_41, u93_44, u93_45, u93_46, u93_49, u93_50, u93_53, u93_54, u93_55, u93_56, u93_57, u93_60, u93_61, u93_64, u93_65, mj_kI_S hX hk, c1, eq_true c2, hb, d1, mj_rf_some, mj_rf14, mj_noMk_ref, mj_in_nI hh (by decide), mj_nz9 hh (by decide), c3, c4, mj_zT, mj_cc_v, mj_cc_n, List.all_cons, List.all_nil, mj_noMk_int, mj_noMk_long, mj_noMk_ref, mj_noMk_junk, List.length_nil, List.length_cons, Nat.zero_le, Nat.reduceLeDiff, Nat.reduceAdd, Bool.and_true, Bool.true_and, Bool.and_self, Nat.reduceBNe, true_or, or_true, true_and, and_true, mj_z0, mj_z1, mj_z01, decide_true, decide_false, Bool.true_and, Bool.false_and, Bool.and_true, Bool.and_false, Bool.true_or, Bool.false_or, Bool.or_false, Bool.or_true, Bool.not_true, Bool.not_false, Bool.and_self, Bool.or_self, if_true, if_false, Bool.true_eq_false, Bool.false_eq_true, not_true, not_false_eq_true]
        · simp only [u93_0, u93_3, u93_4, u93_5, u93_7, u93_8, u93_10, u93_11, u93_13, u93_15, u93_16, u93_17, u93_18, u93_19, u93_22, u93_24, u93_26, u93_27, u93_29, u93_32, u93_34, u93_37, u93_38, u93_41, u93_44, u93_45, u93_46, u93_49, u93_50, u93_53, u93_54, u93_55, u93_56, u93_57, u93_60, u93_61, u93_64, u93_65, mj_kI_S hX hk, c1, eq_true c2, hb, d1, mj_rf_some, mj_rf14, mj_noMk_ref, mj_in_nI hh (by decide), mj_nz9 hh (by decide), c3, c4, mj_zF, mj_cc_v, mj_cc_n, List.all_cons, List.all_nil, mj_noMk_int, mj_noMk_long, mj_noMk_ref, mj_noMk_junk, List.length_nil, List.length_cons, Nat.zero_le, Nat.reduceLeDiff, Nat.reduceAdd, Bool.and_true, Bool.true_and, Bool.and_self, Nat.reduceBNe, true_or, or_true, true_and, and_true, mj_z0, mj_z1, mj_z01, decide_true, decide_false, Bool.true_and, Bool.false_and, Bool.and_true, Bool.and_false, Bool.true_or, Bool.false_or, Bool.or_false, Bool.or_true, Bool.not_true, Bool.not_false, Bool.and_self, Bool.or_self, if_true, if_false, Bool.true_eq_false, Bool.false_eq_true, not_true, not_false_eq_true]
    · simp only [u93_0, u93_3, u93_4, u93_5, u93_7, u93_8, u93_10, u93_11, u93_13, u93_15, u93_16, u93_17, u93_18, u93_19, u93_22, u93_24, u93_26, u93_27, u93_29, u93_32, u93_34, u93_37, u93_38, u93_41, u93_44, u93_45, u93_46, u93_49, u93_50, u93_53, u93_54, u93_55, u93_56, u93_57, u93_60, u93_61, u93_64, u93_65, mj_kI_S hX hk, c1, eq_false c2, mj_zF, mj_cc_v, mj_cc_n, List.all_cons, List.all_nil, mj_noMk_int, mj_noMk_long, mj_noMk_ref, mj_noMk_junk, List.length_nil, List.length_cons, Nat.zero_le, Nat.reduceLeDiff, Nat.reduceAdd, Bool.and_true, Bool.true_and, Bool.and_self, Nat.reduceBNe, true_or, or_true, true_and, and_true, mj_z0, mj_z1, mj_z01, decide_true, decide_false, Bool.true_and, Bool.false_and, Bool.and_true, Bool.and_false, Bool.true_or, Bool.false_or, Bool.or_false, Bool.or_true, Bool.not_true, Bool.not_false, Bool.and_self, Bool.or_self, if_true, if_false, Bool.true_eq_false, Bool.false_eq_true, not_true, not_false_eq_true]
  · simp only [u93_0, u93_3, u93_4, u93_5, u93_7, u93_8, u93_10, u93_11, u93_13, u93_15, u93_16, u93_17, u93_18, u93_19, u93_22, u93_24, u93_26, u93_27, u93_29, u93_32, u93_34, u93_37, u93_38, u93_41, u93_44, u93_45, u93_46, u93_49, u93_50, u93_53, u93_54, u93_55, u93_56, u93_57, u93_60, u93_61, u93_64, u93_65, mj_kI_S hX hk, c1, mj_zF, mj_cc_v, mj_cc_n, List.all_cons, List.all_nil, mj_noMk_int, mj_noMk_long, mj_noMk_ref, mj_noMk_junk, List.length_nil, List.length_cons, Nat.zero_le, Nat.reduceLeDiff, Nat.reduceAdd, Bool.and_true, Bool.true_and, Bool.and_self, Nat.reduceBNe, true_or, or_true, true_and, and_true, mj_z0, mj_z1, mj_z01, decide_true, decide_false, Bool.true_and, Bool.false_and, Bool.and_true, Bool.and_false, Bool.true_or, Bool.false_or, Bool.or_false, Bool.or_true, Bool.not_true, Bool.not_false, Bool.and_self, Bool.or_self, if_true, if_false, Bool.true_eq_false, Bool.false_eq_true, not_true, not_false_eq_true]
/-- the promises of a set of places -/
def mj_pof (σ : mj_St) (x : Int32) (n : Nat) : Int32 := mj_it (fun p u => u ||| (if mj_b x p = true then 1 <<< (σ.1 47 p &&& 31) else 0)) 0 n
theorem sp_promisesOf {n w gr : Nat} {x : Int32} (hd : mj_sd σ n w gr) : mj_ev X (d + 1) 98 [.ref 46, .int x] σ = some (some (.int (mj_pof σ x n)), σ) := by
  obtain ⟨d1, d2, d3, d4, d5, d6, d7, d8, d9, d10, d11, d12⟩ := hd
  have hl : mj_Runs X (mj_ev X d) 3 (some .int) prog_5_method_30_code (4, [.ref 46, .int x, .int (mj_pof σ x 0), .int (nI 0)], [], σ) (some (.int (mj_pof σ x n)), σ) :=
    mj_count (X := X) (call := mj_ev X d) (oc := 3) (ret := (some .int)) (cc := prog_5_method_30_code) (N := n) (S := fun k => (4, [.ref 46, .int x, .int (mj_pof σ x k), .int (nI k)], [], σ)) (fun k hk hr => by
      have q : nI k < nI n := nI_lt hk (by omega)
      have hbt : (x >>> (nI k &&& 31)) &&& 1 = mj_z (mj_b x k) := mj_bt (by omega)
      have e1 : mj_pof σ x (k + 1) = mj_pof σ x k ||| (if mj_b x k = true then 1 <<< (σ.1 47 k &&& 31) else 0) := rfl
      rw [e1] at hr
      refine u98_4.mpr ?_
      cases c : mj_b x k
      · rw [c] at hbt
        rw [if_neg (by rw [c]; decide)] at hr
        simp only [u98_0, u98_1, u98_2, u98_3, u98_5, u98_6, u98_9, u98_12, u98_13, u98_14, u98_15, u98_16, u98_17, u98_18, u98_21, u98_22, u98_23, u98_26, u98_27, u98_28, u98_29, u98_32, u98_33, u98_34, u98_35, u98_38, u98_41, u98_42, d2, q, hbt, mj_zF, nI_1, mj_cc_v, mj_cc_n, List.all_cons, List.all_nil, mj_noMk_int, mj_noMk_long, mj_noMk_ref, mj_noMk_junk, List.length_nil, List.length_cons, Nat.zero_le, Nat.reduceLeDiff, Nat.reduceAdd, Bool.and_true, Bool.true_and, Bool.and_self, Nat.reduceBNe, true_or, or_true, true_and, and_true, mj_z0, mj_z1, mj_z01, decide_true, decide_false, Bool.true_and, Bool.false_and, Bool.and_true, Bool.and_false, Bool.true_or, Bool.false_or, Bool.or_false, Bool.or_true, Bool.not_true, Bool.not_false, Bool.and_self, Bool.or_self, if_true, if_false, Bool.true_eq_false, Bool.false_eq_true, not_true, not_false_eq_true]
        exact hr
      · rw [c] at hbt
        rw [if_pos c] at hr
        simp only [u98_0, u98_1, u98_2, u98_3, u98_5, u98_6, u98_9, u98_12, u98_13, u98_14, u98_15, u98_16, u98_17, u98_18, u98_21, u98_22, u98_23, u98_26, u98_27, u98_28, u98_29, u98_32, u98_33, u98_34, u98_35, u98_38, u98_41, u98_42, d2, q, hbt, mj_in_nI (show k < 6 by omega) (by decide), mj_nz9 (show k < 6 by omega) (by decide), mj_zT, mj_n10, nI_1, mj_cc_v, mj_cc_n, List.all_cons, List.all_nil, mj_noMk_int, mj_noMk_long, mj_noMk_ref, mj_noMk_junk, List.length_nil, List.length_cons, Nat.zero_le, Nat.reduceLeDiff, Nat.reduceAdd, Bool.and_true, Bool.true_and, Bool.and_self, Nat.reduceBNe, true_or, or_true, true_and, and_true, mj_z0, mj_z1, mj_z01, decide_true, decide_false, Bool.true_and, Bool.false_and, Bool.and_true, Bool.and_false, Bool.true_or, Bool.false_or, Bool.or_false, Bool.or_true, Bool.not_true, Bool.not_false, Bool.and_self, Bool.or_self, if_true, if_false, Bool.true_eq_false, Bool.false_eq_true, not_true, not_false_eq_true]
        exact hr) (by
      have q : ¬ nI n < nI n := nI_nlt (Nat.le_refl _) (by omega)
      refine u98_4.mpr ?_
      simp only [u98_0, u98_1, u98_2, u98_3, u98_5, u98_6, u98_9, u98_12, u98_13, u98_14, u98_15, u98_16, u98_17, u98_18, u98_21, u98_22, u98_23, u98_26, u98_27, u98_28, u98_29, u98_32, u98_33, u98_34, u98_35, u98_38, u98_41, u98_42, d2, q, mj_cc_v, mj_cc_n, List.all_cons, List.all_nil, mj_noMk_int, mj_noMk_long, mj_noMk_ref, mj_noMk_junk, List.length_nil, List.length_cons, Nat.zero_le, Nat.reduceLeDiff, Nat.reduceAdd, Bool.and_true, Bool.true_and, Bool.and_self, Nat.reduceBNe, true_or, or_true, true_and, and_true, mj_z0, mj_z1, mj_z01, decide_true, decide_false, Bool.true_and, Bool.false_and, Bool.and_true, Bool.and_false, Bool.true_or, Bool.false_or, Bool.or_false, Bool.or_true, Bool.not_true, Bool.not_false, Bool.and_self, Bool.or_self, if_true, if_false, Bool.true_eq_false, Bool.false_eq_true, not_true, not_false_eq_true]) 0 (Nat.zero_le _)
  have e0 : nI 0 = 0 := rfl
  have e1 : mj_pof σ x 0 = 0 := rfl
  rw [e0, e1] at hl
  refine st98 ?_
  simp only [u98_0, u98_1, u98_2, u98_3, u98_5, u98_6, u98_9, u98_12, u98_13, u98_14, u98_15, u98_16, u98_17, u98_18, u98_21, u98_22, u98_23, u98_26, u98_27, u98_28, u98_29, u98_32, u98_33, u98_34, u98_35, u98_38, u98_41, u98_42]
  exact hl
/-- what the works that are asked still need, one after the other -/
def mj_hrk (σ : mj_St) (h : Nat) (ask : Int32) (s p : Nat) (a : Int32 × Int32) : Option (Int32 × Int32) :=
  if mj_lf s p = 0 ∨ mj_b ask p = false then some a
  else if σ.1 50 p - nI h + 1 < nI (mj_lf s p) ∨ σ.1 54 (σ.1 50 p + 1).toNatClampNeg - σ.1 54 h < a.1 + nI (mj_lf s p) then none
  else if σ.1 18 (σ.1 47 p).toNatClampNeg = -1 then some (a.1 + nI (mj_lf s p), a.2)
  else if σ.1 50 p - nI h + 1 < ((a.2 + nI (mj_lf s p) <<< ((5 * σ.1 18 (σ.1 47 p).toNatClampNeg) &&& 31)) >>> ((5 * σ.1 18 (σ.1 47 p).toNatClampNeg) &&& 31)) &&& 31 then none
  else some (a.1 + nI (mj_lf s p), a.2 + nI (mj_lf s p) <<< ((5 * σ.1 18 (σ.1 47 p).toNatClampNeg) &&& 31))
def mj_hrs (σ : mj_St) (h : Nat) (ask : Int32) (s : Nat) : Nat → Nat → Int32 × Int32 → Bool
  | 0, _, _ => true
  | j + 1, k, a => match mj_hrk σ h ask s (σ.1 49 k).toNatClampNeg a with
    | none => false
    | some a' => mj_hrs σ h ask s j (k + 1) a'
def mj_hrm (σ : mj_St) (h : Nat) (ask : Int32) (s n : Nat) : Bool := mj_hrs σ h ask s n 0 (0, 0)
theorem sp_hasRoom {n w gr h s : Nat} {ask : Int32} (hd : mj_sd σ n w gr) (hh : h < 12) (hs : s < 2 ^ 31) : mj_ev X (d + 1) 89 [.ref 46, .int (nI h), .int ask, .int (nI s)] σ = some (some (.int (mj_z (mj_hrm σ h ask s n))), σ) := by
  obtain ⟨d1, d2, d3, d4, d5, d6, d7, d8, d9, d10, d11, d12⟩ := hd
  have loop : ∀ (j k : Nat) (a : Int32 × Int32) (v7 v8 v9 v10 v11 : Value), k + j = n → mj_Runs X (mj_ev X d) 3 (some .boolean) prog_5_method_27_code (9, [.ref 46, .int (nI h), .int ask, .int (nI s), .int a.1, .int a.2, .int (nI k), v7, v8, v9, v10, v11], [], σ) (some (.int (mj_z (mj_hrs σ h ask s j k a))), σ) := by
    intro j
    induction j with
    | zero =>
      intro k a v7 v8 v9 v10 v11 hk
      have q : ¬ nI k < nI n := nI_nlt (by omega) (by omega)
      refine u89_9.mpr ?_
      simp only [u89_0, u89_1, u89_3, u89_4, u89_6, u89_7, u89_11, u89_12, u89_15, u89_18, u89_19, u89_22, u89_24, u89_25, u89_27, u89_28, u89_29, u89_31, u89_32, u89_33, u89_34, u89_35, u89_37, u89_39, u89_42, u89_43, u89_45, u89_46, u89_47, u89_48, u89_51, u89_54, u89_55, u89_58, u89_60, u89_61, u89_63, u89_65, u89_66, u89_67, u89_68, u89_69, u89_71, u89_73, u89_75, u89_76, u89_78, u89_80, u89_82, u89_85, u89_87, u89_88, u89_91, u89_93, u89_94, u89_95, u89_96, u89_97, u89_100, u89_101, u89_102, u89_103, u89_106, u89_107, u89_108, u89_109, u89_112, u89_115, u89_116, u89_119, u89_121, u89_122, u89_123, u89_125, u89_127, u89_128, u89_131, u89_133, u89_135, u89_136, u89_138, u89_139, u89_140, u89_141, u89_143, u89_145, u89_146, u89_148, u89_149, u89_150, u89_152, u89_153, u89_155, u89_158, u89_159, u89_160, u89_163, u89_166, u89_167, d2, q, mj_hrs, mj_zT, mj_cc_v, mj_cc_n, List.all_cons, List.all_nil, mj_noMk_int, mj_noMk_long, mj_noMk_ref, mj_noMk_junk, List.length_nil, List.length_cons, Nat.zero_le, Nat.reduceLeDiff, Nat.reduceAdd, Bool.and_true, Bool.true_and, Bool.and_self, Nat.reduceBNe, true_or, or_true, true_and, and_true, mj_z0, mj_z1, mj_z01, decide_true, decide_false, Bool.true_and, Bool.false_and, Bool.and_true, Bool.and_false, Bool.true_or, Bool.false_or, Bool.or_false, Bool.or_true, Bool.not_true, Bool.not_false, Bool.and_self, Bool.or_self, if_true, if_false, Bool.true_eq_false, Bool.false_eq_true, not_true, not_false_eq_true]
    | succ j ih =>
      intro k a v7 v8 v9 v10 v11 hk
      have hkn : k < n := by omega
      have q : nI k < nI n := nI_lt hkn (by omega)
      obtain ⟨p, hp, ep⟩ := mj_nI_of (d10 k hkn) (by omega)
      have el := mj_lf_sh (s := s) (p := p) (by omega) hs
      have nz : (nI (mj_lf s p) = 0) = (mj_lf s p = 0) := propext (nI_eq (b := 0) (by have := mj_lf_lt (s := s) (p := p); omega) (by decide))
      have hbt : (ask >>> (nI p &&& 31)) &&& 1 = mj_z (mj_b ask p) := mj_bt (by omega)
      have es : mj_hrs σ h ask s (j + 1) k a = match mj_hrk σ h ask s p a with
        | none => false
        | some a' => mj_hrs σ h ask s j (k + 1) a' := by
        simp only [mj_hrs]
        rw [ep, nI_clamp (by omega)]
      have i9 := d8 p hp
      obtain ⟨t, ht9, et⟩ := mj_nI_of i9 (by decide)
      refine u89_9.mpr ?_
      by_cases c1 : mj_lf s p = 0
      · have ek : mj_hrk σ h ask s p a = some a := by
          unfold mj_hrk
          rw [if_pos (Or.inl c1)]
        rw [es, ek]
        simp only [u89_0, u89_1, u89_3, u89_4, u89_6, u89_7, u89_11, u89_12, u89_15, u89_18, u89_19, u89_22, u89_24, u89_25, u89_27, u89_28, u89_29, u89_31, u89_32, u89_33, u89_34, u89_35, u89_37, u89_39, u89_42, u89_43, u89_45, u89_46, u89_47, u89_48, u89_51, u89_54, u89_55, u89_58, u89_60, u89_61, u89_63, u89_65, u89_66, u89_67, u89_68, u89_69, u89_71, u89_73, u89_75, u89_76, u89_78, u89_80, u89_82, u89_85, u89_87, u89_88, u89_91, u89_93, u89_94, u89_95, u89_96, u89_97, u89_100, u89_101, u89_102, u89_103, u89_106, u89_107, u89_108, u89_109, u89_112, u89_115, u89_116, u89_119, u89_121, u89_122, u89_123, u89_125, u89_127, u89_128, u89_131, u89_133, u89_135, u89_136, u89_138, u89_139, u89_140, u89_141, u89_143, u89_145, u89_146, u89_148, u89_149, u89_150, u89_152, u89_153, u89_155, u89_158, u89_159, u89_160, u89_163, u89_166, u89_167, d2, q, mj_in_nI (show k < 6 by omega) (by decide), mj_nz9 (show k < 6 by omega) (by decide), ep, el, nz, eq_true c1, nI_1, mj_cc_v, mj_cc_n, List.all_cons, List.all_nil, mj_noMk_int, mj_noMk_long, mj_noMk_ref, mj_noMk_junk, List.length_nil, List.length_cons, Nat.zero_le, Nat.reduceLeDiff, Nat.reduceAdd, Bool.and_true, Bool.true_and, Bool.and_self, Nat.reduceBNe, true_or, or_true, true_and, and_true, mj_z0, mj_z1, mj_z01, decide_true, decide_false, Bool.true_and, Bool.false_and, Bool.and_true, Bool.and_false, Bool.true_or, Bool.false_or, Bool.or_false, Bool.or_true, Bool.not_true, Bool.not_false, Bool.and_self, Bool.or_self, if_true, if_false, Bool.true_eq_false, Bool.false_eq_true, not_true, not_false_eq_true]
        exact ih (k + 1) a _ _ _ _ _ (by omega)
      · rcases (Bool.eq_false_or_eq_true (mj_b ask p)).symm with c2 | c2
        · have ek : mj_hrk σ h ask s p a = some a := by
            unfold mj_hrk
            rw [if_pos (Or.inr c2)]
          rw [c2] at hbt
          rw [es, ek]
          simp only [u89_0, u89_1, u89_3, u89_4, u89_6, u89_7, u89_11, u89_12, u89_15, u89_18, u89_19, u89_22, u89_24, u89_25, u89_27, u89_28, u89_29, u89_31, u89_32, u89_33, u89_34, u89_35, u89_37, u89_39, u89_42, u89_43, u89_45, u89_46, u89_47, u89_48, u89_51, u89_54, u89_55, u89_58, u89_60, u89_61, u89_63, u89_65, u89_66, u89_67, u89_68, u89_69, u89_71, u89_73, u89_75, u89_76, u89_78, u89_80, u89_82, u89_85, u89_87, u89_88, u89_91, u89_93, u89_94, u89_95, u89_96, u89_97, u89_100, u89_101, u89_102, u89_103, u89_106, u89_107, u89_108, u89_109, u89_112, u89_115, u89_116, u89_119, u89_121, u89_122, u89_123, u89_125, u89_127, u89_128, u89_131, u89_133, u89_135, u89_136, u89_138, u89_139, u89_140, u89_141, u89_143, u89_145, u89_146, u89_148, u89_149, u89_150, u89_152, u89_153, u89_155, u89_158, u89_159, u89_160, u89_163, u89_166, u89_167, d2, q, mj_in_nI (show k < 6 by omega) (by decide), mj_nz9 (show k < 6 by omega) (by decide), ep, el, nz, eq_false c1, hbt, mj_zF, nI_1, mj_cc_v, mj_cc_n, List.all_cons, List.all_nil, mj_noMk_int, mj_noMk_long, mj_noMk_ref, mj_noMk_junk, List.length_nil, List.length_cons, Nat.zero_le, Nat.reduceLeDiff, Nat.reduceAdd, Bool.and_true, Bool.true_and, Bool.and_self, Nat.reduceBNe, true_or, or_true, true_and, and_true, mj_z0, mj_z1, mj_z01, decide_true, decide_false, Bool.true_and, Bool.false_and, Bool.and_true, Bool.and_false, Bool.true_or, Bool.false_or, Bool.or_false, Bool.or_true, Bool.not_true, Bool.not_false, Bool.and_self, Bool.or_self, if_true, if_false, Bool.true_eq_false, Bool.false_eq_true, not_true, not_false_eq_true]
          exact ih (k + 1) a _ _ _ _ _ (by omega)
        · rw [c2] at hbt
          have g0 : ¬ (mj_lf s p = 0 ∨ mj_b ask p = false) := by
            intro z
            rcases z with z | z
            · exact c1 z
            · rw [c2] at z
              exact absurd z mj_tf
          obtain ⟨b1, b2⟩ := d11 p hp
          have e31 : ((σ.1 50 p - nI h) + 1).toInt = (σ.1 50 p).toInt - h + 1 := by
            rw [Int32.toInt_add, Int32.toInt_sub, nI_toInt (by omega)]
            have e1 : (1 : Int32).toInt = 1 := by decide
            rw [e1, Int.bmod_def, Int.bmod_def]
            omega
          by_cases c3 : σ.1 50 p - nI h + 1 < nI (mj_lf s p)
          · have ek : mj_hrk σ h ask s p a = none := by
              unfold mj_hrk
              rw [if_neg g0, if_pos (Or.inl c3)]
            rw [es, ek]
            simp only [u89_0, u89_1, u89_3, u89_4, u89_6, u89_7, u89_11, u89_12, u89_15, u89_18, u89_19, u89_22, u89_24, u89_25, u89_27, u89_28, u89_29, u89_31, u89_32, u89_33, u89_34, u89_35, u89_37, u89_39, u89_42, u89_43, u89_45, u89_46, u89_47, u89_48, u89_51, u89_54, u89_55, u89_58, u89_60, u89_61, u89_63, u89_65, u89_66, u89_67, u89_68, u89_69, u89_71, u89_73, u89_75, u89_76, u89_78, u89_80, u89_82, u89_85, u89_87, u89_88, u89_91, u89_93, u89_94, u89_95, u89_96, u89_97, u89_100, u89_101, u89_102, u89_103, u89_106, u89_107, u89_108, u89_109, u89_112, u89_115, u89_116, u89_119, u89_121, u89_122, u89_123, u89_125, u89_127, u89_128, u89_131, u89_133, u89_135, u89_136, u89_138, u89_139, u89_140, u89_141, u89_143, u89_145, u89_146, u89_148, u89_149, u89_150, u89_152, u89_153, u89_155, u89_158, u89_159, u89_160, u89_163, u89_166, u89_167, d2, q, mj_in_nI (show k < 6 by omega) (by decide), mj_nz9 (show k < 6 by omega) (by decide), mj_in_nI (show p < 6 by omega) (by decide), mj_nz9 (show p < 6 by omega) (by decide), ep, el, nz, eq_false c1, hbt, c3, mj_zT, mj_zF, mj_n10, mj_cc_v, mj_cc_n, List.all_cons, List.all_nil, mj_noMk_int, mj_noMk_long, mj_noMk_ref, mj_noMk_junk, List.length_nil, List.length_cons, Nat.zero_le, Nat.reduceLeDiff, Nat.reduceAdd, Bool.and_true, Bool.true_and, Bool.and_self, Nat.reduceBNe, true_or, or_true, true_and, and_true, mj_z0, mj_z1, mj_z01, decide_true, decide_false, Bool.true_and, Bool.false_and, Bool.and_true, Bool.and_false, Bool.true_or, Bool.false_or, Bool.or_false, Bool.or_true, Bool.not_true, Bool.not_false, Bool.and_self, Bool.or_self, if_true, if_false, Bool.true_eq_false, Bool.false_eq_true, not_true, not_false_eq_true]
          · have hlast : 0 ≤ (σ.1 50 p).toInt := by
              have c3' := c3
              rw [Int32.lt_iff_toInt_lt, e31, nI_toInt (by have := mj_lf_lt (s := s) (p := p); omega)] at c3'
              omega
            have e51 : (σ.1 50 p + 1).toInt = (σ.1 50 p).toInt + 1 := by
              rw [Int32.toInt_add]
              have e1 : (1 : Int32).toInt = 1 := by decide
              rw [e1, Int.bmod_def]
              omega
            have i13 : mj_inb (σ.1 50 p + 1) 13 = true := by
              rw [mj_in_iff]
              intro z
              have e0 : (0 : Int32).toInt = 0 := by decide
              rcases z with z | z
              · rw [Int32.lt_iff_toInt_lt, e51, e0] at z
                omega
              · have q2 := mj_clamp (x := σ.1 50 p + 1) (by rw [Int32.lt_iff_toInt_lt, e51, e0]; omega)
                omega
            by_cases c4 : σ.1 54 (σ.1 50 p + 1).toNatClampNeg - σ.1 54 h < a.1 + nI (mj_lf s p)
            · have ek : mj_hrk σ h ask s p a = none := by
                unfold mj_hrk
                rw [if_neg g0, if_pos (Or.inr c4)]
              rw [es, ek]
              simp only [u89_0, u89_1, u89_3, u89_4, u89_6, u89_7, u89_11, u89_12, u89_15, u89_18, u89_19, u89_22, u89_24, u89_25, u89_27, u89_28, u89_29, u89_31, u89_32, u89_33, u89_34, u89_35, u89_37, u89_39, u89_42, u89_43, u89_45, u89_46, u89_47, u89_48, u89_51, u89_54, u89_55, u89_58, u89_60, u89_61, u89_63, u89_65, u89_66, u89_67, u89_68, u89_69, u89_71, u89_73, u89_75, u89_76, u89_78, u89_80, u89_82, u89_85, u89_87, u89_88, u89_91, u89_93, u89_94, u89_95, u89_96, u89_97, u89_100, u89_101, u89_102, u89_103, u89_106, u89_107, u89_108, u89_109, u89_112, u89_115, u89_116, u89_119, u89_121, u89_122, u89_123, u89_125, u89_127, u89_128, u89_131, u89_133, u89_135, u89_136, u89_138, u89_139, u89_140, u89_141, u89_143, u89_145, u89_146, u89_148, u89_149, u89_150, u89_152, u89_153, u89_155, u89_158, u89_159, u89_160, u89_163, u89_166, u89_167, d2, q, mj_in_nI (show k < 6 by omega) (by decide), mj_nz9 (show k < 6 by omega) (by decide), mj_in_nI (show p < 6 by omega) (by decide), mj_nz9 (show p < 6 by omega) (by decide), mj_in_nI (show h < 13 by omega) (by decide), mj_nz9 (show h < 13 by omega) (by decide), i13, ep, el, nz, eq_false c1, hbt, c3, c4, mj_zT, mj_zF, mj_n10, mj_cc_v, mj_cc_n, List.all_cons, List.all_nil, mj_noMk_int, mj_noMk_long, mj_noMk_ref, mj_noMk_junk, List.length_nil, List.length_cons, Nat.zero_le, Nat.reduceLeDiff, Nat.reduceAdd, Bool.and_true, Bool.true_and, Bool.and_self, Nat.reduceBNe, true_or, or_true, true_and, and_true, mj_z0, mj_z1, mj_z01, decide_true, decide_false, Bool.true_and, Bool.false_and, Bool.and_true, Bool.and_false, Bool.true_or, Bool.false_or, Bool.or_false, Bool.or_true, Bool.not_true, Bool.not_false, Bool.and_self, Bool.or_self, if_true, if_false, Bool.true_eq_false, Bool.false_eq_true, not_true, not_false_eq_true]
            · have g1 : ¬ (σ.1 50 p - nI h + 1 < nI (mj_lf s p) ∨ σ.1 54 (σ.1 50 p + 1).toNatClampNeg - σ.1 54 h < a.1 + nI (mj_lf s p)) := fun z => z.elim c3 c4
              by_cases c5 : σ.1 18 (σ.1 47 p).toNatClampNeg = -1
              · have ek : mj_hrk σ h ask s p a = some (a.1 + nI (mj_lf s p), a.2) := by
                  unfold mj_hrk
                  rw [if_neg g0, if_neg g1, if_pos c5]
                rw [es, ek]
                simp only [u89_0, u89_1, u89_3, u89_4, u89_6, u89_7, u89_11, u89_12, u89_15, u89_18, u89_19, u89_22, u89_24, u89_25, u89_27, u89_28, u89_29, u89_31, u89_32, u89_33, u89_34, u89_35, u89_37, u89_39, u89_42, u89_43, u89_45, u89_46, u89_47, u89_48, u89_51, u89_54, u89_55, u89_58, u89_60, u89_61, u89_63, u89_65, u89_66, u89_67, u89_68, u89_69, u89_71, u89_73, u89_75, u89_76, u89_78, u89_80, u89_82, u89_85, u89_87, u89_88, u89_91, u89_93, u89_94, u89_95, u89_96, u89_97, u89_100, u89_101, u89_102, u89_103, u89_106, u89_107, u89_108, u89_109, u89_112, u89_115, u89_116, u89_119, u89_121, u89_122, u89_123, u89_125, u89_127, u89_128, u89_131, u89_133, u89_135, u89_136, u89_138, u89_139, u89_140, u89_141, u89_143, u89_145, u89_146, u89_148, u89_149, u89_150, u89_152, u89_153, u89_155, u89_158, u89_159, u89_160, u89_163, u89_166, u89_167, d1, mj_rf_some, mj_rf14, mj_noMk_ref, d2, q, mj_in_nI (show k < 6 by omega) (by decide), mj_nz9 (show k < 6 by omega) (by decide), mj_in_nI (show p < 6 by omega) (by decide), mj_nz9 (show p < 6 by omega) (by decide), mj_in_nI (show h < 13 by omega) (by decide), mj_nz9 (show h < 13 by omega) (by decide), i13, i9, ep, el, nz, eq_false c1, hbt, c3, c4, eq_true c5, mj_zT, mj_n10, nI_1, mj_cc_v, mj_cc_n, List.all_cons, List.all_nil, mj_noMk_int, mj_noMk_long, mj_noMk_ref, mj_noMk_junk, List.length_nil, List.length_cons, Nat.zero_le, Nat.reduceLeDiff, Nat.reduceAdd, Bool.and_true, Bool.true_and, Bool.and_self, Nat.reduceBNe, true_or, or_true, true_and, and_true, mj_z0, mj_z1, mj_z01, decide_true, decide_false, Bool.true_and, Bool.false_and, Bool.and_true, Bool.and_false, Bool.true_or, Bool.false_or, Bool.or_false, Bool.or_true, Bool.not_true, Bool.not_false, Bool.and_self, Bool.or_self, if_true, if_false, Bool.true_eq_false, Bool.false_eq_true, not_true, not_false_eq_true]
                exact ih (k + 1) (a.1 + nI (mj_lf s p), a.2) _ _ _ _ _ (by omega)
              · by_cases c6 : σ.1 50 p - nI h + 1 < ((a.2 + nI (mj_lf s p) <<< ((5 * σ.1 18 (σ.1 47 p).toNatClampNeg) &&& 31)) >>> ((5 * σ.1 18 (σ.1 47 p).toNatClampNeg) &&& 31)) &&& 31
                · have ek : mj_hrk σ h ask s p a = none := by
                    unfold mj_hrk
                    rw [if_neg g0, if_neg g1, if_neg c5, if_pos c6]
                  rw [es, ek]
                  simp only [u89_0, u89_1, u89_3, u89_4, u89_6, u89_7, u89_11, u89_12, u89_15, u89_18, u89_19, u89_22, u89_24, u89_25, u89_27, u89_28, u89_29, u89_31, u89_32, u89_33, u89_34, u89_35, u89_37, u89_39, u89_42, u89_43, u89_45, u89_46, u89_47, u89_48, u89_51, u89_54, u89_55, u89_58, u89_60, u89_61, u89_63, u89_65, u89_66, u89_67, u89_68, u89_69, u89_71, u89_73, u89_75, u89_76, u89_78, u89_80, u89_82, u89_85, u89_87, u89_88, u89_91, u89_93, u89_94, u89_95, u89_96, u89_97, u89_100, u89_101, u89_102, u89_103, u89_106, u89_107, u89_108, u89_109, u89_112, u89_115, u89_116, u89_119, u89_121, u89_122, u89_123, u89_125, u89_127, u89_128, u89_131, u89_133, u89_135, u89_136, u89_138, u89_139, u89_140, u89_141, u89_143, u89_145, u89_146, u89_148, u89_149, u89_150, u89_152, u89_153, u89_155, u89_158, u89_159, u89_160, u89_163, u89_166, u89_167, d1, mj_rf_some, mj_rf14, mj_noMk_ref, d2, q, mj_in_nI (show k < 6 by omega) (by decide), mj_nz9 (show k < 6 by omega) (by decide), mj_in_nI (show p < 6 by omega) (by decide), mj_nz9 (show p < 6 by omega) (by decide), mj_in_nI (show h < 13 by omega) (by decide), mj_nz9 (show h < 13 by omega) (by decide), i13, i9, ep, el, nz, eq_false c1, hbt, c3, c4, eq_false c5, c6, mj_zT, mj_zF, mj_n10, mj_cc_v, mj_cc_n, List.all_cons, List.all_nil, mj_noMk_int, mj_noMk_long, mj_noMk_ref, mj_noMk_junk, List.length_nil, List.length_cons, Nat.zero_le, Nat.reduceLeDiff, Nat.reduceAdd, Bool.and_true, Bool.true_and, Bool.and_self, Nat.reduceBNe, true_or, or_true, true_and, and_true, mj_z0, mj_z1, mj_z01, decide_true, decide_false, Bool.true_and, Bool.false_and, Bool.and_true, Bool.and_false, Bool.true_or, Bool.false_or, Bool.or_false, Bool.or_true, Bool.not_true, Bool.not_false, Bool.and_self, Bool.or_self, if_true, if_false, Bool.true_eq_false, Bool.false_eq_true, not_true, not_false_eq_true]
                · have ek : mj_hrk σ h ask s p a = some (a.1 + nI (mj_lf s p), a.2 + nI (mj_lf s p) <<< ((5 * σ.1 18 (σ.1 47 p).toNatClampNeg) &&& 31)) := by
                    unfold mj_hrk
                    rw [if_neg g0, if_neg g1, if_neg c5, if_neg c6]
                  rw [es, ek]
                  simp only [u89_0, u89_1, u89_3, u89_4, u89_6, u89_7, u89_11, u89_12, u89_15, u89_18, u89_19, u89_22, u89_24, u89_25, u89_27, u89_28, u89_29, u89_31, u89_32, u89_33, u89_34, u89_35, u89_37, u89_39, u89_42, u89_43, u89_45, u89_46, u89_47, u89_48, u89_51, u89_54, u89_55, u89_58, u89_60, u89_61, u89_63, u89_65, u89_66, u89_67, u89_68, u89_69, u89_71, u89_73, u89_75, u89_76, u89_78, u89_80, u89_82, u89_85, u89_87, u89_88, u89_91, u89_93, u89_94, u89_95, u89_96, u89_97, u89_100, u89_101, u89_102, u89_103, u89_106, u89_107, u89_108, u89_109, u89_112, u89_115, u89_116, u89_119, u89_121, u89_122, u89_123, u89_125, u89_127, u89_128, u89_131, u89_133, u89_135, u89_136, u89_138, u89_139, u89_140, u89_141, u89_143, u89_145, u89_146, u89_148, u89_149, u89_150, u89_152, u89_153, u89_155, u89_158, u89_159, u89_160, u89_163, u89_166, u89_167, d1, mj_rf_some, mj_rf14, mj_noMk_ref, d2, q, mj_in_nI (show k < 6 by omega) (by decide), mj_nz9 (show k < 6 by omega) (by decide), mj_in_nI (show p < 6 by omega) (by decide), mj_nz9 (show p < 6 by omega) (by decide), mj_in_nI (show h < 13 by omega) (by decide), mj_nz9 (show h < 13 by omega) (by decide), i13, i9, ep, el, nz, eq_false c1, hbt, c3, c4, eq_false c5, c6, mj_zT, mj_n10, nI_1, mj_cc_v, mj_cc_n, List.all_cons, List.all_nil, mj_noMk_int, mj_noMk_long, mj_noMk_ref, mj_noMk_junk, List.length_nil, List.length_cons, Nat.zero_le, Nat.reduceLeDiff, Nat.reduceAdd, Bool.and_true, Bool.true_and, Bool.and_self, Nat.reduceBNe, true_or, or_true, true_and, and_true, mj_z0, mj_z1, mj_z01, decide_true, decide_false, Bool.true_and, Bool.false_and, Bool.and_true, Bool.and_false, Bool.true_or, Bool.false_or, Bool.or_false, Bool.or_true, Bool.not_true, Bool.not_false, Bool.and_self, Bool.or_self, if_true, if_false, Bool.true_eq_false, Bool.false_eq_true, not_true, not_false_eq_true]
                  exact ih (k + 1) (a.1 + nI (mj_lf s p), a.2 + nI (mj_lf s p) <<< ((5 * σ.1 18 (σ.1 47 p).toNatClampNeg) &&& 31)) _ _ _ _ _ (by omega)
  have hl := loop n 0 (0, 0) mj_junk mj_junk mj_junk mj_junk mj_junk (by omega)
  have e0 : nI 0 = 0 := rfl
  rw [e0] at hl
  refine st89 ?_
  simp only [u89_0, u89_1, u89_3, u89_4, u89_6, u89_7, u89_11, u89_12, u89_15, u89_18, u89_19, u89_22, u89_24, u89_25, u89_27, u89_28, u89_29, u89_31, u89_32, u89_33, u89_34, u89_35, u89_37, u89_39, u89_42, u89_43, u89_45, u89_46, u89_47, u89_48, u89_51, u89_54, u89_55, u89_58, u89_60, u89_61, u89_63, u89_65, u89_66, u89_67, u89_68, u89_69, u89_71, u89_73, u89_75, u89_76, u89_78, u89_80, u89_82, u89_85, u89_87, u89_88, u89_91, u89_93, u89_94, u89_95, u89_96, u89_97, u89_100, u89_101, u89_102, u89_103, u89_106, u89_107, u89_108, u89_109, u89_112, u89_115, u89_116, u89_119, u89_121, u89_122, u89_123, u89_125, u89_127, u89_128, u89_131, u89_133, u89_135, u89_136, u89_138, u89_139, u89_140, u89_141, u89_143, u89_145, u89_146, u89_148, u89_149, u89_150, u89_152, u89_153, u89_155, u89_158, u89_159, u89_160, u89_163, u89_166, u89_167]
  exact hl
end
