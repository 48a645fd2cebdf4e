section
variable {X : mj_X} {d : Nat} {σ : mj_St}
theorem mj_cnS_o {c N : Nat} (h1 : c ≠ 85) (h2 : c ≠ 61) : (mj_cnS σ N).1 c = σ.1 c := by
  unfold mj_cnS
  rw [mj_setI_ne _ _ _ h2, mj_figS_o h1]
theorem mj_cnS_0 {N : Nat} : (mj_cnS σ N).1 61 0 = σ.1 61 0 := by
  show (mj_figS σ N).1 61 0 = σ.1 61 0
  rw [mj_figS_o (by decide)]
theorem mj_cnS_85 {N k : Nat} (h : k < N) : (mj_cnS σ N).1 85 k = nI (mj_wc σ k) := by
  unfold mj_cnS
  rw [mj_setI_ne _ _ _ (by decide)]
  simp [mj_figS, h]
theorem mj_cnS_Pw {N : Nat} (hP : mj_Pw σ) : mj_Pw (mj_cnS σ N) := by
  refine ⟨fun k hk => ?_, fun w hw => ?_⟩
  · by_cases h : k < N
    · rw [mj_cnS_85 h]
      have := mj_wc_le (σ := σ) k
      exact mj_in_nI (by omega) (by decide)
    · have e : (mj_cnS σ N).1 85 k = σ.1 85 k := by
        unfold mj_cnS
        rw [mj_setI_ne _ _ _ (by decide)]
        simp [mj_figS, h]
      rw [e]
      exact hP.1 k hk
  · rw [mj_cnS_o (by decide) (by decide)]
    exact hP.2 w hw
theorem sp_M_codeFirst {N : Nat} (hN : σ.1 61 0 = nI N) (h9 : N ≤ 9) (haf : ∀ k, k < 9 → σ.1 69 k = -1 ∨ mj_inb (σ.1 69 k) 9 = true) : mj_ev X (d + 3) 236 [.ref 61] σ = some (some (.int (mj_cno σ (σ.1 74) N)), mj_cnS σ N) := by
  refine st236 ?_
  simp only [u236_0, u236_1, u236_4, u236_5, u236_6, u236_7, u236_8, u236_10, u236_11, u236_14, u236_17, u236_18, u236_21, u236_22, u236_23, u236_24, u236_27, u236_28, u236_29, u236_32, u236_33, u236_36, u236_37, u236_38, u236_39, u236_40, u236_43, u236_44, u236_45, u236_46, u236_47, u236_48, u236_51, u236_54, u236_55, sp_M_codeNow hN h9 haf, mj_cc_v, mj_cc_n, List.all_cons, List.all_nil, mj_noMk_int, mj_noMk_long, mj_noMk_ref, mj_noMk_junk, List.length_nil, List.length_cons, Nat.zero_le, Nat.reduceLeDiff, Nat.reduceAdd, Bool.and_true, Bool.true_and, Bool.and_self, Nat.reduceBNe, true_or, or_true, true_and, and_true, mj_z0, mj_z1, mj_z01]
  have c0 : (mj_cnS σ N).1 61 0 = nI N := by rw [mj_cnS_0]; exact hN
  have c65 : (mj_cnS σ N).1 65 = σ.1 65 := mj_cnS_o (by decide) (by decide)
  have c74 : (mj_cnS σ N).1 74 = σ.1 74 := mj_cnS_o (by decide) (by decide)
  have c84 : (mj_cnS σ N).1 84 = σ.1 84 := mj_cnS_o (by decide) (by decide)
  exact mj_count (X := X) (call := mj_ev X (d + 2)) (oc := 6) (ret := (some .int)) (cc := prog_8_method_38_code) (N := N) (S := fun k => (9, [.ref 61, .int (mj_cno σ (σ.1 74) k), .int (nI k)], [], mj_cnS σ N)) (fun k hk hr => by
      refine u236_9.mpr ?_
      have hk9 : k < 9 := by omega
      have hw9 : mj_wc σ k < 9 := by have := mj_wc_le (σ := σ) k; omega
      have h1 : nI k < nI N := nI_lt hk (by omega)
      have e1 : mj_cno σ (σ.1 74) (k + 1) = if σ.1 65 k < 5 then mj_cno σ (σ.1 74) k + σ.1 84 (mj_wc σ k) * σ.1 74 k else mj_cno σ (σ.1 74) k := rfl
      rw [e1] at hr
      by_cases c1 : σ.1 65 k < 5
      · simp only [u236_0, u236_1, u236_4, u236_5, u236_6, u236_7, u236_8, u236_10, u236_11, u236_14, u236_17, u236_18, u236_21, u236_22, u236_23, u236_24, u236_27, u236_28, u236_29, u236_32, u236_33, u236_36, u236_37, u236_38, u236_39, u236_40, u236_43, u236_44, u236_45, u236_46, u236_47, u236_48, u236_51, u236_54, u236_55, c0, c65, c74, c84, mj_cnS_85 hk, h1, c1, if_true, mj_in_nI hk9 (by decide), mj_nz9 hk9 (by decide), mj_in_nI hw9 (by decide), mj_nz9 hw9 (by decide), mj_cc_v, mj_cc_n, List.all_cons, List.all_nil, mj_noMk_int, mj_noMk_long, mj_noMk_ref, mj_noMk_junk, List.length_nil, List.length_cons, Nat.zero_le, Nat.reduceLeDiff, Nat.reduceAdd, Bool.and_true, Bool.true_and, Bool.and_self, Nat.reduceBNe, true_or, or_true, true_and, and_true, mj_z0, mj_z1, mj_z01, nI_1] at hr ⊢
        exact hr
      · simp only [u236_0, u236_1, u236_4, u236_5, u236_6, u236_7, u236_8, u236_10, u236_11, u236_14, u236_17, u236_18, u236_21, u236_22, u236_23, u236_24, u236_27, u236_28, u236_29, u236_32, u236_33, u236_36, u236_37, u236_38, u236_39, u236_40, u236_43, u236_44, u236_45, u236_46, u236_47, u236_48, u236_51, u236_54, u236_55, c0, c65, c74, c84, mj_cnS_85 hk, h1, c1, if_true, if_false, mj_in_nI hk9 (by decide), mj_nz9 hk9 (by decide), mj_cc_v, mj_cc_n, List.all_cons, List.all_nil, mj_noMk_int, mj_noMk_long, mj_noMk_ref, mj_noMk_junk, List.length_nil, List.length_cons, Nat.zero_le, Nat.reduceLeDiff, Nat.reduceAdd, Bool.and_true, Bool.true_and, Bool.and_self, Nat.reduceBNe, true_or, or_true, true_and, and_true, mj_z0, mj_z1, mj_z01, nI_1] at hr ⊢
        exact hr) (by
      refine u236_9.mpr ?_
      have h1 : ¬ nI N < nI N := nI_nlt (Nat.le_refl _) (by omega)
      simp only [u236_0, u236_1, u236_4, u236_5, u236_6, u236_7, u236_8, u236_10, u236_11, u236_14, u236_17, u236_18, u236_21, u236_22, u236_23, u236_24, u236_27, u236_28, u236_29, u236_32, u236_33, u236_36, u236_37, u236_38, u236_39, u236_40, u236_43, u236_44, u236_45, u236_46, u236_47, u236_48, u236_51, u236_54, u236_55, c0, h1, if_false]) 0 (Nat.zero_le _)
def mj_Mls (σ : mj_St) (m : Int32) (N : Nat) : Bool := mj_anyF (fun i => mj_b m i && decide (σ.1 77 i = 1)) 0 N
theorem sp_M_isLost {N : Nat} {m : Int32} (hN : σ.1 61 0 = nI N) (h9 : N ≤ 9) : mj_ev X (d + 2) 194 [.ref 61, .int m] σ = some (some (.int (mj_z (mj_Mls σ m N))), σ) := by
  refine st194 ?_
  simp only [u194_0, u194_1, u194_3, u194_4, u194_7, u194_10, u194_11, u194_12, u194_13, u194_16, u194_19, u194_20, u194_23, u194_24, u194_25, u194_26, u194_29, u194_30, u194_31, u194_34, u194_37, u194_38]
  have key : ∀ j k : Nat, k + j = N → mj_Runs X (mj_ev X (d + 1)) 6 (some .boolean) prog_8_method_55_code (2, [.ref 61, .int m, .int (nI k)], [], σ) (some (.int (mj_z (mj_anyF (fun i => mj_b m i && decide (σ.1 77 i = 1)) k j))), σ) := by
    intro j
    induction j with
    | zero =>
      intro k hk
      have hkN : k = N := by omega
      subst hkN
      refine u194_2.mpr ?_
      simp only [u194_0, u194_1, u194_3, u194_4, u194_7, u194_10, u194_11, u194_12, u194_13, u194_16, u194_19, u194_20, u194_23, u194_24, u194_25, u194_26, u194_29, u194_30, u194_31, u194_34, u194_37, u194_38, hN, nI_nlt (Nat.le_refl k) (show k < 2 ^ 31 by omega), if_false]
      simp [mj_anyF, mj_z]
    | succ j ih =>
      intro k hk
      have hr := ih (k + 1) (by omega)
      have h1 : nI k < σ.1 61 0 := by rw [hN]; exact nI_lt (by omega) (by omega)
      refine u194_2.mpr ?_
      simp only [u194_0, u194_1, u194_3, u194_4, u194_7, u194_10, u194_11, u194_12, u194_13, u194_16, u194_19, u194_20, u194_23, u194_24, u194_25, u194_26, u194_29, u194_30, u194_31, u194_34, u194_37, u194_38, h1, if_true, sp_M_isIn (show k < 32 by omega), mj_in_nI (show k < 9 by omega) (by decide), mj_nz9 (show k < 9 by omega) (by decide), mj_cc_v, mj_cc_n, List.all_cons, List.all_nil, mj_noMk_int, mj_noMk_long, mj_noMk_ref, mj_noMk_junk, List.length_nil, List.length_cons, Nat.zero_le, Nat.reduceLeDiff, Nat.reduceAdd, Bool.and_true, Bool.true_and, Bool.and_self, Nat.reduceBNe, true_or, or_true, true_and, and_true, mj_z0, mj_z1, mj_z01, nI_1, mj_anyF]
      cases c1 : mj_b m k
      · simp only [decide_true, decide_false, Bool.true_and, Bool.false_and, Bool.and_true, Bool.and_false, Bool.true_or, Bool.false_or, Bool.or_false, Bool.or_true, Bool.not_true, Bool.not_false, Bool.and_self, Bool.or_self, if_true, if_false, Bool.true_eq_false, Bool.false_eq_true, not_true, not_false_eq_true]
        exact hr
      · by_cases c2 : σ.1 77 k = 1
        · simp [c2, mj_z]
        · simp only [c2, decide_true, decide_false, Bool.true_and, Bool.false_and, Bool.and_true, Bool.and_false, Bool.true_or, Bool.false_or, Bool.or_false, Bool.or_true, Bool.not_true, Bool.not_false, Bool.and_self, Bool.or_self, if_true, if_false, Bool.true_eq_false, Bool.false_eq_true, not_true, not_false_eq_true]
          exact hr
  exact key N 0 (by omega)
def mj_Mkb (σ : mj_St) (h : Int32) (n : Nat) : Int32 := mj_it (fun f u => if h < σ.1 64 f then u else u ||| 1 <<< (nI f &&& 31)) 0 n
theorem sp_M_knownBy {h : Int32} : mj_ev X (d + 1) 215 [.ref 61, .int h] σ = some (some (.int (mj_Mkb σ h 3)), σ) := by
  refine st215 ?_
  simp only [u215_0, u215_1, u215_2, u215_3, u215_5, u215_6, u215_9, u215_10, u215_13, u215_14, u215_15, u215_16, u215_19, u215_20, u215_21, u215_22, u215_23, u215_24, u215_25, u215_28, u215_31, u215_32]
  exact mj_count (X := X) (call := mj_ev X d) (oc := 6) (ret := (some .int)) (cc := prog_8_method_59_code) (N := 3) (S := fun k => (4, [.ref 61, .int h, .int (mj_Mkb σ h k), .int (nI k)], [], σ)) (fun k hk hr => by
      refine u215_4.mpr ?_
      have h3 : nI k < 3 := nI_lt (b := 3) hk (by decide)
      have e1 : mj_Mkb σ h (k + 1) = if h < σ.1 64 k then mj_Mkb σ h k else mj_Mkb σ h k ||| 1 <<< (nI k &&& 31) := rfl
      rw [e1] at hr
      by_cases c : h < σ.1 64 k
      · simp only [u215_0, u215_1, u215_2, u215_3, u215_5, u215_6, u215_9, u215_10, u215_13, u215_14, u215_15, u215_16, u215_19, u215_20, u215_21, u215_22, u215_23, u215_24, u215_25, u215_28, u215_31, u215_32, h3, c, if_true, mj_in_nI hk (by decide), mj_nz9 hk (by decide), true_and, nI_1] at hr ⊢
        exact hr
      · simp only [u215_0, u215_1, u215_2, u215_3, u215_5, u215_6, u215_9, u215_10, u215_13, u215_14, u215_15, u215_16, u215_19, u215_20, u215_21, u215_22, u215_23, u215_24, u215_25, u215_28, u215_31, u215_32, h3, c, if_true, if_false, mj_in_nI hk (by decide), mj_nz9 hk (by decide), true_and, nI_1] at hr ⊢
        exact hr) (by
      refine u215_4.mpr ?_
      have h3 : ¬ nI 3 < 3 := by decide
      simp only [u215_0, u215_1, u215_2, u215_3, u215_5, u215_6, u215_9, u215_10, u215_13, u215_14, u215_15, u215_16, u215_19, u215_20, u215_21, u215_22, u215_23, u215_24, u215_25, u215_28, u215_31, u215_32, h3, if_false]) 0 (Nat.zero_le _)
def mj_Mkn (σ : mj_St) (b : Bool) (n : Nat) : Nat := mj_it (fun i c => if decide (σ.1 65 i < 5) = b then c + 1 else c) 0 n
theorem mj_z_inj {a b : Bool} : (mj_z a = mj_z b) = (a = b) := by
  cases a <;> cases b <;> simp [mj_z]
theorem sp_M_kinds {N : Nat} {b : Bool} (hN : σ.1 61 0 = nI N) (h9 : N ≤ 9) : mj_ev X (d + 2) 181 [.ref 61, .int (mj_z b)] σ = some (some (.int (nI (mj_Mkn σ b N))), σ) := by
  have h9' : (σ.1 61 0).toInt ≤ 9 := by rw [hN, nI_toInt (by omega)]; omega
  refine st181 ?_
  simp only [u181_0, u181_1, u181_2, u181_3, u181_5, u181_6, u181_9, u181_12, u181_13, u181_14, u181_17, u181_18, u181_21, u181_24, u181_27, u181_30, u181_31]
  exact mj_count (X := X) (call := mj_ev X (d + 1)) (oc := 6) (ret := (some .int)) (cc := prog_8_method_26_code) (N := N) (S := fun k => (4, [.ref 61, .int (mj_z b), .int (nI (mj_Mkn σ b k)), .int (nI k)], [], σ)) (fun k hk hr => by
      refine u181_4.mpr ?_
      have h1 : nI k < σ.1 61 0 := by rw [hN]; exact nI_lt hk (by omega)
      have hl := mj_lt0_nI hk (show N < 2147483648 by omega)
      rw [← hN] at hl
      have e1 : mj_Mkn σ b (k + 1) = if decide (σ.1 65 k < 5) = b then mj_Mkn σ b k + 1 else mj_Mkn σ b k := rfl
      rw [e1] at hr
      by_cases c : decide (σ.1 65 k < 5) = b
      · rw [if_pos c] at hr
        simp only [u181_0, u181_1, u181_2, u181_3, u181_5, u181_6, u181_9, u181_12, u181_13, u181_14, u181_17, u181_18, u181_21, u181_24, u181_27, u181_30, u181_31, h1, if_true, sp_M_isWork h9', hl, mj_nz9 (show k < 9 by omega) (by decide), mj_z_inj, c, mj_cc_v, mj_cc_n, List.all_cons, List.all_nil, mj_noMk_int, mj_noMk_long, mj_noMk_ref, mj_noMk_junk, List.length_nil, List.length_cons, Nat.zero_le, Nat.reduceLeDiff, Nat.reduceAdd, Bool.and_true, Bool.true_and, Bool.and_self, Nat.reduceBNe, true_or, or_true, true_and, and_true, mj_z0, mj_z1, mj_z01, nI_1]
        exact hr
      · rw [if_neg c] at hr
        simp only [u181_0, u181_1, u181_2, u181_3, u181_5, u181_6, u181_9, u181_12, u181_13, u181_14, u181_17, u181_18, u181_21, u181_24, u181_27, u181_30, u181_31, h1, if_true, if_false, sp_M_isWork h9', hl, mj_nz9 (show k < 9 by omega) (by decide), mj_z_inj, c, mj_cc_v, mj_cc_n, List.all_cons, List.all_nil, mj_noMk_int, mj_noMk_long, mj_noMk_ref, mj_noMk_junk, List.length_nil, List.length_cons, Nat.zero_le, Nat.reduceLeDiff, Nat.reduceAdd, Bool.and_true, Bool.true_and, Bool.and_self, Nat.reduceBNe, true_or, or_true, true_and, and_true, mj_z0, mj_z1, mj_z01, nI_1]
        exact hr) (by
      refine u181_4.mpr ?_
      have h1 : ¬ nI N < σ.1 61 0 := by rw [hN]; exact nI_nlt (Nat.le_refl _) (by omega)
      simp only [u181_0, u181_1, u181_2, u181_3, u181_5, u181_6, u181_9, u181_12, u181_13, u181_14, u181_17, u181_18, u181_21, u181_24, u181_27, u181_30, u181_31, h1, if_false]) 0 (Nat.zero_le _)
theorem sp_M_begins : mj_ev X (d + 1) 196 [.ref 61] σ = some (none, mj_setI (mj_setI σ 61 51 (σ.1 61 51 + 1)) 61 52 0) := by
  refine st196 ?_
  simp only [u196_0, u196_1, u196_2, u196_5, u196_6, u196_7, u196_10, u196_11, u196_12, u196_15]
theorem mj_and14 {p : Nat} (h : p < 16384) : (nI p + 1) &&& 16383 = nI ((p + 1) % 16384) := by
  rw [nI_1]
  apply Int32.toBitVec_inj.mp
  apply BitVec.eq_of_toNat_eq
  have e1 : (nI (p + 1)).toBitVec = BitVec.ofNat 32 (p + 1) := rfl
  have e2 : (nI ((p + 1) % 16384)).toBitVec = BitVec.ofNat 32 ((p + 1) % 16384) := rfl
  rw [Int32.toBitVec_and, BitVec.toNat_and, e1, e2, BitVec.toNat_ofNat, BitVec.toNat_ofNat]
  have e3 : (16383 : Int32).toBitVec.toNat = 2 ^ 14 - 1 := by decide
  rw [e3, Nat.and_two_pow_sub_one_eq_mod]
  omega
/-- a place for a key: free, or of that very key -/
def mj_plOk (σ : mj_St) (key : Int32) (p : Nat) : Prop := p < 16384 ∧ (σ.1 87 p = σ.1 61 51 → σ.1 86 p = key)
theorem sp_M_placeOf {key : Int32} (hf : ∃ q, q < 16384 ∧ ¬ σ.1 87 q = σ.1 61 51) : ∃ p, mj_plOk σ key p ∧ ∀ d, mj_ev X (d + 1) 201 [.ref 61, .int key] σ = some (some (.int (nI p)), σ) := by
  obtain ⟨q, hq, hne⟩ := hf
  have walk : ∀ (j p : Nat), p < 16384 → (p + j) % 16384 = q → ∃ p', mj_plOk σ key p' ∧ ∀ d, mj_Runs X (mj_ev X d) 6 (some .int) prog_8_method_49_code (9, [.ref 61, .int key, .int (nI p)], [], σ) (some (.int (nI p')), σ) := by
    intro j
    induction j with
    | zero =>
      intro p hp he
      have : p = q := by omega
      subst this
      refine ⟨p, ⟨hp, fun h => absurd h hne⟩, fun d => ?_⟩
      refine u201_9.mpr ?_
      simp only [u201_0, u201_1, u201_4, u201_5, u201_7, u201_8, u201_10, u201_13, u201_14, u201_15, u201_16, u201_19, u201_22, u201_23, u201_26, u201_27, u201_28, u201_29, u201_32, u201_33, u201_34, u201_35, u201_38, u201_39, u201_40, u201_43, u201_44, mj_in_nI hp (by decide), mj_nz9 hp (by decide), hne, if_false, true_and]
    | succ j ih =>
      intro p hp he
      by_cases c1 : σ.1 87 p = σ.1 61 51
      · by_cases c2 : σ.1 86 p = key
        · refine ⟨p, ⟨hp, fun _ => c2⟩, fun d => ?_⟩
          refine u201_9.mpr ?_
          simp only [u201_0, u201_1, u201_4, u201_5, u201_7, u201_8, u201_10, u201_13, u201_14, u201_15, u201_16, u201_19, u201_22, u201_23, u201_26, u201_27, u201_28, u201_29, u201_32, u201_33, u201_34, u201_35, u201_38, u201_39, u201_40, u201_43, u201_44, mj_in_nI hp (by decide), mj_nz9 hp (by decide), c1, c2, if_true, true_and]
        · obtain ⟨p', hp', hr⟩ := ih ((p + 1) % 16384) (Nat.mod_lt _ (by decide)) (by omega)
          refine ⟨p', hp', fun d => ?_⟩
          refine u201_9.mpr ?_
          simp only [u201_0, u201_1, u201_4, u201_5, u201_7, u201_8, u201_10, u201_13, u201_14, u201_15, u201_16, u201_19, u201_22, u201_23, u201_26, u201_27, u201_28, u201_29, u201_32, u201_33, u201_34, u201_35, u201_38, u201_39, u201_40, u201_43, u201_44, mj_in_nI hp (by decide), mj_nz9 hp (by decide), c1, c2, if_true, if_false, true_and, mj_and14 hp]
          exact hr d
      · refine ⟨p, ⟨hp, fun h => absurd h c1⟩, fun d => ?_⟩
        refine u201_9.mpr ?_
        simp only [u201_0, u201_1, u201_4, u201_5, u201_7, u201_8, u201_10, u201_13, u201_14, u201_15, u201_16, u201_19, u201_22, u201_23, u201_26, u201_27, u201_28, u201_29, u201_32, u201_33, u201_34, u201_35, u201_38, u201_39, u201_40, u201_43, u201_44, mj_in_nI hp (by decide), mj_nz9 hp (by decide), c1, if_false, true_and]
  have hst : ∃ p0, p0 < 16384 ∧ ((key * -1640531535).toUInt32 >>> ((18 : Int32).toUInt32 &&& Int32.toUInt32 31)).toInt32 = nI p0 := by
    have e18 : ((18 : Int32).toUInt32 &&& Int32.toUInt32 31) = 18 := by decide
    rw [e18]
    refine ⟨(key * -1640531535).toUInt32.toNat / 262144, ?_, ?_⟩
    · have := (key * -1640531535).toUInt32.toNat_lt
      omega
    · apply Int32.toBitVec_inj.mp
      apply BitVec.eq_of_toNat_eq
      have e2 : ∀ n : Nat, (nI n).toBitVec = BitVec.ofNat 32 n := fun _ => rfl
      rw [e2, BitVec.toNat_ofNat]
      have e4 : ((key * -1640531535).toUInt32 >>> 18).toInt32.toBitVec.toNat = ((key * -1640531535).toUInt32 >>> 18).toNat := rfl
      rw [e4, UInt32.toNat_shiftRight]
      have e5 : (18 : UInt32).toNat % 32 = 18 := by decide
      rw [e5, Nat.shiftRight_eq_div_pow]
      have := (key * -1640531535).toUInt32.toNat_lt
      omega
  obtain ⟨p0, hp0, e0⟩ := hst
  obtain ⟨p', hp', hr⟩ := walk ((q + 16384 - p0) % 16384) p0 hp0 (by omega)
  refine ⟨p', hp', fun d => ?_⟩
  refine st201 ?_
  simp only [u201_0, u201_1, u201_4, u201_5, u201_7, u201_8, u201_10, u201_13, u201_14, u201_15, u201_16, u201_19, u201_22, u201_23, u201_26, u201_27, u201_28, u201_29, u201_32, u201_33, u201_34, u201_35, u201_38, u201_39, u201_40, u201_43, u201_44, e0]
  exact hr d
end
