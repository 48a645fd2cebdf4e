section
variable {X : mj_X} {d : Nat} {σ τ ρ : mj_St}
def mj_bpo (l : List Nat) (s : Int32) (n : Nat) : Int32 := mj_it (fun k u => u ||| (if mj_b s k = true then 1 <<< (nI (l.getD k 0) &&& 31) else 0)) 0 n
def mj_bpr (l : List Nat) (c : Nat → Int32) (s : Int32) (n : Nat) : Int32 := mj_it (fun k u => u + (if mj_b s k = true then c (l.getD k 0) else 0)) 0 n
theorem sp_bPromisesOf {l : List Nat} {c : Nat → Int32} {s : Int32} (hL : mj_Lb σ l c) : mj_ev X (d + 1) 109 [.ref 55, .int s] σ = some (some (.int (mj_bpo l s l.length)), σ) := by
  obtain ⟨h1, h2, h3⟩ := hL
  have loop : mj_Runs X (mj_ev X d) 0 (some .int) prog_2_method_6_code (4, [.ref 55, .int s, .int (mj_bpo l s 0), .int (nI 0)], [], σ) (some (.int (mj_bpo l s l.length)), σ) :=
    mj_count (X := X) (call := mj_ev X d) (oc := 0) (ret := (some .int)) (cc := prog_2_method_6_code) (N := l.length) (S := fun k => (4, [.ref 55, .int s, .int (mj_bpo l s k), .int (nI k)], [], σ)) (fun k hk hr => by
      have q : nI k < nI l.length := nI_lt hk (by omega)
      have e : mj_bpo l s (k + 1) = mj_bpo l s k ||| (if mj_b s k = true then 1 <<< (nI (l.getD k 0) &&& 31) else 0) := rfl
      rw [e] at hr
      generalize mj_bpo l s k = u at *
      obtain ⟨h4, h5, h6⟩ := h3 k hk
      refine u109_4.mpr ?_
      cases b : mj_b s k
      · rw [b, if_neg (by decide)] at hr
        simp only [u109_0, u109_1, u109_2, u109_3, u109_5, u109_6, u109_9, u109_12, u109_13, u109_14, u109_15, u109_16, u109_17, u109_18, u109_21, u109_22, u109_23, u109_26, u109_27, u109_28, u109_29, u109_32, u109_33, u109_34, u109_35, u109_38, u109_41, u109_42, h1, q, mj_bt (show k < 32 by omega), b, mj_zF, nI_1, mj_cc_v, mj_cc_n, List.all_cons, List.all_nil, mj_noMk_int, mj_noMk_long, mj_noMk_ref, mj_noMk_junk, List.length_nil, List.length_cons, Nat.zero_le, Nat.reduceLeDiff, Nat.reduceAdd, Bool.and_true, Bool.true_and, Bool.and_self, Nat.reduceBNe, true_or, or_true, true_and, and_true, mj_z0, mj_z1, mj_z01, decide_true, decide_false, Bool.true_and, Bool.false_and, Bool.and_true, Bool.and_false, Bool.true_or, Bool.false_or, Bool.or_false, Bool.or_true, Bool.not_true, Bool.not_false, Bool.and_self, Bool.or_self, if_true, if_false, Bool.true_eq_false, Bool.false_eq_true, not_true, not_false_eq_true]
        exact hr
      · rw [b, if_pos rfl] at hr
        simp only [u109_0, u109_1, u109_2, u109_3, u109_5, u109_6, u109_9, u109_12, u109_13, u109_14, u109_15, u109_16, u109_17, u109_18, u109_21, u109_22, u109_23, u109_26, u109_27, u109_28, u109_29, u109_32, u109_33, u109_34, u109_35, u109_38, u109_41, u109_42, h1, q, h5, mj_bt (show k < 32 by omega), b, mj_in_nI (show k < 9 by omega) (by decide), mj_nz9 (show k < 9 by omega) (by decide), mj_zT, mj_n10, nI_1, mj_cc_v, mj_cc_n, List.all_cons, List.all_nil, mj_noMk_int, mj_noMk_long, mj_noMk_ref, mj_noMk_junk, List.length_nil, List.length_cons, Nat.zero_le, Nat.reduceLeDiff, Nat.reduceAdd, Bool.and_true, Bool.true_and, Bool.and_self, Nat.reduceBNe, true_or, or_true, true_and, and_true, mj_z0, mj_z1, mj_z01, decide_true, decide_false, Bool.true_and, Bool.false_and, Bool.and_true, Bool.and_false, Bool.true_or, Bool.false_or, Bool.or_false, Bool.or_true, Bool.not_true, Bool.not_false, Bool.and_self, Bool.or_self, if_true, if_false, Bool.true_eq_false, Bool.false_eq_true, not_true, not_false_eq_true]
        exact hr) (by
      have q : ¬ nI l.length < nI l.length := nI_nlt (Nat.le_refl _) (by omega)
      refine u109_4.mpr ?_
      simp only [u109_0, u109_1, u109_2, u109_3, u109_5, u109_6, u109_9, u109_12, u109_13, u109_14, u109_15, u109_16, u109_17, u109_18, u109_21, u109_22, u109_23, u109_26, u109_27, u109_28, u109_29, u109_32, u109_33, u109_34, u109_35, u109_38, u109_41, u109_42, h1, q, mj_cc_v, mj_cc_n, List.all_cons, List.all_nil, mj_noMk_int, mj_noMk_long, mj_noMk_ref, mj_noMk_junk, List.length_nil, List.length_cons, Nat.zero_le, Nat.reduceLeDiff, Nat.reduceAdd, Bool.and_true, Bool.true_and, Bool.and_self, Nat.reduceBNe, true_or, or_true, true_and, and_true, mj_z0, mj_z1, mj_z01, decide_true, decide_false, Bool.true_and, Bool.false_and, Bool.and_true, Bool.and_false, Bool.true_or, Bool.false_or, Bool.or_false, Bool.or_true, Bool.not_true, Bool.not_false, Bool.and_self, Bool.or_self, if_true, if_false, Bool.true_eq_false, Bool.false_eq_true, not_true, not_false_eq_true]) 0 (Nat.zero_le _)
  refine st109 ?_
  simp only [u109_0, u109_1, u109_2, u109_3, u109_5, u109_6, u109_9, u109_12, u109_13, u109_14, u109_15, u109_16, u109_17, u109_18, u109_21, u109_22, u109_23, u109_26, u109_27, u109_28, u109_29, u109_32, u109_33, u109_34, u109_35, u109_38, u109_41, u109_42, mj_cc_v, mj_cc_n, List.all_cons, List.all_nil, mj_noMk_int, mj_noMk_long, mj_noMk_ref, mj_noMk_junk, List.length_nil, List.length_cons, Nat.zero_le, Nat.reduceLeDiff, Nat.reduceAdd, Bool.and_true, Bool.true_and, Bool.and_self, Nat.reduceBNe, true_or, or_true, true_and, and_true, mj_z0, mj_z1, mj_z01, decide_true, decide_false, Bool.true_and, Bool.false_and, Bool.and_true, Bool.and_false, Bool.true_or, Bool.false_or, Bool.or_false, Bool.or_true, Bool.not_true, Bool.not_false, Bool.and_self, Bool.or_self, if_true, if_false, Bool.true_eq_false, Bool.false_eq_true, not_true, not_false_eq_true]
  exact loop
theorem sp_priceOf {l : List Nat} {c : Nat → Int32} {s : Int32} (hL : mj_Lb σ l c) : mj_ev X (d + 1) 111 [.ref 55, .int s] σ = some (some (.int (mj_bpr l c s l.length)), σ) := by
  obtain ⟨h1, h2, h3⟩ := hL
  have loop : mj_Runs X (mj_ev X d) 0 (some .int) prog_2_method_5_code (4, [.ref 55, .int s, .int (mj_bpr l c s 0), .int (nI 0)], [], σ) (some (.int (mj_bpr l c s l.length)), σ) :=
    mj_count (X := X) (call := mj_ev X d) (oc := 0) (ret := (some .int)) (cc := prog_2_method_5_code) (N := l.length) (S := fun k => (4, [.ref 55, .int s, .int (mj_bpr l c s k), .int (nI k)], [], σ)) (fun k hk hr => by
      have q : nI k < nI l.length := nI_lt hk (by omega)
      have e : mj_bpr l c s (k + 1) = mj_bpr l c s k + (if mj_b s k = true then c (l.getD k 0) else 0) := rfl
      rw [e] at hr
      generalize mj_bpr l c s k = u at *
      obtain ⟨h4, h5, h6⟩ := h3 k hk
      refine u111_4.mpr ?_
      cases b : mj_b s k
      · rw [b, if_neg (by decide)] at hr
        simp only [u111_0, u111_1, u111_2, u111_3, u111_5, u111_6, u111_9, u111_12, u111_13, u111_14, u111_15, u111_16, u111_17, u111_18, u111_21, u111_22, u111_25, u111_26, u111_27, u111_30, u111_31, u111_32, u111_33, u111_36, u111_39, u111_40, h1, q, mj_bt (show k < 32 by omega), b, mj_zF, nI_1, mj_cc_v, mj_cc_n, List.all_cons, List.all_nil, mj_noMk_int, mj_noMk_long, mj_noMk_ref, mj_noMk_junk, List.length_nil, List.length_cons, Nat.zero_le, Nat.reduceLeDiff, Nat.reduceAdd, Bool.and_true, Bool.true_and, Bool.and_self, Nat.reduceBNe, true_or, or_true, true_and, and_true, mj_z0, mj_z1, mj_z01, decide_true, decide_false, Bool.true_and, Bool.false_and, Bool.and_true, Bool.and_false, Bool.true_or, Bool.false_or, Bool.or_false, Bool.or_true, Bool.not_true, Bool.not_false, Bool.and_self, Bool.or_self, if_true, if_false, Bool.true_eq_false, Bool.false_eq_true, not_true, not_false_eq_true]
        exact hr
      · rw [b, if_pos rfl] at hr
        simp only [u111_0, u111_1, u111_2, u111_3, u111_5, u111_6, u111_9, u111_12, u111_13, u111_14, u111_15, u111_16, u111_17, u111_18, u111_21, u111_22, u111_25, u111_26, u111_27, u111_30, u111_31, u111_32, u111_33, u111_36, u111_39, u111_40, h1, q, h6, mj_bt (show k < 32 by omega), b, mj_in_nI (show k < 9 by omega) (by decide), mj_nz9 (show k < 9 by omega) (by decide), mj_zT, mj_n10, nI_1, mj_cc_v, mj_cc_n, List.all_cons, List.all_nil, mj_noMk_int, mj_noMk_long, mj_noMk_ref, mj_noMk_junk, List.length_nil, List.length_cons, Nat.zero_le, Nat.reduceLeDiff, Nat.reduceAdd, Bool.and_true, Bool.true_and, Bool.and_self, Nat.reduceBNe, true_or, or_true, true_and, and_true, mj_z0, mj_z1, mj_z01, decide_true, decide_false, Bool.true_and, Bool.false_and, Bool.and_true, Bool.and_false, Bool.true_or, Bool.false_or, Bool.or_false, Bool.or_true, Bool.not_true, Bool.not_false, Bool.and_self, Bool.or_self, if_true, if_false, Bool.true_eq_false, Bool.false_eq_true, not_true, not_false_eq_true]
        exact hr) (by
      have q : ¬ nI l.length < nI l.length := nI_nlt (Nat.le_refl _) (by omega)
      refine u111_4.mpr ?_
      simp only [u111_0, u111_1, u111_2, u111_3, u111_5, u111_6, u111_9, u111_12, u111_13, u111_14, u111_15, u111_16, u111_17, u111_18, u111_21, u111_22, u111_25, u111_26, u111_27, u111_30, u111_31, u111_32, u111_33, u111_36, u111_39, u111_40, h1, q, mj_cc_v, mj_cc_n, List.all_cons, List.all_nil, mj_noMk_int, mj_noMk_long, mj_noMk_ref, mj_noMk_junk, List.length_nil, List.length_cons, Nat.zero_le, Nat.reduceLeDiff, Nat.reduceAdd, Bool.and_true, Bool.true_and, Bool.and_self, Nat.reduceBNe, true_or, or_true, true_and, and_true, mj_z0, mj_z1, mj_z01, decide_true, decide_false, Bool.true_and, Bool.false_and, Bool.and_true, Bool.and_false, Bool.true_or, Bool.false_or, Bool.or_false, Bool.or_true, Bool.not_true, Bool.not_false, Bool.and_self, Bool.or_self, if_true, if_false, Bool.true_eq_false, Bool.false_eq_true, not_true, not_false_eq_true]) 0 (Nat.zero_le _)
  refine st111 ?_
  simp only [u111_0, u111_1, u111_2, u111_3, u111_5, u111_6, u111_9, u111_12, u111_13, u111_14, u111_15, u111_16, u111_17, u111_18, u111_21, u111_22, u111_25, u111_26, u111_27, u111_30, u111_31, u111_32, u111_33, u111_36, u111_39, u111_40, mj_cc_v, mj_cc_n, List.all_cons, List.all_nil, mj_noMk_int, mj_noMk_long, mj_noMk_ref, mj_noMk_junk, List.length_nil, List.length_cons, Nat.zero_le, Nat.reduceLeDiff, Nat.reduceAdd, Bool.and_true, Bool.true_and, Bool.and_self, Nat.reduceBNe, true_or, or_true, true_and, and_true, mj_z0, mj_z1, mj_z01, decide_true, decide_false, Bool.true_and, Bool.false_and, Bool.and_true, Bool.and_false, Bool.true_or, Bool.false_or, Bool.or_false, Bool.or_true, Bool.not_true, Bool.not_false, Bool.and_self, Bool.or_self, if_true, if_false, Bool.true_eq_false, Bool.false_eq_true, not_true, not_false_eq_true]
  exact loop
/-- one after another that is given up, and not given up itself -/
def mj_bw1 (a : Nat → Int32) (l : List Nat) (s : Int32) (k : Nat) : Bool := !(mj_b s k) && (decide (¬ a (l.getD k 0) = -1) && decide (¬ ((mj_bpo l s l.length) >>> (a (l.getD k 0) &&& 31)) &&& 1 = 0))
def mj_bwh (a : Nat → Int32) (l : List Nat) (s : Int32) : Bool := !(mj_anyF (mj_bw1 a l s) 0 l.length)
theorem sp_isWholeChoice {l : List Nat} {c : Nat → Int32} {s : Int32} (hL : mj_Lb σ l c) : mj_ev X (d + 2) 108 [.ref 55, .ref 14, .int s] σ = some (some (.int (mj_z (mj_bwh (σ.1 19) l s))), σ) := by
  have hp := sp_bPromisesOf (X := X) (d := d) (s := s) hL
  obtain ⟨h1, h2, h3⟩ := hL
  have loop : ∀ (j k : Nat) (v : Value), mj_noMk v = true → k + j = l.length → mj_Runs X (mj_ev X (d + 1)) 0 (some .boolean) prog_2_method_8_code (9, [.ref 55, .ref 14, .int s, .int (mj_bpo l s l.length), .int (nI k), v], [], σ) (some (.int (mj_z (!(mj_anyF (mj_bw1 (σ.1 19) l s) k j)))), σ) := by
    intro j
    induction j with
    | zero =>
      intro k v hv hk
      have q : ¬ nI k < nI l.length := nI_nlt (by omega) (by omega)
      simp only [mj_anyF, Bool.not_false, mj_zT]
      refine u108_9.mpr ?_
      simp only [u108_0, u108_1, u108_2, u108_5, u108_6, u108_7, u108_11, u108_12, u108_15, u108_18, u108_19, u108_22, u108_23, u108_26, u108_28, u108_29, u108_30, u108_32, u108_33, u108_35, u108_36, u108_37, u108_38, u108_41, u108_43, u108_44, u108_47, u108_48, u108_50, u108_51, u108_52, u108_53, u108_56, u108_57, u108_58, u108_61, u108_64, u108_65, h1, q, mj_cc_v, mj_cc_n, List.all_cons, List.all_nil, mj_noMk_int, mj_noMk_long, mj_noMk_ref, mj_noMk_junk, List.length_nil, List.length_cons, Nat.zero_le, Nat.reduceLeDiff, Nat.reduceAdd, Bool.and_true, Bool.true_and, Bool.and_self, Nat.reduceBNe, true_or, or_true, true_and, and_true, mj_z0, mj_z1, mj_z01, decide_true, decide_false, Bool.true_and, Bool.false_and, Bool.and_true, Bool.and_false, Bool.true_or, Bool.false_or, Bool.or_false, Bool.or_true, Bool.not_true, Bool.not_false, Bool.and_self, Bool.or_self, if_true, if_false, Bool.true_eq_false, Bool.false_eq_true, not_true, not_false_eq_true]
    | succ j ih =>
      intro k v hv hk
      have q : nI k < nI l.length := nI_lt (by omega) (by omega)
      obtain ⟨h4, h5, h6⟩ := h3 k (by omega)
      simp only [mj_anyF]
      have hn := ih (k + 1) (.int (σ.1 19 (l.getD k 0))) rfl (by omega)
      have pos := u108_9 (X := X) (call := mj_ev X (d + 1)) (x2 := s) (x3 := mj_bpo l s l.length) (x4 := nI k) (x5 := v) (st := []) (σ := σ) (r := (some (.int (mj_z (!(mj_bw1 (σ.1 19) l s k || mj_anyF (mj_bw1 (σ.1 19) l s) (k + 1) j)))), σ))
      refine pos.mpr ?_
      unfold mj_bw1 at hn ⊢
      generalize mj_anyF _ (k + 1) j = A at *
      generalize hG : mj_bpo l s l.length = G at *
      cases b1 : mj_b s k
      · by_cases b2 : σ.1 19 (l.getD k 0) = -1
        · simp only [u108_0, u108_1, u108_2, u108_5, u108_6, u108_7, u108_11, u108_12, u108_15, u108_18, u108_19, u108_22, u108_23, u108_26, u108_28, u108_29, u108_30, u108_32, u108_33, u108_35, u108_36, u108_37, u108_38, u108_41, u108_43, u108_44, u108_47, u108_48, u108_50, u108_51, u108_52, u108_53, u108_56, u108_57, u108_58, u108_61, u108_64, u108_65, h1, q, h5, mj_bt (show k < 32 by omega), b1, eq_true b2, mj_in_nI (show k < 9 by omega) (by decide), mj_nz9 (show k < 9 by omega) (by decide), mj_in_nI h4 (by decide), mj_nz9 h4 (by decide), mj_zF, nI_1, not_true_eq_false, decide_false, Bool.false_and, Bool.and_false, Bool.false_or, mj_cc_v, mj_cc_n, List.all_cons, List.all_nil, mj_noMk_int, mj_noMk_long, mj_noMk_ref, mj_noMk_junk, List.length_nil, List.length_cons, Nat.zero_le, Nat.reduceLeDiff, Nat.reduceAdd, Bool.and_true, Bool.true_and, Bool.and_self, Nat.reduceBNe, true_or, or_true, true_and, and_true, mj_z0, mj_z1, mj_z01, decide_true, decide_false, Bool.true_and, Bool.false_and, Bool.and_true, Bool.and_false, Bool.true_or, Bool.false_or, Bool.or_false, Bool.or_true, Bool.not_true, Bool.not_false, Bool.and_self, Bool.or_self, if_true, if_false, Bool.true_eq_false, Bool.false_eq_true, not_true, not_false_eq_true]
          exact hn
        · by_cases b3 : (G >>> (σ.1 19 (l.getD k 0) &&& 31)) &&& 1 = 0
          · simp only [u108_0, u108_1, u108_2, u108_5, u108_6, u108_7, u108_11, u108_12, u108_15, u108_18, u108_19, u108_22, u108_23, u108_26, u108_28, u108_29, u108_30, u108_32, u108_33, u108_35, u108_36, u108_37, u108_38, u108_41, u108_43, u108_44, u108_47, u108_48, u108_50, u108_51, u108_52, u108_53, u108_56, u108_57, u108_58, u108_61, u108_64, u108_65, h1, q, h5, mj_bt (show k < 32 by omega), b1, eq_false b2, eq_true b3, mj_in_nI (show k < 9 by omega) (by decide), mj_nz9 (show k < 9 by omega) (by decide), mj_in_nI h4 (by decide), mj_nz9 h4 (by decide), mj_zF, nI_1, not_true_eq_false, decide_false, Bool.false_and, Bool.and_false, Bool.false_or, mj_cc_v, mj_cc_n, List.all_cons, List.all_nil, mj_noMk_int, mj_noMk_long, mj_noMk_ref, mj_noMk_junk, List.length_nil, List.length_cons, Nat.zero_le, Nat.reduceLeDiff, Nat.reduceAdd, Bool.and_true, Bool.true_and, Bool.and_self, Nat.reduceBNe, true_or, or_true, true_and, and_true, mj_z0, mj_z1, mj_z01, decide_true, decide_false, Bool.true_and, Bool.false_and, Bool.and_true, Bool.and_false, Bool.true_or, Bool.false_or, Bool.or_false, Bool.or_true, Bool.not_true, Bool.not_false, Bool.and_self, Bool.or_self, if_true, if_false, Bool.true_eq_false, Bool.false_eq_true, not_true, not_false_eq_true]
            exact hn
          · simp only [u108_0, u108_1, u108_2, u108_5, u108_6, u108_7, u108_11, u108_12, u108_15, u108_18, u108_19, u108_22, u108_23, u108_26, u108_28, u108_29, u108_30, u108_32, u108_33, u108_35, u108_36, u108_37, u108_38, u108_41, u108_43, u108_44, u108_47, u108_48, u108_50, u108_51, u108_52, u108_53, u108_56, u108_57, u108_58, u108_61, u108_64, u108_65, h1, q, h5, mj_bt (show k < 32 by omega), b1, eq_false b2, eq_false b3, mj_in_nI (show k < 9 by omega) (by decide), mj_nz9 (show k < 9 by omega) (by decide), mj_in_nI h4 (by decide), mj_nz9 h4 (by decide), mj_zF, nI_1, not_false_eq_true, decide_true, Bool.not_false, Bool.and_self, Bool.true_or, Bool.not_true, mj_cc_v, mj_cc_n, List.all_cons, List.all_nil, mj_noMk_int, mj_noMk_long, mj_noMk_ref, mj_noMk_junk, List.length_nil, List.length_cons, Nat.zero_le, Nat.reduceLeDiff, Nat.reduceAdd, Bool.and_true, Bool.true_and, Bool.and_self, Nat.reduceBNe, true_or, or_true, true_and, and_true, mj_z0, mj_z1, mj_z01, decide_true, decide_false, Bool.true_and, Bool.false_and, Bool.and_true, Bool.and_false, Bool.true_or, Bool.false_or, Bool.or_false, Bool.or_true, Bool.not_true, Bool.not_false, Bool.and_self, Bool.or_self, if_true, if_false, Bool.true_eq_false, Bool.false_eq_true, not_true, not_false_eq_true]
      · simp only [u108_0, u108_1, u108_2, u108_5, u108_6, u108_7, u108_11, u108_12, u108_15, u108_18, u108_19, u108_22, u108_23, u108_26, u108_28, u108_29, u108_30, u108_32, u108_33, u108_35, u108_36, u108_37, u108_38, u108_41, u108_43, u108_44, u108_47, u108_48, u108_50, u108_51, u108_52, u108_53, u108_56, u108_57, u108_58, u108_61, u108_64, u108_65, h1, q, h5, mj_bt (show k < 32 by omega), b1, mj_in_nI (show k < 9 by omega) (by decide), mj_nz9 (show k < 9 by omega) (by decide), mj_in_nI h4 (by decide), mj_nz9 h4 (by decide), mj_zT, mj_n10, nI_1, Bool.not_true, Bool.false_and, Bool.false_or, mj_cc_v, mj_cc_n, List.all_cons, List.all_nil, mj_noMk_int, mj_noMk_long, mj_noMk_ref, mj_noMk_junk, List.length_nil, List.length_cons, Nat.zero_le, Nat.reduceLeDiff, Nat.reduceAdd, Bool.and_true, Bool.true_and, Bool.and_self, Nat.reduceBNe, true_or, or_true, true_and, and_true, mj_z0, mj_z1, mj_z01, decide_true, decide_false, Bool.true_and, Bool.false_and, Bool.and_true, Bool.and_false, Bool.true_or, Bool.false_or, Bool.or_false, Bool.or_true, Bool.not_true, Bool.not_false, Bool.and_self, Bool.or_self, if_true, if_false, Bool.true_eq_false, Bool.false_eq_true, not_true, not_false_eq_true]
        exact hn
  refine st108 ?_
  simp only [u108_0, u108_1, u108_2, u108_5, u108_6, u108_7, u108_11, u108_12, u108_15, u108_18, u108_19, u108_22, u108_23, u108_26, u108_28, u108_29, u108_30, u108_32, u108_33, u108_35, u108_36, u108_37, u108_38, u108_41, u108_43, u108_44, u108_47, u108_48, u108_50, u108_51, u108_52, u108_53, u108_56, u108_57, u108_58, u108_61, u108_64, u108_65, hp, mj_cc_v, mj_cc_n, List.all_cons, List.all_nil, mj_noMk_int, mj_noMk_long, mj_noMk_ref, mj_noMk_junk, List.length_nil, List.length_cons, Nat.zero_le, Nat.reduceLeDiff, Nat.reduceAdd, Bool.and_true, Bool.true_and, Bool.and_self, Nat.reduceBNe, true_or, or_true, true_and, and_true, mj_z0, mj_z1, mj_z01, decide_true, decide_false, Bool.true_and, Bool.false_and, Bool.and_true, Bool.and_false, Bool.true_or, Bool.false_or, Bool.or_false, Bool.or_true, Bool.not_true, Bool.not_false, Bool.and_self, Bool.or_self, if_true, if_false, Bool.true_eq_false, Bool.false_eq_true, not_true, not_false_eq_true]
  exact loop l.length 0 mj_junk rfl (by omega)
/-- a larger way that doesn't do -/
def mj_bf1 (f : Nat → Int32) (t n k : Nat) : Bool := !(t.testBit k) && decide (¬ f (t ||| 2 ^ k) = 0)
theorem mj_or_lt {t k n : Nat} (ht : t < 2 ^ n) (hk : k < n) : t ||| 2 ^ k < 2 ^ n := Nat.or_lt_two_pow ht (Nat.pow_lt_pow_right (by decide) hk)
theorem mj_or_full {t k n : Nat} (ht : t < 2 ^ n) (hk : k < n) (hn : n ≤ 9) : ((nI t ||| (1 <<< (nI k &&& 31))) &&& nI (2 ^ n - 1)) = nI (t ||| 2 ^ k) := by
  have p9 : 2 ^ n ≤ 512 := Nat.pow_le_pow_right (n := 2) (by decide) hn
  have h1 := mj_or_lt ht hk
  have hk2 : 2 ^ k < 2 ^ n := Nat.pow_lt_pow_right (by decide) hk
  rw [mj_sh1_pow k (by omega), mj_nI_or (by omega) (by omega)]
  apply mj_b_ext
  intro i hi
  rw [mj_b_and, mj_b_nI (by omega), mj_b_nI (by omega), Nat.testBit_two_pow_sub_one]
  by_cases c : i < n
  · rw [decide_eq_true c, Bool.and_true]
  · rw [decide_eq_false c, Bool.and_false, Nat.testBit_lt_two_pow (Nat.lt_of_lt_of_le h1 (Nat.pow_le_pow_right (by decide) (Nat.le_of_not_lt c)))]
theorem sp_isInFailing {l : List Nat} {c : Nat → Int32} {t : Nat} (hL : mj_Lb σ l c) (ht : t < 2 ^ l.length) : mj_ev X (d + 1) 112 [.ref 55, .int (nI t), .int (nI (2 ^ l.length - 1))] σ = some (some (.int (mj_z (mj_anyF (mj_bf1 (σ.1 58) t l.length) 0 l.length))), σ) := by
  obtain ⟨h1, h2, h3⟩ := hL
  have p9 : 2 ^ l.length ≤ 512 := Nat.pow_le_pow_right (n := 2) (by decide) h2
  have loop : ∀ (j k : Nat), k + j = l.length → mj_Runs X (mj_ev X d) 0 (some .boolean) prog_2_method_7_code (2, [.ref 55, .int (nI t), .int (nI (2 ^ l.length - 1)), .int (nI k)], [], σ) (some (.int (mj_z (mj_anyF (mj_bf1 (σ.1 58) t l.length) k j))), σ) := by
    intro j
    induction j with
    | zero =>
      intro k hk
      have q : ¬ nI k < nI l.length := nI_nlt (by omega) (by omega)
      simp only [mj_anyF, mj_zF]
      refine u112_2.mpr ?_
      simp only [u112_0, u112_1, u112_3, u112_4, u112_7, u112_10, u112_11, u112_12, u112_13, u112_14, u112_15, u112_18, u112_19, u112_22, u112_23, u112_24, u112_25, u112_26, u112_27, u112_28, u112_29, u112_30, u112_33, u112_34, u112_35, u112_38, u112_41, u112_42, h1, q, mj_cc_v, mj_cc_n, List.all_cons, List.all_nil, mj_noMk_int, mj_noMk_long, mj_noMk_ref, mj_noMk_junk, List.length_nil, List.length_cons, Nat.zero_le, Nat.reduceLeDiff, Nat.reduceAdd, Bool.and_true, Bool.true_and, Bool.and_self, Nat.reduceBNe, true_or, or_true, true_and, and_true, mj_z0, mj_z1, mj_z01, decide_true, decide_false, Bool.true_and, Bool.false_and, Bool.and_true, Bool.and_false, Bool.true_or, Bool.false_or, Bool.or_false, Bool.or_true, Bool.not_true, Bool.not_false, Bool.and_self, Bool.or_self, if_true, if_false, Bool.true_eq_false, Bool.false_eq_true, not_true, not_false_eq_true]
    | succ j ih =>
      intro k hk
      have q : nI k < nI l.length := nI_lt (by omega) (by omega)
      have eo := mj_or_full ht (show k < l.length by omega) h2
      have lo := mj_or_lt ht (show k < l.length by omega)
      have hn := ih (k + 1) (by omega)
      have eb := mj_b_nI (s := t) (k := k) (by omega)
      simp only [mj_anyF]
      generalize mj_anyF _ (k + 1) j = A at *
      refine u112_2.mpr ?_
      unfold mj_bf1
      cases b1 : t.testBit k
      · rw [b1] at eb
        by_cases b2 : σ.1 58 (t ||| 2 ^ k) = 0
        · simp only [u112_0, u112_1, u112_3, u112_4, u112_7, u112_10, u112_11, u112_12, u112_13, u112_14, u112_15, u112_18, u112_19, u112_22, u112_23, u112_24, u112_25, u112_26, u112_27, u112_28, u112_29, u112_30, u112_33, u112_34, u112_35, u112_38, u112_41, u112_42, h1, q, eo, mj_bt (show k < 32 by omega), eb, eq_true b2, mj_in_nI (show t ||| 2 ^ k < 512 by omega) (by decide), mj_nz9 (show t ||| 2 ^ k < 512 by omega) (by decide), mj_zF, nI_1, not_true_eq_false, decide_false, Bool.and_false, Bool.false_or, mj_cc_v, mj_cc_n, List.all_cons, List.all_nil, mj_noMk_int, mj_noMk_long, mj_noMk_ref, mj_noMk_junk, List.length_nil, List.length_cons, Nat.zero_le, Nat.reduceLeDiff, Nat.reduceAdd, Bool.and_true, Bool.true_and, Bool.and_self, Nat.reduceBNe, true_or, or_true, true_and, and_true, mj_z0, mj_z1, mj_z01, decide_true, decide_false, Bool.true_and, Bool.false_and, Bool.and_true, Bool.and_false, Bool.true_or, Bool.false_or, Bool.or_false, Bool.or_true, Bool.not_true, Bool.not_false, Bool.and_self, Bool.or_self, if_true, if_false, Bool.true_eq_false, Bool.false_eq_true, not_true, not_false_eq_true]
          exact hn
        · simp only [u112_0, u112_1, u112_3, u112_4, u112_7, u112_10, u112_11, u112_12, u112_13, u112_14, u112_15, u112_18, u112_19, u112_22, u112_23, u112_24, u112_25, u112_26, u112_27, u112_28, u112_29, u112_30, u112_33, u112_34, u112_35, u112_38, u112_41, u112_42, h1, q, eo, mj_bt (show k < 32 by omega), eb, eq_false b2, mj_in_nI (show t ||| 2 ^ k < 512 by omega) (by decide), mj_nz9 (show t ||| 2 ^ k < 512 by omega) (by decide), mj_zF, mj_zT, nI_1, not_false_eq_true, decide_true, Bool.not_false, Bool.and_self, Bool.true_or, mj_cc_v, mj_cc_n, List.all_cons, List.all_nil, mj_noMk_int, mj_noMk_long, mj_noMk_ref, mj_noMk_junk, List.length_nil, List.length_cons, Nat.zero_le, Nat.reduceLeDiff, Nat.reduceAdd, Bool.and_true, Bool.true_and, Bool.and_self, Nat.reduceBNe, true_or, or_true, true_and, and_true, mj_z0, mj_z1, mj_z01, decide_true, decide_false, Bool.true_and, Bool.false_and, Bool.and_true, Bool.and_false, Bool.true_or, Bool.false_or, Bool.or_false, Bool.or_true, Bool.not_true, Bool.not_false, Bool.and_self, Bool.or_self, if_true, if_false, Bool.true_eq_false, Bool.false_eq_true, not_true, not_false_eq_true]
      · rw [b1] at eb
        simp only [u112_0, u112_1, u112_3, u112_4, u112_7, u112_10, u112_11, u112_12, u112_13, u112_14, u112_15, u112_18, u112_19, u112_22, u112_23, u112_24, u112_25, u112_26, u112_27, u112_28, u112_29, u112_30, u112_33, u112_34, u112_35, u112_38, u112_41, u112_42, h1, q, mj_bt (show k < 32 by omega), eb, mj_zT, mj_n10, nI_1, Bool.not_true, Bool.false_and, Bool.false_or, mj_cc_v, mj_cc_n, List.all_cons, List.all_nil, mj_noMk_int, mj_noMk_long, mj_noMk_ref, mj_noMk_junk, List.length_nil, List.length_cons, Nat.zero_le, Nat.reduceLeDiff, Nat.reduceAdd, Bool.and_true, Bool.true_and, Bool.and_self, Nat.reduceBNe, true_or, or_true, true_and, and_true, mj_z0, mj_z1, mj_z01, decide_true, decide_false, Bool.true_and, Bool.false_and, Bool.and_true, Bool.and_false, Bool.true_or, Bool.false_or, Bool.or_false, Bool.or_true, Bool.not_true, Bool.not_false, Bool.and_self, Bool.or_self, if_true, if_false, Bool.true_eq_false, Bool.false_eq_true, not_true, not_false_eq_true]
        exact hn
  refine st112 ?_
  simp only [u112_0, u112_1, u112_3, u112_4, u112_7, u112_10, u112_11, u112_12, u112_13, u112_14, u112_15, u112_18, u112_19, u112_22, u112_23, u112_24, u112_25, u112_26, u112_27, u112_28, u112_29, u112_30, u112_33, u112_34, u112_35, u112_38, u112_41, u112_42, mj_cc_v, mj_cc_n, List.all_cons, List.all_nil, mj_noMk_int, mj_noMk_long, mj_noMk_ref, mj_noMk_junk, List.length_nil, List.length_cons, Nat.zero_le, Nat.reduceLeDiff, Nat.reduceAdd, Bool.and_true, Bool.true_and, Bool.and_self, Nat.reduceBNe, true_or, or_true, true_and, and_true, mj_z0, mj_z1, mj_z01, decide_true, decide_false, Bool.true_and, Bool.false_and, Bool.and_true, Bool.and_false, Bool.true_or, Bool.false_or, Bool.or_false, Bool.or_true, Bool.not_true, Bool.not_false, Bool.and_self, Bool.or_self, if_true, if_false, Bool.true_eq_false, Bool.false_eq_true, not_true, not_false_eq_true]
  exact loop l.length 0 (by omega)
/-- the rest, when a set of the list is given up -/
def mj_brs (σ : mj_St) (l : List Nat) (s : Int32) : Int32 := (mj_evC σ &&& (σ.1 14 16 ^^^ -1)) &&& (mj_bpo l s l.length ^^^ -1)
theorem sp_suffices {l : List Nat} {c : Nat → Int32} {N w : Nat} {o s : Int32} (hX : mj_XS X) (hc : mj_pc σ N w) (he : mj_pe σ) (hL : mj_Lb σ l c) : ∃ ρ, mj_Fs σ ρ ∧ ∀ d, mj_ev X (d + 41) 110 [.ref 55, .ref 14, .ref 46, .int o, .int s] σ = some (some (.int (mj_z (mj_ckp σ (mj_brs σ l s) o N w))), ρ) := by
  obtain ⟨ρ, F, -, h⟩ := mj_prsuc (set := mj_brs σ l s) (o := o) (gr := 1) hX hc (Or.inl rfl) he
  refine ⟨ρ, mj_Fs_tr (mj_prS_Fs hc (Or.inl rfl)) (mj_Fs_Fm F), fun d => ?_⟩
  have hp := sp_prepare (X := X) (d := d + 35) (set := mj_brs σ l s) (gc := 1) (o := o) (gr := 1) hX hc (Or.inr ⟨by decide, rfl⟩)
  have hd := h d
  have hev : mj_ev X (d + 40) 53 [.ref 14] σ = some (some (.int (mj_evC σ)), σ) := mj_evC_ev (d := d + 39)
  have hpo : mj_ev X (d + 40) 109 [.ref 55, .int s] σ = some (some (.int (mj_bpo l s l.length)), σ) := sp_bPromisesOf (d := d + 39) hL
  unfold mj_ckp
  unfold mj_brs at hp hd ⊢
  refine st110 ?_
  cases b : mj_ckg σ ((mj_evC σ &&& (σ.1 14 16 ^^^ -1)) &&& (mj_bpo l s l.length ^^^ -1)) 1 o N w
  · rw [b] at hd
    simp only [u110_0, u110_1, u110_4, u110_5, u110_8, u110_9, u110_10, u110_11, u110_12, u110_14, u110_17, u110_18, u110_19, u110_20, u110_22, u110_23, u110_24, u110_26, u110_27, u110_28, u110_31, u110_32, u110_35, hev, hpo, hp, hd, mj_zF, mj_cc_v, mj_cc_n, List.all_cons, List.all_nil, mj_noMk_int, mj_noMk_long, mj_noMk_ref, mj_noMk_junk, List.length_nil, List.length_cons, Nat.zero_le, Nat.reduceLeDiff, Nat.reduceAdd, Bool.and_true, Bool.true_and, Bool.and_self, Nat.reduceBNe, true_or, or_true, true_and, and_true, mj_z0, mj_z1, mj_z01, decide_true, decide_false, Bool.true_and, Bool.false_and, Bool.and_true, Bool.and_false, Bool.true_or, Bool.false_or, Bool.or_false, Bool.or_true, Bool.not_true, Bool.not_false, Bool.and_self, Bool.or_self, if_true, if_false, Bool.true_eq_false, Bool.false_eq_true, not_true, not_false_eq_true]
  · rw [b] at hd
    simp only [u110_0, u110_1, u110_4, u110_5, u110_8, u110_9, u110_10, u110_11, u110_12, u110_14, u110_17, u110_18, u110_19, u110_20, u110_22, u110_23, u110_24, u110_26, u110_27, u110_28, u110_31, u110_32, u110_35, hev, hpo, hp, hd, mj_zT, mj_n10, mj_cc_v, mj_cc_n, List.all_cons, List.all_nil, mj_noMk_int, mj_noMk_long, mj_noMk_ref, mj_noMk_junk, List.length_nil, List.length_cons, Nat.zero_le, Nat.reduceLeDiff, Nat.reduceAdd, Bool.and_true, Bool.true_and, Bool.and_self, Nat.reduceBNe, true_or, or_true, true_and, and_true, mj_z0, mj_z1, mj_z01, decide_true, decide_false, Bool.true_and, Bool.false_and, Bool.and_true, Bool.and_false, Bool.true_or, Bool.false_or, Bool.or_false, Bool.or_true, Bool.not_true, Bool.not_false, Bool.and_self, Bool.or_self, if_true, if_false, Bool.true_eq_false, Bool.false_eq_true, not_true, not_false_eq_true]
end
