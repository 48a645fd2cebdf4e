section
variable {X : mj_X} {d : Nat} {σ τ ρ : mj_St}
/-- what a search that gets ready finds -/
def mj_pd (σ : mj_St) (N w gr : Nat) : Prop := σ.2.2.1 46 0 = some 14 ∧ σ.1 14 14 = nI N ∧ N ≤ 9 ∧ σ.1 14 17 = nI w ∧ w ≤ 12 ∧ σ.1 46 2 = nI gr ∧ (gr = 1 ∨ gr = 8) ∧ (∀ k, k < 9 → σ.1 20 k = -1 ∨ mj_inb (σ.1 20 k) 3 = true)
def mj_pn (σ : mj_St) (n : Nat) : Prop := σ.1 46 5 = nI n ∧ n ≤ 6 ∧ ∀ p, p < n → mj_inb (σ.1 47 p) 9 = true
theorem sp_isMeant {k : Nat} (hk : k < 32) : mj_ev X (d + 1) 59 [.ref 46, .int (nI k)] σ = some (some (.int (mj_z (mj_b (σ.1 46 1) k))), σ) := by
  have hbt : (σ.1 46 1 >>> (nI k &&& 31)) &&& 1 = mj_z (mj_b (σ.1 46 1) k) := mj_bt hk
  refine st59 ?_
  cases c : mj_b (σ.1 46 1) k
  · rw [c] at hbt
    simp only [u59_0, u59_1, u59_4, u59_5, u59_6, u59_7, u59_8, u59_11, u59_12, u59_15, u59_16, hbt, mj_zF, mj_cc_v, mj_cc_n, List.all_cons, List.all_nil, mj_noMk_int, mj_noMk_long, mj_noMk_ref, mj_noMk_junk, List.length_nil, List.length_cons, Nat.zero_le, Nat.reduceLeDiff, Nat.reduceAdd, Bool.and_true, Bool.true_and, Bool.and_self, Nat.reduceBNe, true_or, or_true, true_and, and_true, mj_z0, mj_z1, mj_z01, decide_true, decide_false, Bool.true_and, Bool.false_and, Bool.and_true, Bool.and_false, Bool.true_or, Bool.false_or, Bool.or_false, Bool.or_true, Bool.not_true, Bool.not_false, Bool.and_self, Bool.or_self, if_true, if_false, Bool.true_eq_false, Bool.false_eq_true, not_true, not_false_eq_true]
  · rw [c] at hbt
    simp only [u59_0, u59_1, u59_4, u59_5, u59_6, u59_7, u59_8, u59_11, u59_12, u59_15, u59_16, hbt, mj_zT, mj_n10, mj_cc_v, mj_cc_n, List.all_cons, List.all_nil, mj_noMk_int, mj_noMk_long, mj_noMk_ref, mj_noMk_junk, List.length_nil, List.length_cons, Nat.zero_le, Nat.reduceLeDiff, Nat.reduceAdd, Bool.and_true, Bool.true_and, Bool.and_self, Nat.reduceBNe, true_or, or_true, true_and, and_true, mj_z0, mj_z1, mj_z01, decide_true, decide_false, Bool.true_and, Bool.false_and, Bool.and_true, Bool.and_false, Bool.true_or, Bool.false_or, Bool.or_false, Bool.or_true, Bool.not_true, Bool.not_false, Bool.and_self, Bool.or_self, if_true, if_false, Bool.true_eq_false, Bool.false_eq_true, not_true, not_false_eq_true]
def mj_kn (σ : mj_St) (k : Nat) (h : Int32) : Bool := decide (σ.1 20 k = -1) || decide (¬ h < σ.1 28 (σ.1 20 k).toNatClampNeg)
/-- how a promise stands in a group at an hour -/
def mj_stg (σ : mj_St) (k : Nat) (g h : Int32) : Int32 := if σ.1 46 2 = 1 then (if mj_ask (σ.1 20 k) (σ.1 21 k) (σ.1 46 3) = true then (if mj_kn σ k h = true then 3 else 2) else 0) else if mj_kn σ k h = true then (if mj_ask (σ.1 20 k) (σ.1 21 k) g = true then 3 else 0) else 1
theorem sp_standing {k : Nat} {g h : Int32} (hr : σ.2.2.1 46 0 = some 14) (hk : k < 9) (hf : σ.1 20 k = -1 ∨ mj_inb (σ.1 20 k) 3 = true) : mj_ev X (d + 2) 60 [.ref 46, .int (nI k), .int g, .int h] σ = some (some (.int (mj_stg σ k g h)), σ) := by
  have h1 : mj_ev X (d + 1) 61 [.ref 14, .int (nI k), .int h] σ = some (some (.int (mj_z (mj_kn σ k h))), σ) := sp_isKnownIn (X := X) (d := d) (h := h) hk hf
  have h2 := sp_isAsked (X := X) (d := d) (σ := σ) (o := σ.1 46 3) hk
  have h3 := sp_isAsked (X := X) (d := d) (σ := σ) (o := g) hk
  unfold mj_stg
  generalize mj_kn σ k h = va at *
  generalize mj_ask (σ.1 20 k) (σ.1 21 k) (σ.1 46 3) = vb at *
  generalize mj_ask (σ.1 20 k) (σ.1 21 k) g = vc at *
  refine st60 ?_
  by_cases c1 : σ.1 46 2 = 1
  · cases va <;> cases vb <;> simp only [u60_0, u60_1, u60_4, u60_5, u60_6, u60_9, u60_11, u60_12, u60_15, u60_16, u60_19, u60_20, u60_23, u60_24, u60_25, u60_28, u60_31, u60_34, u60_35, u60_38, u60_40, u60_43, u60_44, u60_47, u60_48, u60_49, u60_51, u60_54, u60_55, u60_56, u60_57, u60_60, u60_61, u60_62, u60_65, u60_68, u60_69, u60_72, u60_73, hr, mj_rf_some, mj_rf14, h1, h2, c1, mj_zF, mj_zT, mj_n10, mj_cc_v, mj_cc_n, List.all_cons, List.all_nil, mj_noMk_int, mj_noMk_long, mj_noMk_ref, mj_noMk_junk, List.length_nil, List.length_cons, Nat.zero_le, Nat.reduceLeDiff, Nat.reduceAdd, Bool.and_true, Bool.true_and, Bool.and_self, Nat.reduceBNe, true_or, or_true, true_and, and_true, mj_z0, mj_z1, mj_z01, decide_true, decide_false, Bool.true_and, Bool.false_and, Bool.and_true, Bool.and_false, Bool.true_or, Bool.false_or, Bool.or_false, Bool.or_true, Bool.not_true, Bool.not_false, Bool.and_self, Bool.or_self, if_true, if_false, Bool.true_eq_false, Bool.false_eq_true, not_true, not_false_eq_true]
  · cases va <;> cases vc <;> simp only [u60_0, u60_1, u60_4, u60_5, u60_6, u60_9, u60_11, u60_12, u60_15, u60_16, u60_19, u60_20, u60_23, u60_24, u60_25, u60_28, u60_31, u60_34, u60_35, u60_38, u60_40, u60_43, u60_44, u60_47, u60_48, u60_49, u60_51, u60_54, u60_55, u60_56, u60_57, u60_60, u60_61, u60_62, u60_65, u60_68, u60_69, u60_72, u60_73, hr, mj_rf_some, mj_rf14, h1, h3, eq_false c1, mj_zF, mj_zT, mj_n10, mj_cc_v, mj_cc_n, List.all_cons, List.all_nil, mj_noMk_int, mj_noMk_long, mj_noMk_ref, mj_noMk_junk, List.length_nil, List.length_cons, Nat.zero_le, Nat.reduceLeDiff, Nat.reduceAdd, Bool.and_true, Bool.true_and, Bool.and_self, Nat.reduceBNe, true_or, or_true, true_and, and_true, mj_z0, mj_z1, mj_z01, decide_true, decide_false, Bool.true_and, Bool.false_and, Bool.and_true, Bool.and_false, Bool.true_or, Bool.false_or, Bool.or_false, Bool.or_true, Bool.not_true, Bool.not_false, Bool.and_self, Bool.or_self, if_true, if_false, Bool.true_eq_false, Bool.false_eq_true, not_true, not_false_eq_true]
def mj_plc (σ : mj_St) (x : Int32) : Nat → Nat → Int32
  | 0, _ => -2
  | j + 1, k => if σ.1 47 k = x then nI k else mj_plc σ x j (k + 1)
theorem sp_placeOf {n : Nat} {x : Int32} (h5 : σ.1 46 5 = nI n) (hn : n ≤ 6) : mj_ev X (d + 1) 66 [.ref 46, .int x] σ = some (some (.int (mj_plc σ x n 0)), σ) := by
  have loop : ∀ (j k : Nat), k + j = n → mj_Runs X (mj_ev X d) 3 (some .int) prog_5_method_7_code (2, [.ref 46, .int x, .int (nI k)], [], σ) (some (.int (mj_plc σ x j k)), σ) := by
    intro j
    induction j with
    | zero =>
      intro k hk
      have q : ¬ nI k < nI n := nI_nlt (by omega) (by omega)
      refine u66_2.mpr ?_
      simp only [u66_0, u66_1, u66_3, u66_4, u66_7, u66_10, u66_11, u66_14, u66_15, u66_16, u66_17, u66_20, u66_21, u66_22, u66_25, u66_28, u66_30, h5, q, mj_plc, mj_cc_v, mj_cc_n, List.all_cons, List.all_nil, mj_noMk_int, mj_noMk_long, mj_noMk_ref, mj_noMk_junk, List.length_nil, List.length_cons, Nat.zero_le, Nat.reduceLeDiff, Nat.reduceAdd, Bool.and_true, Bool.true_and, Bool.and_self, Nat.reduceBNe, true_or, or_true, true_and, and_true, mj_z0, mj_z1, mj_z01, decide_true, decide_false, Bool.true_and, Bool.false_and, Bool.and_true, Bool.and_false, Bool.true_or, Bool.false_or, Bool.or_false, Bool.or_true, Bool.not_true, Bool.not_false, Bool.and_self, Bool.or_self, if_true, if_false, Bool.true_eq_false, Bool.false_eq_true, not_true, not_false_eq_true]
    | succ j ih =>
      intro k hk
      have q : nI k < nI n := nI_lt (by omega) (by omega)
      refine u66_2.mpr ?_
      by_cases c : σ.1 47 k = x
      · simp only [u66_0, u66_1, u66_3, u66_4, u66_7, u66_10, u66_11, u66_14, u66_15, u66_16, u66_17, u66_20, u66_21, u66_22, u66_25, u66_28, u66_30, h5, q, mj_plc, mj_in_nI (show k < 6 by omega) (by decide), mj_nz9 (show k < 6 by omega) (by decide), eq_true c, mj_cc_v, mj_cc_n, List.all_cons, List.all_nil, mj_noMk_int, mj_noMk_long, mj_noMk_ref, mj_noMk_junk, List.length_nil, List.length_cons, Nat.zero_le, Nat.reduceLeDiff, Nat.reduceAdd, Bool.and_true, Bool.true_and, Bool.and_self, Nat.reduceBNe, true_or, or_true, true_and, and_true, mj_z0, mj_z1, mj_z01, decide_true, decide_false, Bool.true_and, Bool.false_and, Bool.and_true, Bool.and_false, Bool.true_or, Bool.false_or, Bool.or_false, Bool.or_true, Bool.not_true, Bool.not_false, Bool.and_self, Bool.or_self, if_true, if_false, Bool.true_eq_false, Bool.false_eq_true, not_true, not_false_eq_true]
      · simp only [u66_0, u66_1, u66_3, u66_4, u66_7, u66_10, u66_11, u66_14, u66_15, u66_16, u66_17, u66_20, u66_21, u66_22, u66_25, u66_28, u66_30, h5, q, mj_plc, mj_in_nI (show k < 6 by omega) (by decide), mj_nz9 (show k < 6 by omega) (by decide), eq_false c, nI_1, mj_cc_v, mj_cc_n, List.all_cons, List.all_nil, mj_noMk_int, mj_noMk_long, mj_noMk_ref, mj_noMk_junk, List.length_nil, List.length_cons, Nat.zero_le, Nat.reduceLeDiff, Nat.reduceAdd, Bool.and_true, Bool.true_and, Bool.and_self, Nat.reduceBNe, true_or, or_true, true_and, and_true, mj_z0, mj_z1, mj_z01, decide_true, decide_false, Bool.true_and, Bool.false_and, Bool.and_true, Bool.and_false, Bool.true_or, Bool.false_or, Bool.or_false, Bool.or_true, Bool.not_true, Bool.not_false, Bool.and_self, Bool.or_self, if_true, if_false, Bool.true_eq_false, Bool.false_eq_true, not_true, not_false_eq_true]
        exact ih (k + 1) (by omega)
  refine st66 ?_
  simp only [u66_0, u66_1, u66_3, u66_4, u66_7, u66_10, u66_11, u66_14, u66_15, u66_16, u66_17, u66_20, u66_21, u66_22, u66_25, u66_28, u66_30, mj_cc_v, mj_cc_n, List.all_cons, List.all_nil, mj_noMk_int, mj_noMk_long, mj_noMk_ref, mj_noMk_junk, List.length_nil, List.length_cons, Nat.zero_le, Nat.reduceLeDiff, Nat.reduceAdd, Bool.and_true, Bool.true_and, Bool.and_self, Nat.reduceBNe, true_or, or_true, true_and, and_true, mj_z0, mj_z1, mj_z01, decide_true, decide_false, Bool.true_and, Bool.false_and, Bool.and_true, Bool.and_false, Bool.true_or, Bool.false_or, Bool.or_false, Bool.or_true, Bool.not_true, Bool.not_false, Bool.and_self, Bool.or_self, if_true, if_false, Bool.true_eq_false, Bool.false_eq_true, not_true, not_false_eq_true]
  exact loop n 0 (by omega)
def mj_frs (σ : mj_St) (h : Int32) (N : Nat) : Int32 := mj_it (fun f u => u ||| (if σ.1 28 f = h then (1 : Int32) <<< (nI f &&& 31) else 0)) 0 3 &&& mj_it (mj_fused σ) 0 N
theorem sp_freshForks {N w gr : Nat} {h : Int32} (hd : mj_pd σ N w gr) : mj_ev X (d + 2) 76 [.ref 46, .int h] σ = some (some (.int (mj_frs σ h N)), σ) := by
  obtain ⟨d1, d2, d3, -⟩ := hd
  have hu := sp_forksInUse (X := X) (d := d) (σ := σ) d2 d3
  refine st76 ?_
  simp only [u76_0, u76_1, u76_2, u76_3, u76_5, u76_6, u76_9, u76_10, u76_11, u76_14, u76_17, u76_18, u76_19, u76_20, u76_23, u76_24, u76_25, u76_26, u76_29, u76_30, u76_31, u76_32, u76_35, u76_38, u76_39, u76_40, u76_43, u76_46, u76_47, mj_cc_v, mj_cc_n, List.all_cons, List.all_nil, mj_noMk_int, mj_noMk_long, mj_noMk_ref, mj_noMk_junk, List.length_nil, List.length_cons, Nat.zero_le, Nat.reduceLeDiff, Nat.reduceAdd, Bool.and_true, Bool.true_and, Bool.and_self, Nat.reduceBNe, true_or, or_true, true_and, and_true, mj_z0, mj_z1, mj_z01, decide_true, decide_false, Bool.true_and, Bool.false_and, Bool.and_true, Bool.and_false, Bool.true_or, Bool.false_or, Bool.or_false, Bool.or_true, Bool.not_true, Bool.not_false, Bool.and_self, Bool.or_self, if_true, if_false, Bool.true_eq_false, Bool.false_eq_true, not_true, not_false_eq_true]
  exact mj_count (X := X) (call := mj_ev X (d + 1)) (oc := 3) (ret := (some .int)) (cc := prog_5_method_14_code) (N := 3) (S := fun k => (4, [.ref 46, .int h, .int (mj_it (fun f u => u ||| (if σ.1 28 f = h then (1 : Int32) <<< (nI f &&& 31) else 0)) 0 k), .int (nI k)], [], σ)) (fun k hk hr => by
      have q : nI k < 3 := nI_lt (b := 3) hk (by decide)
      simp only [mj_it] at hr
      refine u76_4.mpr ?_
      by_cases c : σ.1 28 k = h
      · rw [if_pos c] at hr
        simp only [u76_0, u76_1, u76_2, u76_3, u76_5, u76_6, u76_9, u76_10, u76_11, u76_14, u76_17, u76_18, u76_19, u76_20, u76_23, u76_24, u76_25, u76_26, u76_29, u76_30, u76_31, u76_32, u76_35, u76_38, u76_39, u76_40, u76_43, u76_46, u76_47, d1, mj_rf_some, mj_rf14, q, mj_in_nI (show k < 3 by omega) (by decide), mj_nz9 (show k < 3 by omega) (by decide), eq_true c, nI_1, mj_cc_v, mj_cc_n, List.all_cons, List.all_nil, mj_noMk_int, mj_noMk_long, mj_noMk_ref, mj_noMk_junk, List.length_nil, List.length_cons, Nat.zero_le, Nat.reduceLeDiff, Nat.reduceAdd, Bool.and_true, Bool.true_and, Bool.and_self, Nat.reduceBNe, true_or, or_true, true_and, and_true, mj_z0, mj_z1, mj_z01, decide_true, decide_false, Bool.true_and, Bool.false_and, Bool.and_true, Bool.and_false, Bool.true_or, Bool.false_or, Bool.or_false, Bool.or_true, Bool.not_true, Bool.not_false, Bool.and_self, Bool.or_self, if_true, if_false, Bool.true_eq_false, Bool.false_eq_true, not_true, not_false_eq_true]
        exact hr
      · rw [if_neg c] at hr
        simp only [u76_0, u76_1, u76_2, u76_3, u76_5, u76_6, u76_9, u76_10, u76_11, u76_14, u76_17, u76_18, u76_19, u76_20, u76_23, u76_24, u76_25, u76_26, u76_29, u76_30, u76_31, u76_32, u76_35, u76_38, u76_39, u76_40, u76_43, u76_46, u76_47, d1, mj_rf_some, mj_rf14, q, mj_in_nI (show k < 3 by omega) (by decide), mj_nz9 (show k < 3 by omega) (by decide), eq_false c, nI_1, mj_cc_v, mj_cc_n, List.all_cons, List.all_nil, mj_noMk_int, mj_noMk_long, mj_noMk_ref, mj_noMk_junk, List.length_nil, List.length_cons, Nat.zero_le, Nat.reduceLeDiff, Nat.reduceAdd, Bool.and_true, Bool.true_and, Bool.and_self, Nat.reduceBNe, true_or, or_true, true_and, and_true, mj_z0, mj_z1, mj_z01, decide_true, decide_false, Bool.true_and, Bool.false_and, Bool.and_true, Bool.and_false, Bool.true_or, Bool.false_or, Bool.or_false, Bool.or_true, Bool.not_true, Bool.not_false, Bool.and_self, Bool.or_self, if_true, if_false, Bool.true_eq_false, Bool.false_eq_true, not_true, not_false_eq_true]
        exact hr) (by
      have q : ¬ nI 3 < 3 := by decide
      refine u76_4.mpr ?_
      unfold mj_frs
      simp only [u76_0, u76_1, u76_2, u76_3, u76_5, u76_6, u76_9, u76_10, u76_11, u76_14, u76_17, u76_18, u76_19, u76_20, u76_23, u76_24, u76_25, u76_26, u76_29, u76_30, u76_31, u76_32, u76_35, u76_38, u76_39, u76_40, u76_43, u76_46, u76_47, d1, mj_rf_some, mj_rf14, q, hu, mj_cc_v, mj_cc_n, List.all_cons, List.all_nil, mj_noMk_int, mj_noMk_long, mj_noMk_ref, mj_noMk_junk, List.length_nil, List.length_cons, Nat.zero_le, Nat.reduceLeDiff, Nat.reduceAdd, Bool.and_true, Bool.true_and, Bool.and_self, Nat.reduceBNe, true_or, or_true, true_and, and_true, mj_z0, mj_z1, mj_z01, decide_true, decide_false, Bool.true_and, Bool.false_and, Bool.and_true, Bool.and_false, Bool.true_or, Bool.false_or, Bool.or_false, Bool.or_true, Bool.not_true, Bool.not_false, Bool.and_self, Bool.or_self, if_true, if_false, Bool.true_eq_false, Bool.false_eq_true, not_true, not_false_eq_true]) 0 (Nat.zero_le _)
-- what is left ahead of an hour, and after it
def mj_agn (σ : mj_St) (p : Nat) : Bool := decide (σ.1 15 (σ.1 47 p).toNatClampNeg = 3)
def mj_tdo (σ : mj_St) (p h : Nat) : Int32 := σ.1 24 (σ.1 47 p).toNatClampNeg - mj_spn (σ.1 26 (σ.1 47 p).toNatClampNeg) (σ.1 16 (σ.1 47 p).toNatClampNeg) (nI h)
def mj_lah (σ : mj_St) (p h : Nat) : Int32 := if mj_agn σ p = true then mj_tdo σ p h else -1
def mj_enp (σ : mj_St) (p h : Nat) : Bool := mj_ends (σ.1 26 (σ.1 47 p).toNatClampNeg) (σ.1 16 (σ.1 47 p).toNatClampNeg) (σ.1 17 (σ.1 47 p).toNatClampNeg) (nI h)
def mj_laf (σ : mj_St) (p h : Nat) : Int32 := if σ.1 17 (σ.1 47 p).toNatClampNeg = nI h then 0 else if mj_agn σ p = true ∧ mj_enp σ p h = true then mj_tdo σ p h - 1 else 3
def mj_flS (σ : mj_St) (h k : Nat) : mj_St := (fun c i => if c = 52 ∧ i % 12 = h ∧ i / 12 < k then mj_lah σ (i / 12) h else if c = 53 ∧ i % 12 = h ∧ i / 12 < k then mj_laf σ (i / 12) h else σ.1 c i, σ.2)
theorem mj_flS_0 {h : Nat} : mj_flS σ h 0 = σ := by
  refine Prod.ext ?_ rfl
  funext c i
  simp [mj_flS]
theorem mj_flS_o {h k c : Nat} (a : c ≠ 52) (b : c ≠ 53) : (mj_flS σ h k).1 c = σ.1 c := by
  funext i
  simp [mj_flS, a, b]
theorem mj_flS_s {h k : Nat} (hh : h < 12) : mj_setI (mj_setI (mj_flS σ h k) 52 (k * 12 + h) (mj_lah σ k h)) 53 (k * 12 + h) (mj_laf σ k h) = mj_flS σ h (k + 1) := by
  refine Prod.ext ?_ rfl
  funext c i
  have e : (i = k * 12 + h) = (i % 12 = h ∧ i / 12 = k) := by apply propext; omega
  have e2 : (i / 12 < k + 1) = (i / 12 < k ∨ i / 12 = k) := by apply propext; omega
  simp only [mj_setI, mj_flS, e, e2]
  by_cases c2 : i % 12 = h
  · by_cases c3 : i / 12 = k
    · by_cases c1 : c = 53
      · simp [c1, c2, c3]
      · by_cases c4 : c = 52
        · simp [c4, c2, c3]
        · simp [c1, c4]
    · simp [c2, c3]
  · simp [c2]
theorem sp_fillLefts {N w gr n h : Nat} (hd : mj_pd σ N w gr) (hn : mj_pn σ n) (hh : h < 12) : mj_ev X (d + 3) 72 [.ref 46, .int (nI h)] σ = some (none, mj_flS σ h n) := by
  obtain ⟨d1, -⟩ := hd
  obtain ⟨n1, n2, n3⟩ := hn
  have loop : ∀ (j k : Nat) (v3 v4 v5 v6 : Value), mj_noMk v3 = true → mj_noMk v4 = true → mj_noMk v5 = true → mj_noMk v6 = true → k + j = n → mj_Runs X (mj_ev X (d + 2)) 3 none prog_5_method_11_code (2, [.ref 46, .int (nI h), .int (nI k), v3, v4, v5, v6], [], mj_flS σ h k) (none, mj_flS σ h n) := by
    intro j
    induction j with
    | zero =>
      intro k v3 v4 v5 v6 m3 m4 m5 m6 hk
      have hk' : k = n := by omega
      subst hk'
      have o : (mj_flS σ h k).1 46 5 = nI k := by rw [mj_flS_o (by decide) (by decide)]; exact n1
      have q : ¬ nI k < nI k := nI_nlt (Nat.le_refl _) (by omega)
      refine u72_2.mpr ?_
      simp only [u72_0, u72_1, u72_3, u72_4, u72_7, u72_10, u72_11, u72_14, u72_15, u72_16, u72_17, u72_18, u72_21, u72_24, u72_25, u72_26, u72_27, u72_30, u72_31, u72_34, u72_35, u72_37, u72_38, u72_41, u72_44, u72_45, u72_46, u72_47, u72_50, u72_51, u72_52, u72_55, u72_56, u72_58, u72_59, u72_61, u72_62, u72_63, u72_64, u72_66, u72_67, u72_70, u72_72, u72_74, u72_77, u72_79, u72_82, u72_83, u72_84, u72_85, u72_88, u72_90, u72_91, u72_94, u72_97, u72_98, u72_99, u72_100, u72_103, u72_104, u72_107, u72_109, u72_112, u72_113, u72_116, u72_117, u72_118, u72_121, u72_124, u72_126, u72_127, u72_128, u72_131, u72_132, u72_133, u72_136, u72_139, o, q, mj_cc_v, mj_cc_n, List.all_cons, List.all_nil, mj_noMk_int, mj_noMk_long, mj_noMk_ref, mj_noMk_junk, List.length_nil, List.length_cons, Nat.zero_le, Nat.reduceLeDiff, Nat.reduceAdd, Bool.and_true, Bool.true_and, Bool.and_self, Nat.reduceBNe, true_or, or_true, true_and, and_true, mj_z0, mj_z1, mj_z01, decide_true, decide_false, Bool.true_and, Bool.false_and, Bool.and_true, Bool.and_false, Bool.true_or, Bool.false_or, Bool.or_false, Bool.or_true, Bool.not_true, Bool.not_false, Bool.and_self, Bool.or_self, if_true, if_false, Bool.true_eq_false, Bool.false_eq_true, not_true, not_false_eq_true]
    | succ j ih =>
      intro k v3 v4 v5 v6 m3 m4 m5 m6 hk
      obtain ⟨i, hi, ei⟩ := mj_nI_of (n3 k (by omega)) (by decide)
      have q : nI k < nI n := nI_lt (by omega) (by omega)
      have o : ∀ c, c < 52 → (mj_flS σ h k).1 c = σ.1 c := fun c hc => mj_flS_o (by omega) (by omega)
      have oo : (mj_flS σ h k).2 = σ.2 := rfl
      have s : ∀ (c : Nat) (S : mj_St) (x : Nat) (v : Int32), c < 52 → (mj_setI S 52 x v).1 c = S.1 c := fun c S x v hc => mj_setI_ne S x v (by omega)
      have ss : ∀ (S : mj_St) (x : Nat) (v : Int32), (mj_setI S 52 x v).2 = S.2 := fun S x v => rfl
      have hsp : ∀ S : mj_St, mj_ev X (d + 2) 73 [.ref 14, .int (nI i), .int (nI h)] S = some (some (.int (mj_spn (S.1 26 i) (S.1 16 i) (nI h))), S) := fun S => sp_spanAt (d := d + 1) hi
      have hes : ∀ S : mj_St, mj_ev X (d + 2) 74 [.ref 14, .int (nI i), .int (nI h)] S = some (some (.int (mj_z (mj_ends (S.1 26 i) (S.1 16 i) (S.1 17 i) (nI h)))), S) := fun S => sp_endsSpan (d := d) hi
      have ek : nI k * 12 = nI (k * 12) := mj_nI_mul k 12
      have k72 : k * 12 + h < 72 := by omega
      have ei' : (σ.1 47 k).toNatClampNeg = i := by rw [ei]; exact nI_clamp (by omega)
      have es := mj_flS_s (σ := σ) (k := k) hh
      have hl := ih (k + 1) (.int (nI i)) (.int (if σ.1 15 i = 3 then 1 else 0)) (.int (σ.1 24 i - mj_spn (σ.1 26 i) (σ.1 16 i) (nI h))) (.int (nI (k * 12 + h))) rfl rfl rfl rfl (by omega)
      rw [← es] at hl
      unfold mj_lah mj_laf mj_agn mj_enp mj_tdo at hl
      rw [ei'] at hl
      refine u72_2.mpr ?_
      by_cases c1 : σ.1 15 i = 3
      · by_cases c2 : σ.1 17 i = nI h
        · simp only [eq_true c1, eq_true c2, decide_true, if_true] at hl
          simp only [u72_0, u72_1, u72_3, u72_4, u72_7, u72_10, u72_11, u72_14, u72_15, u72_16, u72_17, u72_18, u72_21, u72_24, u72_25, u72_26, u72_27, u72_30, u72_31, u72_34, u72_35, u72_37, u72_38, u72_41, u72_44, u72_45, u72_46, u72_47, u72_50, u72_51, u72_52, u72_55, u72_56, u72_58, u72_59, u72_61, u72_62, u72_63, u72_64, u72_66, u72_67, u72_70, u72_72, u72_74, u72_77, u72_79, u72_82, u72_83, u72_84, u72_85, u72_88, u72_90, u72_91, u72_94, u72_97, u72_98, u72_99, u72_100, u72_103, u72_104, u72_107, u72_109, u72_112, u72_113, u72_116, u72_117, u72_118, u72_121, u72_124, u72_126, u72_127, u72_128, u72_131, u72_132, u72_133, u72_136, u72_139, oo, ss, o 46 (by decide), o 47 (by decide), o 15 (by decide), o 16 (by decide), o 17 (by decide), o 24 (by decide), o 26 (by decide), s 46 _ _ _ (by decide), s 47 _ _ _ (by decide), s 15 _ _ _ (by decide), s 16 _ _ _ (by decide), s 17 _ _ _ (by decide), s 24 _ _ _ (by decide), s 26 _ _ _ (by decide), n1, q, mj_in_nI (show k < 6 by omega) (by decide), mj_nz9 (show k < 6 by omega) (by decide), ei, mj_in_nI hi (by decide), mj_nz9 hi (by decide), d1, mj_rf_some, mj_rf14, hsp, hes, ek, nI_add, mj_in_nI k72 (by decide), mj_nz9 k72 (by decide), eq_true c1, eq_true c2, m3, m4, m5, m6, mj_n10, nI_1, mj_cc_v, mj_cc_n, List.all_cons, List.all_nil, mj_noMk_int, mj_noMk_long, mj_noMk_ref, mj_noMk_junk, List.length_nil, List.length_cons, Nat.zero_le, Nat.reduceLeDiff, Nat.reduceAdd, Bool.and_true, Bool.true_and, Bool.and_self, Nat.reduceBNe, true_or, or_true, true_and, and_true, mj_z0, mj_z1, mj_z01, decide_true, decide_false, Bool.true_and, Bool.false_and, Bool.and_true, Bool.and_false, Bool.true_or, Bool.false_or, Bool.or_false, Bool.or_true, Bool.not_true, Bool.not_false, Bool.and_self, Bool.or_self, if_true, if_false, Bool.true_eq_false, Bool.false_eq_true, not_true, not_false_eq_true]
          exact hl
        · cases c3 : mj_ends (σ.1 26 i) (σ.1 16 i) (σ.1 17 i) (nI h)
          · simp only [eq_true c1, eq_false c2, c3, decide_true, if_true, if_false, Bool.false_eq_true, and_false] at hl
            simp only [u72_0, u72_1, u72_3, u72_4, u72_7, u72_10, u72_11, u72_14, u72_15, u72_16, u72_17, u72_18, u72_21, u72_24, u72_25, u72_26, u72_27, u72_30, u72_31, u72_34, u72_35, u72_37, u72_38, u72_41, u72_44, u72_45, u72_46, u72_47, u72_50, u72_51, u72_52, u72_55, u72_56, u72_58, u72_59, u72_61, u72_62, u72_63, u72_64, u72_66, u72_67, u72_70, u72_72, u72_74, u72_77, u72_79, u72_82, u72_83, u72_84, u72_85, u72_88, u72_90, u72_91, u72_94, u72_97, u72_98, u72_99, u72_100, u72_103, u72_104, u72_107, u72_109, u72_112, u72_113, u72_116, u72_117, u72_118, u72_121, u72_124, u72_126, u72_127, u72_128, u72_131, u72_132, u72_133, u72_136, u72_139, oo, ss, o 46 (by decide), o 47 (by decide), o 15 (by decide), o 16 (by decide), o 17 (by decide), o 24 (by decide), o 26 (by decide), s 46 _ _ _ (by decide), s 47 _ _ _ (by decide), s 15 _ _ _ (by decide), s 16 _ _ _ (by decide), s 17 _ _ _ (by decide), s 24 _ _ _ (by decide), s 26 _ _ _ (by decide), n1, q, mj_in_nI (show k < 6 by omega) (by decide), mj_nz9 (show k < 6 by omega) (by decide), ei, mj_in_nI hi (by decide), mj_nz9 hi (by decide), d1, mj_rf_some, mj_rf14, hsp, hes, ek, nI_add, mj_in_nI k72 (by decide), mj_nz9 k72 (by decide), eq_true c1, eq_false c2, c3, mj_zF, m3, m4, m5, m6, mj_n10, nI_1, mj_cc_v, mj_cc_n, List.all_cons, List.all_nil, mj_noMk_int, mj_noMk_long, mj_noMk_ref, mj_noMk_junk, List.length_nil, List.length_cons, Nat.zero_le, Nat.reduceLeDiff, Nat.reduceAdd, Bool.and_true, Bool.true_and, Bool.and_self, Nat.reduceBNe, true_or, or_true, true_and, and_true, mj_z0, mj_z1, mj_z01, decide_true, decide_false, Bool.true_and, Bool.false_and, Bool.and_true, Bool.and_false, Bool.true_or, Bool.false_or, Bool.or_false, Bool.or_true, Bool.not_true, Bool.not_false, Bool.and_self, Bool.or_self, if_true, if_false, Bool.true_eq_false, Bool.false_eq_true, not_true, not_false_eq_true]
            exact hl
          · simp only [eq_true c1, eq_false c2, c3, decide_true, if_true, if_false, and_self] at hl
            simp only [u72_0, u72_1, u72_3, u72_4, u72_7, u72_10, u72_11, u72_14, u72_15, u72_16, u72_17, u72_18, u72_21, u72_24, u72_25, u72_26, u72_27, u72_30, u72_31, u72_34, u72_35, u72_37, u72_38, u72_41, u72_44, u72_45, u72_46, u72_47, u72_50, u72_51, u72_52, u72_55, u72_56, u72_58, u72_59, u72_61, u72_62, u72_63, u72_64, u72_66, u72_67, u72_70, u72_72, u72_74, u72_77, u72_79, u72_82, u72_83, u72_84, u72_85, u72_88, u72_90, u72_91, u72_94, u72_97, u72_98, u72_99, u72_100, u72_103, u72_104, u72_107, u72_109, u72_112, u72_113, u72_116, u72_117, u72_118, u72_121, u72_124, u72_126, u72_127, u72_128, u72_131, u72_132, u72_133, u72_136, u72_139, oo, ss, o 46 (by decide), o 47 (by decide), o 15 (by decide), o 16 (by decide), o 17 (by decide), o 24 (by decide), o 26 (by decide), s 46 _ _ _ (by decide), s 47 _ _ _ (by decide), s 15 _ _ _ (by decide), s 16 _ _ _ (by decide), s 17 _ _ _ (by decide), s 24 _ _ _ (by decide), s 26 _ _ _ (by decide), n1, q, mj_in_nI (show k < 6 by omega) (by decide), mj_nz9 (show k < 6 by omega) (by decide), ei, mj_in_nI hi (by decide), mj_nz9 hi (by decide), d1, mj_rf_some, mj_rf14, hsp, hes, ek, nI_add, mj_in_nI k72 (by decide), mj_nz9 k72 (by decide), eq_true c1, eq_false c2, c3, mj_zT, m3, m4, m5, m6, mj_n10, nI_1, mj_cc_v, mj_cc_n, List.all_cons, List.all_nil, mj_noMk_int, mj_noMk_long, mj_noMk_ref, mj_noMk_junk, List.length_nil, List.length_cons, Nat.zero_le, Nat.reduceLeDiff, Nat.reduceAdd, Bool.and_true, Bool.true_and, Bool.and_self, Nat.reduceBNe, true_or, or_true, true_and, and_true, mj_z0, mj_z1, mj_z01, decide_true, decide_false, Bool.true_and, Bool.false_and, Bool.and_true, Bool.and_false, Bool.true_or, Bool.false_or, Bool.or_false, Bool.or_true, Bool.not_true, Bool.not_false, Bool.and_self, Bool.or_self, if_true, if_false, Bool.true_eq_false, Bool.false_eq_true, not_true, not_false_eq_true]
            exact hl
      · by_cases c2 : σ.1 17 i = nI h
        · simp only [eq_false c1, eq_true c2, decide_false, Bool.false_eq_true, if_true, if_false, false_and] at hl
          simp only [u72_0, u72_1, u72_3, u72_4, u72_7, u72_10, u72_11, u72_14, u72_15, u72_16, u72_17, u72_18, u72_21, u72_24, u72_25, u72_26, u72_27, u72_30, u72_31, u72_34, u72_35, u72_37, u72_38, u72_41, u72_44, u72_45, u72_46, u72_47, u72_50, u72_51, u72_52, u72_55, u72_56, u72_58, u72_59, u72_61, u72_62, u72_63, u72_64, u72_66, u72_67, u72_70, u72_72, u72_74, u72_77, u72_79, u72_82, u72_83, u72_84, u72_85, u72_88, u72_90, u72_91, u72_94, u72_97, u72_98, u72_99, u72_100, u72_103, u72_104, u72_107, u72_109, u72_112, u72_113, u72_116, u72_117, u72_118, u72_121, u72_124, u72_126, u72_127, u72_128, u72_131, u72_132, u72_133, u72_136, u72_139, oo, ss, o 46 (by decide), o 47 (by decide), o 15 (by decide), o 16 (by decide), o 17 (by decide), o 24 (by decide), o 26 (by decide), s 46 _ _ _ (by decide), s 47 _ _ _ (by decide), s 15 _ _ _ (by decide), s 16 _ _ _ (by decide), s 17 _ _ _ (by decide), s 24 _ _ _ (by decide), s 26 _ _ _ (by decide), n1, q, mj_in_nI (show k < 6 by omega) (by decide), mj_nz9 (show k < 6 by omega) (by decide), ei, mj_in_nI hi (by decide), mj_nz9 hi (by decide), d1, mj_rf_some, mj_rf14, hsp, hes, ek, nI_add, mj_in_nI k72 (by decide), mj_nz9 k72 (by decide), eq_false c1, eq_true c2, m3, m4, m5, m6, mj_n10, nI_1, mj_cc_v, mj_cc_n, List.all_cons, List.all_nil, mj_noMk_int, mj_noMk_long, mj_noMk_ref, mj_noMk_junk, List.length_nil, List.length_cons, Nat.zero_le, Nat.reduceLeDiff, Nat.reduceAdd, Bool.and_true, Bool.true_and, Bool.and_self, Nat.reduceBNe, true_or, or_true, true_and, and_true, mj_z0, mj_z1, mj_z01, decide_true, decide_false, Bool.true_and, Bool.false_and, Bool.and_true, Bool.and_false, Bool.true_or, Bool.false_or, Bool.or_false, Bool.or_true, Bool.not_true, Bool.not_false, Bool.and_self, Bool.or_self, if_true, if_false, Bool.true_eq_false, Bool.false_eq_true, not_true, not_false_eq_true]
          exact hl
        · simp only [eq_false c1, eq_false c2, decide_false, Bool.false_eq_true, if_true, if_false, false_and] at hl
          simp only [u72_0, u72_1, u72_3, u72_4, u72_7, u72_10, u72_11, u72_14, u72_15, u72_16, u72_17, u72_18, u72_21, u72_24, u72_25, u72_26, u72_27, u72_30, u72_31, u72_34, u72_35, u72_37, u72_38, u72_41, u72_44, u72_45, u72_46, u72_47, u72_50, u72_51, u72_52, u72_55, u72_56, u72_58, u72_59, u72_61, u72_62, u72_63, u72_64, u72_66, u72_67, u72_70, u72_72, u72_74, u72_77, u72_79, u72_82, u72_83, u72_84, u72_85, u72_88, u72_90, u72_91, u72_94, u72_97, u72_98, u72_99, u72_100, u72_103, u72_104, u72_107, u72_109, u72_112, u72_113, u72_116, u72_117, u72_118, u72_121, u72_124, u72_126, u72_127, u72_128, u72_131, u72_132, u72_133, u72_136, u72_139, oo, ss, o 46 (by decide), o 47 (by decide), o 15 (by decide), o 16 (by decide), o 17 (by decide), o 24 (by decide), o 26 (by decide), s 46 _ _ _ (by decide), s 47 _ _ _ (by decide), s 15 _ _ _ (by decide), s 16 _ _ _ (by decide), s 17 _ _ _ (by decide), s 24 _ _ _ (by decide), s 26 _ _ _ (by decide), n1, q, mj_in_nI (show k < 6 by omega) (by decide), mj_nz9 (show k < 6 by omega) (by decide), ei, mj_in_nI hi (by decide), mj_nz9 hi (by decide), d1, mj_rf_some, mj_rf14, hsp, hes, ek, nI_add, mj_in_nI k72 (by decide), mj_nz9 k72 (by decide), eq_false c1, eq_false c2, m3, m4, m5, m6, mj_n10, nI_1, mj_cc_v, mj_cc_n, List.all_cons, List.all_nil, mj_noMk_int, mj_noMk_long, mj_noMk_ref, mj_noMk_junk, List.length_nil, List.length_cons, Nat.zero_le, Nat.reduceLeDiff, Nat.reduceAdd, Bool.and_true, Bool.true_and, Bool.and_self, Nat.reduceBNe, true_or, or_true, true_and, and_true, mj_z0, mj_z1, mj_z01, decide_true, decide_false, Bool.true_and, Bool.false_and, Bool.and_true, Bool.and_false, Bool.true_or, Bool.false_or, Bool.or_false, Bool.or_true, Bool.not_true, Bool.not_false, Bool.and_self, Bool.or_self, if_true, if_false, Bool.true_eq_false, Bool.false_eq_true, not_true, not_false_eq_true]
          exact hl
  refine st72 ?_
  have h0 := loop n 0 mj_junk mj_junk mj_junk mj_junk rfl rfl rfl rfl (by omega)
  rw [mj_flS_0] at h0
  simp only [u72_0, u72_1, u72_3, u72_4, u72_7, u72_10, u72_11, u72_14, u72_15, u72_16, u72_17, u72_18, u72_21, u72_24, u72_25, u72_26, u72_27, u72_30, u72_31, u72_34, u72_35, u72_37, u72_38, u72_41, u72_44, u72_45, u72_46, u72_47, u72_50, u72_51, u72_52, u72_55, u72_56, u72_58, u72_59, u72_61, u72_62, u72_63, u72_64, u72_66, u72_67, u72_70, u72_72, u72_74, u72_77, u72_79, u72_82, u72_83, u72_84, u72_85, u72_88, u72_90, u72_91, u72_94, u72_97, u72_98, u72_99, u72_100, u72_103, u72_104, u72_107, u72_109, u72_112, u72_113, u72_116, u72_117, u72_118, u72_121, u72_124, u72_126, u72_127, u72_128, u72_131, u72_132, u72_133, u72_136, u72_139, mj_cc_v, mj_cc_n, List.all_cons, List.all_nil, mj_noMk_int, mj_noMk_long, mj_noMk_ref, mj_noMk_junk, List.length_nil, List.length_cons, Nat.zero_le, Nat.reduceLeDiff, Nat.reduceAdd, Bool.and_true, Bool.true_and, Bool.and_self, Nat.reduceBNe, true_or, or_true, true_and, and_true, mj_z0, mj_z1, mj_z01, decide_true, decide_false, Bool.true_and, Bool.false_and, Bool.and_true, Bool.and_false, Bool.true_or, Bool.false_or, Bool.or_false, Bool.or_true, Bool.not_true, Bool.not_false, Bool.and_self, Bool.or_self, if_true, if_false, Bool.true_eq_false, Bool.false_eq_true, not_true, not_false_eq_true]
  exact h0
end
