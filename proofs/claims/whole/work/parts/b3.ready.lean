section
variable {X : mj_X} {d : Nat} {σ τ ρ : mj_St}
theorem sp_rangeC {l a b : Int32} (h1 : ¬ b < a) (h2 : ¬ a < 0) (h3 : ¬ l < b) : mj_ev X (d + 1) 85 [.int l, .int a, .int b] σ = some (none, σ) := by
  refine st85 ?_
  simp only [u85_0, u85_1, u85_2, u85_46, u85_47, u85_59, u85_60, u85_61, u85_73, h1, h2, h3, mj_cc_v, mj_cc_n, List.all_cons, List.all_nil, mj_noMk_int, mj_noMk_long, mj_noMk_ref, mj_noMk_junk, List.length_nil, List.length_cons, Nat.zero_le, Nat.reduceLeDiff, Nat.reduceAdd, Bool.and_true, Bool.true_and, Bool.and_self, Nat.reduceBNe, true_or, or_true, true_and, and_true, mj_z0, mj_z1, mj_z01, decide_true, decide_false, Bool.true_and, Bool.false_and, Bool.and_true, Bool.and_false, Bool.true_or, Bool.false_or, Bool.or_false, Bool.or_true, Bool.not_true, Bool.not_false, Bool.and_self, Bool.or_self, if_true, if_false, Bool.true_eq_false, Bool.false_eq_true, not_true, not_false_eq_true]
theorem sp_fillM {n : Nat} (hn : n ≤ σ.2.2.2.1) (hl : σ.2.2.2.1 ≤ 20000) : mj_ev X (d + 2) 84 [.ref 999, .int 0, .int (nI n), .long 0] σ = some (none, mj_fillL σ 999 n 0) := by
  have hA : mj_lenA X σ 999 = some (Int32.ofNat σ.2.2.2.1) := by
    unfold mj_lenA
    rw [if_pos rfl]
  have hL : mj_lenL σ 999 = some σ.2.2.2.1 := by
    unfold mj_lenL
    rw [if_pos rfl]
  have e0 : (0 : Int32) = nI 0 := rfl
  have hr := sp_rangeC (X := X) (d := d) (σ := σ) (l := Int32.ofNat σ.2.2.2.1) (a := 0) (b := nI n) (nI_nlt (b := 0) (Nat.zero_le _) (by omega)) (by decide) (nI_nlt hn (by omega))
  refine st84 ?_
  simp only [u84_0, u84_1, u84_2, u84_3, u84_4, u84_7, u84_8, u84_12, u84_13, u84_16, u84_17, u84_19, u84_20, u84_21, u84_24, u84_27, mj_kN, hA, hr, mj_cc_v, mj_cc_n, List.all_cons, List.all_nil, mj_noMk_int, mj_noMk_long, mj_noMk_ref, mj_noMk_junk, List.length_nil, List.length_cons, Nat.zero_le, Nat.reduceLeDiff, Nat.reduceAdd, Bool.and_true, Bool.true_and, Bool.and_self, Nat.reduceBNe, true_or, or_true, true_and, and_true, mj_z0, mj_z1, mj_z01, decide_true, decide_false, Bool.true_and, Bool.false_and, Bool.and_true, Bool.and_false, Bool.true_or, Bool.false_or, Bool.or_false, Bool.or_true, Bool.not_true, Bool.not_false, Bool.and_self, Bool.or_self, if_true, if_false, Bool.true_eq_false, Bool.false_eq_true, not_true, not_false_eq_true]
  have key := mj_count (X := X) (call := mj_ev X (d + 1)) (oc := 8) (ret := none) (cc := prog_15_method_102_code) (r := (none, mj_fillL σ 999 n 0)) (N := n) (S := fun k => (10, [.ref 999, .int 0, .int (nI n), .long 0, mj_junk, .int (nI k)], [], mj_fillL σ 999 k 0)) (fun k hk hr => by
    have hlt : nI k < nI n := nI_lt hk (by omega)
    have hc : (nI k).toNatClampNeg = k := nI_clamp (by omega)
    have hin : mj_inb (nI k) σ.2.2.2.1 = true := mj_in_nI (by omega) (by omega)
    refine u84_10.mpr ?_
    simp only [u84_0, u84_1, u84_2, u84_3, u84_4, u84_7, u84_8, u84_12, u84_13, u84_16, u84_17, u84_19, u84_20, u84_21, u84_24, u84_27, hlt, if_true, mj_kT, mj_fillL_len, hL, hin, true_and, hc, mj_fillL_s, nI_1]
    exact hr) (by
    have hge : ¬ nI n < nI n := nI_nlt (Nat.le_refl _) (by omega)
    refine u84_10.mpr ?_
    simp only [u84_0, u84_1, u84_2, u84_3, u84_4, u84_7, u84_8, u84_12, u84_13, u84_16, u84_17, u84_19, u84_20, u84_21, u84_24, u84_27, hge, if_false]) 0 (Nat.zero_le _)
  rw [mj_fillL_0] at key
  exact key
theorem sp_half2 {N n w gr : Nat} (hd : mj_pd σ N w gr) (h5 : σ.1 46 5 = nI n) (hn : n ≤ 6) : mj_ev X (d + 1) 83 [.ref 46] σ = some (some (.int (nI (mj_hf w gr n))), σ) := by
  obtain ⟨d1, d2, d3, d4, d5, d6, d7, d8⟩ := hd
  obtain ⟨l1, l2⟩ := mj_hf_lt (w := w) d7 hn
  have e1 : (12 : Int32) - nI w = nI (12 - w) := mj_nI_sub (a := 12) d5
  have e2 : nI (12 - w) * nI gr = nI ((12 - w) * gr) := mj_nI_mul _ _
  have e3 : nI ((12 - w) * gr) <<< ((2 * nI n) &&& 31) = nI ((12 - w) * gr * 4 ^ n) := by
    rw [mj_n2, mj_nI_shl (by omega) (by rw [Nat.pow_mul]; show (12 - w) * gr * 4 ^ n < 2 ^ 31; omega), Nat.pow_mul]
  have e4 : nI ((12 - w) * gr * 4 ^ n) + 63 = nI ((12 - w) * gr * 4 ^ n + 63) := by
    show nI _ + nI 63 = _
    rw [nI_add]
  have e5 : nI ((12 - w) * gr * 4 ^ n + 63) >>> (6 &&& 31) = nI (mj_hf w gr n) := by
    have e6 : (6 : Int32) &&& 31 = nI 6 &&& 31 := rfl
    rw [e6, mj_nI_shr (by decide) (by omega)]
    rfl
  refine st83 ?_
  simp only [u83_0, u83_2, u83_3, u83_6, u83_9, u83_10, u83_11, u83_14, u83_15, u83_16, u83_17, u83_20, u83_21, u83_22, u83_24, u83_25, u83_27, u83_28, d1, mj_rf_some, mj_rf14, mj_noMk_ref, h5, d4, d6, e1, e2, e3, e4, e5, mj_cc_v, mj_cc_n, List.all_cons, List.all_nil, mj_noMk_int, mj_noMk_long, mj_noMk_ref, mj_noMk_junk, List.length_nil, List.length_cons, Nat.zero_le, Nat.reduceLeDiff, Nat.reduceAdd, Bool.and_true, Bool.true_and, Bool.and_self, Nat.reduceBNe, true_or, or_true, true_and, and_true, mj_z0, mj_z1, mj_z01, decide_true, decide_false, Bool.true_and, Bool.false_and, Bool.and_true, Bool.and_false, Bool.true_or, Bool.false_or, Bool.or_false, Bool.or_true, Bool.not_true, Bool.not_false, Bool.and_self, Bool.or_self, if_true, if_false, Bool.true_eq_false, Bool.false_eq_true, not_true, not_false_eq_true]
def mj_clrS (σ : mj_St) (m : Nat) : mj_St := if σ.2.2.2.1 < m then mj_newMk σ m else mj_fillL σ 999 m 0
theorem sp_clearMarks {N n w gr : Nat} (hd : mj_pd σ N w gr) (h5 : σ.1 46 5 = nI n) (hn : n ≤ 6) (hl : σ.2.2.2.1 ≤ 20000) : mj_ev X (d + 3) 82 [.ref 46] σ = some (none, mj_clrS σ (2 * mj_hf w gr n)) := by
  have hh := sp_half2 (X := X) (d := d + 1) hd h5 hn
  obtain ⟨d1, d2, d3, d4, d5, d6, d7, d8⟩ := hd
  obtain ⟨l1, l2⟩ := mj_hf_lt (w := w) d7 hn
  have e2 := mj_n2 (mj_hf w gr n)
  unfold mj_clrS
  refine st82 ?_
  generalize hm : 2 * mj_hf w gr n = m at *
  by_cases c : σ.2.2.2.1 < m
  · rw [if_pos c]
    have q : Int32.ofNat σ.2.2.2.1 < nI m := nI_lt c (by omega)
    have q0 : ¬ nI m < 0 := nI_nlt (b := 0) (Nat.zero_le _) (by omega)
    have qc : (nI m).toNatClampNeg = m := nI_clamp (by omega)
    have q2 : m ≤ 20000 := by omega
    simp only [u82_0, u82_1, u82_2, u82_5, u82_6, u82_7, u82_8, u82_9, u82_12, u82_13, u82_16, u82_17, u82_18, u82_23, u82_26, u82_27, u82_30, u82_31, u82_34, u82_35, u82_36, u82_37, u82_40, hh, e2, q, q0, qc, q2, mj_cc_v, mj_cc_n, List.all_cons, List.all_nil, mj_noMk_int, mj_noMk_long, mj_noMk_ref, mj_noMk_junk, List.length_nil, List.length_cons, Nat.zero_le, Nat.reduceLeDiff, Nat.reduceAdd, Bool.and_true, Bool.true_and, Bool.and_self, Nat.reduceBNe, true_or, or_true, true_and, and_true, mj_z0, mj_z1, mj_z01, decide_true, decide_false, Bool.true_and, Bool.false_and, Bool.and_true, Bool.and_false, Bool.true_or, Bool.false_or, Bool.or_false, Bool.or_true, Bool.not_true, Bool.not_false, Bool.and_self, Bool.or_self, if_true, if_false, Bool.true_eq_false, Bool.false_eq_true, not_true, not_false_eq_true]
  · rw [if_neg c]
    have q : ¬ Int32.ofNat σ.2.2.2.1 < nI m := nI_nlt (by omega) (by omega)
    by_cases c0 : m = 0
    · have q0 : ¬ 0 < nI m := by rw [c0]; decide
      rw [c0, mj_fillL_0]
      rw [c0] at q q0 e2
      simp only [u82_0, u82_1, u82_2, u82_5, u82_6, u82_7, u82_8, u82_9, u82_12, u82_13, u82_16, u82_17, u82_18, u82_23, u82_26, u82_27, u82_30, u82_31, u82_34, u82_35, u82_36, u82_37, u82_40, hh, e2, q, q0, mj_cc_v, mj_cc_n, List.all_cons, List.all_nil, mj_noMk_int, mj_noMk_long, mj_noMk_ref, mj_noMk_junk, List.length_nil, List.length_cons, Nat.zero_le, Nat.reduceLeDiff, Nat.reduceAdd, Bool.and_true, Bool.true_and, Bool.and_self, Nat.reduceBNe, true_or, or_true, true_and, and_true, mj_z0, mj_z1, mj_z01, decide_true, decide_false, Bool.true_and, Bool.false_and, Bool.and_true, Bool.and_false, Bool.true_or, Bool.false_or, Bool.or_false, Bool.or_true, Bool.not_true, Bool.not_false, Bool.and_self, Bool.or_self, if_true, if_false, Bool.true_eq_false, Bool.false_eq_true, not_true, not_false_eq_true]
    · have q0 : 0 < nI m := nI_lt (a := 0) (by omega) (by omega)
      have hf := sp_fillM (X := X) (d := d) (σ := σ) (n := m) (by omega) hl
      have hro : (mj_fillL σ 999 m 0).2.2.2.2 = σ.2.2.2.2 := rfl
      simp only [u82_0, u82_1, u82_2, u82_5, u82_6, u82_7, u82_8, u82_9, u82_12, u82_13, u82_16, u82_17, u82_18, u82_23, u82_26, u82_27, u82_30, u82_31, u82_34, u82_35, u82_36, u82_37, u82_40, hh, e2, q, q0, hf, hro, mj_cc_v, mj_cc_n, List.all_cons, List.all_nil, mj_noMk_int, mj_noMk_long, mj_noMk_ref, mj_noMk_junk, List.length_nil, List.length_cons, Nat.zero_le, Nat.reduceLeDiff, Nat.reduceAdd, Bool.and_true, Bool.true_and, Bool.and_self, Nat.reduceBNe, true_or, or_true, true_and, and_true, mj_z0, mj_z1, mj_z01, decide_true, decide_false, Bool.true_and, Bool.false_and, Bool.and_true, Bool.and_false, Bool.true_or, Bool.false_or, Bool.or_false, Bool.or_true, Bool.not_true, Bool.not_false, Bool.and_self, Bool.or_self, if_true, if_false, Bool.true_eq_false, Bool.false_eq_true, not_true, not_false_eq_true]
def mj_hop (σ : mj_St) (w gr n : Nat) : Bool := decide (gr = 1) && mj_lkh σ w n
def mj_mkH (σ : mj_St) (w gr n : Nat) : mj_St := mj_setI (mj_rbS σ w gr (12 - w)) 46 4 (mj_z (mj_hop σ w gr n))
def mj_mkR (σ : mj_St) (w gr n : Nat) : mj_St := if mj_hop σ w gr n = true then mj_mkH σ w gr n else mj_clrS (mj_mkH σ w gr n) (2 * mj_hf w gr n)
theorem mj_pd_o {N w gr : Nat} (h0 : τ.2.2.1 46 0 = σ.2.2.1 46 0) (h1 : τ.1 14 = σ.1 14) (h2 : τ.1 46 2 = σ.1 46 2) (h3 : τ.1 20 = σ.1 20) (hd : mj_pd σ N w gr) : mj_pd τ N w gr := by
  unfold mj_pd at hd ⊢
  rw [h0, h1, h2, h3]
  exact hd
theorem mj_pn_o {n : Nat} (h1 : τ.1 46 5 = σ.1 46 5) (h2 : τ.1 47 = σ.1 47) (hn : mj_pn σ n) : mj_pn τ n := by
  unfold mj_pn at hn ⊢
  rw [h1, h2]
  exact hn
theorem mj_lkh_o (h1 : τ.1 51 = σ.1 51) (h2 : τ.1 25 = σ.1 25) (h3 : τ.1 47 = σ.1 47) : mj_lkh τ = mj_lkh σ := by
  funext w n
  unfold mj_lkh mj_hup
  rw [h1, h2, h3]
theorem sp_makeReady {N n w gr : Nat} (hd : mj_pd σ N w gr) (hn : mj_pn σ n) (hl : σ.2.2.2.1 ≤ 20000) : mj_ev X (d + 4) 79 [.ref 46] σ = some (none, mj_mkR σ w gr n) := by
  have o : ∀ c, c ≠ 54 → (mj_rbS σ w gr (12 - w)).1 c = σ.1 c := fun c h => mj_rbS_o h
  have h1 := sp_countRoom (X := X) (d := d + 1) hd
  have hd1 : mj_pd (mj_rbS σ w gr (12 - w)) N w gr := mj_pd_o (σ := σ) rfl (o 14 (by decide)) (by rw [o 46 (by decide)]) (o 20 (by decide)) hd
  have hn1 : mj_pn (mj_rbS σ w gr (12 - w)) n := mj_pn_o (σ := σ) (by rw [o 46 (by decide)]) (o 47 (by decide)) hn
  have h2 := sp_lacksHours (X := X) (d := d + 2) hd1 hn1
  rw [mj_lkh_o (σ := σ) (o 51 (by decide)) (o 25 (by decide)) (o 47 (by decide))] at h2
  have s : ∀ c, c ≠ 46 → (mj_mkH σ w gr n).1 c = (mj_rbS σ w gr (12 - w)).1 c := fun c h => mj_setI_ne _ _ _ h
  have s46 : ∀ i, i ≠ 4 → (mj_mkH σ w gr n).1 46 i = (mj_rbS σ w gr (12 - w)).1 46 i := fun i h => mj_setI_i h
  have hd2 : mj_pd (mj_mkH σ w gr n) N w gr := mj_pd_o (σ := mj_rbS σ w gr (12 - w)) rfl (s 14 (by decide)) (s46 2 (by decide)) (s 20 (by decide)) hd1
  have hn2 : mj_pn (mj_mkH σ w gr n) n := mj_pn_o (σ := mj_rbS σ w gr (12 - w)) (s46 5 (by decide)) (s 47 (by decide)) hn1
  have h3 := sp_clearMarks (X := X) (d := d) hd2 hn2.1 hn2.2.1 hl
  have s4 : (mj_mkH σ w gr n).1 46 4 = mj_z (mj_hop σ w gr n) := mj_setI_eq
  have eS : mj_setI (mj_rbS σ w gr (12 - w)) 46 4 (mj_z (mj_hop σ w gr n)) = mj_mkH σ w gr n := rfl
  have d6 := hd.2.2.2.2.2.1
  have d7 := hd.2.2.2.2.2.2.1
  have r1 : (mj_rbS σ w gr (12 - w)).2.2.2.2 = σ.2.2.2.2 := rfl
  unfold mj_mkR
  unfold mj_hop at *
  refine st79 ?_
  rcases d7 with z | z
  · subst z
    rw [decide_eq_true rfl, Bool.true_and] at *
    have n1 : (nI 1 : Int32) = 1 := rfl
    cases c : mj_lkh σ w n
    · rw [c] at h2 s4 eS
      rw [mj_zF] at s4 eS
      rw [if_neg (by decide)]
      simp only [u79_0, u79_1, u79_4, u79_5, u79_6, u79_9, u79_10, u79_13, u79_14, u79_17, u79_20, u79_21, u79_24, u79_25, u79_28, u79_29, u79_32, u79_35, u79_36, u79_39, h1, o 46 (by decide), d6, n1, h2, eS, s4, mj_zF, mj_zT, mj_n10, h3, r1, mj_cc_v, mj_cc_n, List.all_cons, List.all_nil, mj_noMk_int, mj_noMk_long, mj_noMk_ref, mj_noMk_junk, List.length_nil, List.length_cons, Nat.zero_le, Nat.reduceLeDiff, Nat.reduceAdd, Bool.and_true, Bool.true_and, Bool.and_self, Nat.reduceBNe, true_or, or_true, true_and, and_true, mj_z0, mj_z1, mj_z01, decide_true, decide_false, Bool.true_and, Bool.false_and, Bool.and_true, Bool.and_false, Bool.true_or, Bool.false_or, Bool.or_false, Bool.or_true, Bool.not_true, Bool.not_false, Bool.and_self, Bool.or_self, if_true, if_false, Bool.true_eq_false, Bool.false_eq_true, not_true, not_false_eq_true]
    · rw [c] at h2 s4 eS
      rw [mj_zT] at s4 eS
      rw [if_pos rfl]
      simp only [u79_0, u79_1, u79_4, u79_5, u79_6, u79_9, u79_10, u79_13, u79_14, u79_17, u79_20, u79_21, u79_24, u79_25, u79_28, u79_29, u79_32, u79_35, u79_36, u79_39, h1, o 46 (by decide), d6, n1, h2, eS, s4, mj_zF, mj_zT, mj_n10, r1, mj_cc_v, mj_cc_n, List.all_cons, List.all_nil, mj_noMk_int, mj_noMk_long, mj_noMk_ref, mj_noMk_junk, List.length_nil, List.length_cons, Nat.zero_le, Nat.reduceLeDiff, Nat.reduceAdd, Bool.and_true, Bool.true_and, Bool.and_self, Nat.reduceBNe, true_or, or_true, true_and, and_true, mj_z0, mj_z1, mj_z01, decide_true, decide_false, Bool.true_and, Bool.false_and, Bool.and_true, Bool.and_false, Bool.true_or, Bool.false_or, Bool.or_false, Bool.or_true, Bool.not_true, Bool.not_false, Bool.and_self, Bool.or_self, if_true, if_false, Bool.true_eq_false, Bool.false_eq_true, not_true, not_false_eq_true]
  · subst z
    have q : ¬ nI 8 = 1 := by decide
    rw [decide_eq_false (by decide), Bool.false_and] at *
    rw [mj_zF] at s4 eS
    rw [if_neg (by decide)]
    simp only [u79_0, u79_1, u79_4, u79_5, u79_6, u79_9, u79_10, u79_13, u79_14, u79_17, u79_20, u79_21, u79_24, u79_25, u79_28, u79_29, u79_32, u79_35, u79_36, u79_39, h1, o 46 (by decide), d6, eq_false q, eS, s4, mj_zF, mj_zT, mj_n10, h3, r1, mj_cc_v, mj_cc_n, List.all_cons, List.all_nil, mj_noMk_int, mj_noMk_long, mj_noMk_ref, mj_noMk_junk, List.length_nil, List.length_cons, Nat.zero_le, Nat.reduceLeDiff, Nat.reduceAdd, Bool.and_true, Bool.true_and, Bool.and_self, Nat.reduceBNe, true_or, or_true, true_and, and_true, mj_z0, mj_z1, mj_z01, decide_true, decide_false, Bool.true_and, Bool.false_and, Bool.and_true, Bool.and_false, Bool.true_or, Bool.false_or, Bool.or_false, Bool.or_true, Bool.not_true, Bool.not_false, Bool.and_self, Bool.or_self, if_true, if_false, Bool.true_eq_false, Bool.false_eq_true, not_true, not_false_eq_true]
end
