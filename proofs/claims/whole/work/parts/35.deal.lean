section
variable {X : mj_X} {d : Nat} {σ : mj_St}
theorem mj_nz9 {k n : Nat} (h : k < n) (hn : n < 2147483648) : (nI k).toNatClampNeg = k := nI_clamp (by omega)
def mj_ask (f w o : Int32) : Bool := decide (f = -1) || decide ((o >>> (f &&& 31)) &&& 1 = w)
def mj_cov (fr tl h : Int32) : Bool := decide (¬ h < fr) && decide (¬ tl < h)
def mj_spn (sp fr h : Int32) : Int32 := if 0 < sp then (h - fr) / sp else 0
def mj_ends (sp fr tl h : Int32) : Bool := mj_cov fr tl h && (decide (h = tl) || !(decide (mj_spn sp fr (h + 1) = mj_spn sp fr h)))
theorem sp_everyone : mj_ev X (d + 1) 53 [.ref 14] σ = some (some (.int ((1 <<< (σ.1 14 14 &&& 31)) - 1)), σ) := by
  refine st53 ?_
  simp only [u53_0, u53_1, u53_2, u53_5, u53_6, u53_7, u53_8]
theorem sp_isLost {k : Nat} (hk : k < 9) : mj_ev X (d + 1) 107 [.ref 14, .int (nI k)] σ = some (some (.int (mj_z (mj_b (σ.1 14 16) k))), σ) := by
  refine st107 ?_
  simp only [u107_0, u107_1, u107_4, u107_5, u107_6, u107_7, u107_8, u107_11, u107_12, u107_15, u107_16, mj_bt (show k < 32 by omega), mj_z0, mj_cc_v, mj_cc_n, List.all_cons, List.all_nil, mj_noMk_int, mj_noMk_long, mj_noMk_ref, mj_noMk_junk, List.length_nil, List.length_cons, Nat.zero_le, Nat.reduceLeDiff, Nat.reduceAdd, Bool.and_true, Bool.true_and, Bool.and_self, Nat.reduceBNe, true_or, true_and, and_true, mj_z0, mj_z1, mj_z01]
  cases mj_b (σ.1 14 16) k <;> simp [mj_z]
theorem sp_isAsked {k : Nat} {o : Int32} (hk : k < 9) : mj_ev X (d + 1) 62 [.ref 14, .int (nI k), .int o] σ = some (some (.int (mj_z (mj_ask (σ.1 20 k) (σ.1 21 k) o))), σ) := by
  refine st62 ?_
  simp only [u62_0, u62_1, u62_4, u62_5, u62_6, u62_7, u62_10, u62_11, u62_12, u62_15, u62_16, u62_17, u62_18, u62_19, u62_20, u62_21, u62_24, u62_25, u62_26, u62_29, u62_30, u62_33, u62_34, mj_in_nI hk (by decide), mj_nz9 hk (by decide), mj_cc_v, mj_cc_n, List.all_cons, List.all_nil, mj_noMk_int, mj_noMk_long, mj_noMk_ref, mj_noMk_junk, List.length_nil, List.length_cons, Nat.zero_le, Nat.reduceLeDiff, Nat.reduceAdd, Bool.and_true, Bool.true_and, Bool.and_self, Nat.reduceBNe, true_or, true_and, and_true, mj_z0, mj_z1, mj_z01]
  unfold mj_ask
  by_cases h1 : σ.1 20 k = -1
  · simp [h1, mj_z]
  · by_cases h2 : (o >>> (σ.1 20 k &&& 31)) &&& 1 = σ.1 21 k <;> simp [h1, h2, mj_z]
theorem sp_M_isAsked {k : Nat} {o : Int32} (hk : k < 9) : mj_ev X (d + 1) 205 [.ref 61, .int (nI k), .int o] σ = some (some (.int (mj_z (mj_ask (σ.1 70 k) (σ.1 71 k) o))), σ) := by
  refine st205 ?_
  simp only [u205_0, u205_1, u205_4, u205_5, u205_6, u205_7, u205_10, u205_11, u205_12, u205_15, u205_16, u205_17, u205_18, u205_19, u205_20, u205_21, u205_24, u205_25, u205_26, u205_29, u205_30, u205_33, u205_34, mj_in_nI hk (by decide), mj_nz9 hk (by decide), mj_cc_v, mj_cc_n, List.all_cons, List.all_nil, mj_noMk_int, mj_noMk_long, mj_noMk_ref, mj_noMk_junk, List.length_nil, List.length_cons, Nat.zero_le, Nat.reduceLeDiff, Nat.reduceAdd, Bool.and_true, Bool.true_and, Bool.and_self, Nat.reduceBNe, true_or, true_and, and_true, mj_z0, mj_z1, mj_z01]
  unfold mj_ask
  by_cases h1 : σ.1 70 k = -1
  · simp [h1, mj_z]
  · by_cases h2 : (o >>> (σ.1 70 k &&& 31)) &&& 1 = σ.1 71 k <;> simp [h1, h2, mj_z]
theorem sp_M_isIn {m : Int32} {k : Nat} (hk : k < 32) : mj_ev X (d + 1) 195 [.ref 61, .int m, .int (nI k)] σ = some (some (.int (mj_z (mj_b m k))), σ) := by
  refine st195 ?_
  simp only [u195_0, u195_1, u195_2, u195_3, u195_4, u195_5, u195_6, u195_9, u195_10, u195_13, u195_14, mj_bt hk, mj_z1, mj_cc_v, mj_cc_n, List.all_cons, List.all_nil, mj_noMk_int, mj_noMk_long, mj_noMk_ref, mj_noMk_junk, List.length_nil, List.length_cons, Nat.zero_le, Nat.reduceLeDiff, Nat.reduceAdd, Bool.and_true, Bool.true_and, Bool.and_self, Nat.reduceBNe, true_or, true_and, and_true, mj_z0, mj_z1, mj_z01]
  cases mj_b m k <;> simp [mj_z]
theorem sp_M_everything : mj_ev X (d + 1) 192 [.ref 61] σ = some (some (.int ((1 <<< (σ.1 61 0 &&& 31)) - 1)), σ) := by
  refine st192 ?_
  simp only [u192_0, u192_1, u192_2, u192_5, u192_6, u192_7, u192_8]
theorem sp_covers {k : Nat} {h : Int32} (hk : k < 9) : mj_ev X (d + 1) 75 [.ref 14, .int (nI k), .int h] σ = some (some (.int (mj_z (mj_cov (σ.1 16 k) (σ.1 17 k) h))), σ) := by
  refine st75 ?_
  simp only [u75_0, u75_1, u75_4, u75_5, u75_6, u75_7, u75_10, u75_11, u75_12, u75_15, u75_16, u75_17, u75_20, u75_21, u75_24, u75_25, mj_in_nI hk (by decide), mj_nz9 hk (by decide), mj_cc_v, mj_cc_n, List.all_cons, List.all_nil, mj_noMk_int, mj_noMk_long, mj_noMk_ref, mj_noMk_junk, List.length_nil, List.length_cons, Nat.zero_le, Nat.reduceLeDiff, Nat.reduceAdd, Bool.and_true, Bool.true_and, Bool.and_self, Nat.reduceBNe, true_or, true_and, and_true, mj_z0, mj_z1, mj_z01]
  unfold mj_cov
  by_cases h1 : h < σ.1 16 k
  · simp [h1, mj_z]
  · by_cases h2 : σ.1 17 k < h <;> simp [h1, h2, mj_z]
theorem sp_spanAt {k : Nat} {h : Int32} (hk : k < 9) : mj_ev X (d + 1) 73 [.ref 14, .int (nI k), .int h] σ = some (some (.int (mj_spn (σ.1 26 k) (σ.1 16 k) h)), σ) := by
  refine st73 ?_
  simp only [u73_0, u73_1, u73_4, u73_5, u73_6, u73_9, u73_10, u73_11, u73_14, u73_15, u73_16, u73_17, u73_18, u73_21, u73_22, u73_23, u73_24, u73_27, u73_28, mj_in_nI hk (by decide), mj_nz9 hk (by decide), mj_cc_v, mj_cc_n, List.all_cons, List.all_nil, mj_noMk_int, mj_noMk_long, mj_noMk_ref, mj_noMk_junk, List.length_nil, List.length_cons, Nat.zero_le, Nat.reduceLeDiff, Nat.reduceAdd, Bool.and_true, Bool.true_and, Bool.and_self, Nat.reduceBNe, true_or, true_and, and_true, mj_z0, mj_z1, mj_z01]
  unfold mj_spn
  by_cases h1 : 0 < σ.1 26 k
  · have h2 : ¬ σ.1 26 k = 0 := by
      intro q
      rw [q] at h1
      exact absurd h1 (by decide)
    simp [h1, h2]
  · simp [h1]
theorem sp_endsSpan {k : Nat} {h : Int32} (hk : k < 9) : mj_ev X (d + 2) 74 [.ref 14, .int (nI k), .int h] σ = some (some (.int (mj_z (mj_ends (σ.1 26 k) (σ.1 16 k) (σ.1 17 k) h))), σ) := by
  refine st74 ?_
  simp only [u74_0, u74_1, u74_2, u74_3, u74_6, u74_9, u74_10, u74_11, u74_14, u74_15, u74_16, u74_19, u74_20, u74_21, u74_22, u74_23, u74_24, u74_27, u74_28, u74_29, u74_30, u74_33, u74_36, u74_37, u74_40, u74_41, sp_covers hk, sp_spanAt hk, mj_in_nI hk (by decide), mj_nz9 hk (by decide), mj_cc_v, mj_cc_n, List.all_cons, List.all_nil, mj_noMk_int, mj_noMk_long, mj_noMk_ref, mj_noMk_junk, List.length_nil, List.length_cons, Nat.zero_le, Nat.reduceLeDiff, Nat.reduceAdd, Bool.and_true, Bool.true_and, Bool.and_self, Nat.reduceBNe, true_or, true_and, and_true, mj_z0, mj_z1, mj_z01]
  unfold mj_ends
  cases h0 : mj_cov (σ.1 16 k) (σ.1 17 k) h
  · simp [mj_z]
  · by_cases h1 : h = σ.1 17 k
    · simp [h1, mj_z]
    · by_cases h2 : mj_spn (σ.1 26 k) (σ.1 16 k) (h + 1) = mj_spn (σ.1 26 k) (σ.1 16 k) h <;> simp [h1, h2, mj_z]
theorem sp_isKnownIn {k : Nat} {h : Int32} (hk : k < 9) (hf : σ.1 20 k = -1 ∨ mj_inb (σ.1 20 k) 3 = true) : mj_ev X (d + 1) 61 [.ref 14, .int (nI k), .int h] σ = some (some (.int (mj_z (decide (σ.1 20 k = -1) || decide (¬ h < σ.1 28 (σ.1 20 k).toNatClampNeg)))), σ) := by
  refine st61 ?_
  simp only [u61_0, u61_1, u61_4, u61_5, u61_6, u61_7, u61_10, u61_11, u61_14, u61_15, u61_18, u61_19, u61_20, u61_21, u61_22, u61_25, u61_26, u61_29, u61_30, mj_in_nI hk (by decide), mj_nz9 hk (by decide), mj_cc_v, mj_cc_n, List.all_cons, List.all_nil, mj_noMk_int, mj_noMk_long, mj_noMk_ref, mj_noMk_junk, List.length_nil, List.length_cons, Nat.zero_le, Nat.reduceLeDiff, Nat.reduceAdd, Bool.and_true, Bool.true_and, Bool.and_self, Nat.reduceBNe, true_or, true_and, and_true, mj_z0, mj_z1, mj_z01]
  by_cases h1 : σ.1 20 k = -1
  · simp [h1, mj_z]
  · have h3 := hf.resolve_left h1
    by_cases h2 : h < σ.1 28 (σ.1 20 k).toNatClampNeg <;> simp [h1, h2, h3, mj_z]
theorem sp_missesSpan {k : Nat} {h l : Int32} (hk : k < 9) : mj_ev X (d + 3) 137 [.ref 14, .int (nI k), .int h, .int l] σ = some (some (.int (mj_z (decide (σ.1 15 k = 3) && (mj_ends (σ.1 26 k) (σ.1 16 k) (σ.1 17 k) h && decide (¬ mj_spn (σ.1 26 k) (σ.1 16 k) h < σ.1 24 k - l))))), σ) := by
  refine st137 ?_
  simp only [u137_0, u137_1, u137_4, u137_5, u137_6, u137_7, u137_10, u137_11, u137_12, u137_13, u137_16, u137_19, u137_20, u137_23, u137_24, u137_25, u137_26, u137_27, u137_28, u137_29, u137_30, u137_33, u137_36, u137_37, u137_40, u137_41, sp_endsSpan hk, sp_spanAt hk, mj_in_nI hk (by decide), mj_nz9 hk (by decide), mj_cc_v, mj_cc_n, List.all_cons, List.all_nil, mj_noMk_int, mj_noMk_long, mj_noMk_ref, mj_noMk_junk, List.length_nil, List.length_cons, Nat.zero_le, Nat.reduceLeDiff, Nat.reduceAdd, Bool.and_true, Bool.true_and, Bool.and_self, Nat.reduceBNe, true_or, true_and, and_true, mj_z0, mj_z1, mj_z01]
  by_cases h1 : σ.1 15 k = 3
  · cases h0 : mj_ends (σ.1 26 k) (σ.1 16 k) (σ.1 17 k) h
    · simp [h1, mj_z]
    · by_cases h2 : mj_spn (σ.1 26 k) (σ.1 16 k) h < σ.1 24 k - l <;> simp [h1, h2, mj_z]
  · simp [h1, mj_z]
-- loops over all promises
/-- from i = 0 on, one after the other -/
def mj_it {α : Type} (f : Nat → α → α) (a : α) : Nat → α
  | 0 => a
  | n + 1 => f n (mj_it f a n)
def mj_fused (σ : mj_St) (i : Nat) (u : Int32) : Int32 := u ||| (if σ.1 20 i = -1 then (0 : Int32) else 1 <<< (σ.1 20 i &&& 31))
theorem sp_forksInUse {N : Nat} (hN : σ.1 14 14 = nI N) (h9 : N ≤ 9) : mj_ev X (d + 1) 57 [.ref 14] σ = some (some (.int (mj_it (mj_fused σ) 0 N)), σ) := by
  refine st57 ?_
  simp only [u57_0, u57_1, u57_2, u57_3, u57_5, u57_6, u57_9, u57_12, u57_13, u57_14, u57_17, u57_18, u57_19, u57_20, u57_23, u57_24, u57_27, u57_28, u57_29, u57_32, u57_33, u57_34, u57_35, u57_36, u57_37, u57_40, u57_43, u57_44]
  exact mj_count (X := X) (call := mj_ev X d) (oc := 1) (ret := (some .int)) (cc := prog_3_method_18_code) (N := N) (S := fun k => (4, [.ref 14, .int (mj_it (mj_fused σ) 0 k), .int (nI k)], [], σ)) (fun k hk hr => by
      refine u57_4.mpr ?_
      simp only [u57_0, u57_1, u57_2, u57_3, u57_5, u57_6, u57_9, u57_12, u57_13, u57_14, u57_17, u57_18, u57_19, u57_20, u57_23, u57_24, u57_27, u57_28, u57_29, u57_32, u57_33, u57_34, u57_35, u57_36, u57_37, u57_40, u57_43, u57_44, hN, nI_lt hk (show N < 2 ^ 31 by omega), if_true, mj_in_nI (show k < 9 by omega) (by decide), mj_nz9 (show k < 9 by omega) (by decide), true_and, nI_1]
      simp only [mj_it, mj_fused] at hr
      split
      · rename_i h
        rw [if_pos h] at hr
        exact hr
      · rename_i h
        rw [if_neg h] at hr
        exact hr) (by
      refine u57_4.mpr ?_
      simp only [u57_0, u57_1, u57_2, u57_3, u57_5, u57_6, u57_9, u57_12, u57_13, u57_14, u57_17, u57_18, u57_19, u57_20, u57_23, u57_24, u57_27, u57_28, u57_29, u57_32, u57_33, u57_34, u57_35, u57_36, u57_37, u57_40, u57_43, u57_44, hN, nI_nlt (Nat.le_refl N) (show N < 2 ^ 31 by omega), if_false]) 0 (Nat.zero_le _)
end
