section
variable {X : mj_X} {d : Nat} {σ τ ρ : mj_St}
/-- a piece of a row copied to another -/
def mj_cpI (σ : mj_St) (dst q src p m : Nat) : mj_St := (fun c i => if c = dst ∧ q ≤ i ∧ i < q + m then σ.1 src (p + (i - q)) else σ.1 c i, σ.2)
theorem mj_cpI_0 {dst q src p : Nat} : mj_cpI σ dst q src p 0 = σ := by
  unfold mj_cpI
  refine Prod.ext ?_ rfl
  funext c i
  show (if c = dst ∧ q ≤ i ∧ i < q + 0 then σ.1 src (p + (i - q)) else σ.1 c i) = σ.1 c i
  rw [if_neg (by omega)]
theorem mj_cpI_s {dst q src p m : Nat} (h : src ≠ dst) : mj_setI (mj_cpI σ dst q src p m) dst (q + m) ((mj_cpI σ dst q src p m).1 src (p + m)) = mj_cpI σ dst q src p (m + 1) := by
  unfold mj_cpI mj_setI
  refine Prod.ext ?_ rfl
  funext c i
  show (if c = dst ∧ i = q + m then (if src = dst ∧ q ≤ p + m ∧ p + m < q + m then σ.1 src (p + (p + m - q)) else σ.1 src (p + m)) else if c = dst ∧ q ≤ i ∧ i < q + m then σ.1 src (p + (i - q)) else σ.1 c i) = (if c = dst ∧ q ≤ i ∧ i < q + (m + 1) then σ.1 src (p + (i - q)) else σ.1 c i)
  rw [if_neg (show ¬ (src = dst ∧ q ≤ p + m ∧ p + m < q + m) from fun z => h z.1)]
  by_cases c1 : c = dst ∧ i = q + m
  · rw [if_pos c1, if_pos (by omega), c1.2, show q + m - q = m by omega]
  · rw [if_neg c1]
    by_cases c2 : c = dst ∧ q ≤ i ∧ i < q + m
    · rw [if_pos c2, if_pos (by omega)]
    · rw [if_neg c2, if_neg (by omega)]
theorem mj_cpI_o {dst q src p m c : Nat} (h : c ≠ dst) : (mj_cpI σ dst q src p m).1 c = σ.1 c := by
  funext i
  show (if c = dst ∧ q ≤ i ∧ i < q + m then σ.1 src (p + (i - q)) else σ.1 c i) = σ.1 c i
  rw [if_neg (fun z => h z.1)]
theorem mj_cpI_in {dst q src p m i : Nat} (h : i < m) : (mj_cpI σ dst q src p m).1 dst (q + i) = σ.1 src (p + i) := by
  show (if dst = dst ∧ q ≤ q + i ∧ q + i < q + m then σ.1 src (p + (q + i - q)) else σ.1 dst (q + i)) = σ.1 src (p + i)
  rw [if_pos (by omega), show q + i - q = i by omega]
theorem mj_cpI_out {dst q src p m i : Nat} (h : i < q ∨ q + m ≤ i) : (mj_cpI σ dst q src p m).1 dst i = σ.1 dst i := by
  show (if dst = dst ∧ q ≤ i ∧ i < q + m then σ.1 src (p + (i - q)) else σ.1 dst i) = σ.1 dst i
  rw [if_neg (by omega)]
theorem mj_kS_n {a n : Nat} {i : Int32} {P : Prop} (h : mj_shp a = (1, n, [])) : mj_kS a i P = (mj_inb i n = true ∧ P) := by
  unfold mj_kS
  rw [h]
  rfl
theorem mj_kI_n {a n : Nat} {i : Int32} {P : Int32 → Prop} (h : mj_shp a = (1, n, [])) (ha : a < 1000) : mj_kI X σ a i P = (mj_inb i n = true ∧ P (σ.1 a i.toNatClampNeg)) := by
  unfold mj_kI mj_rowI
  rw [if_neg (by omega), h]
  rfl
theorem mj_noMk_n {a n : Nat} (h : mj_shp a = (1, n, [])) : (a != 999) = true := by
  have hlt : a < mj_NC := mj_shp_lt (by rw [h]; show (1 : Nat) ≠ 9; decide)
  unfold mj_NC at hlt
  simp
  omega
theorem sp_M_keep {a n p m : Nat} (h : mj_shp a = (1, n, [])) (ha : a < 999) (ha2 : a ≠ 90) (hm : m ≤ n) (hp : p + m ≤ 140) (hn : n < 2147483648) : mj_ev X (d + 1) 250 [.ref 61, .ref a, .int (nI m), .int (nI p), .int 0] σ = some (some (.int (nI (p + m))), mj_cpI σ 90 p a 0 m) := by
  have hl : mj_Runs X (mj_ev X d) 6 (some .int) prog_8_method_94_code (3, [.ref 61, .ref a, .int (nI m), .int (nI p), .int 0, .int (nI 0)], [], mj_cpI σ 90 p a 0 0) (some (.int (nI (p + m))), mj_cpI σ 90 p a 0 m) :=
    mj_count (X := X) (call := mj_ev X d) (oc := 6) (ret := (some .int)) (cc := prog_8_method_94_code) (N := m) (S := fun k => (3, [.ref 61, .ref a, .int (nI m), .int (nI p), .int 0, .int (nI k)], [], mj_cpI σ 90 p a 0 k)) (fun k hk hr => by
      have q : nI k < nI m := nI_lt hk (by omega)
      have hpk : p + k < 140 := by omega
      have hs := mj_cpI_s (σ := σ) (dst := 90) (q := p) (src := a) (p := 0) (m := k) ha2
      rw [Nat.zero_add] at hs
      refine u250_3.mpr ?_
      simp only [u250_0, u250_1, u250_5, u250_6, u250_9, u250_11, u250_14, u250_15, u250_17, u250_18, u250_21, u250_22, u250_24, u250_25, u250_26, u250_27, u250_30, u250_31, u250_34, u250_35, u250_37, u250_38, u250_39, u250_41, u250_42, u250_43, u250_46, u250_49, u250_50, u250_51, u250_52, q, mj_kI_n h (by omega), mj_in_nI (show k < n by omega) hn, mj_nz9 (show k < n by omega) hn, nI_add, mj_in_nI hpk (by decide), mj_nz9 hpk (by decide), hs, nI_1, mj_cc_v, mj_cc_n, List.all_cons, List.all_nil, mj_noMk_int, mj_noMk_long, mj_noMk_ref, mj_noMk_junk, List.length_nil, List.length_cons, Nat.zero_le, Nat.reduceLeDiff, Nat.reduceAdd, Bool.and_true, Bool.true_and, Bool.and_self, Nat.reduceBNe, true_or, or_true, true_and, and_true, mj_z0, mj_z1, mj_z01, decide_true, decide_false, Bool.true_and, Bool.false_and, Bool.and_true, Bool.and_false, Bool.true_or, Bool.false_or, Bool.or_false, Bool.or_true, Bool.not_true, Bool.not_false, Bool.and_self, Bool.or_self, if_true, if_false, Bool.true_eq_false, Bool.false_eq_true, not_true, not_false_eq_true]
      exact hr) (by
      have q : ¬ nI m < nI m := nI_nlt (Nat.le_refl _) (by omega)
      refine u250_3.mpr ?_
      simp only [u250_0, u250_1, u250_5, u250_6, u250_9, u250_11, u250_14, u250_15, u250_17, u250_18, u250_21, u250_22, u250_24, u250_25, u250_26, u250_27, u250_30, u250_31, u250_34, u250_35, u250_37, u250_38, u250_39, u250_41, u250_42, u250_43, u250_46, u250_49, u250_50, u250_51, u250_52, q, nI_add, mj_cc_v, mj_cc_n, List.all_cons, List.all_nil, mj_noMk_int, mj_noMk_long, mj_noMk_ref, mj_noMk_junk, List.length_nil, List.length_cons, Nat.zero_le, Nat.reduceLeDiff, Nat.reduceAdd, Bool.and_true, Bool.true_and, Bool.and_self, Nat.reduceBNe, true_or, or_true, true_and, and_true, mj_z0, mj_z1, mj_z01, decide_true, decide_false, Bool.true_and, Bool.false_and, Bool.and_true, Bool.and_false, Bool.true_or, Bool.false_or, Bool.or_false, Bool.or_true, Bool.not_true, Bool.not_false, Bool.and_self, Bool.or_self, if_true, if_false, Bool.true_eq_false, Bool.false_eq_true, not_true, not_false_eq_true]) 0 (Nat.zero_le _)
  have e0 : nI 0 = 0 := rfl
  rw [e0, mj_cpI_0] at hl
  refine st250 ?_
  simp only [u250_0, u250_1, u250_5, u250_6, u250_9, u250_11, u250_14, u250_15, u250_17, u250_18, u250_21, u250_22, u250_24, u250_25, u250_26, u250_27, u250_30, u250_31, u250_34, u250_35, u250_37, u250_38, u250_39, u250_41, u250_42, u250_43, u250_46, u250_49, u250_50, u250_51, u250_52]
  exact hl
theorem sp_M_keepB {a n p m : Nat} (h : mj_shp a = (1, n, [])) (ha : a < 999) (ha2 : a ≠ 90) (hm : m ≤ n) (hp : p + m ≤ 140) (hn : n < 2147483648) : mj_ev X (d + 1) 250 [.ref 61, .ref a, .int (nI m), .int (nI p), .int 1] σ = some (some (.int (nI (p + m))), mj_cpI σ a 0 90 p m) := by
  have hl : mj_Runs X (mj_ev X d) 6 (some .int) prog_8_method_94_code (3, [.ref 61, .ref a, .int (nI m), .int (nI p), .int 1, .int (nI 0)], [], mj_cpI σ a 0 90 p 0) (some (.int (nI (p + m))), mj_cpI σ a 0 90 p m) :=
    mj_count (X := X) (call := mj_ev X d) (oc := 6) (ret := (some .int)) (cc := prog_8_method_94_code) (N := m) (S := fun k => (3, [.ref 61, .ref a, .int (nI m), .int (nI p), .int 1, .int (nI k)], [], mj_cpI σ a 0 90 p k)) (fun k hk hr => by
      have q : nI k < nI m := nI_lt hk (by omega)
      have hpk : p + k < 140 := by omega
      have hs := mj_cpI_s (σ := σ) (dst := a) (q := 0) (src := 90) (p := p) (m := k) (Ne.symm ha2)
      rw [Nat.zero_add] at hs
      refine u250_3.mpr ?_
      simp only [u250_0, u250_1, u250_5, u250_6, u250_9, u250_11, u250_14, u250_15, u250_17, u250_18, u250_21, u250_22, u250_24, u250_25, u250_26, u250_27, u250_30, u250_31, u250_34, u250_35, u250_37, u250_38, u250_39, u250_41, u250_42, u250_43, u250_46, u250_49, u250_50, u250_51, u250_52, q, mj_kS_n h, mj_in_nI (show k < n by omega) hn, mj_nz9 (show k < n by omega) hn, nI_add, mj_in_nI hpk (by decide), mj_nz9 hpk (by decide), hs, nI_1, mj_n10, mj_cc_v, mj_cc_n, List.all_cons, List.all_nil, mj_noMk_int, mj_noMk_long, mj_noMk_ref, mj_noMk_junk, List.length_nil, List.length_cons, Nat.zero_le, Nat.reduceLeDiff, Nat.reduceAdd, Bool.and_true, Bool.true_and, Bool.and_self, Nat.reduceBNe, true_or, or_true, true_and, and_true, mj_z0, mj_z1, mj_z01, decide_true, decide_false, Bool.true_and, Bool.false_and, Bool.and_true, Bool.and_false, Bool.true_or, Bool.false_or, Bool.or_false, Bool.or_true, Bool.not_true, Bool.not_false, Bool.and_self, Bool.or_self, if_true, if_false, Bool.true_eq_false, Bool.false_eq_true, not_true, not_false_eq_true]
      exact hr) (by
      have q : ¬ nI m < nI m := nI_nlt (Nat.le_refl _) (by omega)
      refine u250_3.mpr ?_
      simp only [u250_0, u250_1, u250_5, u250_6, u250_9, u250_11, u250_14, u250_15, u250_17, u250_18, u250_21, u250_22, u250_24, u250_25, u250_26, u250_27, u250_30, u250_31, u250_34, u250_35, u250_37, u250_38, u250_39, u250_41, u250_42, u250_43, u250_46, u250_49, u250_50, u250_51, u250_52, q, nI_add, mj_cc_v, mj_cc_n, List.all_cons, List.all_nil, mj_noMk_int, mj_noMk_long, mj_noMk_ref, mj_noMk_junk, List.length_nil, List.length_cons, Nat.zero_le, Nat.reduceLeDiff, Nat.reduceAdd, Bool.and_true, Bool.true_and, Bool.and_self, Nat.reduceBNe, true_or, or_true, true_and, and_true, mj_z0, mj_z1, mj_z01, decide_true, decide_false, Bool.true_and, Bool.false_and, Bool.and_true, Bool.and_false, Bool.true_or, Bool.false_or, Bool.or_false, Bool.or_true, Bool.not_true, Bool.not_false, Bool.and_self, Bool.or_self, if_true, if_false, Bool.true_eq_false, Bool.false_eq_true, not_true, not_false_eq_true]) 0 (Nat.zero_le _)
  have e0 : nI 0 = 0 := rfl
  rw [e0, mj_cpI_0] at hl
  refine st250 ?_
  simp only [u250_0, u250_1, u250_5, u250_6, u250_9, u250_11, u250_14, u250_15, u250_17, u250_18, u250_21, u250_22, u250_24, u250_25, u250_26, u250_27, u250_30, u250_31, u250_34, u250_35, u250_37, u250_38, u250_39, u250_41, u250_42, u250_43, u250_46, u250_49, u250_50, u250_51, u250_52]
  exact hl
/-- where a row lies in the image, and how long it is -/
def mj_iof (k : Nat) : Nat := if k = 0 then 0 else if k = 1 then 12 else 15 + 9 * (k - 2)
def mj_iln (k : Nat) : Nat := if k = 0 then 12 else if k = 1 then 3 else 9
def mj_sv (σ : mj_St) : Nat → mj_St
  | 0 => σ
  | k + 1 => mj_cpI (mj_sv σ k) 90 (mj_iof k) (63 + k) 0 (mj_iln k)
def mj_ld (σ : mj_St) : Nat → mj_St
  | 0 => σ
  | k + 1 => mj_cpI (mj_ld σ k) (63 + k) 0 90 (mj_iof k) (mj_iln k)
theorem mj_iof_s {j k : Nat} (h : j < k) : mj_iof j + mj_iln j ≤ mj_iof k := by
  unfold mj_iof mj_iln
  by_cases c : k = 1
  · have : j = 0 := by omega
    subst c
    subst this
    decide
  · rw [if_neg (show ¬ k = 0 by omega), if_neg c]
    split
    · omega
    · split <;> omega
theorem mj_sv_o {c : Nat} (h : c ≠ 90) : ∀ k, (mj_sv σ k).1 c = σ.1 c := by
  intro k
  induction k with
  | zero => rfl
  | succ k ih =>
    show (mj_cpI (mj_sv σ k) 90 (mj_iof k) (63 + k) 0 (mj_iln k)).1 c = σ.1 c
    rw [mj_cpI_o h]
    exact ih
theorem mj_sv_2 : ∀ k, (mj_sv σ k).2 = σ.2 := by
  intro k
  induction k with
  | zero => rfl
  | succ k ih => exact ih
theorem mj_sv_in {j i : Nat} (hi : i < mj_iln j) : ∀ k, j < k → k ≤ 15 → (mj_sv σ k).1 90 (mj_iof j + i) = σ.1 (63 + j) i := by
  intro k
  induction k with
  | zero => intro h; omega
  | succ k ih =>
    intro h hk
    show (mj_cpI (mj_sv σ k) 90 (mj_iof k) (63 + k) 0 (mj_iln k)).1 90 (mj_iof j + i) = σ.1 (63 + j) i
    by_cases c : j = k
    · subst c
      rw [mj_cpI_in hi, Nat.zero_add, mj_sv_o (by omega)]
    · have := mj_iof_s (show j < k by omega)
      rw [mj_cpI_out (by omega)]
      exact ih (by omega) (by omega)
theorem mj_ld_o {c : Nat} : ∀ k, (c < 63 ∨ 63 + k ≤ c) → (mj_ld σ k).1 c = σ.1 c := by
  intro k
  induction k with
  | zero => intro _; rfl
  | succ k ih =>
    intro h
    show (mj_cpI (mj_ld σ k) (63 + k) 0 90 (mj_iof k) (mj_iln k)).1 c = σ.1 c
    rw [mj_cpI_o (by omega)]
    exact ih (by omega)
theorem mj_ld_2 : ∀ k, (mj_ld σ k).2 = σ.2 := by
  intro k
  induction k with
  | zero => rfl
  | succ k ih => exact ih
theorem mj_ld_in {j i : Nat} (hi : i < mj_iln j) : ∀ k, j < k → k ≤ 15 → (mj_ld σ k).1 (63 + j) i = σ.1 90 (mj_iof j + i) := by
  intro k
  induction k with
  | zero => intro h; omega
  | succ k ih =>
    intro h hk
    show (mj_cpI (mj_ld σ k) (63 + k) 0 90 (mj_iof k) (mj_iln k)).1 (63 + j) i = σ.1 90 (mj_iof j + i)
    by_cases c : j = k
    · subst c
      have := mj_cpI_in (σ := mj_ld σ j) (dst := 63 + j) (q := 0) (src := 90) (p := mj_iof j) (m := mj_iln j) hi
      rw [Nat.zero_add] at this
      rw [this, mj_ld_o j (Or.inr (by omega))]
    · rw [mj_cpI_o (by omega)]
      exact ih (by omega) (by omega)
theorem sp_M_allS : mj_ev X (d + 2) 249 [.ref 61, .int 0] σ = some (none, mj_sv σ 15) := by
  have h0 : mj_ev X (d + 1) 250 [.ref 61, .ref 63, .int 12, .int 0, .int 0] (mj_sv σ 0) = some (some (.int 12), mj_sv σ 1) := sp_M_keep (a := 63) (n := 12) (p := 0) (m := 12) (by decide +kernel) (by decide) (by decide) (by decide) (by decide) (by decide)
  have h1 : mj_ev X (d + 1) 250 [.ref 61, .ref 64, .int 3, .int 12, .int 0] (mj_sv σ 1) = some (some (.int 15), mj_sv σ 2) := sp_M_keep (a := 64) (n := 3) (p := 12) (m := 3) (by decide +kernel) (by decide) (by decide) (by decide) (by decide) (by decide)
  have h2 : mj_ev X (d + 1) 250 [.ref 61, .ref 65, .int 9, .int 15, .int 0] (mj_sv σ 2) = some (some (.int 24), mj_sv σ 3) := sp_M_keep (a := 65) (n := 9) (p := 15) (m := 9) (by decide +kernel) (by decide) (by decide) (by decide) (by decide) (by decide)
  have h3 : mj_ev X (d + 1) 250 [.ref 61, .ref 66, .int 9, .int 24, .int 0] (mj_sv σ 3) = some (some (.int 33), mj_sv σ 4) := sp_M_keep (a := 66) (n := 9) (p := 24) (m := 9) (by decide +kernel) (by decide) (by decide) (by decide) (by decide) (by decide)
  have h4 : mj_ev X (d + 1) 250 [.ref 61, .ref 67, .int 9, .int 33, .int 0] (mj_sv σ 4) = some (some (.int 42), mj_sv σ 5) := sp_M_keep (a := 67) (n := 9) (p := 33) (m := 9) (by decide +kernel) (by decide) (by decide) (by decide) (by decide) (by decide)
  have h5 : mj_ev X (d + 1) 250 [.ref 61, .ref 68, .int 9, .int 42, .int 0] (mj_sv σ 5) = some (some (.int 51), mj_sv σ 6) := sp_M_keep (a := 68) (n := 9) (p := 42) (m := 9) (by decide +kernel) (by decide) (by decide) (by decide) (by decide) (by decide)
  have h6 : mj_ev X (d + 1) 250 [.ref 61, .ref 69, .int 9, .int 51, .int 0] (mj_sv σ 6) = some (some (.int 60), mj_sv σ 7) := sp_M_keep (a := 69) (n := 9) (p := 51) (m := 9) (by decide +kernel) (by decide) (by decide) (by decide) (by decide) (by decide)
  have h7 : mj_ev X (d + 1) 250 [.ref 61, .ref 70, .int 9, .int 60, .int 0] (mj_sv σ 7) = some (some (.int 69), mj_sv σ 8) := sp_M_keep (a := 70) (n := 9) (p := 60) (m := 9) (by decide +kernel) (by decide) (by decide) (by decide) (by decide) (by decide)
  have h8 : mj_ev X (d + 1) 250 [.ref 61, .ref 71, .int 9, .int 69, .int 0] (mj_sv σ 8) = some (some (.int 78), mj_sv σ 9) := sp_M_keep (a := 71) (n := 9) (p := 69) (m := 9) (by decide +kernel) (by decide) (by decide) (by decide) (by decide) (by decide)
  have h9 : mj_ev X (d + 1) 250 [.ref 61, .ref 72, .int 9, .int 78, .int 0] (mj_sv σ 9) = some (some (.int 87), mj_sv σ 10) := sp_M_keep (a := 72) (n := 9) (p := 78) (m := 9) (by decide +kernel) (by decide) (by decide) (by decide) (by decide) (by decide)
  have h10 : mj_ev X (d + 1) 250 [.ref 61, .ref 73, .int 9, .int 87, .int 0] (mj_sv σ 10) = some (some (.int 96), mj_sv σ 11) := sp_M_keep (a := 73) (n := 9) (p := 87) (m := 9) (by decide +kernel) (by decide) (by decide) (by decide) (by decide) (by decide)
  have h11 : mj_ev X (d + 1) 250 [.ref 61, .ref 74, .int 9, .int 96, .int 0] (mj_sv σ 11) = some (some (.int 105), mj_sv σ 12) := sp_M_keep (a := 74) (n := 9) (p := 96) (m := 9) (by decide +kernel) (by decide) (by decide) (by decide) (by decide) (by decide)
  have h12 : mj_ev X (d + 1) 250 [.ref 61, .ref 75, .int 9, .int 105, .int 0] (mj_sv σ 12) = some (some (.int 114), mj_sv σ 13) := sp_M_keep (a := 75) (n := 9) (p := 105) (m := 9) (by decide +kernel) (by decide) (by decide) (by decide) (by decide) (by decide)
  have h13 : mj_ev X (d + 1) 250 [.ref 61, .ref 76, .int 9, .int 114, .int 0] (mj_sv σ 13) = some (some (.int 123), mj_sv σ 14) := sp_M_keep (a := 76) (n := 9) (p := 114) (m := 9) (by decide +kernel) (by decide) (by decide) (by decide) (by decide) (by decide)
  have h14 : mj_ev X (d + 1) 250 [.ref 61, .ref 77, .int 9, .int 123, .int 0] (mj_sv σ 14) = some (some (.int 132), mj_sv σ 15) := sp_M_keep (a := 77) (n := 9) (p := 123) (m := 9) (by decide +kernel) (by decide) (by decide) (by decide) (by decide) (by decide)
  have h00 : mj_ev X (d + 1) 250 [.ref 61, .ref 63, .int 12, .int 0, .int 0] σ = some (some (.int 12), mj_sv σ 1) := h0
  refine st249 ?_
  simp only [u249_0, u249_1, u249_2, u249_5, u249_7, u249_8, u249_9, u249_12, u249_13, u249_14, u249_15, u249_18, u249_19, u249_20, u249_21, u249_24, u249_25, u249_26, u249_27, u249_30, u249_32, u249_33, u249_34, u249_37, u249_38, u249_39, u249_40, u249_43, u249_45, u249_46, u249_47, u249_50, u249_51, u249_52, u249_53, u249_56, u249_58, u249_59, u249_60, u249_63, u249_64, u249_65, u249_66, u249_69, u249_71, u249_72, u249_73, u249_76, u249_77, u249_78, u249_79, u249_82, u249_84, u249_85, u249_86, u249_89, u249_90, u249_91, u249_92, u249_95, u249_97, u249_98, u249_99, u249_102, u249_103, u249_104, u249_105, u249_108, u249_110, u249_111, u249_112, u249_115, u249_116, u249_117, u249_118, u249_121, u249_123, u249_124, u249_125, u249_128, u249_129, u249_130, u249_131, u249_134, u249_136, u249_137, u249_138, u249_141, u249_142, u249_143, u249_144, u249_147, u249_149, u249_150, u249_151, u249_154, u249_155, u249_156, u249_157, u249_160, u249_162, u249_163, u249_164, u249_167, u249_168, u249_169, u249_170, u249_173, u249_175, u249_176, u249_177, u249_180, u249_181, u249_182, u249_183, u249_186, u249_188, u249_189, u249_190, u249_193, u249_194, h00, h1, h2, h3, h4, h5, h6, h7, h8, h9, h10, h11, h12, h13, h14, mj_noMk_ref, mj_cc_v, mj_cc_n, List.all_cons, List.all_nil, mj_noMk_int, mj_noMk_long, mj_noMk_ref, mj_noMk_junk, List.length_nil, List.length_cons, Nat.zero_le, Nat.reduceLeDiff, Nat.reduceAdd, Bool.and_true, Bool.true_and, Bool.and_self, Nat.reduceBNe, true_or, or_true, true_and, and_true, mj_z0, mj_z1, mj_z01, decide_true, decide_false, Bool.true_and, Bool.false_and, Bool.and_true, Bool.and_false, Bool.true_or, Bool.false_or, Bool.or_false, Bool.or_true, Bool.not_true, Bool.not_false, Bool.and_self, Bool.or_self, if_true, if_false, Bool.true_eq_false, Bool.false_eq_true, not_true, not_false_eq_true]
  try decide
theorem sp_M_allB : mj_ev X (d + 2) 249 [.ref 61, .int 1] σ = some (none, mj_ld σ 15) := by
  have h0 : mj_ev X (d + 1) 250 [.ref 61, .ref 63, .int 12, .int 0, .int 1] (mj_ld σ 0) = some (some (.int 12), mj_ld σ 1) := sp_M_keepB (a := 63) (n := 12) (p := 0) (m := 12) (by decide +kernel) (by decide) (by decide) (by decide) (by decide) (by decide)
  have h1 : mj_ev X (d + 1) 250 [.ref 61, .ref 64, .int 3, .int 12, .int 1] (mj_ld σ 1) = some (some (.int 15), mj_ld σ 2) := sp_M_keepB (a := 64) (n := 3) (p := 12) (m := 3) (by decide +kernel) (by decide) (by decide) (by decide) (by decide) (by decide)
  have h2 : mj_ev X (d + 1) 250 [.ref 61, .ref 65, .int 9, .int 15, .int 1] (mj_ld σ 2) = some (some (.int 24), mj_ld σ 3) := sp_M_keepB (a := 65) (n := 9) (p := 15) (m := 9) (by decide +kernel) (by decide) (by decide) (by decide) (by decide) (by decide)
  have h3 : mj_ev X (d + 1) 250 [.ref 61, .ref 66, .int 9, .int 24, .int 1] (mj_ld σ 3) = some (some (.int 33), mj_ld σ 4) := sp_M_keepB (a := 66) (n := 9) (p := 24) (m := 9) (by decide +kernel) (by decide) (by decide) (by decide) (by decide) (by decide)
  have h4 : mj_ev X (d + 1) 250 [.ref 61, .ref 67, .int 9, .int 33, .int 1] (mj_ld σ 4) = some (some (.int 42), mj_ld σ 5) := sp_M_keepB (a := 67) (n := 9) (p := 33) (m := 9) (by decide +kernel) (by decide) (by decide) (by decide) (by decide) (by decide)
  have h5 : mj_ev X (d + 1) 250 [.ref 61, .ref 68, .int 9, .int 42, .int 1] (mj_ld σ 5) = some (some (.int 51), mj_ld σ 6) := sp_M_keepB (a := 68) (n := 9) (p := 42) (m := 9) (by decide +kernel) (by decide) (by decide) (by decide) (by decide) (by decide)
  have h6 : mj_ev X (d + 1) 250 [.ref 61, .ref 69, .int 9, .int 51, .int 1] (mj_ld σ 6) = some (some (.int 60), mj_ld σ 7) := sp_M_keepB (a := 69) (n := 9) (p := 51) (m := 9) (by decide +kernel) (by decide) (by decide) (by decide) (by decide) (by decide)
  have h7 : mj_ev X (d + 1) 250 [.ref 61, .ref 70, .int 9, .int 60, .int 1] (mj_ld σ 7) = some (some (.int 69), mj_ld σ 8) := sp_M_keepB (a := 70) (n := 9) (p := 60) (m := 9) (by decide +kernel) (by decide) (by decide) (by decide) (by decide) (by decide)
  have h8 : mj_ev X (d + 1) 250 [.ref 61, .ref 71, .int 9, .int 69, .int 1] (mj_ld σ 8) = some (some (.int 78), mj_ld σ 9) := sp_M_keepB (a := 71) (n := 9) (p := 69) (m := 9) (by decide +kernel) (by decide) (by decide) (by decide) (by decide) (by decide)
  have h9 : mj_ev X (d + 1) 250 [.ref 61, .ref 72, .int 9, .int 78, .int 1] (mj_ld σ 9) = some (some (.int 87), mj_ld σ 10) := sp_M_keepB (a := 72) (n := 9) (p := 78) (m := 9) (by decide +kernel) (by decide) (by decide) (by decide) (by decide) (by decide)
  have h10 : mj_ev X (d + 1) 250 [.ref 61, .ref 73, .int 9, .int 87, .int 1] (mj_ld σ 10) = some (some (.int 96), mj_ld σ 11) := sp_M_keepB (a := 73) (n := 9) (p := 87) (m := 9) (by decide +kernel) (by decide) (by decide) (by decide) (by decide) (by decide)
  have h11 : mj_ev X (d + 1) 250 [.ref 61, .ref 74, .int 9, .int 96, .int 1] (mj_ld σ 11) = some (some (.int 105), mj_ld σ 12) := sp_M_keepB (a := 74) (n := 9) (p := 96) (m := 9) (by decide +kernel) (by decide) (by decide) (by decide) (by decide) (by decide)
  have h12 : mj_ev X (d + 1) 250 [.ref 61, .ref 75, .int 9, .int 105, .int 1] (mj_ld σ 12) = some (some (.int 114), mj_ld σ 13) := sp_M_keepB (a := 75) (n := 9) (p := 105) (m := 9) (by decide +kernel) (by decide) (by decide) (by decide) (by decide) (by decide)
  have h13 : mj_ev X (d + 1) 250 [.ref 61, .ref 76, .int 9, .int 114, .int 1] (mj_ld σ 13) = some (some (.int 123), mj_ld σ 14) := sp_M_keepB (a := 76) (n := 9) (p := 114) (m := 9) (by decide +kernel) (by decide) (by decide) (by decide) (by decide) (by decide)
  have h14 : mj_ev X (d + 1) 250 [.ref 61, .ref 77, .int 9, .int 123, .int 1] (mj_ld σ 14) = some (some (.int 132), mj_ld σ 15) := sp_M_keepB (a := 77) (n := 9) (p := 123) (m := 9) (by decide +kernel) (by decide) (by decide) (by decide) (by decide) (by decide)
  have h00 : mj_ev X (d + 1) 250 [.ref 61, .ref 63, .int 12, .int 0, .int 1] σ = some (some (.int 12), mj_ld σ 1) := h0
  refine st249 ?_
  simp only [u249_0, u249_1, u249_2, u249_5, u249_7, u249_8, u249_9, u249_12, u249_13, u249_14, u249_15, u249_18, u249_19, u249_20, u249_21, u249_24, u249_25, u249_26, u249_27, u249_30, u249_32, u249_33, u249_34, u249_37, u249_38, u249_39, u249_40, u249_43, u249_45, u249_46, u249_47, u249_50, u249_51, u249_52, u249_53, u249_56, u249_58, u249_59, u249_60, u249_63, u249_64, u249_65, u249_66, u249_69, u249_71, u249_72, u249_73, u249_76, u249_77, u249_78, u249_79, u249_82, u249_84, u249_85, u249_86, u249_89, u249_90, u249_91, u249_92, u249_95, u249_97, u249_98, u249_99, u249_102, u249_103, u249_104, u249_105, u249_108, u249_110, u249_111, u249_112, u249_115, u249_116, u249_117, u249_118, u249_121, u249_123, u249_124, u249_125, u249_128, u249_129, u249_130, u249_131, u249_134, u249_136, u249_137, u249_138, u249_141, u249_142, u249_143, u249_144, u249_147, u249_149, u249_150, u249_151, u249_154, u249_155, u249_156, u249_157, u249_160, u249_162, u249_163, u249_164, u249_167, u249_168, u249_169, u249_170, u249_173, u249_175, u249_176, u249_177, u249_180, u249_181, u249_182, u249_183, u249_186, u249_188, u249_189, u249_190, u249_193, u249_194, h00, h1, h2, h3, h4, h5, h6, h7, h8, h9, h10, h11, h12, h13, h14, mj_noMk_ref, mj_cc_v, mj_cc_n, List.all_cons, List.all_nil, mj_noMk_int, mj_noMk_long, mj_noMk_ref, mj_noMk_junk, List.length_nil, List.length_cons, Nat.zero_le, Nat.reduceLeDiff, Nat.reduceAdd, Bool.and_true, Bool.true_and, Bool.and_self, Nat.reduceBNe, true_or, or_true, true_and, and_true, mj_z0, mj_z1, mj_z01, decide_true, decide_false, Bool.true_and, Bool.false_and, Bool.and_true, Bool.and_false, Bool.true_or, Bool.false_or, Bool.or_false, Bool.or_true, Bool.not_true, Bool.not_false, Bool.and_self, Bool.or_self, if_true, if_false, Bool.true_eq_false, Bool.false_eq_true, not_true, not_false_eq_true]
  try decide
/-- the reference with its image taken -/
def mj_img (σ : mj_St) : mj_St := mj_sv (mj_setI (mj_setI (mj_setI σ 61 60 (σ.1 61 0)) 61 61 (σ.1 61 1)) 61 62 (σ.1 61 2)) 15
theorem sp_M_image : mj_ev X (d + 3) 248 [.ref 61] σ = some (some (.int (σ.1 61 0)), mj_img σ) := by
  have hs := sp_M_allS (X := X) (d := d) (σ := mj_setI (mj_setI (mj_setI σ 61 60 (σ.1 61 0)) 61 61 (σ.1 61 1)) 61 62 (σ.1 61 2))
  have e1 : (mj_setI σ 61 60 (σ.1 61 0)).1 61 1 = σ.1 61 1 := rfl
  have e2 : (mj_setI (mj_setI σ 61 60 (σ.1 61 0)) 61 61 (σ.1 61 1)).1 61 2 = σ.1 61 2 := rfl
  have e0 : (mj_sv (mj_setI (mj_setI (mj_setI σ 61 60 (σ.1 61 0)) 61 61 (σ.1 61 1)) 61 62 (σ.1 61 2)) 15).1 61 0 = σ.1 61 0 := by
    rw [mj_sv_o (by decide)]
    rfl
  refine st248 ?_
  simp only [u248_0, u248_1, u248_2, u248_5, u248_8, u248_9, u248_10, u248_13, u248_16, u248_17, u248_18, u248_21, u248_24, u248_25, u248_26, u248_29, u248_30, u248_33, e1, e2, hs, e0, mj_cc_v, mj_cc_n, List.all_cons, List.all_nil, mj_noMk_int, mj_noMk_long, mj_noMk_ref, mj_noMk_junk, List.length_nil, List.length_cons, Nat.zero_le, Nat.reduceLeDiff, Nat.reduceAdd, Bool.and_true, Bool.true_and, Bool.and_self, Nat.reduceBNe, true_or, or_true, true_and, and_true, mj_z0, mj_z1, mj_z01, decide_true, decide_false, Bool.true_and, Bool.false_and, Bool.and_true, Bool.and_false, Bool.true_or, Bool.false_or, Bool.or_false, Bool.or_true, Bool.not_true, Bool.not_false, Bool.and_self, Bool.or_self, if_true, if_false, Bool.true_eq_false, Bool.false_eq_true, not_true, not_false_eq_true]
  rfl
/-- the shelves show no promise that is gone -/
def mj_shv (σ : mj_St) (n : Nat) : mj_St := (fun c s => if c = 78 ∧ s < n ∧ σ.1 78 s = 2 ∧ ¬ σ.1 81 s < σ.1 61 0 then 0 else σ.1 c s, σ.2)
theorem mj_shv_0 : mj_shv σ 0 = σ := by
  unfold mj_shv
  refine Prod.ext ?_ rfl
  funext c s
  show (if c = 78 ∧ s < 0 ∧ σ.1 78 s = 2 ∧ ¬ σ.1 81 s < σ.1 61 0 then 0 else σ.1 c s) = σ.1 c s
  rw [if_neg (fun z => absurd z.2.1 (Nat.not_lt_zero _))]
theorem mj_shv_s {n : Nat} : mj_shv σ (n + 1) = if σ.1 78 n = 2 ∧ ¬ σ.1 81 n < σ.1 61 0 then mj_setI (mj_shv σ n) 78 n 0 else mj_shv σ n := by
  have key : ∀ c s, (mj_shv σ (n + 1)).1 c s = (if σ.1 78 n = 2 ∧ ¬ σ.1 81 n < σ.1 61 0 then mj_setI (mj_shv σ n) 78 n 0 else mj_shv σ n).1 c s := by
    intro c s
    by_cases e : s = n
    · subst e
      have l1 : s < s + 1 := by omega
      by_cases g : σ.1 78 s = 2 ∧ ¬ σ.1 81 s < σ.1 61 0
      · rw [if_pos g]
        by_cases c1 : c = 78
        · subst c1
          simp [mj_shv, mj_rI, g.1, g.2]
        · simp [mj_shv, mj_rI, c1]
      · rw [if_neg g]
        show (if c = 78 ∧ s < s + 1 ∧ σ.1 78 s = 2 ∧ ¬ σ.1 81 s < σ.1 61 0 then 0 else σ.1 c s) = (if c = 78 ∧ s < s ∧ σ.1 78 s = 2 ∧ ¬ σ.1 81 s < σ.1 61 0 then 0 else σ.1 c s)
        rw [if_neg (fun z => g z.2.2), if_neg (fun z => g z.2.2)]
    · have l1 : (s < n + 1) = (s < n) := by
        apply propext
        omega
      split
      · simp [mj_shv, mj_rI, l1, e]
      · simp [mj_shv, l1]
  refine Prod.ext (funext fun c => funext fun i => key c i) ?_
  split <;> rfl
theorem mj_shv_o {n c : Nat} (h : c ≠ 78) : (mj_shv σ n).1 c = σ.1 c := by
  funext i
  show (if c = 78 ∧ i < n ∧ σ.1 78 i = 2 ∧ ¬ σ.1 81 i < σ.1 61 0 then 0 else σ.1 c i) = σ.1 c i
  rw [if_neg (fun z => h z.1)]
/-- the reference as the image has it -/
def mj_rst (σ : mj_St) : mj_St := mj_ld (mj_setI (mj_setI (mj_setI σ 61 0 (σ.1 61 60)) 61 1 (σ.1 61 61)) 61 2 (σ.1 61 62)) 15
theorem sp_M_restore : mj_ev X (d + 3) 251 [.ref 61] σ = some (if σ.1 61 60 = -1 then (some (.int (-6)), mj_rfM σ (-6)) else (some (.int (σ.1 61 60)), mj_shv (mj_rst σ) 8)) := by
  have h6 := sp_no6 (X := X) (d := d + 1) (σ := σ)
  refine st251 ?_
  by_cases c : σ.1 61 60 = -1
  · rw [if_pos c]
    simp only [u251_0, u251_1, u251_4, u251_5, u251_8, u251_9, u251_11, u251_14, u251_15, u251_16, u251_17, u251_20, u251_23, u251_24, u251_25, u251_28, u251_31, u251_32, u251_33, u251_36, u251_39, u251_40, u251_41, u251_44, u251_45, u251_47, u251_49, u251_52, u251_53, u251_56, u251_57, u251_58, u251_59, u251_62, u251_63, u251_66, u251_67, u251_68, u251_69, u251_72, u251_75, u251_76, u251_79, u251_80, u251_81, u251_82, u251_85, u251_88, u251_89, u251_92, c, h6, mj_cc_v, mj_cc_n, List.all_cons, List.all_nil, mj_noMk_int, mj_noMk_long, mj_noMk_ref, mj_noMk_junk, List.length_nil, List.length_cons, Nat.zero_le, Nat.reduceLeDiff, Nat.reduceAdd, Bool.and_true, Bool.true_and, Bool.and_self, Nat.reduceBNe, true_or, or_true, true_and, and_true, mj_z0, mj_z1, mj_z01, decide_true, decide_false, Bool.true_and, Bool.false_and, Bool.and_true, Bool.and_false, Bool.true_or, Bool.false_or, Bool.or_false, Bool.or_true, Bool.not_true, Bool.not_false, Bool.and_self, Bool.or_self, if_true, if_false, Bool.true_eq_false, Bool.false_eq_true, not_true, not_false_eq_true]
  · rw [if_neg c]
    have hs : mj_ev X (d + 2) 249 [.ref 61, .int 1] (mj_setI (mj_setI (mj_setI σ 61 0 (σ.1 61 60)) 61 1 (σ.1 61 61)) 61 2 (σ.1 61 62)) = some (none, mj_rst σ) := sp_M_allB
    have e1 : (mj_setI σ 61 0 (σ.1 61 60)).1 61 61 = σ.1 61 61 := rfl
    have e2 : (mj_setI (mj_setI σ 61 0 (σ.1 61 60)) 61 1 (σ.1 61 61)).1 61 62 = σ.1 61 62 := rfl
    have e0 : (mj_rst σ).1 61 0 = σ.1 61 60 := by
      unfold mj_rst
      rw [mj_ld_o 15 (Or.inl (by decide))]
      rfl
    have hl : mj_Runs X (mj_ev X (d + 2)) 6 (some .int) prog_8_method_97_code (46, [.ref 61, .int (nI 0)], [], mj_shv (mj_rst σ) 0) (some (.int (σ.1 61 60)), mj_shv (mj_rst σ) 8) :=
      mj_count (X := X) (call := mj_ev X (d + 2)) (oc := 6) (ret := (some .int)) (cc := prog_8_method_97_code) (N := 8) (S := fun k => (46, [.ref 61, .int (nI k)], [], mj_shv (mj_rst σ) k)) (fun k hk hr => by
        have q : nI k < 8 := nI_lt (b := 8) hk (by decide)
        have x0 : (mj_shv (mj_rst σ) k).1 61 0 = (mj_rst σ).1 61 0 := by rw [mj_shv_o (by decide)]
        have x81 : (mj_shv (mj_rst σ) k).1 81 = (mj_rst σ).1 81 := mj_shv_o (by decide)
        have x78 : (mj_shv (mj_rst σ) k).1 78 k = (mj_rst σ).1 78 k := by
          show (if 78 = 78 ∧ k < k ∧ (mj_rst σ).1 78 k = 2 ∧ ¬ (mj_rst σ).1 81 k < (mj_rst σ).1 61 0 then 0 else (mj_rst σ).1 78 k) = (mj_rst σ).1 78 k
          rw [if_neg (by omega)]
        rw [mj_shv_s] at hr
        refine u251_46.mpr ?_
        by_cases c1 : (mj_rst σ).1 78 k = 2
        · by_cases c2 : (mj_rst σ).1 81 k < (mj_rst σ).1 61 0
          · rw [if_neg (fun z => z.2 c2)] at hr
            simp only [u251_0, u251_1, u251_4, u251_5, u251_8, u251_9, u251_11, u251_14, u251_15, u251_16, u251_17, u251_20, u251_23, u251_24, u251_25, u251_28, u251_31, u251_32, u251_33, u251_36, u251_39, u251_40, u251_41, u251_44, u251_45, u251_47, u251_49, u251_52, u251_53, u251_56, u251_57, u251_58, u251_59, u251_62, u251_63, u251_66, u251_67, u251_68, u251_69, u251_72, u251_75, u251_76, u251_79, u251_80, u251_81, u251_82, u251_85, u251_88, u251_89, u251_92, q, x0, x81, x78, eq_true c1, c2, mj_in_nI hk (by decide), mj_nz9 hk (by decide), nI_1, mj_cc_v, mj_cc_n, List.all_cons, List.all_nil, mj_noMk_int, mj_noMk_long, mj_noMk_ref, mj_noMk_junk, List.length_nil, List.length_cons, Nat.zero_le, Nat.reduceLeDiff, Nat.reduceAdd, Bool.and_true, Bool.true_and, Bool.and_self, Nat.reduceBNe, true_or, or_true, true_and, and_true, mj_z0, mj_z1, mj_z01, decide_true, decide_false, Bool.true_and, Bool.false_and, Bool.and_true, Bool.and_false, Bool.true_or, Bool.false_or, Bool.or_false, Bool.or_true, Bool.not_true, Bool.not_false, Bool.and_self, Bool.or_self, if_true, if_false, Bool.true_eq_false, Bool.false_eq_true, not_true, not_false_eq_true]
            exact hr
          · rw [if_pos ⟨c1, c2⟩] at hr
            simp only [u251_0, u251_1, u251_4, u251_5, u251_8, u251_9, u251_11, u251_14, u251_15, u251_16, u251_17, u251_20, u251_23, u251_24, u251_25, u251_28, u251_31, u251_32, u251_33, u251_36, u251_39, u251_40, u251_41, u251_44, u251_45, u251_47, u251_49, u251_52, u251_53, u251_56, u251_57, u251_58, u251_59, u251_62, u251_63, u251_66, u251_67, u251_68, u251_69, u251_72, u251_75, u251_76, u251_79, u251_80, u251_81, u251_82, u251_85, u251_88, u251_89, u251_92, q, x0, x81, x78, eq_true c1, c2, mj_in_nI hk (by decide), mj_nz9 hk (by decide), nI_1, mj_cc_v, mj_cc_n, List.all_cons, List.all_nil, mj_noMk_int, mj_noMk_long, mj_noMk_ref, mj_noMk_junk, List.length_nil, List.length_cons, Nat.zero_le, Nat.reduceLeDiff, Nat.reduceAdd, Bool.and_true, Bool.true_and, Bool.and_self, Nat.reduceBNe, true_or, or_true, true_and, and_true, mj_z0, mj_z1, mj_z01, decide_true, decide_false, Bool.true_and, Bool.false_and, Bool.and_true, Bool.and_false, Bool.true_or, Bool.false_or, Bool.or_false, Bool.or_true, Bool.not_true, Bool.not_false, Bool.and_self, Bool.or_self, if_true, if_false, Bool.true_eq_false, Bool.false_eq_true, not_true, not_false_eq_true]
            exact hr
        · rw [if_neg (fun z => c1 z.1)] at hr
          simp only [u251_0, u251_1, u251_4, u251_5, u251_8, u251_9, u251_11, u251_14, u251_15, u251_16, u251_17, u251_20, u251_23, u251_24, u251_25, u251_28, u251_31, u251_32, u251_33, u251_36, u251_39, u251_40, u251_41, u251_44, u251_45, u251_47, u251_49, u251_52, u251_53, u251_56, u251_57, u251_58, u251_59, u251_62, u251_63, u251_66, u251_67, u251_68, u251_69, u251_72, u251_75, u251_76, u251_79, u251_80, u251_81, u251_82, u251_85, u251_88, u251_89, u251_92, q, x78, eq_false c1, mj_in_nI hk (by decide), mj_nz9 hk (by decide), nI_1, mj_cc_v, mj_cc_n, List.all_cons, List.all_nil, mj_noMk_int, mj_noMk_long, mj_noMk_ref, mj_noMk_junk, List.length_nil, List.length_cons, Nat.zero_le, Nat.reduceLeDiff, Nat.reduceAdd, Bool.and_true, Bool.true_and, Bool.and_self, Nat.reduceBNe, true_or, or_true, true_and, and_true, mj_z0, mj_z1, mj_z01, decide_true, decide_false, Bool.true_and, Bool.false_and, Bool.and_true, Bool.and_false, Bool.true_or, Bool.false_or, Bool.or_false, Bool.or_true, Bool.not_true, Bool.not_false, Bool.and_self, Bool.or_self, if_true, if_false, Bool.true_eq_false, Bool.false_eq_true, not_true, not_false_eq_true]
          exact hr) (by
        have q : ¬ nI 8 < 8 := by decide
        have x0 : (mj_shv (mj_rst σ) 8).1 61 0 = σ.1 61 60 := by rw [mj_shv_o (by decide)]; exact e0
        refine u251_46.mpr ?_
        simp only [u251_0, u251_1, u251_4, u251_5, u251_8, u251_9, u251_11, u251_14, u251_15, u251_16, u251_17, u251_20, u251_23, u251_24, u251_25, u251_28, u251_31, u251_32, u251_33, u251_36, u251_39, u251_40, u251_41, u251_44, u251_45, u251_47, u251_49, u251_52, u251_53, u251_56, u251_57, u251_58, u251_59, u251_62, u251_63, u251_66, u251_67, u251_68, u251_69, u251_72, u251_75, u251_76, u251_79, u251_80, u251_81, u251_82, u251_85, u251_88, u251_89, u251_92, q, x0, mj_cc_v, mj_cc_n, List.all_cons, List.all_nil, mj_noMk_int, mj_noMk_long, mj_noMk_ref, mj_noMk_junk, List.length_nil, List.length_cons, Nat.zero_le, Nat.reduceLeDiff, Nat.reduceAdd, Bool.and_true, Bool.true_and, Bool.and_self, Nat.reduceBNe, true_or, or_true, true_and, and_true, mj_z0, mj_z1, mj_z01, decide_true, decide_false, Bool.true_and, Bool.false_and, Bool.and_true, Bool.and_false, Bool.true_or, Bool.false_or, Bool.or_false, Bool.or_true, Bool.not_true, Bool.not_false, Bool.and_self, Bool.or_self, if_true, if_false, Bool.true_eq_false, Bool.false_eq_true, not_true, not_false_eq_true]) 0 (Nat.zero_le _)
    have z0 : nI 0 = 0 := rfl
    rw [z0, mj_shv_0] at hl
    simp only [u251_0, u251_1, u251_4, u251_5, u251_8, u251_9, u251_11, u251_14, u251_15, u251_16, u251_17, u251_20, u251_23, u251_24, u251_25, u251_28, u251_31, u251_32, u251_33, u251_36, u251_39, u251_40, u251_41, u251_44, u251_45, u251_47, u251_49, u251_52, u251_53, u251_56, u251_57, u251_58, u251_59, u251_62, u251_63, u251_66, u251_67, u251_68, u251_69, u251_72, u251_75, u251_76, u251_79, u251_80, u251_81, u251_82, u251_85, u251_88, u251_89, u251_92, c, e1, e2, hs, mj_cc_v, mj_cc_n, List.all_cons, List.all_nil, mj_noMk_int, mj_noMk_long, mj_noMk_ref, mj_noMk_junk, List.length_nil, List.length_cons, Nat.zero_le, Nat.reduceLeDiff, Nat.reduceAdd, Bool.and_true, Bool.true_and, Bool.and_self, Nat.reduceBNe, true_or, or_true, true_and, and_true, mj_z0, mj_z1, mj_z01, decide_true, decide_false, Bool.true_and, Bool.false_and, Bool.and_true, Bool.and_false, Bool.true_or, Bool.false_or, Bool.or_false, Bool.or_true, Bool.not_true, Bool.not_false, Bool.and_self, Bool.or_self, if_true, if_false, Bool.true_eq_false, Bool.false_eq_true, not_true, not_false_eq_true]
    exact hl
-- status
def mj_Mgn (σ : mj_St) (n : Nat) : Int32 := mj_it (fun i u => u + σ.1 77 i) 0 n
def mj_Mst8 (σ : mj_St) (N : Nat) (x : Int32) : Int32 := if ¬ x < 11 ∧ ¬ 17 < x then σ.1 62 (x - 10).toNatClampNeg else if x = 0 then nI N else if x = 1 then nI (mj_Mkn σ true N) else if x = 2 then mj_Mgn σ N else if x = 3 then σ.1 61 1 else if x = 4 then σ.1 61 2 else if x = 5 then σ.1 61 59 else -1
theorem sp_M_status {N : Nat} {x : Int32} (hN : σ.1 61 0 = nI N) (h9 : N ≤ 9) : mj_ev X (d + 3) 252 [.ref 61, .int x] σ = some (some (.int (mj_Mst8 σ N x)), σ) := by
  have hk : mj_ev X (d + 2) 181 [.ref 61, .int 1] σ = some (some (.int (nI (mj_Mkn σ true N))), σ) := sp_M_kinds (b := true) hN h9
  have hl : mj_Runs X (mj_ev X (d + 2)) 6 (some .int) prog_8_method_98_code (51, [.ref 61, .int x, .int 0, .int (nI 0)], [], σ) (some (.int (mj_Mgn σ N)), σ) :=
    mj_count (X := X) (call := mj_ev X (d + 2)) (oc := 6) (ret := (some .int)) (cc := prog_8_method_98_code) (N := N) (S := fun k => (51, [.ref 61, .int x, .int (mj_Mgn σ k), .int (nI k)], [], σ)) (fun k hk hr => by
      have hk9 : k < 9 := by omega
      have q : nI k < nI N := nI_lt hk (by omega)
      have e1 : mj_Mgn σ (k + 1) = mj_Mgn σ k + σ.1 77 k := rfl
      rw [e1] at hr
      refine u252_51.mpr ?_
      simp only [u252_0, u252_1, u252_3, u252_6, u252_7, u252_9, u252_12, u252_13, u252_16, u252_17, u252_19, u252_20, u252_21, u252_22, u252_23, u252_26, u252_27, u252_30, u252_31, u252_32, u252_33, u252_36, u252_37, u252_38, u252_41, u252_42, u252_43, u252_44, u252_47, u252_48, u252_49, u252_50, u252_52, u252_53, u252_56, u252_59, u252_60, u252_61, u252_64, u252_65, u252_66, u252_67, u252_68, u252_71, u252_74, u252_75, u252_76, u252_77, u252_78, u252_81, u252_82, u252_85, u252_86, u252_87, u252_88, u252_91, u252_92, u252_95, u252_96, u252_97, u252_98, u252_101, u252_102, u252_105, u252_108, u252_109, hN, q, mj_in_nI hk9 (by decide), mj_nz9 hk9 (by decide), nI_1, mj_cc_v, mj_cc_n, List.all_cons, List.all_nil, mj_noMk_int, mj_noMk_long, mj_noMk_ref, mj_noMk_junk, List.length_nil, List.length_cons, Nat.zero_le, Nat.reduceLeDiff, Nat.reduceAdd, Bool.and_true, Bool.true_and, Bool.and_self, Nat.reduceBNe, true_or, or_true, true_and, and_true, mj_z0, mj_z1, mj_z01, decide_true, decide_false, Bool.true_and, Bool.false_and, Bool.and_true, Bool.and_false, Bool.true_or, Bool.false_or, Bool.or_false, Bool.or_true, Bool.not_true, Bool.not_false, Bool.and_self, Bool.or_self, if_true, if_false, Bool.true_eq_false, Bool.false_eq_true, not_true, not_false_eq_true]
      exact hr) (by
      have q : ¬ nI N < nI N := nI_nlt (Nat.le_refl _) (by omega)
      refine u252_51.mpr ?_
      simp only [u252_0, u252_1, u252_3, u252_6, u252_7, u252_9, u252_12, u252_13, u252_16, u252_17, u252_19, u252_20, u252_21, u252_22, u252_23, u252_26, u252_27, u252_30, u252_31, u252_32, u252_33, u252_36, u252_37, u252_38, u252_41, u252_42, u252_43, u252_44, u252_47, u252_48, u252_49, u252_50, u252_52, u252_53, u252_56, u252_59, u252_60, u252_61, u252_64, u252_65, u252_66, u252_67, u252_68, u252_71, u252_74, u252_75, u252_76, u252_77, u252_78, u252_81, u252_82, u252_85, u252_86, u252_87, u252_88, u252_91, u252_92, u252_95, u252_96, u252_97, u252_98, u252_101, u252_102, u252_105, u252_108, u252_109, hN, q, mj_cc_v, mj_cc_n, List.all_cons, List.all_nil, mj_noMk_int, mj_noMk_long, mj_noMk_ref, mj_noMk_junk, List.length_nil, List.length_cons, Nat.zero_le, Nat.reduceLeDiff, Nat.reduceAdd, Bool.and_true, Bool.true_and, Bool.and_self, Nat.reduceBNe, true_or, or_true, true_and, and_true, mj_z0, mj_z1, mj_z01, decide_true, decide_false, Bool.true_and, Bool.false_and, Bool.and_true, Bool.and_false, Bool.true_or, Bool.false_or, Bool.or_false, Bool.or_true, Bool.not_true, Bool.not_false, Bool.and_self, Bool.or_self, if_true, if_false, Bool.true_eq_false, Bool.false_eq_true, not_true, not_false_eq_true]) 0 (Nat.zero_le _)
  have e0 : nI 0 = 0 := rfl
  rw [e0] at hl
  unfold mj_Mst8
  refine st252 ?_
  by_cases a1 : x < 11
  · rw [if_neg (fun z => z.1 a1)]
    by_cases b0 : x = 0
    · simp only [u252_0, u252_1, u252_3, u252_6, u252_7, u252_9, u252_12, u252_13, u252_16, u252_17, u252_19, u252_20, u252_21, u252_22, u252_23, u252_26, u252_27, u252_30, u252_31, u252_32, u252_33, u252_36, u252_37, u252_38, u252_41, u252_42, u252_43, u252_44, u252_47, u252_48, u252_49, u252_50, u252_52, u252_53, u252_56, u252_59, u252_60, u252_61, u252_64, u252_65, u252_66, u252_67, u252_68, u252_71, u252_74, u252_75, u252_76, u252_77, u252_78, u252_81, u252_82, u252_85, u252_86, u252_87, u252_88, u252_91, u252_92, u252_95, u252_96, u252_97, u252_98, u252_101, u252_102, u252_105, u252_108, u252_109, hN, a1, eq_true b0, mj_cc_v, mj_cc_n, List.all_cons, List.all_nil, mj_noMk_int, mj_noMk_long, mj_noMk_ref, mj_noMk_junk, List.length_nil, List.length_cons, Nat.zero_le, Nat.reduceLeDiff, Nat.reduceAdd, Bool.and_true, Bool.true_and, Bool.and_self, Nat.reduceBNe, true_or, or_true, true_and, and_true, mj_z0, mj_z1, mj_z01, decide_true, decide_false, Bool.true_and, Bool.false_and, Bool.and_true, Bool.and_false, Bool.true_or, Bool.false_or, Bool.or_false, Bool.or_true, Bool.not_true, Bool.not_false, Bool.and_self, Bool.or_self, if_true, if_false, Bool.true_eq_false, Bool.false_eq_true, not_true, not_false_eq_true]
    · by_cases b1 : x = 1
      · simp only [u252_0, u252_1, u252_3, u252_6, u252_7, u252_9, u252_12, u252_13, u252_16, u252_17, u252_19, u252_20, u252_21, u252_22, u252_23, u252_26, u252_27, u252_30, u252_31, u252_32, u252_33, u252_36, u252_37, u252_38, u252_41, u252_42, u252_43, u252_44, u252_47, u252_48, u252_49, u252_50, u252_52, u252_53, u252_56, u252_59, u252_60, u252_61, u252_64, u252_65, u252_66, u252_67, u252_68, u252_71, u252_74, u252_75, u252_76, u252_77, u252_78, u252_81, u252_82, u252_85, u252_86, u252_87, u252_88, u252_91, u252_92, u252_95, u252_96, u252_97, u252_98, u252_101, u252_102, u252_105, u252_108, u252_109, hN, a1, hk, eq_false b0, eq_true b1, mj_cc_v, mj_cc_n, List.all_cons, List.all_nil, mj_noMk_int, mj_noMk_long, mj_noMk_ref, mj_noMk_junk, List.length_nil, List.length_cons, Nat.zero_le, Nat.reduceLeDiff, Nat.reduceAdd, Bool.and_true, Bool.true_and, Bool.and_self, Nat.reduceBNe, true_or, or_true, true_and, and_true, mj_z0, mj_z1, mj_z01, decide_true, decide_false, Bool.true_and, Bool.false_and, Bool.and_true, Bool.and_false, Bool.true_or, Bool.false_or, Bool.or_false, Bool.or_true, Bool.not_true, Bool.not_false, Bool.and_self, Bool.or_self, if_true, if_false, Bool.true_eq_false, Bool.false_eq_true, not_true, not_false_eq_true]
      · by_cases b2 : x = 2
        · simp only [u252_0, u252_1, u252_3, u252_6, u252_7, u252_9, u252_12, u252_13, u252_16, u252_17, u252_19, u252_20, u252_21, u252_22, u252_23, u252_26, u252_27, u252_30, u252_31, u252_32, u252_33, u252_36, u252_37, u252_38, u252_41, u252_42, u252_43, u252_44, u252_47, u252_48, u252_49, u252_50, u252_52, u252_53, u252_56, u252_59, u252_60, u252_61, u252_64, u252_65, u252_66, u252_67, u252_68, u252_71, u252_74, u252_75, u252_76, u252_77, u252_78, u252_81, u252_82, u252_85, u252_86, u252_87, u252_88, u252_91, u252_92, u252_95, u252_96, u252_97, u252_98, u252_101, u252_102, u252_105, u252_108, u252_109, hN, a1, eq_false b0, eq_false b1, eq_true b2, mj_cc_v, mj_cc_n, List.all_cons, List.all_nil, mj_noMk_int, mj_noMk_long, mj_noMk_ref, mj_noMk_junk, List.length_nil, List.length_cons, Nat.zero_le, Nat.reduceLeDiff, Nat.reduceAdd, Bool.and_true, Bool.true_and, Bool.and_self, Nat.reduceBNe, true_or, or_true, true_and, and_true, mj_z0, mj_z1, mj_z01, decide_true, decide_false, Bool.true_and, Bool.false_and, Bool.and_true, Bool.and_false, Bool.true_or, Bool.false_or, Bool.or_false, Bool.or_true, Bool.not_true, Bool.not_false, Bool.and_self, Bool.or_self, if_true, if_false, Bool.true_eq_false, Bool.false_eq_true, not_true, not_false_eq_true]
          exact hl
        · by_cases b3 : x = 3
          · simp only [u252_0, u252_1, u252_3, u252_6, u252_7, u252_9, u252_12, u252_13, u252_16, u252_17, u252_19, u252_20, u252_21, u252_22, u252_23, u252_26, u252_27, u252_30, u252_31, u252_32, u252_33, u252_36, u252_37, u252_38, u252_41, u252_42, u252_43, u252_44, u252_47, u252_48, u252_49, u252_50, u252_52, u252_53, u252_56, u252_59, u252_60, u252_61, u252_64, u252_65, u252_66, u252_67, u252_68, u252_71, u252_74, u252_75, u252_76, u252_77, u252_78, u252_81, u252_82, u252_85, u252_86, u252_87, u252_88, u252_91, u252_92, u252_95, u252_96, u252_97, u252_98, u252_101, u252_102, u252_105, u252_108, u252_109, hN, a1, eq_false b0, eq_false b1, eq_false b2, eq_true b3, mj_cc_v, mj_cc_n, List.all_cons, List.all_nil, mj_noMk_int, mj_noMk_long, mj_noMk_ref, mj_noMk_junk, List.length_nil, List.length_cons, Nat.zero_le, Nat.reduceLeDiff, Nat.reduceAdd, Bool.and_true, Bool.true_and, Bool.and_self, Nat.reduceBNe, true_or, or_true, true_and, and_true, mj_z0, mj_z1, mj_z01, decide_true, decide_false, Bool.true_and, Bool.false_and, Bool.and_true, Bool.and_false, Bool.true_or, Bool.false_or, Bool.or_false, Bool.or_true, Bool.not_true, Bool.not_false, Bool.and_self, Bool.or_self, if_true, if_false, Bool.true_eq_false, Bool.false_eq_true, not_true, not_false_eq_true]
          · by_cases b4 : x = 4
            · simp only [u252_0, u252_1, u252_3, u252_6, u252_7, u252_9, u252_12, u252_13, u252_16, u252_17, u252_19, u252_20, u252_21, u252_22, u252_23, u252_26, u252_27, u252_30, u252_31, u252_32, u252_33, u252_36, u252_37, u252_38, u252_41, u252_42, u252_43, u252_44, u252_47, u252_48, u252_49, u252_50, u252_52, u252_53, u252_56, u252_59, u252_60, u252_61, u252_64, u252_65, u252_66, u252_67, u252_68, u252_71, u252_74, u252_75, u252_76, u252_77, u252_78, u252_81, u252_82, u252_85, u252_86, u252_87, u252_88, u252_91, u252_92, u252_95, u252_96, u252_97, u252_98, u252_101, u252_102, u252_105, u252_108, u252_109, hN, a1, eq_false b0, eq_false b1, eq_false b2, eq_false b3, eq_true b4, mj_cc_v, mj_cc_n, List.all_cons, List.all_nil, mj_noMk_int, mj_noMk_long, mj_noMk_ref, mj_noMk_junk, List.length_nil, List.length_cons, Nat.zero_le, Nat.reduceLeDiff, Nat.reduceAdd, Bool.and_true, Bool.true_and, Bool.and_self, Nat.reduceBNe, true_or, or_true, true_and, and_true, mj_z0, mj_z1, mj_z01, decide_true, decide_false, Bool.true_and, Bool.false_and, Bool.and_true, Bool.and_false, Bool.true_or, Bool.false_or, Bool.or_false, Bool.or_true, Bool.not_true, Bool.not_false, Bool.and_self, Bool.or_self, if_true, if_false, Bool.true_eq_false, Bool.false_eq_true, not_true, not_false_eq_true]
            · by_cases b5 : x = 5
              · simp only [u252_0, u252_1, u252_3, u252_6, u252_7, u252_9, u252_12, u252_13, u252_16, u252_17, u252_19, u252_20, u252_21, u252_22, u252_23, u252_26, u252_27, u252_30, u252_31, u252_32, u252_33, u252_36, u252_37, u252_38, u252_41, u252_42, u252_43, u252_44, u252_47, u252_48, u252_49, u252_50, u252_52, u252_53, u252_56, u252_59, u252_60, u252_61, u252_64, u252_65, u252_66, u252_67, u252_68, u252_71, u252_74, u252_75, u252_76, u252_77, u252_78, u252_81, u252_82, u252_85, u252_86, u252_87, u252_88, u252_91, u252_92, u252_95, u252_96, u252_97, u252_98, u252_101, u252_102, u252_105, u252_108, u252_109, hN, a1, eq_false b0, eq_false b1, eq_false b2, eq_false b3, eq_false b4, eq_true b5, mj_cc_v, mj_cc_n, List.all_cons, List.all_nil, mj_noMk_int, mj_noMk_long, mj_noMk_ref, mj_noMk_junk, List.length_nil, List.length_cons, Nat.zero_le, Nat.reduceLeDiff, Nat.reduceAdd, Bool.and_true, Bool.true_and, Bool.and_self, Nat.reduceBNe, true_or, or_true, true_and, and_true, mj_z0, mj_z1, mj_z01, decide_true, decide_false, Bool.true_and, Bool.false_and, Bool.and_true, Bool.and_false, Bool.true_or, Bool.false_or, Bool.or_false, Bool.or_true, Bool.not_true, Bool.not_false, Bool.and_self, Bool.or_self, if_true, if_false, Bool.true_eq_false, Bool.false_eq_true, not_true, not_false_eq_true]
              · simp only [u252_0, u252_1, u252_3, u252_6, u252_7, u252_9, u252_12, u252_13, u252_16, u252_17, u252_19, u252_20, u252_21, u252_22, u252_23, u252_26, u252_27, u252_30, u252_31, u252_32, u252_33, u252_36, u252_37, u252_38, u252_41, u252_42, u252_43, u252_44, u252_47, u252_48, u252_49, u252_50, u252_52, u252_53, u252_56, u252_59, u252_60, u252_61, u252_64, u252_65, u252_66, u252_67, u252_68, u252_71, u252_74, u252_75, u252_76, u252_77, u252_78, u252_81, u252_82, u252_85, u252_86, u252_87, u252_88, u252_91, u252_92, u252_95, u252_96, u252_97, u252_98, u252_101, u252_102, u252_105, u252_108, u252_109, hN, a1, eq_false b0, eq_false b1, eq_false b2, eq_false b3, eq_false b4, eq_false b5, mj_cc_v, mj_cc_n, List.all_cons, List.all_nil, mj_noMk_int, mj_noMk_long, mj_noMk_ref, mj_noMk_junk, List.length_nil, List.length_cons, Nat.zero_le, Nat.reduceLeDiff, Nat.reduceAdd, Bool.and_true, Bool.true_and, Bool.and_self, Nat.reduceBNe, true_or, or_true, true_and, and_true, mj_z0, mj_z1, mj_z01, decide_true, decide_false, Bool.true_and, Bool.false_and, Bool.and_true, Bool.and_false, Bool.true_or, Bool.false_or, Bool.or_false, Bool.or_true, Bool.not_true, Bool.not_false, Bool.and_self, Bool.or_self, if_true, if_false, Bool.true_eq_false, Bool.false_eq_true, not_true, not_false_eq_true]
  · by_cases a2 : 17 < x
    · rw [if_neg (fun z => z.2 a2)]
      have big : ∀ k : Int32, k < 18 → ¬ x = k := by
        intro k hk z
        subst z
        rw [Int32.lt_iff_toInt_lt] at hk a2
        have e17 : (17 : Int32).toInt = 17 := by decide
        have e18 : (18 : Int32).toInt = 18 := by decide
        omega
      simp only [u252_0, u252_1, u252_3, u252_6, u252_7, u252_9, u252_12, u252_13, u252_16, u252_17, u252_19, u252_20, u252_21, u252_22, u252_23, u252_26, u252_27, u252_30, u252_31, u252_32, u252_33, u252_36, u252_37, u252_38, u252_41, u252_42, u252_43, u252_44, u252_47, u252_48, u252_49, u252_50, u252_52, u252_53, u252_56, u252_59, u252_60, u252_61, u252_64, u252_65, u252_66, u252_67, u252_68, u252_71, u252_74, u252_75, u252_76, u252_77, u252_78, u252_81, u252_82, u252_85, u252_86, u252_87, u252_88, u252_91, u252_92, u252_95, u252_96, u252_97, u252_98, u252_101, u252_102, u252_105, u252_108, u252_109, hN, a1, a2, big 0 (by decide), big 1 (by decide), big 2 (by decide), big 3 (by decide), big 4 (by decide), big 5 (by decide), mj_cc_v, mj_cc_n, List.all_cons, List.all_nil, mj_noMk_int, mj_noMk_long, mj_noMk_ref, mj_noMk_junk, List.length_nil, List.length_cons, Nat.zero_le, Nat.reduceLeDiff, Nat.reduceAdd, Bool.and_true, Bool.true_and, Bool.and_self, Nat.reduceBNe, true_or, or_true, true_and, and_true, mj_z0, mj_z1, mj_z01, decide_true, decide_false, Bool.true_and, Bool.false_and, Bool.and_true, Bool.and_false, Bool.true_or, Bool.false_or, Bool.or_false, Bool.or_true, Bool.not_true, Bool.not_false, Bool.and_self, Bool.or_self, if_true, if_false, Bool.true_eq_false, Bool.false_eq_true, not_true, not_false_eq_true]
    · rw [if_pos ⟨a1, a2⟩]
      have hin : mj_inb (x - 10) 8 = true := by
        rw [Int32.lt_iff_toInt_lt] at a1 a2
        have e17 : (17 : Int32).toInt = 17 := by decide
        have e11 : (11 : Int32).toInt = 11 := by decide
        obtain ⟨j, hj, e⟩ := nI_of2 (x := x) (M := 17) (n := 17) (by decide) (by rw [Int32.lt_iff_toInt_lt]; have e0 : (0 : Int32).toInt = 0 := by decide
                                                                                 omega) (by rw [Int32.le_iff_toInt_le]; omega)
        subst e
        rw [nI_toInt (by omega)] at a1
        have : nI j - 10 = nI (j - 10) := mj_nI_sub (a := j) (b := 10) (by omega)
        rw [this]
        exact mj_in_nI (by omega) (by decide)
      simp only [u252_0, u252_1, u252_3, u252_6, u252_7, u252_9, u252_12, u252_13, u252_16, u252_17, u252_19, u252_20, u252_21, u252_22, u252_23, u252_26, u252_27, u252_30, u252_31, u252_32, u252_33, u252_36, u252_37, u252_38, u252_41, u252_42, u252_43, u252_44, u252_47, u252_48, u252_49, u252_50, u252_52, u252_53, u252_56, u252_59, u252_60, u252_61, u252_64, u252_65, u252_66, u252_67, u252_68, u252_71, u252_74, u252_75, u252_76, u252_77, u252_78, u252_81, u252_82, u252_85, u252_86, u252_87, u252_88, u252_91, u252_92, u252_95, u252_96, u252_97, u252_98, u252_101, u252_102, u252_105, u252_108, u252_109, a1, a2, hin, mj_cc_v, mj_cc_n, List.all_cons, List.all_nil, mj_noMk_int, mj_noMk_long, mj_noMk_ref, mj_noMk_junk, List.length_nil, List.length_cons, Nat.zero_le, Nat.reduceLeDiff, Nat.reduceAdd, Bool.and_true, Bool.true_and, Bool.and_self, Nat.reduceBNe, true_or, or_true, true_and, and_true, mj_z0, mj_z1, mj_z01, decide_true, decide_false, Bool.true_and, Bool.false_and, Bool.and_true, Bool.and_false, Bool.true_or, Bool.false_or, Bool.or_false, Bool.or_true, Bool.not_true, Bool.not_false, Bool.and_self, Bool.or_self, if_true, if_false, Bool.true_eq_false, Bool.false_eq_true, not_true, not_false_eq_true]
end