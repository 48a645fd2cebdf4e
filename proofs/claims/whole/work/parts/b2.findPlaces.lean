section
variable {X : mj_X} {d : Nat} {σ τ ρ : mj_St}
theorem mj_nI_or {a b : Nat} (ha : a < 2 ^ 31) (hb : b < 2 ^ 31) : nI a ||| nI b = nI (a ||| b) := by
  apply mj_b_ext
  intro k hk
  have hc : a ||| b < 2 ^ 31 := Nat.or_lt_two_pow ha hb
  rw [mj_b_or, mj_b_nI (by omega), mj_b_nI (by omega), mj_b_nI (by omega), Nat.testBit_or]
theorem mj_or_add {s l n : Nat} (hs : s < 4 ^ n) : s ||| l * 4 ^ n = s + l * 4 ^ n := by
  have e4 : 4 ^ n = 2 ^ (2 * n) := by rw [Nat.pow_mul]
  rw [e4] at hs ⊢
  have h := Nat.shiftLeft_add_eq_or_of_lt hs l
  rw [Nat.shiftLeft_eq] at h
  rw [Nat.or_comm, ← h, Nat.add_comm]
/-- whether a promise gets a place -/
def mj_plq (σ : mj_St) (i : Nat) : Bool := mj_b (σ.1 46 1) i && (mj_wk (σ.1 15 i) && (decide (0 < σ.1 25 i) && (decide (¬ σ.1 17 i < σ.1 14 17) && decide (¬ mj_stg σ i (σ.1 46 7) (σ.1 14 17) = 0))))
def mj_plL (σ : mj_St) (k : Nat) : List Nat := (List.range k).filter (mj_plq σ)
theorem mj_plL_s {k : Nat} : mj_plL σ (k + 1) = if mj_plq σ k = true then mj_plL σ k ++ [k] else mj_plL σ k := by
  unfold mj_plL
  rw [List.range_succ, List.filter_append]
  by_cases h : mj_plq σ k = true
  · rw [if_pos h, List.filter_cons_of_pos h, List.filter_nil]
  · rw [if_neg h, List.filter_cons_of_neg h, List.filter_nil, List.append_nil]
theorem mj_plL_le {k j : Nat} : (mj_plL σ k).length ≤ (mj_plL σ (k + j)).length := by
  induction j with
  | zero => exact Nat.le_refl _
  | succ j ih =>
    rw [← Nat.add_assoc, mj_plL_s]
    by_cases h : mj_plq σ (k + j) = true
    · rw [if_pos h, List.length_append]
      omega
    · rw [if_neg h]
      exact ih
theorem mj_plL_eq {k j : Nat} (h : (mj_plL σ (k + j)).length ≤ (mj_plL σ k).length) : mj_plL σ (k + j) = mj_plL σ k := by
  induction j with
  | zero => rfl
  | succ j ih =>
    rw [← Nat.add_assoc] at h ⊢
    have hle := mj_plL_le (σ := σ) (k := k) (j := j)
    rw [mj_plL_s] at h ⊢
    by_cases c : mj_plq σ (k + j) = true
    · rw [if_pos c, List.length_append] at h
      have e1 : ([k + j] : List Nat).length = 1 := rfl
      omega
    · rw [if_neg c] at h ⊢
      exact ih h
theorem mj_plL_lt {k i : Nat} (h : i ∈ mj_plL σ k) : i < k ∧ mj_plq σ i = true := by
  unfold mj_plL at h
  rw [List.mem_filter, List.mem_range] at h
  exact h
/-- the state that it starts from -/
def mj_stn (σ : mj_St) : List Nat → Nat
  | [] => 0
  | i :: l => (σ.1 25 i).toNatClampNeg % 4 + 4 * mj_stn σ l
theorem mj_stn_lt : ∀ l : List Nat, mj_stn σ l < 4 ^ l.length := by
  intro l
  induction l with
  | nil =>
    show 0 < 4 ^ 0
    decide
  | cons i l ih =>
    show (σ.1 25 i).toNatClampNeg % 4 + 4 * mj_stn σ l < 4 ^ (l.length + 1)
    rw [Nat.pow_succ]
    have := Nat.mod_lt (σ.1 25 i).toNatClampNeg (show 0 < 4 by decide)
    omega
theorem mj_stn_app (i : Nat) : ∀ l : List Nat, mj_stn σ (l ++ [i]) = mj_stn σ l + (σ.1 25 i).toNatClampNeg % 4 * 4 ^ l.length := by
  intro l
  induction l with
  | nil =>
    show (σ.1 25 i).toNatClampNeg % 4 + 4 * 0 = 0 + (σ.1 25 i).toNatClampNeg % 4 * 4 ^ 0
    omega
  | cons a l ih =>
    show (σ.1 25 a).toNatClampNeg % 4 + 4 * mj_stn σ (l ++ [i]) = (σ.1 25 a).toNatClampNeg % 4 + 4 * mj_stn σ l + (σ.1 25 i).toNatClampNeg % 4 * 4 ^ (l.length + 1)
    rw [ih, Nat.pow_succ, Nat.mul_add, Nat.add_assoc, Nat.mul_comm (4 ^ l.length) 4, Nat.mul_left_comm]
def mj_nmf (g : Nat → Int32) (L : List Nat) : Nat → Int32 := fun p => if p < L.length then nI (L.getD p 0) else g p
theorem mj_nmf_s {g : Nat → Int32} {L : List Nat} {i : Nat} : mj_ud (mj_nmf g L) L.length (nI i) = mj_nmf g (L ++ [i]) := by
  funext p
  show (if p = L.length then nI i else if p < L.length then nI (L.getD p 0) else g p) = if p < (L ++ [i]).length then nI ((L ++ [i]).getD p 0) else g p
  rw [List.length_append]
  have e1 : ([i] : List Nat).length = 1 := rfl
  by_cases c : p = L.length
  · subst c
    rw [if_pos rfl, if_pos (by omega), List.getD_eq_getElem?_getD, List.getElem?_append_right (Nat.le_refl _), Nat.sub_self]
    rfl
  · rw [if_neg c]
    by_cases c2 : p < L.length
    · rw [if_pos c2, if_pos (by omega), List.getD_eq_getElem?_getD, List.getD_eq_getElem?_getD, List.getElem?_append_left c2]
    · rw [if_neg c2, if_neg (by omega)]
def mj_fpS (σ : mj_St) (f : Nat → Int32) (n s : Int32) : mj_St := (fun c i => if c = 47 then f i else if c = 46 ∧ i = 5 then n else if c = 46 ∧ i = 6 then s else σ.1 c i, σ.2)
theorem mj_fpS_o {f : Nat → Int32} {n s : Int32} {c : Nat} (h : c ≠ 47) (h2 : c ≠ 46) : (mj_fpS σ f n s).1 c = σ.1 c := by
  funext i
  show (if c = 47 then f i else if c = 46 ∧ i = 5 then n else if c = 46 ∧ i = 6 then s else σ.1 c i) = σ.1 c i
  rw [if_neg h, if_neg (fun z => h2 z.1), if_neg (fun z => h2 z.1)]
theorem mj_fpS_46 {f : Nat → Int32} {n s : Int32} {i : Nat} (h : i ≠ 5) (h2 : i ≠ 6) : (mj_fpS σ f n s).1 46 i = σ.1 46 i := by
  show (if 46 = 47 then f i else if 46 = 46 ∧ i = 5 then n else if 46 = 46 ∧ i = 6 then s else σ.1 46 i) = σ.1 46 i
  rw [if_neg (by decide), if_neg (fun z => h z.2), if_neg (fun z => h2 z.2)]
theorem mj_fpS_5 {f : Nat → Int32} {n s v : Int32} : mj_setI (mj_fpS σ f n s) 46 5 v = mj_fpS σ f v s := by
  refine Prod.ext ?_ rfl
  funext c i
  show (if c = 46 ∧ i = 5 then v else if c = 47 then f i else if c = 46 ∧ i = 5 then n else if c = 46 ∧ i = 6 then s else σ.1 c i) = if c = 47 then f i else if c = 46 ∧ i = 5 then v else if c = 46 ∧ i = 6 then s else σ.1 c i
  by_cases h : c = 46 ∧ i = 5
  · rw [if_pos h, if_neg (by omega), if_pos h]
  · rw [if_neg h, if_neg h, if_neg h]
theorem mj_fpS_6 {f : Nat → Int32} {n s v : Int32} : mj_setI (mj_fpS σ f n s) 46 6 v = mj_fpS σ f n v := by
  refine Prod.ext ?_ rfl
  funext c i
  show (if c = 46 ∧ i = 6 then v else if c = 47 then f i else if c = 46 ∧ i = 5 then n else if c = 46 ∧ i = 6 then s else σ.1 c i) = if c = 47 then f i else if c = 46 ∧ i = 5 then n else if c = 46 ∧ i = 6 then v else σ.1 c i
  by_cases h : c = 46 ∧ i = 6
  · rw [if_pos h, if_neg (by omega), if_neg (by omega), if_pos h]
  · rw [if_neg h, if_neg h, if_neg h]
theorem mj_fpS_47 {f : Nat → Int32} {n s v : Int32} {p : Nat} : mj_setI (mj_fpS σ f n s) 47 p v = mj_fpS σ (mj_ud f p v) n s := by
  refine Prod.ext ?_ rfl
  funext c i
  show (if c = 47 ∧ i = p then v else if c = 47 then f i else if c = 46 ∧ i = 5 then n else if c = 46 ∧ i = 6 then s else σ.1 c i) = if c = 47 then (if i = p then v else f i) else if c = 46 ∧ i = 5 then n else if c = 46 ∧ i = 6 then s else σ.1 c i
  by_cases h : c = 47
  · by_cases h2 : i = p
    · rw [if_pos ⟨h, h2⟩, if_pos h, if_pos h2]
    · rw [if_neg (fun z => h2 z.2), if_pos h, if_pos h, if_neg h2]
  · rw [if_neg (fun z => h z.1), if_neg h, if_neg h]
theorem mj_fpS_r5 {f : Nat → Int32} {n s : Int32} : (mj_fpS σ f n s).1 46 5 = n := rfl
theorem mj_fpS_r6 {f : Nat → Int32} {n s : Int32} : (mj_fpS σ f n s).1 46 6 = s := rfl
theorem mj_fpS_0 {n s : Int32} : mj_setI (mj_setI σ 46 5 n) 46 6 s = mj_fpS σ (σ.1 47) n s := by
  refine Prod.ext ?_ rfl
  funext c i
  show (if c = 46 ∧ i = 6 then s else if c = 46 ∧ i = 5 then n else σ.1 c i) = if c = 47 then σ.1 47 i else if c = 46 ∧ i = 5 then n else if c = 46 ∧ i = 6 then s else σ.1 c i
  by_cases h : c = 47
  · subst h
    rw [if_neg (by omega), if_neg (by omega), if_pos rfl]
  · rw [if_neg h]
    by_cases h1 : c = 46 ∧ i = 5
    · rw [if_neg (by omega), if_pos h1, if_pos h1]
    · rw [if_neg h1, if_neg h1]
theorem mj_stg_o (h1 : τ.1 20 = σ.1 20) (h2 : τ.1 21 = σ.1 21) (h3 : τ.1 28 = σ.1 28) (h4 : τ.1 46 2 = σ.1 46 2) (h5 : τ.1 46 3 = σ.1 46 3) : mj_stg τ = mj_stg σ := by
  funext k g h
  unfold mj_stg mj_kn
  rw [h1, h2, h3, h4, h5]
def mj_fpR (σ : mj_St) (N : Nat) : mj_St := mj_fpS σ (mj_nmf (σ.1 47) (mj_plL σ N)) (nI (mj_plL σ N).length) (nI (mj_stn σ (mj_plL σ N)))
theorem sp_findPlaces {N w gr : Nat} (hd : mj_pd σ N w gr) (hL : (mj_plL σ N).length ≤ 6) (hl : ∀ i, i < N → mj_wk (σ.1 15 i) = true → ∃ l, l < 4 ∧ σ.1 25 i = nI l) : mj_ev X (d + 3) 58 [.ref 46] σ = some (none, mj_fpR σ N) := by
  obtain ⟨d1, d2, d3, d4, d5, d6, d7, d8⟩ := hd
  have loop : ∀ (j k : Nat), k + j = N → mj_Runs X (mj_ev X (d + 2)) 3 none prog_5_method_4_code (12, [.ref 46, .int (nI k)], [], mj_fpR σ k) (none, mj_fpR σ N) := by
    intro j
    induction j with
    | zero =>
      intro k hk
      have hk' : k = N := by omega
      subst hk'
      have q : ¬ nI k < nI k := nI_nlt (Nat.le_refl _) (by omega)
      have o : ∀ c, c < 46 → (mj_fpR σ k).1 c = σ.1 c := fun c hc => mj_fpS_o (by omega) (by omega)
      have oo : (mj_fpR σ k).2 = σ.2 := rfl
      refine u58_12.mpr ?_
      simp only [u58_0, u58_1, u58_2, u58_5, u58_6, u58_7, u58_10, u58_11, u58_13, u58_14, u58_17, u58_20, u58_23, u58_24, u58_27, u58_29, u58_32, u58_33, u58_34, u58_37, u58_40, u58_41, u58_44, u58_45, u58_48, u58_51, u58_52, u58_55, u58_58, u58_59, u58_60, u58_63, u58_64, u58_67, u58_70, u58_71, u58_72, u58_73, u58_76, u58_79, u58_82, u58_83, u58_84, u58_85, u58_88, u58_89, u58_92, u58_95, u58_98, u58_101, u58_102, u58_105, u58_106, u58_109, u58_110, u58_111, u58_112, u58_113, u58_116, u58_117, u58_120, u58_123, u58_124, u58_125, u58_126, u58_127, u58_128, u58_129, u58_132, u58_133, u58_134, u58_135, u58_138, u58_139, u58_140, u58_143, u58_144, u58_145, u58_148, u58_151, u58_154, o 14 (by decide), oo, d1, d2, mj_rf_some, mj_rf14, q, mj_cc_v, mj_cc_n, List.all_cons, List.all_nil, mj_noMk_int, mj_noMk_long, mj_noMk_ref, mj_noMk_junk, List.length_nil, List.length_cons, Nat.zero_le, Nat.reduceLeDiff, Nat.reduceAdd, Bool.and_true, Bool.true_and, Bool.and_self, Nat.reduceBNe, true_or, or_true, true_and, and_true, mj_z0, mj_z1, mj_z01, decide_true, decide_false, Bool.true_and, Bool.false_and, Bool.and_true, Bool.and_false, Bool.true_or, Bool.false_or, Bool.or_false, Bool.or_true, Bool.not_true, Bool.not_false, Bool.and_self, Bool.or_self, if_true, if_false, Bool.true_eq_false, Bool.false_eq_true, not_true, not_false_eq_true]
    | succ j ih =>
      intro k hk
      have hk9 : k < 9 := by omega
      have q : nI k < nI N := nI_lt (by omega) (by omega)
      have hi := ih (k + 1) (by omega)
      have o : ∀ c, c < 46 → (mj_fpR σ k).1 c = σ.1 c := fun c hc => mj_fpS_o (by omega) (by omega)
      have o46 : ∀ i, i ≠ 5 → i ≠ 6 → (mj_fpR σ k).1 46 i = σ.1 46 i := fun i h h2 => mj_fpS_46 h h2
      have oo : (mj_fpR σ k).2 = σ.2 := rfl
      have r5 : (mj_fpR σ k).1 46 5 = nI (mj_plL σ k).length := rfl
      have r6 : (mj_fpR σ k).1 46 6 = nI (mj_stn σ (mj_plL σ k)) := rfl
      have hm : mj_ev X (d + 2) 59 [.ref 46, .int (nI k)] (mj_fpR σ k) = some (some (.int (mj_z (mj_b (σ.1 46 1) k))), mj_fpR σ k) := by
        rw [← o46 1 (by decide) (by decide)]
        exact sp_isMeant (d := d + 1) (by omega)
      have hw : mj_ev X (d + 2) 37 [.ref 14, .int (nI k)] (mj_fpR σ k) = some (some (.int (mj_z (mj_wk (σ.1 15 k)))), mj_fpR σ k) := by
        rw [← o 15 (by decide)]
        exact mj_isw (d := d) (by rw [o 14 (by decide)]; exact d2) d3 (by omega)
      have hs : mj_ev X (d + 2) 60 [.ref 46, .int (nI k), .int (σ.1 46 7), .int (nI w)] (mj_fpR σ k) = some (some (.int (mj_stg σ k (σ.1 46 7) (nI w))), mj_fpR σ k) := by
        rw [← mj_stg_o (o 20 (by decide)) (o 21 (by decide)) (o 28 (by decide)) (o46 2 (by decide) (by decide)) (o46 3 (by decide) (by decide))]
        exact sp_standing (d := d) d1 hk9 (by rw [o 20 (by decide)]; exact d8 k hk9)
      have hlen : (mj_plL σ k).length ≤ 6 := by
        have h := mj_plL_le (σ := σ) (k := k) (j := j + 1)
        rw [hk] at h
        omega
      have skip : mj_plq σ k = false → mj_fpR σ (k + 1) = mj_fpR σ k := by
        intro hq
        unfold mj_fpR
        rw [mj_plL_s, if_neg (by rw [hq]; decide)]
      refine u58_12.mpr ?_
      by_cases c6 : (mj_plL σ k).length < 6
      · have q6 : nI (mj_plL σ k).length < 6 := nI_lt (b := 6) c6 (by decide)
        have eq : mj_plq σ k = (mj_b (σ.1 46 1) k && (mj_wk (σ.1 15 k) && (decide (0 < σ.1 25 k) && (decide (¬ σ.1 17 k < nI w) && decide (¬ mj_stg σ k (σ.1 46 7) (nI w) = 0))))) := by
          unfold mj_plq
          rw [d4]
        cases c1 : mj_b (σ.1 46 1) k
        · rw [c1] at hm eq
          rw [skip (by rw [eq]; rfl)] at hi
          simp only [u58_0, u58_1, u58_2, u58_5, u58_6, u58_7, u58_10, u58_11, u58_13, u58_14, u58_17, u58_20, u58_23, u58_24, u58_27, u58_29, u58_32, u58_33, u58_34, u58_37, u58_40, u58_41, u58_44, u58_45, u58_48, u58_51, u58_52, u58_55, u58_58, u58_59, u58_60, u58_63, u58_64, u58_67, u58_70, u58_71, u58_72, u58_73, u58_76, u58_79, u58_82, u58_83, u58_84, u58_85, u58_88, u58_89, u58_92, u58_95, u58_98, u58_101, u58_102, u58_105, u58_106, u58_109, u58_110, u58_111, u58_112, u58_113, u58_116, u58_117, u58_120, u58_123, u58_124, u58_125, u58_126, u58_127, u58_128, u58_129, u58_132, u58_133, u58_134, u58_135, u58_138, u58_139, u58_140, u58_143, u58_144, u58_145, u58_148, u58_151, u58_154, o 14 (by decide), oo, d1, d2, mj_rf_some, mj_rf14, q, r5, q6, hm, mj_zF, nI_1, mj_cc_v, mj_cc_n, List.all_cons, List.all_nil, mj_noMk_int, mj_noMk_long, mj_noMk_ref, mj_noMk_junk, List.length_nil, List.length_cons, Nat.zero_le, Nat.reduceLeDiff, Nat.reduceAdd, Bool.and_true, Bool.true_and, Bool.and_self, Nat.reduceBNe, true_or, or_true, true_and, and_true, mj_z0, mj_z1, mj_z01, decide_true, decide_false, Bool.true_and, Bool.false_and, Bool.and_true, Bool.and_false, Bool.true_or, Bool.false_or, Bool.or_false, Bool.or_true, Bool.not_true, Bool.not_false, Bool.and_self, Bool.or_self, if_true, if_false, Bool.true_eq_false, Bool.false_eq_true, not_true, not_false_eq_true]
          exact hi
        · rw [c1] at hm eq
          cases c2 : mj_wk (σ.1 15 k)
          · rw [c2] at hw eq
            rw [skip (by rw [eq]; rfl)] at hi
            simp only [u58_0, u58_1, u58_2, u58_5, u58_6, u58_7, u58_10, u58_11, u58_13, u58_14, u58_17, u58_20, u58_23, u58_24, u58_27, u58_29, u58_32, u58_33, u58_34, u58_37, u58_40, u58_41, u58_44, u58_45, u58_48, u58_51, u58_52, u58_55, u58_58, u58_59, u58_60, u58_63, u58_64, u58_67, u58_70, u58_71, u58_72, u58_73, u58_76, u58_79, u58_82, u58_83, u58_84, u58_85, u58_88, u58_89, u58_92, u58_95, u58_98, u58_101, u58_102, u58_105, u58_106, u58_109, u58_110, u58_111, u58_112, u58_113, u58_116, u58_117, u58_120, u58_123, u58_124, u58_125, u58_126, u58_127, u58_128, u58_129, u58_132, u58_133, u58_134, u58_135, u58_138, u58_139, u58_140, u58_143, u58_144, u58_145, u58_148, u58_151, u58_154, o 14 (by decide), oo, d1, d2, mj_rf_some, mj_rf14, q, r5, q6, hm, hw, mj_zF, mj_zT, mj_n10, nI_1, mj_cc_v, mj_cc_n, List.all_cons, List.all_nil, mj_noMk_int, mj_noMk_long, mj_noMk_ref, mj_noMk_junk, List.length_nil, List.length_cons, Nat.zero_le, Nat.reduceLeDiff, Nat.reduceAdd, Bool.and_true, Bool.true_and, Bool.and_self, Nat.reduceBNe, true_or, or_true, true_and, and_true, mj_z0, mj_z1, mj_z01, decide_true, decide_false, Bool.true_and, Bool.false_and, Bool.and_true, Bool.and_false, Bool.true_or, Bool.false_or, Bool.or_false, Bool.or_true, Bool.not_true, Bool.not_false, Bool.and_self, Bool.or_self, if_true, if_false, Bool.true_eq_false, Bool.false_eq_true, not_true, not_false_eq_true]
            exact hi
          · rw [c2] at hw eq
            by_cases c3 : 0 < σ.1 25 k
            · by_cases c4 : σ.1 17 k < nI w
              · rw [decide_eq_true c3, decide_eq_false (fun z => z c4)] at eq
                rw [skip (by rw [eq]; rfl)] at hi
                simp only [u58_0, u58_1, u58_2, u58_5, u58_6, u58_7, u58_10, u58_11, u58_13, u58_14, u58_17, u58_20, u58_23, u58_24, u58_27, u58_29, u58_32, u58_33, u58_34, u58_37, u58_40, u58_41, u58_44, u58_45, u58_48, u58_51, u58_52, u58_55, u58_58, u58_59, u58_60, u58_63, u58_64, u58_67, u58_70, u58_71, u58_72, u58_73, u58_76, u58_79, u58_82, u58_83, u58_84, u58_85, u58_88, u58_89, u58_92, u58_95, u58_98, u58_101, u58_102, u58_105, u58_106, u58_109, u58_110, u58_111, u58_112, u58_113, u58_116, u58_117, u58_120, u58_123, u58_124, u58_125, u58_126, u58_127, u58_128, u58_129, u58_132, u58_133, u58_134, u58_135, u58_138, u58_139, u58_140, u58_143, u58_144, u58_145, u58_148, u58_151, u58_154, o 14 (by decide), o 25 (by decide), o 17 (by decide), oo, d1, d2, d4, mj_rf_some, mj_rf14, q, r5, q6, hm, hw, mj_zT, mj_n10, mj_in_nI hk9 (by decide), mj_nz9 hk9 (by decide), eq_true c3, eq_true c4, nI_1, mj_cc_v, mj_cc_n, List.all_cons, List.all_nil, mj_noMk_int, mj_noMk_long, mj_noMk_ref, mj_noMk_junk, List.length_nil, List.length_cons, Nat.zero_le, Nat.reduceLeDiff, Nat.reduceAdd, Bool.and_true, Bool.true_and, Bool.and_self, Nat.reduceBNe, true_or, or_true, true_and, and_true, mj_z0, mj_z1, mj_z01, decide_true, decide_false, Bool.true_and, Bool.false_and, Bool.and_true, Bool.and_false, Bool.true_or, Bool.false_or, Bool.or_false, Bool.or_true, Bool.not_true, Bool.not_false, Bool.and_self, Bool.or_self, if_true, if_false, Bool.true_eq_false, Bool.false_eq_true, not_true, not_false_eq_true]
                exact hi
              · by_cases c5 : mj_stg σ k (σ.1 46 7) (nI w) = 0
                · rw [decide_eq_true c3, decide_eq_true c4, decide_eq_false (fun z => z c5)] at eq
                  rw [skip (by rw [eq]; rfl)] at hi
                  simp only [u58_0, u58_1, u58_2, u58_5, u58_6, u58_7, u58_10, u58_11, u58_13, u58_14, u58_17, u58_20, u58_23, u58_24, u58_27, u58_29, u58_32, u58_33, u58_34, u58_37, u58_40, u58_41, u58_44, u58_45, u58_48, u58_51, u58_52, u58_55, u58_58, u58_59, u58_60, u58_63, u58_64, u58_67, u58_70, u58_71, u58_72, u58_73, u58_76, u58_79, u58_82, u58_83, u58_84, u58_85, u58_88, u58_89, u58_92, u58_95, u58_98, u58_101, u58_102, u58_105, u58_106, u58_109, u58_110, u58_111, u58_112, u58_113, u58_116, u58_117, u58_120, u58_123, u58_124, u58_125, u58_126, u58_127, u58_128, u58_129, u58_132, u58_133, u58_134, u58_135, u58_138, u58_139, u58_140, u58_143, u58_144, u58_145, u58_148, u58_151, u58_154, o 14 (by decide), o 25 (by decide), o 17 (by decide), o46 7 (by decide) (by decide), oo, d1, d2, d4, mj_rf_some, mj_rf14, q, r5, q6, hm, hw, hs, mj_zT, mj_n10, mj_in_nI hk9 (by decide), mj_nz9 hk9 (by decide), eq_true c3, eq_false c4, eq_true c5, nI_1, mj_cc_v, mj_cc_n, List.all_cons, List.all_nil, mj_noMk_int, mj_noMk_long, mj_noMk_ref, mj_noMk_junk, List.length_nil, List.length_cons, Nat.zero_le, Nat.reduceLeDiff, Nat.reduceAdd, Bool.and_true, Bool.true_and, Bool.and_self, Nat.reduceBNe, true_or, or_true, true_and, and_true, mj_z0, mj_z1, mj_z01, decide_true, decide_false, Bool.true_and, Bool.false_and, Bool.and_true, Bool.and_false, Bool.true_or, Bool.false_or, Bool.or_false, Bool.or_true, Bool.not_true, Bool.not_false, Bool.and_self, Bool.or_self, if_true, if_false, Bool.true_eq_false, Bool.false_eq_true, not_true, not_false_eq_true]
                  exact hi
                · rw [decide_eq_true c3, decide_eq_true c4, decide_eq_true c5] at eq
                  have hq : mj_plq σ k = true := by rw [eq]; rfl
                  obtain ⟨l, hl4, el⟩ := hl k (by omega) c2
                  have lt := mj_stn_lt (σ := σ) (mj_plL σ k)
                  have p4 : 4 ^ (mj_plL σ k).length ≤ 4 ^ 5 := Nat.pow_le_pow_right (by decide) (by omega)
                  have e3 : nI l &&& 3 = nI l := by
                    have : l = 0 ∨ l = 1 ∨ l = 2 ∨ l = 3 := by omega
                    rcases this with z | z | z | z <;> subst z <;> decide
                  have ecl : (σ.1 25 k).toNatClampNeg % 4 = l := by
                    rw [el, nI_clamp (by omega), Nat.mod_eq_of_lt hl4]
                  have lp : l * 4 ^ (mj_plL σ k).length ≤ 3 * 4 ^ 5 := Nat.mul_le_mul (by omega) p4
                  have e4 : nI l <<< (((2 : Int32) * nI (mj_plL σ k).length) &&& 31) = nI (l * 4 ^ (mj_plL σ k).length) := by
                    rw [mj_n2, mj_nI_shl (by omega) (by rw [Nat.pow_mul]; show l * 4 ^ (mj_plL σ k).length < 2 ^ 31; omega), Nat.pow_mul]
                  have e5 : nI (mj_stn σ (mj_plL σ k)) ||| nI (l * 4 ^ (mj_plL σ k).length) = nI (mj_stn σ (mj_plL σ k ++ [k])) := by
                    rw [mj_nI_or (by omega) (by omega), mj_or_add lt, mj_stn_app, ecl]
                  have fin : mj_fpR σ (k + 1) = mj_fpS σ (mj_ud (mj_nmf (σ.1 47) (mj_plL σ k)) (mj_plL σ k).length (nI k)) (nI ((mj_plL σ k).length + 1)) (nI (mj_stn σ (mj_plL σ k ++ [k]))) := by
                    unfold mj_fpR
                    rw [mj_plL_s, if_pos hq, mj_nmf_s, List.length_append]
                    rfl
                  rw [fin] at hi
                  have u1 : ∀ (f : Nat → Int32) (a b : Int32) (c : Nat), c < 46 → (mj_fpS σ f a b).1 c = σ.1 c := fun f a b c hc => mj_fpS_o (by omega) (by omega)
                  have u2 : ∀ (f : Nat → Int32) (a b : Int32), (mj_fpS σ f a b).2 = σ.2 := fun f a b => rfl
                  have eR : mj_fpR σ k = mj_fpS σ (mj_nmf (σ.1 47) (mj_plL σ k)) (nI (mj_plL σ k).length) (nI (mj_stn σ (mj_plL σ k))) := rfl
                  simp only [u58_0, u58_1, u58_2, u58_5, u58_6, u58_7, u58_10, u58_11, u58_13, u58_14, u58_17, u58_20, u58_23, u58_24, u58_27, u58_29, u58_32, u58_33, u58_34, u58_37, u58_40, u58_41, u58_44, u58_45, u58_48, u58_51, u58_52, u58_55, u58_58, u58_59, u58_60, u58_63, u58_64, u58_67, u58_70, u58_71, u58_72, u58_73, u58_76, u58_79, u58_82, u58_83, u58_84, u58_85, u58_88, u58_89, u58_92, u58_95, u58_98, u58_101, u58_102, u58_105, u58_106, u58_109, u58_110, u58_111, u58_112, u58_113, u58_116, u58_117, u58_120, u58_123, u58_124, u58_125, u58_126, u58_127, u58_128, u58_129, u58_132, u58_133, u58_134, u58_135, u58_138, u58_139, u58_140, u58_143, u58_144, u58_145, u58_148, u58_151, u58_154, o 14 (by decide), o 25 (by decide), o 17 (by decide), o46 7 (by decide) (by decide), oo, d1, d2, d4, mj_rf_some, mj_rf14, q, r5, q6, hm, hw, hs, mj_zT, mj_n10, mj_in_nI hk9 (by decide), mj_nz9 hk9 (by decide), eq_true c3, eq_false c4, eq_false c5, mj_in_nI c6 (by decide), mj_nz9 c6 (by decide), mj_cc_v, mj_cc_n, List.all_cons, List.all_nil, mj_noMk_int, mj_noMk_long, mj_noMk_ref, mj_noMk_junk, List.length_nil, List.length_cons, Nat.zero_le, Nat.reduceLeDiff, Nat.reduceAdd, Bool.and_true, Bool.true_and, Bool.and_self, Nat.reduceBNe, true_or, or_true, true_and, and_true, mj_z0, mj_z1, mj_z01, decide_true, decide_false, Bool.true_and, Bool.false_and, Bool.and_true, Bool.and_false, Bool.true_or, Bool.false_or, Bool.or_false, Bool.or_true, Bool.not_true, Bool.not_false, Bool.and_self, Bool.or_self, if_true, if_false, Bool.true_eq_false, Bool.false_eq_true, not_true, not_false_eq_true]
                  simp only [u58_0, u58_1, u58_2, u58_5, u58_6, u58_7, u58_10, u58_11, u58_13, u58_14, u58_17, u58_20, u58_23, u58_24, u58_27, u58_29, u58_32, u58_33, u58_34, u58_37, u58_40, u58_41, u58_44, u58_45, u58_48, u58_51, u58_52, u58_55, u58_58, u58_59, u58_60, u58_63, u58_64, u58_67, u58_70, u58_71, u58_72, u58_73, u58_76, u58_79, u58_82, u58_83, u58_84, u58_85, u58_88, u58_89, u58_92, u58_95, u58_98, u58_101, u58_102, u58_105, u58_106, u58_109, u58_110, u58_111, u58_112, u58_113, u58_116, u58_117, u58_120, u58_123, u58_124, u58_125, u58_126, u58_127, u58_128, u58_129, u58_132, u58_133, u58_134, u58_135, u58_138, u58_139, u58_140, u58_143, u58_144, u58_145, u58_148, u58_151, u58_154, mj_in_nI hk9 (by decide), mj_nz9 hk9 (by decide), eR, mj_fpS_47, mj_fpS_6, mj_fpS_5, mj_fpS_r5, mj_fpS_r6, u1 _ _ _ 25 (by decide), u2, d1, mj_rf_some, mj_rf14, mj_noMk_ref, el, e3, e4, e5, nI_1, mj_cc_v, mj_cc_n, List.all_cons, List.all_nil, mj_noMk_int, mj_noMk_long, mj_noMk_ref, mj_noMk_junk, List.length_nil, List.length_cons, Nat.zero_le, Nat.reduceLeDiff, Nat.reduceAdd, Bool.and_true, Bool.true_and, Bool.and_self, Nat.reduceBNe, true_or, or_true, true_and, and_true, mj_z0, mj_z1, mj_z01, decide_true, decide_false, Bool.true_and, Bool.false_and, Bool.and_true, Bool.and_false, Bool.true_or, Bool.false_or, Bool.or_false, Bool.or_true, Bool.not_true, Bool.not_false, Bool.and_self, Bool.or_self, if_true, if_false, Bool.true_eq_false, Bool.false_eq_true, not_true, not_false_eq_true]
                  exact hi
            · rw [decide_eq_false c3] at eq
              rw [skip (by rw [eq]; rfl)] at hi
              simp only [u58_0, u58_1, u58_2, u58_5, u58_6, u58_7, u58_10, u58_11, u58_13, u58_14, u58_17, u58_20, u58_23, u58_24, u58_27, u58_29, u58_32, u58_33, u58_34, u58_37, u58_40, u58_41, u58_44, u58_45, u58_48, u58_51, u58_52, u58_55, u58_58, u58_59, u58_60, u58_63, u58_64, u58_67, u58_70, u58_71, u58_72, u58_73, u58_76, u58_79, u58_82, u58_83, u58_84, u58_85, u58_88, u58_89, u58_92, u58_95, u58_98, u58_101, u58_102, u58_105, u58_106, u58_109, u58_110, u58_111, u58_112, u58_113, u58_116, u58_117, u58_120, u58_123, u58_124, u58_125, u58_126, u58_127, u58_128, u58_129, u58_132, u58_133, u58_134, u58_135, u58_138, u58_139, u58_140, u58_143, u58_144, u58_145, u58_148, u58_151, u58_154, o 14 (by decide), o 25 (by decide), o 17 (by decide), oo, d1, d2, mj_rf_some, mj_rf14, q, r5, q6, hm, hw, mj_zT, mj_n10, mj_in_nI hk9 (by decide), mj_nz9 hk9 (by decide), eq_false c3, nI_1, mj_cc_v, mj_cc_n, List.all_cons, List.all_nil, mj_noMk_int, mj_noMk_long, mj_noMk_ref, mj_noMk_junk, List.length_nil, List.length_cons, Nat.zero_le, Nat.reduceLeDiff, Nat.reduceAdd, Bool.and_true, Bool.true_and, Bool.and_self, Nat.reduceBNe, true_or, or_true, true_and, and_true, mj_z0, mj_z1, mj_z01, decide_true, decide_false, Bool.true_and, Bool.false_and, Bool.and_true, Bool.and_false, Bool.true_or, Bool.false_or, Bool.or_false, Bool.or_true, Bool.not_true, Bool.not_false, Bool.and_self, Bool.or_self, if_true, if_false, Bool.true_eq_false, Bool.false_eq_true, not_true, not_false_eq_true]
              exact hi
      · have q6 : ¬ nI (mj_plL σ k).length < 6 := nI_nlt (b := 6) (by omega) (by omega)
        have e : mj_plL σ N = mj_plL σ k := by
          have h := mj_plL_eq (σ := σ) (k := k) (j := j + 1) (by rw [hk]; omega)
          rw [hk] at h
          exact h
        have e2 : mj_fpR σ N = mj_fpR σ k := by
          unfold mj_fpR
          rw [e]
        rw [e2]
        simp only [u58_0, u58_1, u58_2, u58_5, u58_6, u58_7, u58_10, u58_11, u58_13, u58_14, u58_17, u58_20, u58_23, u58_24, u58_27, u58_29, u58_32, u58_33, u58_34, u58_37, u58_40, u58_41, u58_44, u58_45, u58_48, u58_51, u58_52, u58_55, u58_58, u58_59, u58_60, u58_63, u58_64, u58_67, u58_70, u58_71, u58_72, u58_73, u58_76, u58_79, u58_82, u58_83, u58_84, u58_85, u58_88, u58_89, u58_92, u58_95, u58_98, u58_101, u58_102, u58_105, u58_106, u58_109, u58_110, u58_111, u58_112, u58_113, u58_116, u58_117, u58_120, u58_123, u58_124, u58_125, u58_126, u58_127, u58_128, u58_129, u58_132, u58_133, u58_134, u58_135, u58_138, u58_139, u58_140, u58_143, u58_144, u58_145, u58_148, u58_151, u58_154, o 14 (by decide), oo, d1, d2, mj_rf_some, mj_rf14, q, r5, q6, mj_cc_v, mj_cc_n, List.all_cons, List.all_nil, mj_noMk_int, mj_noMk_long, mj_noMk_ref, mj_noMk_junk, List.length_nil, List.length_cons, Nat.zero_le, Nat.reduceLeDiff, Nat.reduceAdd, Bool.and_true, Bool.true_and, Bool.and_self, Nat.reduceBNe, true_or, or_true, true_and, and_true, mj_z0, mj_z1, mj_z01, decide_true, decide_false, Bool.true_and, Bool.false_and, Bool.and_true, Bool.and_false, Bool.true_or, Bool.false_or, Bool.or_false, Bool.or_true, Bool.not_true, Bool.not_false, Bool.and_self, Bool.or_self, if_true, if_false, Bool.true_eq_false, Bool.false_eq_true, not_true, not_false_eq_true]
  refine st58 ?_
  have h0 := loop N 0 (by omega)
  have e0 : mj_fpR σ 0 = mj_setI (mj_setI σ 46 5 0) 46 6 0 := by
    rw [mj_fpS_0]
    rfl
  rw [e0] at h0
  simp only [u58_0, u58_1, u58_2, u58_5, u58_6, u58_7, u58_10, u58_11, u58_13, u58_14, u58_17, u58_20, u58_23, u58_24, u58_27, u58_29, u58_32, u58_33, u58_34, u58_37, u58_40, u58_41, u58_44, u58_45, u58_48, u58_51, u58_52, u58_55, u58_58, u58_59, u58_60, u58_63, u58_64, u58_67, u58_70, u58_71, u58_72, u58_73, u58_76, u58_79, u58_82, u58_83, u58_84, u58_85, u58_88, u58_89, u58_92, u58_95, u58_98, u58_101, u58_102, u58_105, u58_106, u58_109, u58_110, u58_111, u58_112, u58_113, u58_116, u58_117, u58_120, u58_123, u58_124, u58_125, u58_126, u58_127, u58_128, u58_129, u58_132, u58_133, u58_134, u58_135, u58_138, u58_139, u58_140, u58_143, u58_144, u58_145, u58_148, u58_151, u58_154, mj_cc_v, mj_cc_n, List.all_cons, List.all_nil, mj_noMk_int, mj_noMk_long, mj_noMk_ref, mj_noMk_junk, List.length_nil, List.length_cons, Nat.zero_le, Nat.reduceLeDiff, Nat.reduceAdd, Bool.and_true, Bool.true_and, Bool.and_self, Nat.reduceBNe, true_or, or_true, true_and, and_true, mj_z0, mj_z1, mj_z01, decide_true, decide_false, Bool.true_and, Bool.false_and, Bool.and_true, Bool.and_false, Bool.true_or, Bool.false_or, Bool.or_false, Bool.or_true, Bool.not_true, Bool.not_false, Bool.and_self, Bool.or_self, if_true, if_false, Bool.true_eq_false, Bool.false_eq_true, not_true, not_false_eq_true]
  exact h0
end
