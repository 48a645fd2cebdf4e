section
variable {X : mj_X} {d : Nat} {σ τ ρ : mj_St}
theorem mj_Mw_in {s : Int32} (h : ¬ mj_Mw σ s = 0) : mj_inb (-(mj_Mw σ s)) 8 = true := by
  unfold mj_Mw at h ⊢
  split
  · split
    · decide
    · split
      · decide
      · rename_i h1 h2 h3
        rw [if_pos h1, if_neg h2, if_neg h3] at h
        exact absurd rfl h
  · decide
theorem mj_Mw_inb {s : Int32} (h : mj_Mw σ s = 0) : mj_inb s 8 = true := by
  unfold mj_Mw at h
  by_cases c : mj_inb s 8 = true
  · exact c
  · rw [if_neg c] at h
    exact absurd h (by decide)
theorem sp_M_noA {w : Int32} (h : mj_inb (-w) 8 = true) : mj_ev X (d + 1) 158 [.ref 61, .int w] σ = some (some (.int w), mj_rfM σ w) := sp_M_no h
theorem mj_tby_or {s e : Nat} : mj_tby σ s e = 0 ∨ mj_tby σ s e = -6 := by
  unfold mj_tby
  split
  · exact Or.inl rfl
  · exact Or.inr rfl
theorem mj_tby_ok {s e : Nat} (h : mj_tby σ s e = 0) : (mj_rtx σ s e).1 = true ∧ ¬ (mj_rtx σ s e).2.2 34 < σ.1 61 1 := by
  unfold mj_tby at h
  by_cases c : (mj_rtx σ s e).1 = true ∧ ¬ (mj_rtx σ s e).2.2 34 < σ.1 61 1
  · exact c
  · rw [if_neg c] at h
    exact absurd h (by decide)
-- promise
theorem sp_M_promise_no {s : Int32} (hw : ¬ mj_Mw σ s = 0) : mj_ev X (d + 4) 166 [.ref 61, .int s] σ = some (some (.int (mj_Mw σ s)), mj_rfM σ (mj_Mw σ s)) := by
  have ht := sp_M_text_no (X := X) (d := d) hw
  have hn := sp_M_noA (X := X) (d := d + 2) (σ := σ) (mj_Mw_in hw)
  refine st166 ?_
  simp only [u166_0, u166_1, u166_2, u166_5, u166_6, u166_7, u166_10, u166_11, u166_12, u166_15, u166_16, u166_17, u166_20, u166_23, u166_24, u166_26, u166_29, u166_30, u166_31, u166_34, u166_35, u166_38, u166_39, u166_40, ht, hn, hw, mj_cc_v, mj_cc_n, List.all_cons, List.all_nil, mj_noMk_int, mj_noMk_long, mj_noMk_ref, mj_noMk_junk, List.length_nil, List.length_cons, Nat.zero_le, Nat.reduceLeDiff, Nat.reduceAdd, Bool.and_true, Bool.true_and, Bool.and_self, Nat.reduceBNe, true_or, or_true, true_and, and_true, mj_z0, mj_z1, mj_z01, decide_true, decide_false, Bool.true_and, Bool.false_and, Bool.and_true, Bool.and_false, Bool.true_or, Bool.false_or, Bool.or_false, Bool.or_true, Bool.not_true, Bool.not_false, Bool.and_self, Bool.or_self, if_true, if_false, Bool.true_eq_false, Bool.false_eq_true, not_true, not_false_eq_true]
theorem sp_M_promise {N s e : Nat} (hs : s < 8) (hw : mj_Mw σ (nI s) = 0) (hsz : σ.1 80 s = nI e) (he : e ≤ 60) (hN : σ.1 61 0 = nI N) (h9 : N ≤ 9) : ∃ ρ, mj_Fx mj_TF σ ρ ∧ ρ.1 61 3 = mj_tft σ s e ∧ ((mj_rtx σ s e).1 = true → ∀ i, 33 ≤ i → i ≤ 43 → ρ.1 61 i = (mj_rtx σ s e).2.2 i) ∧ ∀ d, mj_ev X (d + 7) 166 [.ref 61, .int (nI s)] σ = some (if mj_tby σ s e = 0 then (if mj_rm ρ N = true then (some (.int (nI N)), mj_adM ρ N) else (some (.int (-7)), mj_rfM ρ (-7))) else (some (.int (-6)), mj_rfM ρ (-6))) := by
  obtain ⟨ρ, F, q3, qf, ht⟩ := sp_M_text (X := X) hs hw hsz he (by rw [hN, nI_toInt (by omega)]; omega)
  refine ⟨ρ, F, q3, qf, fun d => ?_⟩
  have htd := ht d
  have hNρ : ρ.1 61 0 = nI N := by rw [F.2.2 0 (by decide)]; exact hN
  have hir : mj_ev X (d + 6) 180 [.ref 61] ρ = some (some (.int (mj_z (mj_rm ρ N))), ρ) := sp_M_isRoom (d := d + 3) hNρ h9
  have h7 : mj_ev X (d + 6) 158 [.ref 61, .int (-7)] ρ = some (some (.int (-7)), mj_rfM ρ (-7)) := sp_no7 (d := d + 5)
  have h6 : mj_ev X (d + 6) 158 [.ref 61, .int (-6)] ρ = some (some (.int (-6)), mj_rfM ρ (-6)) := sp_no6 (d := d + 5)
  rcases mj_tby_or (σ := σ) (s := s) (e := e) with c | c
  · rw [c] at htd
    rw [if_pos c]
    rcases (Bool.eq_false_or_eq_true (mj_rm ρ N)).symm with c2 | c2
    · rw [c2] at hir
      rw [if_neg (by rw [c2]; decide)]
      refine st166 ?_
      simp only [u166_0, u166_1, u166_2, u166_5, u166_6, u166_7, u166_10, u166_11, u166_12, u166_15, u166_16, u166_17, u166_20, u166_23, u166_24, u166_26, u166_29, u166_30, u166_31, u166_34, u166_35, u166_38, u166_39, u166_40, htd, hir, h7, mj_zF, mj_cc_v, mj_cc_n, List.all_cons, List.all_nil, mj_noMk_int, mj_noMk_long, mj_noMk_ref, mj_noMk_junk, List.length_nil, List.length_cons, Nat.zero_le, Nat.reduceLeDiff, Nat.reduceAdd, Bool.and_true, Bool.true_and, Bool.and_self, Nat.reduceBNe, true_or, or_true, true_and, and_true, mj_z0, mj_z1, mj_z01, decide_true, decide_false, Bool.true_and, Bool.false_and, Bool.and_true, Bool.and_false, Bool.true_or, Bool.false_or, Bool.or_false, Bool.or_true, Bool.not_true, Bool.not_false, Bool.and_self, Bool.or_self, if_true, if_false, Bool.true_eq_false, Bool.false_eq_true, not_true, not_false_eq_true]
    · rw [c2] at hir
      rw [if_pos c2]
      have hN9 : N < 9 := by
        unfold mj_rm at c2
        simp only [Bool.and_eq_true, decide_eq_true_eq] at c2
        exact c2.1
      have had : mj_ev X (d + 6) 182 [.ref 61] ρ = some (none, mj_adM ρ N) := sp_M_adds (d := d + 5) hNρ hN9
      have e0 : (mj_adM ρ N).1 61 0 = nI (N + 1) := mj_adM_0
      have e1 : nI (N + 1) - 1 = nI N := by
        show nI (N + 1) - nI 1 = nI N
        rw [mj_nI_sub (by omega)]
        rfl
      refine st166 ?_
      simp only [u166_0, u166_1, u166_2, u166_5, u166_6, u166_7, u166_10, u166_11, u166_12, u166_15, u166_16, u166_17, u166_20, u166_23, u166_24, u166_26, u166_29, u166_30, u166_31, u166_34, u166_35, u166_38, u166_39, u166_40, htd, hir, had, e0, e1, mj_n10, mj_zT, mj_cc_v, mj_cc_n, List.all_cons, List.all_nil, mj_noMk_int, mj_noMk_long, mj_noMk_ref, mj_noMk_junk, List.length_nil, List.length_cons, Nat.zero_le, Nat.reduceLeDiff, Nat.reduceAdd, Bool.and_true, Bool.true_and, Bool.and_self, Nat.reduceBNe, true_or, or_true, true_and, and_true, mj_z0, mj_z1, mj_z01, decide_true, decide_false, Bool.true_and, Bool.false_and, Bool.and_true, Bool.and_false, Bool.true_or, Bool.false_or, Bool.or_false, Bool.or_true, Bool.not_true, Bool.not_false, Bool.and_self, Bool.or_self, if_true, if_false, Bool.true_eq_false, Bool.false_eq_true, not_true, not_false_eq_true]
  · rw [c] at htd
    have c' : ¬ mj_tby σ s e = 0 := by rw [c]; decide
    have n6 : ¬ (-6 : Int32) = 0 := by decide
    rw [if_neg c']
    refine st166 ?_
    simp only [u166_0, u166_1, u166_2, u166_5, u166_6, u166_7, u166_10, u166_11, u166_12, u166_15, u166_16, u166_17, u166_20, u166_23, u166_24, u166_26, u166_29, u166_30, u166_31, u166_34, u166_35, u166_38, u166_39, u166_40, htd, h6, n6, mj_cc_v, mj_cc_n, List.all_cons, List.all_nil, mj_noMk_int, mj_noMk_long, mj_noMk_ref, mj_noMk_junk, List.length_nil, List.length_cons, Nat.zero_le, Nat.reduceLeDiff, Nat.reduceAdd, Bool.and_true, Bool.true_and, Bool.and_self, Nat.reduceBNe, true_or, or_true, true_and, and_true, mj_z0, mj_z1, mj_z01, decide_true, decide_false, Bool.true_and, Bool.false_and, Bool.and_true, Bool.and_false, Bool.true_or, Bool.false_or, Bool.or_false, Bool.or_true, Bool.not_true, Bool.not_false, Bool.and_self, Bool.or_self, if_true, if_false, Bool.true_eq_false, Bool.false_eq_true, not_true, not_false_eq_true]
-- what searches don't change
theorem mj_Fq_Mall {N w : Nat} (F : mj_Fq σ τ) : mj_Mall τ N w = mj_Mall σ N w := by
  unfold mj_Mall
  rw [mj_Fq_Mls F, mj_Fq_evy F, mj_Fq_lvn F, mj_Fq_Mkb F, F.2.2 2 (by decide) (by decide) (by decide) (by decide) (by decide) (by decide)]
  have h1 : (mj_cnS τ N).1 61 1 = (mj_cnS σ N).1 61 1 := by
    show τ.1 61 1 = σ.1 61 1
    exact F.2.2 1 (by decide) (by decide) (by decide) (by decide) (by decide) (by decide)
  rw [mj_Sm_Bs (mj_Fq_Sm F) h1]
theorem mj_Fq_rm {N : Nat} (F : mj_Fq σ τ) : mj_rm τ N = mj_rm σ N := by
  have e : mj_Mkn τ = mj_Mkn σ := by
    funext b n
    unfold mj_Mkn
    rw [F.2.1 65 (by decide) (by decide) (by decide) (by decide) (by decide)]
  unfold mj_rm
  rw [e, F.2.2 33 (by decide) (by decide) (by decide) (by decide) (by decide) (by decide)]
theorem mj_Fq_set {c i : Nat} {v : Int32} (F : mj_Fq σ τ) : mj_Fq (mj_setI σ c i v) (mj_setI τ c i v) := by
  refine ⟨F.1, fun c' a1 a2 a3 a4 a5 => ?_, fun i' b1 b2 b3 b4 b5 b6 => ?_⟩
  · funext j
    show (if c' = c ∧ j = i then v else τ.1 c' j) = if c' = c ∧ j = i then v else σ.1 c' j
    rw [F.2.1 c' a1 a2 a3 a4 a5]
  · show (if 61 = c ∧ i' = i then v else τ.1 61 i') = if 61 = c ∧ i' = i then v else σ.1 61 i'
    rw [F.2.2 i' b1 b2 b3 b4 b5 b6]
theorem mj_Fq_adM {N : Nat} (F : mj_Fq σ τ) : mj_Fq (mj_adM σ N) (mj_adM τ N) := by
  have e : ∀ i, 33 ≤ i → i ≤ 43 → τ.1 61 i = σ.1 61 i := fun i h1 h2 => F.2.2 i (by omega) (by omega) (by omega) (by omega) (by omega) (by omega)
  unfold mj_adM
  rw [e 33 (by decide) (by decide), e 34 (by decide) (by decide), e 35 (by decide) (by decide), e 36 (by decide) (by decide), e 37 (by decide) (by decide), e 38 (by decide) (by decide), e 39 (by decide) (by decide), e 40 (by decide) (by decide), e 41 (by decide) (by decide), e 42 (by decide) (by decide), e 43 (by decide) (by decide)]
  exact mj_Fq_set (mj_Fq_set (mj_Fq_set (mj_Fq_set (mj_Fq_set (mj_Fq_set (mj_Fq_set (mj_Fq_set (mj_Fq_set (mj_Fq_set (mj_Fq_set (mj_Fq_set (mj_Fq_set (mj_Fq_set F)))))))))))))
/-- the same below a place, but for scratch -/
def mj_Fy (N : Nat) (σ ρ : mj_St) : Prop := ρ.2 = σ.2 ∧ (∀ c i, c ≠ 61 → c ≠ 85 → c ≠ 86 → c ≠ 87 → c ≠ 88 → (i < N ∨ c < 65 ∨ 77 < c) → ρ.1 c i = σ.1 c i) ∧ ∀ i, i = 1 ∨ i = 2 ∨ i = 3 ∨ 59 ≤ i → ρ.1 61 i = σ.1 61 i
theorem mj_Fy_rf {N : Nat} : mj_Fy N σ σ := ⟨rfl, fun _ _ _ _ _ _ _ _ => rfl, fun _ _ => rfl⟩
theorem mj_Fy_tr {N : Nat} (h : mj_Fy N σ τ) (g : mj_Fy N τ ρ) : mj_Fy N σ ρ := ⟨g.1.trans h.1, fun c i a1 a2 a3 a4 a5 a6 => (g.2.1 c i a1 a2 a3 a4 a5 a6).trans (h.2.1 c i a1 a2 a3 a4 a5 a6), fun i a => (g.2.2 i a).trans (h.2.2 i a)⟩
theorem mj_Fy_le {N N' : Nat} (hN : N ≤ N') (h : mj_Fy N' σ τ) : mj_Fy N σ τ := ⟨h.1, fun c i a1 a2 a3 a4 a5 a6 => h.2.1 c i a1 a2 a3 a4 a5 (by omega), h.2.2⟩
theorem mj_Fy_Fq {N : Nat} (h : mj_Fq σ τ) : mj_Fy N σ τ := ⟨h.1, fun c i a1 a2 a3 a4 a5 _ => by rw [h.2.1 c a1 a2 a3 a4 a5], fun i a => h.2.2 i (by omega) (by omega) (by omega) (by omega) (by omega) (by omega)⟩
theorem mj_Fy_adM {N : Nat} : mj_Fy N σ (mj_adM σ N) := by
  refine ⟨rfl, fun c i a1 _ _ _ _ a6 => ?_, fun i a => mj_adM_i (by omega)⟩
  by_cases q : i = N
  · rw [mj_adM_c (by omega) a1]
  · exact mj_adM_k q a1
theorem mj_Fy_cut {N : Nat} {v : Int32} (h : mj_Fy N σ τ) : mj_Fy N σ (mj_setI τ 61 0 v) := by
  refine ⟨h.1, fun c i a1 a2 a3 a4 a5 a6 => ?_, fun i a => ?_⟩
  · rw [mj_setI_ne _ _ _ a1]
    exact h.2.1 c i a1 a2 a3 a4 a5 a6
  · rw [mj_setI_i (by omega)]
    exact h.2.2 i a
theorem mj_wkM_Fq (F : mj_Fq σ τ) : mj_wkM τ = mj_wkM σ := by
  funext v
  unfold mj_wkM
  rw [F.2.2 0 (by decide) (by decide) (by decide) (by decide) (by decide) (by decide), F.2.1 65 (by decide) (by decide) (by decide) (by decide) (by decide)]
theorem mj_Fok_mono {wk wk' : Int32 → Bool} {f : Nat → Int32} (h : ∀ v, wk v = true → wk' v = true) (hf : mj_Fok wk f) : mj_Fok wk' f := by
  obtain ⟨a1, a2, a3, a4, a5, a6, a7, a8⟩ := hf
  exact ⟨a1, a2, a3, a4, a5, a6, a7.imp id (h _), a8⟩
theorem mj_wkM_adM {N : Nat} (hN : σ.1 61 0 = nI N) (h9 : N < 9) {v : Int32} (h : mj_wkM σ v = true) : mj_wkM (mj_adM σ N) v = true := by
  unfold mj_wkM mj_lt0 at h ⊢
  simp only [Bool.and_eq_true, Bool.not_eq_true', decide_eq_true_eq, decide_eq_false_iff_not] at h ⊢
  obtain ⟨⟨h1, h2⟩, h3⟩ := h
  have q1 := mj_clamp h1
  rw [hN, Int32.lt_iff_toInt_lt, nI_toInt (by omega)] at h2
  refine ⟨⟨h1, ?_⟩, ?_⟩
  · rw [mj_adM_0, Int32.lt_iff_toInt_lt, nI_toInt (by omega)]
    omega
  · rw [mj_adM_k (by omega) (by decide)]
    exact h3
-- give
theorem sp_M_give_no {s : Int32} (hw : ¬ mj_Mw σ s = 0) : mj_ev X (d + 4) 231 [.ref 61, .int s] σ = some (some (.int (mj_Mw σ s)), mj_rfM σ (mj_Mw σ s)) := by
  have ht := sp_M_text_no (X := X) (d := d) hw
  have hn := sp_M_noA (X := X) (d := d + 2) (σ := σ) (mj_Mw_in hw)
  refine st231 ?_
  simp only [u231_0, u231_1, u231_2, u231_5, u231_6, u231_7, u231_10, u231_11, u231_12, u231_15, u231_16, u231_17, u231_20, u231_23, u231_24, u231_26, u231_29, u231_30, u231_31, u231_34, u231_35, u231_38, u231_39, u231_40, u231_41, u231_44, u231_45, u231_46, u231_49, u231_50, u231_53, u231_54, u231_57, u231_58, ht, hn, hw, mj_cc_v, mj_cc_n, List.all_cons, List.all_nil, mj_noMk_int, mj_noMk_long, mj_noMk_ref, mj_noMk_junk, List.length_nil, List.length_cons, Nat.zero_le, Nat.reduceLeDiff, Nat.reduceAdd, Bool.and_true, Bool.true_and, Bool.and_self, Nat.reduceBNe, true_or, or_true, true_and, and_true, mj_z0, mj_z1, mj_z01, decide_true, decide_false, Bool.true_and, Bool.false_and, Bool.and_true, Bool.and_false, Bool.true_or, Bool.false_or, Bool.or_false, Bool.or_true, Bool.not_true, Bool.not_false, Bool.and_self, Bool.or_self, if_true, if_false, Bool.true_eq_false, Bool.false_eq_true, not_true, not_false_eq_true]
theorem mj_sub1 {N : Nat} : nI (N + 1) - 1 = nI N := by
  show nI (N + 1) - nI 1 = nI N
  rw [mj_nI_sub (by omega)]
  rfl
theorem sp_M_give {N R w t s e : Nat} (hM : mj_Mst σ N R w t) (hR : R + 1 < 2147483648) (hs : s < 8) (hw : mj_Mw σ (nI s) = 0) (hsz : σ.1 80 s = nI e) (he : e ≤ 60) : ∃ ρ ρ', mj_Fx mj_TF σ ρ ∧ ρ.1 61 3 = mj_tft σ s e ∧ ((mj_rtx σ s e).1 = true → ∀ i, 33 ≤ i → i ≤ 43 → ρ.1 61 i = (mj_rtx σ s e).2.2 i) ∧ (mj_tby σ s e = 0 → mj_rm ρ N = true → mj_Fq (mj_adM ρ N) ρ' ∧ mj_Scr ρ' (R + 1)) ∧ ∀ d, mj_ev X (d + 30) 231 [.ref 61, .int (nI s)] σ = some (if mj_tby σ s e = 0 then (if mj_rm ρ N = true then (some (.int (mj_z (mj_Mall (mj_adM ρ N) (N + 1) w))), mj_setI ρ' 61 0 (nI N)) else (some (.int (-7)), mj_rfM ρ (-7))) else (some (.int (-6)), mj_rfM ρ (-6))) := by
  have hN := hM.1.1
  have h9 := hM.1.2.1
  obtain ⟨ρ, F, q3, qf, ht⟩ := sp_M_text (X := X) hs hw hsz he (by rw [hN, nI_toInt (by omega)]; omega)
  have hNρ : ρ.1 61 0 = nI N := by rw [F.2.2 0 (by decide)]; exact hN
  have hir : ∀ d, mj_ev X (d + 29) 180 [.ref 61] ρ = some (some (.int (mj_z (mj_rm ρ N))), ρ) := fun d => sp_M_isRoom (d := d + 26) hNρ h9
  have h7 : ∀ d, mj_ev X (d + 29) 158 [.ref 61, .int (-7)] ρ = some (some (.int (-7)), mj_rfM ρ (-7)) := fun d => sp_no7 (d := d + 28)
  have h6 : ∀ d, mj_ev X (d + 29) 158 [.ref 61, .int (-6)] ρ = some (some (.int (-6)), mj_rfM ρ (-6)) := fun d => sp_no6 (d := d + 28)
  rcases mj_tby_or (σ := σ) (s := s) (e := e) with c | c
  · obtain ⟨ok, -⟩ := mj_tby_ok c
    rcases (Bool.eq_false_or_eq_true (mj_rm ρ N)).symm with c2 | c2
    · refine ⟨ρ, ρ, F, q3, qf, fun _ z => ?_, fun d => ?_⟩
      · rw [c2] at z
        exact absurd z mj_ft
      · have hird := hir d
        rw [c2] at hird
        have htd := ht (d + 23)
        rw [c] at htd
        rw [if_pos c, if_neg (by rw [c2]; decide)]
        refine st231 ?_
        simp only [u231_0, u231_1, u231_2, u231_5, u231_6, u231_7, u231_10, u231_11, u231_12, u231_15, u231_16, u231_17, u231_20, u231_23, u231_24, u231_26, u231_29, u231_30, u231_31, u231_34, u231_35, u231_38, u231_39, u231_40, u231_41, u231_44, u231_45, u231_46, u231_49, u231_50, u231_53, u231_54, u231_57, u231_58, htd, hird, h7 d, mj_zF, mj_cc_v, mj_cc_n, List.all_cons, List.all_nil, mj_noMk_int, mj_noMk_long, mj_noMk_ref, mj_noMk_junk, List.length_nil, List.length_cons, Nat.zero_le, Nat.reduceLeDiff, Nat.reduceAdd, Bool.and_true, Bool.true_and, Bool.and_self, Nat.reduceBNe, true_or, or_true, true_and, and_true, mj_z0, mj_z1, mj_z01, decide_true, decide_false, Bool.true_and, Bool.false_and, Bool.and_true, Bool.and_false, Bool.true_or, Bool.false_or, Bool.or_false, Bool.or_true, Bool.not_true, Bool.not_false, Bool.and_self, Bool.or_self, if_true, if_false, Bool.true_eq_false, Bool.false_eq_true, not_true, not_false_eq_true]
    · have hN9 : N < 9 := by
        unfold mj_rm at c2
        simp only [Bool.and_eq_true, decide_eq_true_eq] at c2
        exact c2.1
      have hMρ := mj_Mst_Fx F (by decide) hM
      have hfok : mj_Fok (mj_wkM ρ) (mj_rtx σ s e).2.2 := by
        rw [mj_wkM_Fx F (by decide)]
        exact (mj_rd_fok ok).1
      have hMa := mj_Mst_add hMρ hfok (qf ok) c2
      obtain ⟨ρ', F', S', hb⟩ := sp_M_bearsAll (X := X) hMa.1 hMa.2.1 hR hMa.2.2.1 hMa.2.2.2.1 hMa.2.2.2.2.1 hMa.2.2.2.2.2
      refine ⟨ρ, ρ', F, q3, qf, fun _ _ => ⟨F', S'⟩, fun d => ?_⟩
      have hird := hir d
      rw [c2] at hird
      have htd := ht (d + 23)
      rw [c] at htd
      have hbd : mj_ev X (d + 29) 214 [.ref 61] (mj_adM ρ N) = _ := hb (d + 1)
      have had : mj_ev X (d + 29) 182 [.ref 61] ρ = some (none, mj_adM ρ N) := sp_M_adds (d := d + 28) hNρ hN9
      have e0 : ρ'.1 61 0 = nI (N + 1) := by
        rw [F'.2.2 0 (by decide) (by decide) (by decide) (by decide) (by decide) (by decide)]
        exact mj_adM_0
      rw [if_pos c, if_pos c2]
      refine st231 ?_
      rcases (Bool.eq_false_or_eq_true (mj_Mall (mj_adM ρ N) (N + 1) w)).symm with c3 | c3
      · rw [c3] at hbd
        simp only [u231_0, u231_1, u231_2, u231_5, u231_6, u231_7, u231_10, u231_11, u231_12, u231_15, u231_16, u231_17, u231_20, u231_23, u231_24, u231_26, u231_29, u231_30, u231_31, u231_34, u231_35, u231_38, u231_39, u231_40, u231_41, u231_44, u231_45, u231_46, u231_49, u231_50, u231_53, u231_54, u231_57, u231_58, htd, hird, had, hbd, e0, mj_sub1, c3, mj_n10, mj_zT, mj_zF, mj_cc_v, mj_cc_n, List.all_cons, List.all_nil, mj_noMk_int, mj_noMk_long, mj_noMk_ref, mj_noMk_junk, List.length_nil, List.length_cons, Nat.zero_le, Nat.reduceLeDiff, Nat.reduceAdd, Bool.and_true, Bool.true_and, Bool.and_self, Nat.reduceBNe, true_or, or_true, true_and, and_true, mj_z0, mj_z1, mj_z01, decide_true, decide_false, Bool.true_and, Bool.false_and, Bool.and_true, Bool.and_false, Bool.true_or, Bool.false_or, Bool.or_false, Bool.or_true, Bool.not_true, Bool.not_false, Bool.and_self, Bool.or_self, if_true, if_false, Bool.true_eq_false, Bool.false_eq_true, not_true, not_false_eq_true]
      · rw [c3] at hbd
        simp only [u231_0, u231_1, u231_2, u231_5, u231_6, u231_7, u231_10, u231_11, u231_12, u231_15, u231_16, u231_17, u231_20, u231_23, u231_24, u231_26, u231_29, u231_30, u231_31, u231_34, u231_35, u231_38, u231_39, u231_40, u231_41, u231_44, u231_45, u231_46, u231_49, u231_50, u231_53, u231_54, u231_57, u231_58, htd, hird, had, hbd, e0, mj_sub1, c3, mj_n10, mj_zT, mj_zF, mj_cc_v, mj_cc_n, List.all_cons, List.all_nil, mj_noMk_int, mj_noMk_long, mj_noMk_ref, mj_noMk_junk, List.length_nil, List.length_cons, Nat.zero_le, Nat.reduceLeDiff, Nat.reduceAdd, Bool.and_true, Bool.true_and, Bool.and_self, Nat.reduceBNe, true_or, or_true, true_and, and_true, mj_z0, mj_z1, mj_z01, decide_true, decide_false, Bool.true_and, Bool.false_and, Bool.and_true, Bool.and_false, Bool.true_or, Bool.false_or, Bool.or_false, Bool.or_true, Bool.not_true, Bool.not_false, Bool.and_self, Bool.or_self, if_true, if_false, Bool.true_eq_false, Bool.false_eq_true, not_true, not_false_eq_true]
  · refine ⟨ρ, ρ, F, q3, qf, fun z => ?_, fun d => ?_⟩
    · rw [c] at z
      exact absurd z (by decide)
    · have htd := ht (d + 23)
      rw [c] at htd
      have c' : ¬ mj_tby σ s e = 0 := by rw [c]; decide
      have n6 : ¬ (-6 : Int32) = 0 := by decide
      rw [if_neg c']
      refine st231 ?_
      simp only [u231_0, u231_1, u231_2, u231_5, u231_6, u231_7, u231_10, u231_11, u231_12, u231_15, u231_16, u231_17, u231_20, u231_23, u231_24, u231_26, u231_29, u231_30, u231_31, u231_34, u231_35, u231_38, u231_39, u231_40, u231_41, u231_44, u231_45, u231_46, u231_49, u231_50, u231_53, u231_54, u231_57, u231_58, htd, h6 d, n6, mj_cc_v, mj_cc_n, List.all_cons, List.all_nil, mj_noMk_int, mj_noMk_long, mj_noMk_ref, mj_noMk_junk, List.length_nil, List.length_cons, Nat.zero_le, Nat.reduceLeDiff, Nat.reduceAdd, Bool.and_true, Bool.true_and, Bool.and_self, Nat.reduceBNe, true_or, or_true, true_and, and_true, mj_z0, mj_z1, mj_z01, decide_true, decide_false, Bool.true_and, Bool.false_and, Bool.and_true, Bool.and_false, Bool.true_or, Bool.false_or, Bool.or_false, Bool.or_true, Bool.not_true, Bool.not_false, Bool.and_self, Bool.or_self, if_true, if_false, Bool.true_eq_false, Bool.false_eq_true, not_true, not_false_eq_true]
-- many
/-- how many can be added -/
def mj_mny (w : Nat) : Nat → mj_St → Nat → Nat → Nat
  | 0, _, _, c => c
  | j + 1, σ, N, c => if mj_rm σ N = true then (if mj_Mall (mj_adM σ N) (N + 1) w = true then mj_mny w j (mj_adM σ N) (N + 1) (c + 1) else c) else c
theorem mj_Fq_mny {w : Nat} : ∀ (j : Nat) (σ τ : mj_St) (N c : Nat), mj_Fq σ τ → mj_mny w j τ N c = mj_mny w j σ N c := by
  intro j
  induction j with
  | zero => intro σ τ N c _; rfl
  | succ j ih =>
    intro σ τ N c F
    simp only [mj_mny]
    rw [mj_Fq_rm F, mj_Fq_Mall (mj_Fq_adM F), ih _ _ _ _ (mj_Fq_adM F)]
theorem sp_M_many_loop {w t n0 : Nat} {s by' : Int32} {f : Nat → Int32} : ∀ (j N c R : Nat) (σ : mj_St), mj_Mst σ N R w t → R + j < 2147483648 → 9 ≤ N + j → (∀ i, 33 ≤ i → i ≤ 43 → σ.1 61 i = f i) → mj_Fok (mj_wkM σ) f → ∃ ρ N', N ≤ N' ∧ mj_Fy N σ ρ ∧ mj_Mst ρ N' (R + j) w t ∧ ∀ d, mj_Runs X (mj_ev X (d + 29)) 6 (some .int) prog_8_method_78_code (27, [.ref 61, .int s, .int by', .int (nI n0), .int (nI c), .int 1], [], σ) (some (.int (nI (mj_mny w j σ N c))), mj_setI ρ 61 0 (nI n0)) := by
  intro j
  induction j with
  | zero =>
    intro N c R σ hM hR h9 hf hk
    refine ⟨σ, N, Nat.le_refl _, mj_Fy_rf, hM, fun d => ?_⟩
    have hir : mj_ev X (d + 29) 180 [.ref 61] σ = some (some (.int (mj_z (mj_rm σ N))), σ) := sp_M_isRoom (d := d + 26) hM.1.1 hM.1.2.1
    have c2 : mj_rm σ N = false := by
      unfold mj_rm
      rw [decide_eq_false (by omega), Bool.false_and]
    rw [c2] at hir
    refine u232_27.mpr ?_
    simp only [u232_0, u232_1, u232_2, u232_5, u232_6, u232_7, u232_10, u232_11, u232_12, u232_15, u232_16, u232_17, u232_20, u232_21, u232_22, u232_24, u232_25, u232_29, u232_32, u232_33, u232_36, u232_39, u232_40, u232_43, u232_44, u232_47, u232_49, u232_51, u232_54, u232_57, u232_60, u232_61, u232_62, u232_65, u232_67, hir, mj_n10, mj_zF, mj_mny, mj_cc_v, mj_cc_n, List.all_cons, List.all_nil, mj_noMk_int, mj_noMk_long, mj_noMk_ref, mj_noMk_junk, List.length_nil, List.length_cons, Nat.zero_le, Nat.reduceLeDiff, Nat.reduceAdd, Bool.and_true, Bool.true_and, Bool.and_self, Nat.reduceBNe, true_or, or_true, true_and, and_true, mj_z0, mj_z1, mj_z01, decide_true, decide_false, Bool.true_and, Bool.false_and, Bool.and_true, Bool.and_false, Bool.true_or, Bool.false_or, Bool.or_false, Bool.or_true, Bool.not_true, Bool.not_false, Bool.and_self, Bool.or_self, if_true, if_false, Bool.true_eq_false, Bool.false_eq_true, not_true, not_false_eq_true]
  | succ j ih =>
    intro N c R σ hM hR h9 hf hk
    have hir : ∀ d, mj_ev X (d + 29) 180 [.ref 61] σ = some (some (.int (mj_z (mj_rm σ N))), σ) := fun d => sp_M_isRoom (d := d + 26) hM.1.1 hM.1.2.1
    rcases (Bool.eq_false_or_eq_true (mj_rm σ N)).symm with c2 | c2
    · refine ⟨σ, N, Nat.le_refl _, mj_Fy_rf, ⟨hM.1, mj_Scr_le hM.2.1 (by omega), hM.2.2⟩, fun d => ?_⟩
      have hird := hir d
      rw [c2] at hird
      have e : mj_mny w (j + 1) σ N c = c := by
        simp only [mj_mny]
        rw [if_neg (by rw [c2]; decide)]
      rw [e]
      refine u232_27.mpr ?_
      simp only [u232_0, u232_1, u232_2, u232_5, u232_6, u232_7, u232_10, u232_11, u232_12, u232_15, u232_16, u232_17, u232_20, u232_21, u232_22, u232_24, u232_25, u232_29, u232_32, u232_33, u232_36, u232_39, u232_40, u232_43, u232_44, u232_47, u232_49, u232_51, u232_54, u232_57, u232_60, u232_61, u232_62, u232_65, u232_67, hird, mj_n10, mj_zF, mj_cc_v, mj_cc_n, List.all_cons, List.all_nil, mj_noMk_int, mj_noMk_long, mj_noMk_ref, mj_noMk_junk, List.length_nil, List.length_cons, Nat.zero_le, Nat.reduceLeDiff, Nat.reduceAdd, Bool.and_true, Bool.true_and, Bool.and_self, Nat.reduceBNe, true_or, or_true, true_and, and_true, mj_z0, mj_z1, mj_z01, decide_true, decide_false, Bool.true_and, Bool.false_and, Bool.and_true, Bool.and_false, Bool.true_or, Bool.false_or, Bool.or_false, Bool.or_true, Bool.not_true, Bool.not_false, Bool.and_self, Bool.or_self, if_true, if_false, Bool.true_eq_false, Bool.false_eq_true, not_true, not_false_eq_true]
    · have hN9 : N < 9 := by
        unfold mj_rm at c2
        simp only [Bool.and_eq_true, decide_eq_true_eq] at c2
        exact c2.1
      have hMa := mj_Mst_add hM hk hf c2
      obtain ⟨ρ', F', S', hb⟩ := sp_M_bearsAll (X := X) hMa.1 hMa.2.1 (by omega) hMa.2.2.1 hMa.2.2.2.1 hMa.2.2.2.2.1 hMa.2.2.2.2.2
      have hMb := mj_Mst_Fq F' S' hMa
      have Fy1 : mj_Fy N σ ρ' := mj_Fy_tr mj_Fy_adM (mj_Fy_Fq F')
      have had : ∀ d, mj_ev X (d + 29) 182 [.ref 61] σ = some (none, mj_adM σ N) := fun d => sp_M_adds (d := d + 28) hM.1.1 hN9
      rcases (Bool.eq_false_or_eq_true (mj_Mall (mj_adM σ N) (N + 1) w)).symm with c3 | c3
      · refine ⟨ρ', N + 1, by omega, Fy1, ⟨hMb.1, mj_Scr_le S' (by omega), hMb.2.2⟩, fun d => ?_⟩
        have hird := hir d
        rw [c2] at hird
        have hbd : mj_ev X (d + 29) 214 [.ref 61] (mj_adM σ N) = _ := hb (d + 1)
        rw [c3] at hbd
        have e : mj_mny w (j + 1) σ N c = c := by
          simp only [mj_mny]
          rw [if_pos c2, if_neg (by rw [c3]; decide)]
        rw [e]
        refine u232_27.mpr ?_
        simp only [u232_0, u232_1, u232_2, u232_5, u232_6, u232_7, u232_10, u232_11, u232_12, u232_15, u232_16, u232_17, u232_20, u232_21, u232_22, u232_24, u232_25, u232_29, u232_32, u232_33, u232_36, u232_39, u232_40, u232_43, u232_44, u232_47, u232_49, u232_51, u232_54, u232_57, u232_60, u232_61, u232_62, u232_65, u232_67, hird, had d, hbd, mj_n10, mj_zT, mj_zF, mj_cc_v, mj_cc_n, List.all_cons, List.all_nil, mj_noMk_int, mj_noMk_long, mj_noMk_ref, mj_noMk_junk, List.length_nil, List.length_cons, Nat.zero_le, Nat.reduceLeDiff, Nat.reduceAdd, Bool.and_true, Bool.true_and, Bool.and_self, Nat.reduceBNe, true_or, or_true, true_and, and_true, mj_z0, mj_z1, mj_z01, decide_true, decide_false, Bool.true_and, Bool.false_and, Bool.and_true, Bool.and_false, Bool.true_or, Bool.false_or, Bool.or_false, Bool.or_true, Bool.not_true, Bool.not_false, Bool.and_self, Bool.or_self, if_true, if_false, Bool.true_eq_false, Bool.false_eq_true, not_true, not_false_eq_true]
        refine u232_27.mpr ?_
        simp only [u232_0, u232_1, u232_2, u232_5, u232_6, u232_7, u232_10, u232_11, u232_12, u232_15, u232_16, u232_17, u232_20, u232_21, u232_22, u232_24, u232_25, u232_29, u232_32, u232_33, u232_36, u232_39, u232_40, u232_43, u232_44, u232_47, u232_49, u232_51, u232_54, u232_57, u232_60, u232_61, u232_62, u232_65, u232_67, mj_cc_v, mj_cc_n, List.all_cons, List.all_nil, mj_noMk_int, mj_noMk_long, mj_noMk_ref, mj_noMk_junk, List.length_nil, List.length_cons, Nat.zero_le, Nat.reduceLeDiff, Nat.reduceAdd, Bool.and_true, Bool.true_and, Bool.and_self, Nat.reduceBNe, true_or, or_true, true_and, and_true, mj_z0, mj_z1, mj_z01, decide_true, decide_false, Bool.true_and, Bool.false_and, Bool.and_true, Bool.and_false, Bool.true_or, Bool.false_or, Bool.or_false, Bool.or_true, Bool.not_true, Bool.not_false, Bool.and_self, Bool.or_self, if_true, if_false, Bool.true_eq_false, Bool.false_eq_true, not_true, not_false_eq_true]
      · have hf2 : ∀ i, 33 ≤ i → i ≤ 43 → ρ'.1 61 i = f i := fun i h1 h2 => by
          rw [F'.2.2 i (by omega) (by omega) (by omega) (by omega) (by omega) (by omega), mj_adM_i (by omega)]
          exact hf i h1 h2
        have hk2 : mj_Fok (mj_wkM ρ') f := by
          rw [mj_wkM_Fq F']
          exact mj_Fok_mono (fun v hv => mj_wkM_adM hM.1.1 hN9 hv) hk
        obtain ⟨ρ, N', hN', Fy2, hM2, hl⟩ := ih (N + 1) (c + 1) (R + 1) ρ' hMb (by omega) (by omega) hf2 hk2
        refine ⟨ρ, N', by omega, mj_Fy_tr Fy1 (mj_Fy_le (by omega) Fy2), by rw [show R + (j + 1) = R + 1 + j by omega]; exact hM2, fun d => ?_⟩
        have hird := hir d
        rw [c2] at hird
        have hbd : mj_ev X (d + 29) 214 [.ref 61] (mj_adM σ N) = _ := hb (d + 1)
        rw [c3] at hbd
        have hld := hl d
        have e : mj_mny w (j + 1) σ N c = mj_mny w j ρ' (N + 1) (c + 1) := by
          simp only [mj_mny]
          rw [if_pos c2, if_pos c3, mj_Fq_mny _ _ _ _ _ F']
        rw [e]
        refine u232_27.mpr ?_
        simp only [u232_0, u232_1, u232_2, u232_5, u232_6, u232_7, u232_10, u232_11, u232_12, u232_15, u232_16, u232_17, u232_20, u232_21, u232_22, u232_24, u232_25, u232_29, u232_32, u232_33, u232_36, u232_39, u232_40, u232_43, u232_44, u232_47, u232_49, u232_51, u232_54, u232_57, u232_60, u232_61, u232_62, u232_65, u232_67, hird, had d, hbd, mj_n10, mj_zT, nI_1, mj_cc_v, mj_cc_n, List.all_cons, List.all_nil, mj_noMk_int, mj_noMk_long, mj_noMk_ref, mj_noMk_junk, List.length_nil, List.length_cons, Nat.zero_le, Nat.reduceLeDiff, Nat.reduceAdd, Bool.and_true, Bool.true_and, Bool.and_self, Nat.reduceBNe, true_or, or_true, true_and, and_true, mj_z0, mj_z1, mj_z01, decide_true, decide_false, Bool.true_and, Bool.false_and, Bool.and_true, Bool.and_false, Bool.true_or, Bool.false_or, Bool.or_false, Bool.or_true, Bool.not_true, Bool.not_false, Bool.and_self, Bool.or_self, if_true, if_false, Bool.true_eq_false, Bool.false_eq_true, not_true, not_false_eq_true]
        exact hld
theorem sp_M_many_no {s : Int32} (hw : ¬ mj_Mw σ s = 0) : mj_ev X (d + 4) 232 [.ref 61, .int s] σ = some (some (.int (mj_Mw σ s)), mj_rfM σ (mj_Mw σ s)) := by
  have ht := sp_M_text_no (X := X) (d := d) hw
  have hn := sp_M_noA (X := X) (d := d + 2) (σ := σ) (mj_Mw_in hw)
  refine st232 ?_
  simp only [u232_0, u232_1, u232_2, u232_5, u232_6, u232_7, u232_10, u232_11, u232_12, u232_15, u232_16, u232_17, u232_20, u232_21, u232_22, u232_24, u232_25, u232_29, u232_32, u232_33, u232_36, u232_39, u232_40, u232_43, u232_44, u232_47, u232_49, u232_51, u232_54, u232_57, u232_60, u232_61, u232_62, u232_65, u232_67, ht, hn, hw, mj_cc_v, mj_cc_n, List.all_cons, List.all_nil, mj_noMk_int, mj_noMk_long, mj_noMk_ref, mj_noMk_junk, List.length_nil, List.length_cons, Nat.zero_le, Nat.reduceLeDiff, Nat.reduceAdd, Bool.and_true, Bool.true_and, Bool.and_self, Nat.reduceBNe, true_or, or_true, true_and, and_true, mj_z0, mj_z1, mj_z01, decide_true, decide_false, Bool.true_and, Bool.false_and, Bool.and_true, Bool.and_false, Bool.true_or, Bool.false_or, Bool.or_false, Bool.or_true, Bool.not_true, Bool.not_false, Bool.and_self, Bool.or_self, if_true, if_false, Bool.true_eq_false, Bool.false_eq_true, not_true, not_false_eq_true]
theorem sp_M_manyC {N R w t s e : Nat} (hM : mj_Mst σ N R w t) (hR : R + 9 < 2147483648) (hs : s < 8) (hw : mj_Mw σ (nI s) = 0) (hsz : σ.1 80 s = nI e) (he : e ≤ 60) : ∃ ρ ρ', mj_Fx mj_TF σ ρ ∧ ρ.1 61 3 = mj_tft σ s e ∧ ((mj_rtx σ s e).1 = true → ∀ i, 33 ≤ i → i ≤ 43 → ρ.1 61 i = (mj_rtx σ s e).2.2 i) ∧ (mj_tby σ s e = 0 → mj_Fy N ρ ρ' ∧ mj_Mst ρ' N (R + 9) w t) ∧ ∀ d, mj_ev X (d + 30) 232 [.ref 61, .int (nI s)] σ = some (if mj_tby σ s e = 0 then (some (.int (nI (mj_mny w 9 ρ N 0))), ρ') else (some (.int (-6)), mj_rfM ρ (-6))) := by
  have hN := hM.1.1
  have h9 := hM.1.2.1
  obtain ⟨ρ, F, q3, qf, ht⟩ := sp_M_text (X := X) hs hw hsz he (by rw [hN, nI_toInt (by omega)]; omega)
  have hNρ : ρ.1 61 0 = nI N := by rw [F.2.2 0 (by decide)]; exact hN
  have h6 : ∀ d, mj_ev X (d + 29) 158 [.ref 61, .int (-6)] ρ = some (some (.int (-6)), mj_rfM ρ (-6)) := fun d => sp_no6 (d := d + 28)
  rcases mj_tby_or (σ := σ) (s := s) (e := e) with c | c
  · obtain ⟨ok, -⟩ := mj_tby_ok c
    have hMρ := mj_Mst_Fx F (by decide) hM
    have hfok : mj_Fok (mj_wkM ρ) (mj_rtx σ s e).2.2 := by
      rw [mj_wkM_Fx F (by decide)]
      exact (mj_rd_fok ok).1
    obtain ⟨ρ1, N', hN', Fy1, hM1, hl⟩ := sp_M_many_loop (X := X) (s := nI s) (by' := 0) (n0 := N) 9 N 0 R ρ hMρ hR (by omega) (qf ok) hfok
    refine ⟨ρ, mj_setI ρ1 61 0 (nI N), F, q3, qf, fun _ => ⟨mj_Fy_cut Fy1, mj_Mst_cut hN' (fun k hk z => ?_) hM1⟩, fun d => ?_⟩
    · rw [Fy1.2.1 69 k (by decide) (by decide) (by decide) (by decide) (by decide) (Or.inl hk)] at z ⊢
      exact (hMρ.1.2.2.2.1 k hk z).1
    · have htd := ht (d + 23)
      rw [c] at htd
      have hld := hl d
      rw [if_pos c]
      refine st232 ?_
      simp only [u232_0, u232_1, u232_2, u232_5, u232_6, u232_7, u232_10, u232_11, u232_12, u232_15, u232_16, u232_17, u232_20, u232_21, u232_22, u232_24, u232_25, u232_29, u232_32, u232_33, u232_36, u232_39, u232_40, u232_43, u232_44, u232_47, u232_49, u232_51, u232_54, u232_57, u232_60, u232_61, u232_62, u232_65, u232_67, htd, hNρ, mj_cc_v, mj_cc_n, List.all_cons, List.all_nil, mj_noMk_int, mj_noMk_long, mj_noMk_ref, mj_noMk_junk, List.length_nil, List.length_cons, Nat.zero_le, Nat.reduceLeDiff, Nat.reduceAdd, Bool.and_true, Bool.true_and, Bool.and_self, Nat.reduceBNe, true_or, or_true, true_and, and_true, mj_z0, mj_z1, mj_z01, decide_true, decide_false, Bool.true_and, Bool.false_and, Bool.and_true, Bool.and_false, Bool.true_or, Bool.false_or, Bool.or_false, Bool.or_true, Bool.not_true, Bool.not_false, Bool.and_self, Bool.or_self, if_true, if_false, Bool.true_eq_false, Bool.false_eq_true, not_true, not_false_eq_true]
      exact hld
  · refine ⟨ρ, ρ, F, q3, qf, fun z => ?_, fun d => ?_⟩
    · rw [c] at z
      exact absurd z (by decide)
    · have htd := ht (d + 23)
      rw [c] at htd
      have c' : ¬ mj_tby σ s e = 0 := by rw [c]; decide
      have n6 : ¬ (-6 : Int32) = 0 := by decide
      rw [if_neg c']
      refine st232 ?_
      simp only [u232_0, u232_1, u232_2, u232_5, u232_6, u232_7, u232_10, u232_11, u232_12, u232_15, u232_16, u232_17, u232_20, u232_21, u232_22, u232_24, u232_25, u232_29, u232_32, u232_33, u232_36, u232_39, u232_40, u232_43, u232_44, u232_47, u232_49, u232_51, u232_54, u232_57, u232_60, u232_61, u232_62, u232_65, u232_67, htd, h6 d, n6, mj_cc_v, mj_cc_n, List.all_cons, List.all_nil, mj_noMk_int, mj_noMk_long, mj_noMk_ref, mj_noMk_junk, List.length_nil, List.length_cons, Nat.zero_le, Nat.reduceLeDiff, Nat.reduceAdd, Bool.and_true, Bool.true_and, Bool.and_self, Nat.reduceBNe, true_or, or_true, true_and, and_true, mj_z0, mj_z1, mj_z01, decide_true, decide_false, Bool.true_and, Bool.false_and, Bool.and_true, Bool.and_false, Bool.true_or, Bool.false_or, Bool.or_false, Bool.or_true, Bool.not_true, Bool.not_false, Bool.and_self, Bool.or_self, if_true, if_false, Bool.true_eq_false, Bool.false_eq_true, not_true, not_false_eq_true]
end
