section
variable {X : mj_X} {σ τ ρ : mj_St} {D : Nat → Nat → Nat} {R R' B : Nat}
/-- all but the deal, the shelves and the image stand as they stood -/
theorem mk_Inv_new {D' : Nat → Nat → Nat} (h : mk_Inv σ D R B) (h1 : ∀ c, c = 12 ∨ c = 13 ∨ c = 62 ∨ c = 84 ∨ c = 85 ∨ c = 87 ∨ c = 89 → τ.1 c = σ.1 c) (h0 : ∀ i, i = 12 ∨ i = 13 → τ.1 0 i = σ.1 0 i) (h61 : ∀ i, i = 3 ∨ i = 59 ∨ i = 51 → τ.1 61 i = σ.1 61 i) (h2 : τ.2 = σ.2) (hDl : mk_Dl τ D') (hSh : mk_Sh τ (D' 14 14)) (hIm : mk_Im τ) : mk_Inv τ D' R B := by
  obtain ⟨i1, i2, ⟨o1, o2, o3, o4⟩, i4, i5, i6, i7⟩ := h
  refine ⟨hDl, hSh, ⟨?_, ?_, ?_, ?_⟩, hIm, mk_Scr_o (h1 84 (by omega)) (h1 85 (by omega)) (h1 87 (by omega)) (h61 51 (by omega)) i5, by rw [h2]; exact i6, by unfold mj_Rb; rw [h2]; exact i7⟩
  · rw [h1 12 (by omega), h1 62 (by omega)]; exact o1
  · rw [h0 12 (by omega), h61 3 (by omega)]; exact o2
  · rw [h0 13 (by omega), h61 59 (by omega)]; exact o3
  · rw [h0 13 (by omega), h1 13 (by omega), h1 89 (by omega)]; exact o4
theorem mk_tkF_o {a b c : Nat} (h : c < b ∨ b + 15 ≤ c) : (mj_tkF σ a b).1 c = σ.1 c := by
  unfold mj_tkF
  rw [mj_setI_ne _ _ _ (by omega), mj_setI_ne _ _ _ (by omega), mj_setI_ne _ _ _ (by omega), mj_setI_ne _ _ _ (by omega), mj_setI_ne _ _ _ (by omega), mj_tkn_o 14 (by omega)]
theorem mk_tln_lt {c i : Nat} (h : (15 ≤ c ∧ c ≤ 26 ∧ i < 9) ∨ (c = 27 ∧ i < 12) ∨ (c = 28 ∧ i < 3)) : i < mj_tln (c - 15) := by
  unfold mj_tln
  split
  · omega
  · split <;> omega
theorem mk_iln_lt {c i : Nat} (h : (c = 63 ∧ i < 12) ∨ (c = 64 ∧ i < 3) ∨ (65 ≤ c ∧ c ≤ 77 ∧ i < 9)) : i < mj_iln (c - 63) := by
  unfold mj_iln
  split
  · omega
  · split <;> omega
theorem mk_set_2 {c i : Nat} {v : Int32} : (mj_setI σ c i v).2 = σ.2 := rfl
theorem mk_cshv_2 {n : Nat} : (mj_cshv σ n).2 = σ.2 := rfl
theorem mk_shv_2 {n : Nat} : (mj_shv σ n).2 = σ.2 := rfl
theorem mk_tkF_v {a b i : Nat} (h1 : 14 ≤ i) (h2 : i ≤ 18) : (mj_tkF σ a b).1 b i = σ.1 a i := by
  have : i = 14 ∨ i = 15 ∨ i = 16 ∨ i = 17 ∨ i = 18 := by omega
  unfold mj_tkF
  rcases this with e | e | e | e | e <;> subst e
  · rw [mj_setI_i (by decide), mj_setI_i (by decide), mj_setI_i (by decide), mj_setI_i (by decide), mj_setI_eq]
  · rw [mj_setI_i (by decide), mj_setI_i (by decide), mj_setI_i (by decide), mj_setI_eq]
  · rw [mj_setI_i (by decide), mj_setI_i (by decide), mj_setI_eq]
  · rw [mj_setI_i (by decide), mj_setI_eq]
  · rw [mj_setI_eq]
theorem mk_tkF_2 {a b : Nat} : (mj_tkF σ a b).2 = σ.2 := by unfold mj_tkF; rw [mk_set_2, mk_set_2, mk_set_2, mk_set_2, mk_set_2, mj_tkn_2]
theorem mk_rst_2 : (mj_rst σ).2 = σ.2 := by unfold mj_rst; rw [mj_ld_2, mk_set_2, mk_set_2, mk_set_2]
theorem mk_rst_o {c : Nat} (h : c ≠ 61) (h2 : c < 63 ∨ 78 ≤ c) : (mj_rst σ).1 c = σ.1 c := by
  unfold mj_rst
  rw [mj_ld_o 15 (by omega), mj_setI_ne _ _ _ h, mj_setI_ne _ _ _ h, mj_setI_ne _ _ _ h]
theorem mk_rst_61 {i : Nat} (h : 2 < i) : (mj_rst σ).1 61 i = σ.1 61 i := by
  unfold mj_rst
  rw [mj_ld_o 15 (by omega), mj_setI_i (by omega), mj_setI_i (by omega), mj_setI_i (by omega)]
/-- restoring looks at no shelf -/
theorem mk_ld_c (h : ∀ c, c ≠ 1 → τ.1 c = σ.1 c) : ∀ k c, c ≠ 1 → (mj_ld τ k).1 c = (mj_ld σ k).1 c := by
  intro k
  induction k with
  | zero => exact h
  | succ k ih =>
    intro c hc
    funext i
    show (if c = 63 + k ∧ 0 ≤ i ∧ i < 0 + mj_iln k then (mj_ld τ k).1 90 (mj_iof k + (i - 0)) else (mj_ld τ k).1 c i) = (if c = 63 + k ∧ 0 ≤ i ∧ i < 0 + mj_iln k then (mj_ld σ k).1 90 (mj_iof k + (i - 0)) else (mj_ld σ k).1 c i)
    rw [ih c hc, ih 90 (by decide)]
theorem mk_rst_c {c : Nat} (h : ∀ c, c ≠ 1 → τ.1 c = σ.1 c) (hc : c ≠ 1) : (mj_rst τ).1 c = (mj_rst σ).1 c := by
  unfold mj_rst
  refine mk_ld_c (fun c hc => ?_) 15 c hc
  funext i
  simp only [mj_rI]
  rw [h c hc, h 61 (by decide)]
theorem cl_image (h : mk_Inv σ D R B) : mk_Cl X σ R B 151 248 [] := by
  obtain ⟨hD, hM, hk, -⟩ := id h.1
  have N9 := hk.1
  generalize hρ : mj_setI (mj_tkF σ 14 29) 0 11 1 = ρ
  have qc := fun d => sp_image (X := X) (d := d) (σ := σ)
  have qm := fun d => sp_M_image (X := X) (d := d) (σ := ρ)
  have r1 : ∀ c, c ≠ 0 → c < 29 ∨ 44 ≤ c → ρ.1 c = σ.1 c := fun c x y => by
    rw [← hρ, mj_setI_ne _ _ _ x, mk_tkF_o (by omega)]
  have r0 : ∀ i, i ≠ 11 → ρ.1 0 i = σ.1 0 i := fun i x => by
    rw [← hρ, mj_setI_i x, mk_tkF_o (by omega)]
  have r011 : ρ.1 0 11 = 1 := by rw [← hρ, mj_setI_eq]
  have r29 : ∀ i, 14 ≤ i → i ≤ 18 → ρ.1 29 i = σ.1 14 i := fun i x y => by
    rw [← hρ, mj_setI_ne _ _ _ (by decide), mk_tkF_v x y]
  have r30 : ∀ j i, j < 14 → i < mj_tln j → ρ.1 (30 + j) i = σ.1 (15 + j) i := fun j i hj hi => by
    rw [← hρ, mj_setI_ne _ _ _ (by omega)]
    unfold mj_tkF
    rw [mj_setI_ne _ _ _ (by omega), mj_setI_ne _ _ _ (by omega), mj_setI_ne _ _ _ (by omega), mj_setI_ne _ _ _ (by omega), mj_setI_ne _ _ _ (by omega)]
    exact mj_tkn_in (a := 14) (b := 29) (Or.inl (by decide)) hi 14 hj (Nat.le_refl _)
  have r2 : ρ.2 = σ.2 := by rw [← hρ, mk_set_2, mk_tkF_2]
  have w1 : ∀ c, c ≠ 61 → c ≠ 90 → (mj_img ρ).1 c = ρ.1 c := fun c x y => by
    unfold mj_img
    rw [mj_sv_o y, mj_setI_ne _ _ _ x, mj_setI_ne _ _ _ x, mj_setI_ne _ _ _ x]
  have w61 : ∀ i, i < 60 ∨ 62 < i → (mj_img ρ).1 61 i = ρ.1 61 i := fun i x => by
    unfold mj_img
    rw [mj_sv_o (by decide), mj_setI_i (by omega), mj_setI_i (by omega), mj_setI_i (by omega)]
  have w60 : ∀ i, i < 3 → (mj_img ρ).1 61 (60 + i) = ρ.1 61 i := fun i x => by
    unfold mj_img
    rw [mj_sv_o (by decide)]
    have : i = 0 ∨ i = 1 ∨ i = 2 := by omega
    rcases this with e | e | e <;> subst e <;> rfl
  have w90 : ∀ j i, j < 15 → i < mj_iln j → (mj_img ρ).1 90 (mj_iof j + i) = ρ.1 (63 + j) i := fun j i hj hi => by
    unfold mj_img
    rw [mj_sv_in hi 15 hj (Nat.le_refl _), mj_setI_ne _ _ _ (by omega), mj_setI_ne _ _ _ (by omega), mj_setI_ne _ _ _ (by omega)]
  have w2 : (mj_img ρ).2 = σ.2 := by rw [← r2]; unfold mj_img; rw [mj_sv_2, mk_set_2, mk_set_2, mk_set_2]
  refine ⟨nI (D 14 14), ρ, mj_img ρ, D, mk_Inv_R (mk_Inv_new h (fun c hc => ?_) (fun i hi => ?_) (fun i hi => ?_) w2 (mk_Dl_o (fun c i hr => ?_) h.1) ?_ (Or.inr ⟨?_, ?_, D, mk_Dl_o (fun c i hr => ?_) h.1⟩)) (Nat.le_add_right _ _), mk_d (k := 3) (by decide) (fun d => ?_), mk_d (k := 3) (by decide) (fun d => ?_)⟩
  · rw [w1 c (by omega) (by omega), r1 c (by omega) (by omega)]
  · rw [w1 0 (by decide) (by decide), r0 i (by omega)]
  · rw [w61 i (by omega), r1 61 (by decide) (by decide)]
  · unfold mk_rel at hr
    by_cases c61 : c = 61
    · rw [c61, w61 i (by omega), r1 61 (by decide) (by decide)]
    · rw [w1 c c61 (by omega), r1 c (by omega) (by omega)]
  · intro s hs
    rw [w1 1 (by decide) (by decide), w1 2 (by decide) (by decide), w1 78 (by decide) (by decide), w1 79 (by decide) (by decide), w1 80 (by decide) (by decide), w1 81 (by decide) (by decide), r1 1 (by decide) (by decide), r1 2 (by decide) (by decide), r1 78 (by decide) (by decide), r1 79 (by decide) (by decide), r1 80 (by decide) (by decide), r1 81 (by decide) (by decide), w2]
    exact h.2.1 s hs
  · rw [w1 0 (by decide) (by decide), r011]; decide
  · have := w60 0 (by decide)
    rw [this, r1 61 (by decide) (by decide), hM.1]
    exact mj_nI_m1 (by omega)
  · rw [mk_rs_v hr]
    unfold mk_rv
    unfold mk_rel at hr
    by_cases c14 : c = 14
    · subst c14
      rw [if_pos rfl, w1 29 (by decide) (by decide), r29 i (by omega) (by omega)]
    · rw [if_neg c14]
      by_cases c29 : c < 29
      · rw [if_pos c29, w1 (c + 15) (by omega) (by omega)]
        have := r30 (c - 15) i (by omega) (mk_tln_lt (by omega))
        rw [show 30 + (c - 15) = c + 15 by omega, show 15 + (c - 15) = c by omega] at this
        exact this
      · rw [if_neg c29]
        by_cases c61 : c = 61
        · subst c61
          rw [if_pos rfl, w60 i (by omega), r1 61 (by decide) (by decide)]
        · rw [if_neg c61, w90 (c - 63) i (by omega) (mk_iln_lt (by omega)), show 63 + (c - 63) = c by omega, r1 c (by omega) (by omega)]
  · have q := qc d
    rw [hρ, hD.1] at q
    exact q
  · have q := qm d
    rw [r1 61 (by decide) (by decide), hM.1] at q
    exact q
theorem cl_restore (h : mk_Inv σ D R B) : mk_Cl X σ R B 154 251 [] := by
  have qc := fun d => sp_restore (X := X) (d := d) (σ := σ)
  have qm := fun (τ : mj_St) d => sp_M_restore (X := X) (d := d) (σ := τ)
  rcases h.2.2.2.1 with ⟨m1, m2⟩ | ⟨m1, m2, E, hE⟩
  · refine mk_Cl_no (v := -6) (w := -6) h (kc := 3) (km := 3) (by decide) (by decide) (fun d => ?_) (fun d => ?_)
    · have q := qc d
      rw [if_pos m1] at q
      exact q
    · have q := qm (mj_rfC σ (-6)) d
      rw [mk_rfC_o (by decide), if_pos m2] at q
      exact q
  · obtain ⟨eD, eM, ek, -⟩ := id hE
    have E9 := ek.1
    generalize hρ : mj_cshv (mj_tkF σ 29 14) 8 = ρ at qc
    have r1 : ∀ c, c ≠ 1 → ρ.1 c = (mj_tkF σ 29 14).1 c := fun c x => by rw [← hρ, mj_cshv_o x]
    have r2 : ρ.2 = σ.2 := by rw [← hρ, mk_cshv_2, mk_tkF_2]
    have r3 : ∀ c, c ≠ 1 → c < 14 ∨ 29 ≤ c → ρ.1 c = σ.1 c := fun c x y => by rw [r1 c x, mk_tkF_o (by omega)]
    have e14 : (mj_tkF σ 29 14).1 14 14 = nI (E 14 14) := by
      have e := eD.1
      rw [mk_rst_o (by decide) (by decide)] at e
      exact e
    have e2914 : σ.1 29 14 = nI (E 14 14) := by
      rw [← e14, mk_tkF_v (by decide) (by decide)]
    have e60 : σ.1 61 60 = nI (E 14 14) := by
      have := mk_rs_v (σ := σ) (c := 61) (i := 0) (by unfold mk_rel; omega)
      rw [eM.1] at this
      exact this.symm
    have s1 : ∀ s, s < 8 → ρ.1 1 s = if σ.1 1 s < 100 ∧ mj_lt0 (σ.1 1 s) (nI (E 14 14)) = false then -1 else σ.1 1 s := fun s hs => by
      rw [← hρ]
      show (if 1 = 1 ∧ s < 8 ∧ (mj_tkF σ 29 14).1 1 s < 100 ∧ mj_lt0 ((mj_tkF σ 29 14).1 1 s) ((mj_tkF σ 29 14).1 14 14) = false then -1 else (mj_tkF σ 29 14).1 1 s) = _
      rw [e14, mk_tkF_o (by omega)]
      by_cases z : σ.1 1 s < 100 ∧ mj_lt0 (σ.1 1 s) (nI (E 14 14)) = false
      · rw [if_pos ⟨rfl, hs, z⟩, if_pos z]
      · rw [if_neg (fun q => z q.2.2), if_neg z]
    have w1 : ∀ c, c ≠ 78 → (mj_shv (mj_rst ρ) 8).1 c = (mj_rst ρ).1 c := fun c x => mj_shv_o x
    have w3 : ∀ c, c ≠ 61 → c < 14 ∨ (29 ≤ c ∧ c < 63) ∨ 79 ≤ c → c ≠ 1 → (mj_shv (mj_rst ρ) 8).1 c = σ.1 c := fun c x y z => by
      rw [w1 c (by omega), mk_rst_o x (by omega), r3 c z (by omega)]
    have w61 : ∀ i, 2 < i → (mj_shv (mj_rst ρ) 8).1 61 i = σ.1 61 i := fun i x => by
      rw [w1 61 (by decide), mk_rst_61 x, r3 61 (by decide) (by decide)]
    have w2 : (mj_shv (mj_rst ρ) 8).2 = σ.2 := by rw [← r2, mk_shv_2, mk_rst_2]
    have wr1 : (mj_shv (mj_rst ρ) 8).1 1 = ρ.1 1 := by rw [w1 1 (by decide), mk_rst_o (by decide) (by decide)]
    have w78 : ∀ s, s < 8 → (mj_shv (mj_rst ρ) 8).1 78 s = if σ.1 78 s = 2 ∧ ¬ σ.1 81 s < nI (E 14 14) then 0 else σ.1 78 s := fun s hs => by
      show (if 78 = 78 ∧ s < 8 ∧ (mj_rst ρ).1 78 s = 2 ∧ ¬ (mj_rst ρ).1 81 s < (mj_rst ρ).1 61 0 then 0 else (mj_rst ρ).1 78 s) = _
      have e610 : (mj_rst ρ).1 61 0 = nI (E 14 14) := by rw [mk_rst_c r1 (by decide)]; exact eM.1
      rw [e610, mk_rst_o (c := 78) (by decide) (by decide), mk_rst_o (c := 81) (by decide) (by decide), r3 78 (by decide) (by decide), r3 81 (by decide) (by decide)]
      by_cases z : σ.1 78 s = 2 ∧ ¬ σ.1 81 s < nI (E 14 14)
      · rw [if_pos ⟨rfl, hs, z⟩, if_pos z]
      · rw [if_neg (fun q => z q.2.2), if_neg z]
    refine ⟨nI (E 14 14), ρ, mj_shv (mj_rst ρ) 8, E, mk_Inv_R (mk_Inv_new h (fun c hc => w3 c (by omega) (by omega) (by omega)) (fun i _ => by rw [w3 0 (by decide) (by decide) (by decide)]) (fun i hi => w61 i (by omega)) w2 (mk_Dl_o (fun c i hr => ?_) hE) ?_ (mk_Im_o (by rw [w3 0 (by decide) (by decide) (by decide)]) (fun c i a b => by rw [w3 c (by omega) (by omega) (by omega)]) (fun i a _ => w61 i (by omega)) (w3 90 (by decide) (by decide) (by decide)) h.2.2.2.1)) (Nat.le_add_right _ _), mk_d (k := 3) (by decide) (fun d => ?_), mk_d (k := 3) (by decide) (fun d => ?_)⟩
    · unfold mk_rel at hr
      rw [w1 c (by omega), mk_rst_c r1 (by omega)]
    · intro s hs
      obtain ⟨z1, z2, z3⟩ := h.2.1 s hs
      rw [w3 2 (by decide) (by decide) (by decide), w3 79 (by decide) (by decide) (by decide), w3 80 (by decide) (by decide) (by decide), w3 81 (by decide) (by decide) (by decide), w2, wr1, s1 s hs, w78 s hs]
      refine ⟨z1, ?_, z3⟩
      have N9 := h.1.2.2.1.1
      rcases z2 with ⟨a, b⟩ | ⟨k, k1, a, b, c⟩ | ⟨p, p1, a, b, c⟩
      · left
        rw [a, b]
        exact ⟨by split <;> rfl, if_neg (fun q => absurd q.1 (by decide))⟩
      · right; left
        refine ⟨k, k1, ?_, ?_, c⟩
        · rw [a, if_neg (fun q => nI_nlt (a := 100 + k) (b := 100) (by omega) (by omega) q.1)]
        · rw [b, if_neg (fun q => absurd q.1 (by decide))]
      · rw [a, b, c, mk_lt0 (by omega) (by omega)]
        by_cases z : p < E 14 14
        · right; right
          refine ⟨p, z, ?_, ?_, rfl⟩
          · rw [decide_eq_true z, if_neg (fun q => absurd q.2 (by decide))]
          · rw [if_neg (fun q => q.2 (nI_lt z (by omega)))]
        · left
          rw [decide_eq_false z]
          exact ⟨if_pos ⟨nI_lt (b := 100) (by omega) (by omega), rfl⟩, if_pos ⟨rfl, nI_nlt (by omega) (by omega)⟩⟩
    · have q := qc d
      rw [if_neg m1, e2914] at q
      exact q
    · have q := qm ρ d
      rw [r3 61 (by decide) (by decide), if_neg m2, e60] at q
      exact q
end
