section
variable {σ τ : mj_St} {D : Nat → Nat → Nat}
/-- how many works there are -/
def mk_wn (D : Nat → Nat → Nat) (n : Nat) : Nat := ((List.range n).filter (fun i => decide (D 15 i < 5))).length
theorem mk_wn_s {n : Nat} : mk_wn D (n + 1) = if D 15 n < 5 then mk_wn D n + 1 else mk_wn D n := by
  unfold mk_wn
  rw [List.range_succ, List.filter_append]
  by_cases c : D 15 n < 5
  · simp [c]
  · simp [c]
theorem mk_wn_le : ∀ n, mk_wn D n ≤ n := by
  intro n
  induction n with
  | zero => exact Nat.le_refl _
  | succ n ih => rw [mk_wn_s]; split <;> omega
/-- both sides hold the deal D, as deals always are -/
def mk_Dl (σ : mj_St) (D : Nat → Nat → Nat) : Prop :=
  mj_isD σ D ∧ mk_isM σ D ∧ mj_okD D ∧
  (∀ i, (D 14 16).testBit i = true → i < D 14 14 ∧ D 15 i < 5) ∧
  (∀ i, i < D 14 14 → ¬ D 15 i < 5 → D 19 i = 0) ∧
  (∀ i, i < D 14 14 → D 15 i < 5 → D 25 i < D 24 i → D 16 i < D 14 17 ∧ mj_asD D i (D 14 18) = true) ∧
  σ.1 14 15 = nI (mk_wn D (D 14 14)) ∧
  (∀ i, i < D 14 14 → σ.1 22 i = nI (D 22 i) ∧ σ.1 72 i = nI (D 22 i) ∧ D 22 i ≤ 99 ∧ σ.1 23 i = nI (D 23 i) ∧ σ.1 73 i = nI (D 23 i) ∧ D 23 i < 6) ∧
  (∀ k, k < 9 → (σ.1 20 k = -1 ∨ mj_inb (σ.1 20 k) 3 = true) ∧ (σ.1 18 k = -1 ∨ mj_inb (σ.1 18 k) 4 = true) ∧ mj_inb (σ.1 17 k) 12 = true ∧ (σ.1 69 k = -1 ∨ mj_inb (σ.1 69 k) 9 = true)) ∧
  ∀ k, k < D 14 14 → ¬ σ.1 75 k = 0
/-- the cells that a deal is told of -/
def mk_rel (c i : Nat) : Prop := (c = 14 ∧ 14 ≤ i ∧ i ≤ 18) ∨ (15 ≤ c ∧ c ≤ 26 ∧ i < 9) ∨ (c = 27 ∧ i < 12) ∨ (c = 28 ∧ i < 3) ∨ (c = 61 ∧ i < 3) ∨ (c = 63 ∧ i < 12) ∨ (c = 64 ∧ i < 3) ∨ (65 ≤ c ∧ c ≤ 77 ∧ i < 9)
theorem mk_Dl_o (h : ∀ c i, mk_rel c i → τ.1 c i = σ.1 c i) (hσ : mk_Dl σ D) : mk_Dl τ D := by
  obtain ⟨⟨a1, a2, a3, a4, a5, a6, a7⟩, ⟨b1, b2, b3, b4, b5, b6⟩, hk, c1, c2, c3, c4, c5, c6, c7⟩ := hσ
  have N9 := hk.1
  have r1 : ∀ i, 14 ≤ i → i ≤ 18 → τ.1 14 i = σ.1 14 i := fun i x y => h 14 i (by unfold mk_rel; omega)
  have r2 : ∀ c i, 15 ≤ c → c ≤ 26 → i < 9 → τ.1 c i = σ.1 c i := fun c i x y z => h c i (by unfold mk_rel; omega)
  have r3 : ∀ c i, 65 ≤ c → c ≤ 77 → i < 9 → τ.1 c i = σ.1 c i := fun c i x y z => h c i (by unfold mk_rel; omega)
  have r4 : ∀ i, i < 3 → τ.1 61 i = σ.1 61 i := fun i x => h 61 i (by unfold mk_rel; omega)
  refine ⟨⟨?_, ?_, ?_, ?_, fun i hi => ?_, fun t ht => ?_, fun f hf => ?_⟩, ⟨?_, ?_, ?_, fun i hi => ?_, fun t ht => ?_, fun f hf => ?_⟩, hk, c1, c2, c3, ?_, fun i hi => ?_, fun k h9 => ?_, fun k hkN => ?_⟩
  · rw [r1 14 (by omega) (by omega)]; exact a1
  · rw [r1 16 (by omega) (by omega)]; exact a2
  · rw [r1 17 (by omega) (by omega)]; exact a3
  · rw [r1 18 (by omega) (by omega)]; exact a4
  · rw [r2 15 i (by omega) (by omega) (by omega), r2 16 i (by omega) (by omega) (by omega), r2 17 i (by omega) (by omega) (by omega), r2 18 i (by omega) (by omega) (by omega), r2 19 i (by omega) (by omega) (by omega), r2 20 i (by omega) (by omega) (by omega), r2 21 i (by omega) (by omega) (by omega), r2 24 i (by omega) (by omega) (by omega), r2 25 i (by omega) (by omega) (by omega), r2 26 i (by omega) (by omega) (by omega)]
    exact a5 i hi
  · rw [h 27 t (by unfold mk_rel; omega)]; exact a6 t ht
  · rw [h 28 f (by unfold mk_rel; omega)]; exact a7 f hf
  · rw [r4 0 (by omega)]; exact b1
  · rw [r4 1 (by omega)]; exact b2
  · rw [r4 2 (by omega)]; exact b3
  · rw [r3 65 i (by omega) (by omega) (by omega), r3 66 i (by omega) (by omega) (by omega), r3 67 i (by omega) (by omega) (by omega), r3 68 i (by omega) (by omega) (by omega), r3 69 i (by omega) (by omega) (by omega), r3 70 i (by omega) (by omega) (by omega), r3 71 i (by omega) (by omega) (by omega), r3 74 i (by omega) (by omega) (by omega), r3 76 i (by omega) (by omega) (by omega), r3 77 i (by omega) (by omega) (by omega), r3 75 i (by omega) (by omega) (by omega)]
    exact b4 i hi
  · rw [h 63 t (by unfold mk_rel; omega)]; exact b5 t ht
  · rw [h 64 f (by unfold mk_rel; omega)]; exact b6 f hf
  · rw [r1 15 (by omega) (by omega)]; exact c4
  · rw [r2 22 i (by omega) (by omega) (by omega), r2 23 i (by omega) (by omega) (by omega), r3 72 i (by omega) (by omega) (by omega), r3 73 i (by omega) (by omega) (by omega)]
    exact c5 i hi
  · rw [r2 20 k (by omega) (by omega) h9, r2 18 k (by omega) (by omega) h9, r2 17 k (by omega) (by omega) h9, r3 69 k (by omega) (by omega) h9]
    exact c6 k h9
  · rw [r3 75 k (by omega) (by omega) (by omega)]
    exact c7 k hkN
theorem mk_wk_len (hD : mj_isD σ D) (hk : mj_okD D) : ((List.range (D 14 14)).filter (fun i => mj_wk (σ.1 15 i))).length = mk_wn D (D 14 14) := by
  unfold mk_wn
  congr 1
  refine List.filter_congr (fun i hi => ?_)
  exact mj_wk_D hD hk (List.mem_range.mp hi)
theorem mk_Dl_Bo (h : mk_Dl σ D) (hl : σ.2.2.2.1 ≤ 20000) : mk_Bo σ D := by
  obtain ⟨hD, hM, hk, c1, c2, c3, c4, c5, c6, c7⟩ := h
  refine ⟨hD, hM, hk, fun i hi => (c1 i hi).1, ⟨hD.1, hk.1, hD.2.2.1, hk.2.2.1, fun k h9 => (c6 k h9).1, ?_, fun i hi _ => ⟨D 25 i, ?_, (hD.2.2.2.2.1 i hi).2.2.2.2.2.2.2.2.1⟩, hl⟩, fun k h9 => (c6 k h9).2.1, fun k h9 => (c6 k h9).2.2.1⟩
  · rw [mk_wk_len hD hk]
    exact hk.2.2.2.2.2.2.2.1
  · have := (hk.2.2.2.2.1 i hi).2.2.2.2.2.2.1
    omega
theorem mk_wc_D (hM : mk_isM σ D) (hk : mj_okD D) : ∀ n, n ≤ D 14 14 → mj_wc σ n = mk_wn D n := by
  intro n
  induction n with
  | zero => intro _; rfl
  | succ n ih =>
    intro hn
    have w := (mk_wk_M hM hk (show n < D 14 14 by omega)).2
    rw [mj_wc_s, mk_wn_s, ih (by omega)]
    by_cases c : D 15 n < 5
    · rw [if_pos c, if_pos (w.mpr c)]
    · rw [if_neg c, if_neg (fun z => c (w.mp z))]
theorem mk_oi_in {x n : Nat} (h : x ≤ n) (hn : n < 1000) : mj_oi x = -1 ∨ mj_inb (mj_oi x) n = true := by
  by_cases c : x = 0
  · rw [c]; exact Or.inl rfl
  · rw [mj_oi_pos (by omega)]
    exact Or.inr (mj_in_nI (by omega) (by omega))
theorem mk_Dl_Mst {R : Nat} (h : mk_Dl σ D) (hS : mj_Scr σ R) : mj_Mst σ (D 14 14) R (D 14 17) (D 14 18) := by
  obtain ⟨hD, hM, hk, c1, c2, c3, c4, c5, c6, c7⟩ := h
  have N9 := hk.1
  refine ⟨⟨hM.1, hk.1, fun k hkN => ?_, fun k hkN ha => ?_, fun k hkN h5 => ?_, fun k h9 => (c6 k h9).2.2.2, ?_, fun i hi => ?_⟩, hS, hM.2.1, hk.2.2.1, hM.2.2.1, hk.2.2.2.1⟩
  · obtain ⟨e65, e66, e67, e68, e69, e70, e71, e74, e76, e77, e75⟩ := hM.2.2.2.1 k hkN
    obtain ⟨k15, k1617, k18, k19, k20, -⟩ := hk.2.2.2.2.1 k hkN
    refine ⟨by rw [e70]; exact mk_oi_in k20 (by decide), (c6 k (by omega)).2.2.2, c7 k hkN, by rw [e68]; exact mk_oi_in k18 (by decide)⟩
  · obtain ⟨e65, e66, e67, e68, e69, e70, e71, e74, e76, e77, e75⟩ := hM.2.2.2.1 k hkN
    obtain ⟨k15, k1617, k18, k19, k20, -⟩ := hk.2.2.2.2.1 k hkN
    rw [e69, mj_oi_m1 (by omega)] at ha
    rw [e69, mj_oi_pos (by omega), nI_clamp (by omega)]
    exact ⟨by omega, (mk_wk_M hM hk (by omega)).2.mpr (k19.2 (by omega))⟩
  · obtain ⟨e65, e66, e67, e68, e69, e70, e71, e74, e76, e77, e75⟩ := hM.2.2.2.1 k hkN
    have d5 := (mk_kd_M hM hk hkN (k := 5) (by omega)).mp h5
    obtain ⟨k15, k1617, k18, k19, k20, k21, k24, k3, k5⟩ := hk.2.2.2.2.1 k hkN
    rw [e68, mj_oi_pos (by have := k5 d5; omega)]
    exact mj_in_nI (by have := k5 d5; omega) (by decide)
  · rw [mk_wc_D hM hk _ (Nat.le_refl _)]
    exact hk.2.2.2.2.2.2.2.1
  · obtain ⟨e65, e66, e67, e68, e69, e70, e71, e74, e76, e77, e75⟩ := hM.2.2.2.1 i hi
    have k24 := (hk.2.2.2.2.1 i hi).2.2.2.2.2.2.1
    unfold mj_lvn
    rw [e77, e76]
    by_cases c : (D 14 16).testBit i = true
    · rw [if_pos c, if_pos (show nI 1 = 1 from rfl)]
      exact ⟨4, by omega, rfl⟩
    · rw [if_neg c, if_neg (by decide)]
      exact ⟨D 25 i, by omega, rfl⟩
/-- the shelves of both sides -/
def mk_Sh (σ : mj_St) (N : Nat) : Prop := ∀ s, s < 8 → (∃ e, e ≤ 60 ∧ σ.1 2 s = nI e ∧ σ.1 80 s = nI e) ∧
  ((σ.1 1 s = -1 ∧ σ.1 78 s = 0) ∨ (∃ k, k < 4 ∧ σ.1 1 s = nI (100 + k) ∧ σ.1 78 s = 1 ∧ σ.1 79 s = nI k) ∨ ∃ p, p < N ∧ σ.1 1 s = nI p ∧ σ.1 78 s = 2 ∧ σ.1 81 s = nI p) ∧
  ∀ i, i < 60 → σ.2.1 (4 + s) i = σ.2.1 82 (60 * s + i)
/-- refusals, the fault, the bodies -/
def mk_Ot (σ : mj_St) : Prop := (∀ k, k < 8 → σ.1 12 k = σ.1 62 k) ∧ σ.1 0 12 = σ.1 61 3 ∧ σ.1 0 13 = σ.1 61 59 ∧ ∀ i, i < 20 → nI i < σ.1 0 13 → σ.1 13 i = σ.1 89 i
/-- what would be restored -/
def mk_rv (σ : mj_St) (c i : Nat) : Int32 := if c = 14 then σ.1 29 i else if c < 29 then σ.1 (c + 15) i else if c = 61 then σ.1 61 (60 + i) else σ.1 90 (mj_iof (c - 63) + i)
theorem mk_rs_v {c i : Nat} (h : mk_rel c i) : (mj_rst (mj_tkF σ 29 14)).1 c i = mk_rv σ c i := by
  have low : ∀ c i, c < 29 → (mj_rst (mj_tkF σ 29 14)).1 c i = (mj_tkF σ 29 14).1 c i := fun c i hc => by
    unfold mj_rst
    rw [mj_ld_o 15 (Or.inl (by omega)), mj_setI_ne _ _ _ (by omega), mj_setI_ne _ _ _ (by omega), mj_setI_ne _ _ _ (by omega)]
  have tk : ∀ c, c ≠ 14 → (mj_tkF σ 29 14).1 c = (mj_tkn σ 29 14 14).1 c := fun c hc => by
    unfold mj_tkF
    rw [mj_setI_ne _ _ _ hc, mj_setI_ne _ _ _ hc, mj_setI_ne _ _ _ hc, mj_setI_ne _ _ _ hc, mj_setI_ne _ _ _ hc]
  have cls : ∀ j i, j < 14 → i < mj_tln j → (mj_tkn σ 29 14 14).1 (15 + j) i = σ.1 (30 + j) i := fun j i hj hi => mj_tkn_in (a := 29) (b := 14) (Or.inr (by decide)) hi 14 hj (Nat.le_refl _)
  have mod : ∀ j i, j < 15 → i < mj_iln j → (mj_rst (mj_tkF σ 29 14)).1 (63 + j) i = σ.1 90 (mj_iof j + i) := fun j i hj hi => by
    unfold mj_rst
    rw [mj_ld_in hi 15 hj (Nat.le_refl _)]
    show (mj_tkF σ 29 14).1 90 (mj_iof j + i) = _
    rw [tk 90 (by decide), mj_tkn_o 14 (Or.inr (by decide))]
  unfold mk_rel at h
  unfold mk_rv
  rcases h with ⟨h, h1, h2⟩ | ⟨h, h1, h2⟩ | ⟨h, h1⟩ | ⟨h, h1⟩ | ⟨h, h1⟩ | ⟨h, h1⟩ | ⟨h, h1⟩ | ⟨h, h1, h2⟩
  · subst h
    rw [low 14 i (by decide), if_pos rfl]
    have : i = 14 ∨ i = 15 ∨ i = 16 ∨ i = 17 ∨ i = 18 := by omega
    rcases this with e | e | e | e | e <;> subst e <;> rfl
  · rw [low c i (by omega), tk c (by omega), if_neg (by omega), if_pos (by omega)]
    have := cls (c - 15) i (by omega) (by unfold mj_tln; rw [if_neg (by omega), if_neg (by omega)]; exact h2)
    rw [show 15 + (c - 15) = c by omega, show 30 + (c - 15) = c + 15 by omega] at this
    exact this
  · subst h
    rw [low 27 i (by decide), tk 27 (by decide)]
    exact cls 12 i (by decide) h1
  · subst h
    rw [low 28 i (by decide), tk 28 (by decide)]
    exact cls 13 i (by decide) h1
  · subst h
    unfold mj_rst
    rw [mj_ld_o 15 (Or.inl (by decide))]
    have t61 : ∀ i, (mj_tkF σ 29 14).1 61 i = σ.1 61 i := fun i => by rw [tk 61 (by decide), mj_tkn_o 14 (Or.inr (by decide))]
    have : i = 0 ∨ i = 1 ∨ i = 2 := by omega
    rcases this with e | e | e <;> subst e
    · exact t61 60
    · exact t61 61
    · exact t61 62
  · subst h
    exact mod 0 i (by decide) h1
  · subst h
    exact mod 1 i (by decide) h1
  · rw [if_neg (by omega), if_neg (by omega), if_neg (by omega)]
    have := mod (c - 63) i (by omega) (by unfold mj_iln; rw [if_neg (by omega), if_neg (by omega)]; exact h2)
    rw [show 63 + (c - 63) = c by omega] at this
    exact this
/-- the image of both sides -/
def mk_Im (σ : mj_St) : Prop := (σ.1 0 11 = 0 ∧ σ.1 61 60 = -1) ∨ (¬ σ.1 0 11 = 0 ∧ ¬ σ.1 61 60 = -1 ∧ ∃ E, mk_Dl (mj_rst (mj_tkF σ 29 14)) E)
theorem mk_Im_o (h0 : τ.1 0 11 = σ.1 0 11) (h1 : ∀ c i, 28 < c → c < 44 → τ.1 c i = σ.1 c i) (h2 : ∀ i, 60 ≤ i → i < 63 → τ.1 61 i = σ.1 61 i) (h3 : τ.1 90 = σ.1 90) (h : mk_Im σ) : mk_Im τ := by
  unfold mk_Im at h ⊢
  rw [h0, h2 60 (by decide) (by decide)]
  rcases h with h | ⟨a, b, E, e⟩
  · exact Or.inl h
  · refine Or.inr ⟨a, b, E, mk_Dl_o (fun c i hr => ?_) e⟩
    rw [mk_rs_v hr, mk_rs_v hr]
    unfold mk_rv
    rw [h3]
    unfold mk_rel at hr
    by_cases c1 : c = 14
    · rw [if_pos c1, if_pos c1, h1 29 i (by decide) (by decide)]
    · rw [if_neg c1, if_neg c1]
      by_cases c2 : c < 29
      · rw [if_pos c2, if_pos c2, h1 (c + 15) i (by omega) (by omega)]
      · rw [if_neg c2, if_neg c2]
        by_cases c3 : c = 61
        · rw [if_pos c3, if_pos c3, h2 (60 + i) (by omega) (by omega)]
        · rw [if_neg c3, if_neg c3]
/-- what stands between calls -/
def mk_Inv (σ : mj_St) (D : Nat → Nat → Nat) (R B : Nat) : Prop := mk_Dl σ D ∧ mk_Sh σ (D 14 14) ∧ mk_Ot σ ∧ mk_Im σ ∧ mj_Scr σ R ∧ σ.2.2.2.1 ≤ 20000 ∧ mj_Rb B σ
/-- the same, but for refusals and scratch -/
def mk_Sm (σ τ : mj_St) : Prop := (∀ c, c ≠ 12 → c ≠ 62 → c ≠ 44 → (c < 46 ∨ 60 < c) → c ≠ 61 → c ≠ 85 → c ≠ 86 → c ≠ 87 → c ≠ 88 → τ.1 c = σ.1 c) ∧ (∀ i, i < 4 ∨ 59 ≤ i → τ.1 61 i = σ.1 61 i) ∧ ∀ c, c < 13 ∨ c = 82 → τ.2.1 c = σ.2.1 c
theorem mk_Sm_rf : mk_Sm σ σ := ⟨fun _ _ _ _ _ _ _ _ _ _ => rfl, fun _ _ => rfl, fun _ _ => rfl⟩
theorem mk_Sm_tr {ρ : mj_St} (h : mk_Sm σ τ) (g : mk_Sm τ ρ) : mk_Sm σ ρ := ⟨fun c a b e f u v w x y => (g.1 c a b e f u v w x y).trans (h.1 c a b e f u v w x y), fun i a => (g.2.1 i a).trans (h.2.1 i a), fun c a => (g.2.2 c a).trans (h.2.2 c a)⟩
theorem mk_Inv_sm {R R' B : Nat} (h : mk_Inv σ D R B) (hs : mk_Sm σ τ) (hr : ∀ k, k < 8 → τ.1 12 k = τ.1 62 k) (hS : mj_Scr τ R') (hl : τ.2.2.2.1 ≤ 20000) (hB : mj_Rb B τ) : mk_Inv τ D R' B := by
  obtain ⟨h1, h2, ⟨-, o2, o3, o4⟩, h4, -, -, -⟩ := h
  obtain ⟨s1, s2, s3⟩ := hs
  have c0 : τ.1 0 = σ.1 0 := s1 0 (by decide) (by decide) (by decide) (by decide) (by decide) (by decide) (by decide) (by decide) (by decide)
  have sc : ∀ c, c ≠ 12 → c ≠ 44 → c < 46 → τ.1 c = σ.1 c := fun c a b d => s1 c a (by omega) b (Or.inl d) (by omega) (by omega) (by omega) (by omega) (by omega)
  have sm : ∀ c, 62 < c → c < 85 → τ.1 c = σ.1 c := fun c a b => s1 c (by omega) (by omega) (by omega) (Or.inr (by omega)) (by omega) (by omega) (by omega) (by omega) (by omega)
  have s89 : τ.1 89 = σ.1 89 := s1 89 (by decide) (by decide) (by decide) (Or.inr (by decide)) (by decide) (by decide) (by decide) (by decide) (by decide)
  have s90 : τ.1 90 = σ.1 90 := s1 90 (by decide) (by decide) (by decide) (Or.inr (by decide)) (by decide) (by decide) (by decide) (by decide) (by decide)
  refine ⟨mk_Dl_o (fun c i hrel => ?_) h1, fun s h8 => ?_, ⟨hr, ?_, ?_, ?_⟩, mk_Im_o (by rw [c0]) (fun c i a b => by rw [sc c (by omega) (by omega) (by omega)]) (fun i a _ => s2 i (Or.inr (by omega))) s90 h4, hS, hl, hB⟩
  · unfold mk_rel at hrel
    by_cases c1 : c < 46
    · rw [sc c (by omega) (by omega) c1]
    · by_cases c2 : c = 61
      · rw [c2]
        exact s2 i (Or.inl (by omega))
      · rw [sm c (by omega) (by omega)]
  · rw [sc 1 (by decide) (by decide) (by decide), sc 2 (by decide) (by decide) (by decide), sm 78 (by decide) (by decide), sm 79 (by decide) (by decide), sm 80 (by decide) (by decide), sm 81 (by decide) (by decide), s3 (4 + s) (Or.inl (by omega)), s3 82 (Or.inr rfl)]
    exact h2 s h8
  · rw [c0, s2 3 (Or.inl (by decide))]; exact o2
  · rw [c0, s2 59 (Or.inr (by decide))]; exact o3
  · rw [c0, sc 13 (by decide) (by decide) (by decide), s89]; exact o4
end
