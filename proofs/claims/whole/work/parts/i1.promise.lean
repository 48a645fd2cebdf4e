section
variable {X : mj_X} {d : Nat} {σ τ ρ μ : mj_St} {D : Nat → Nat → Nat} {R R' B : Nat} {f : Nat → Int32} {q : Nat → Nat}
/-- what stands after a text is read, and perhaps more promises -/
theorem mk_Inv_prm {D' : Nat → Nat → Nat} (h : mk_Inv σ D R B) (c : ∀ c, c = 1 ∨ c = 2 ∨ c = 13 ∨ (29 ≤ c ∧ c ≤ 43) ∨ (78 ≤ c ∧ c ≤ 82) ∨ c = 89 ∨ c = 90 → τ.1 c = σ.1 c) (c0 : ∀ i, i = 11 ∨ i = 13 → τ.1 0 i = σ.1 0 i) (hft : τ.1 0 12 = τ.1 61 3) (c61 : ∀ i, 59 ≤ i → τ.1 61 i = σ.1 61 i) (hr : ∀ k, k < 8 → τ.1 12 k = τ.1 62 k) (h2 : ∀ c, c < 13 ∨ c = 82 → τ.2.1 c = σ.2.1 c) (hDl : mk_Dl τ D') (hN : D 14 14 ≤ D' 14 14) (hS : mj_Scr τ R') (hl : τ.2.2.2.1 ≤ 20000) (hB : mj_Rb B τ) : mk_Inv τ D' R' B := by
  obtain ⟨i1, i2, ⟨o1, o2, o3, o4⟩, i4, i5, i6, i7⟩ := h
  refine ⟨hDl, ?_, ⟨hr, hft, ?_, ?_⟩, mk_Im_o (c0 11 (by omega)) (fun c' i a b => by rw [c c' (by omega)]) (fun i a _ => c61 i (by omega)) (c 90 (by omega)) i4, hS, hl, hB⟩
  · intro s hs
    obtain ⟨z1, z2, z3⟩ := i2 s hs
    rw [c 1 (by omega), c 2 (by omega), c 78 (by omega), c 79 (by omega), c 80 (by omega), c 81 (by omega), h2 (4 + s) (Or.inl (by omega)), h2 82 (Or.inr rfl)]
    refine ⟨z1, ?_, z3⟩
    rcases z2 with z | z | ⟨p, p1, z⟩
    · exact Or.inl z
    · exact Or.inr (Or.inl z)
    · exact Or.inr (Or.inr ⟨p, by omega, z⟩)
  · rw [c0 13 (by omega), c61 59 (by omega)]; exact o3
  · rw [c0 13 (by omega), c 13 (by omega), c 89 (by omega)]; exact o4
/-- what reading leaves in the class -/
def mk_Tc (σ ρ : mj_St) : Prop := (∀ c, c ≠ 0 → c ≠ 44 → ρ.1 c = σ.1 c) ∧ (∀ i, i ≠ 12 → ρ.1 0 i = σ.1 0 i) ∧ ρ.2.1 = σ.2.1 ∧ ρ.2.2.2 = σ.2.2.2
theorem mk_Tc_of {n : Nat} {v : Int32} (F : mj_Fc 44 mj_AF (mj_setR σ 44 0 (some n)) ρ) : mk_Tc σ (mj_setI ρ 0 12 v) := by
  obtain ⟨f1, f2, f3⟩ := F
  refine ⟨fun c a b => by rw [mj_setI_ne _ _ _ a]; exact f2 c b, fun i a => by rw [mj_setI_i a, f2 0 (by decide)]; rfl, ?_, ?_⟩
  · show ρ.2.1 = σ.2.1
    rw [f1]; rfl
  · show ρ.2.2.2 = σ.2.2.2
    rw [f1]; rfl
theorem mk_rtx_o (h2 : μ.2.1 82 = σ.2.1 82) (h61 : μ.1 61 0 = σ.1 61 0) (h65 : μ.1 65 = σ.1 65) : mj_rtx μ = mj_rtx σ := by
  have e1 : mj_lt μ = mj_lt σ := by
    funext s a
    unfold mj_lt
    rw [h2]
  have e2 : mj_wkM μ = mj_wkM σ := by
    funext v
    unfold mj_wkM
    rw [h61, h65]
  funext s e
  unfold mj_rtx
  rw [e1, e2]
/-- both sides find the same in a text -/
theorem mk_by_eq {n e : Nat} (h : mk_Inv σ D R B) (he : e ≤ 60) (lg : ∀ i, i < 60 → σ.2.1 (4 + n) i = σ.2.1 82 (60 * n + i)) (h2 : μ.2.1 82 = σ.2.1 82) (h61 : ∀ i, i < 2 → μ.1 61 i = σ.1 61 i) (h65 : μ.1 65 = σ.1 65) : mj_rtx μ n e = mj_ctx σ n e ∧ mj_tby μ n e = mj_cby σ n e ∧ mj_tft μ n e = mj_cft σ n e := by
  have e1 : mj_rtx μ n e = mj_ctx σ n e := by
    rw [mk_rtx_o h2 (h61 0 (by decide)) h65]
    exact (mk_tx_eq h.1.1 h.1.2.1 h.1.2.2.1 he lg).symm
  refine ⟨e1, ?_, ?_⟩
  · unfold mj_tby mj_cby
    rw [e1, h61 1 (by decide), show σ.1 61 1 = σ.1 14 17 from h.1.2.1.2.1.trans h.1.1.2.2.1.symm]
  · unfold mj_tft mj_cft
    rw [e1]
theorem mk_Scr_Fx {S : List Nat} (hS : 51 ∉ S) (F : mj_Fx S σ ρ) (h : mj_Scr σ R) : mj_Scr ρ R := mk_Scr_o (F.2.1 84 (by decide)) (F.2.1 85 (by decide)) (F.2.1 87 (by decide)) (F.2.2 51 hS) h
/-- a text read by both, and both refuse -/
theorem mk_Inv_txt {w : Int32} (h : mk_Inv σ D R B) (T : mk_Tc σ ρ) (G : mj_Fx mj_TF (mj_rfC ρ w) μ) (hft : μ.1 61 3 = ρ.1 0 12) : mk_Inv (mj_rfM μ w) D R B := by
  obtain ⟨t1, t2, t3, t4⟩ := T
  obtain ⟨g1, g2, g3⟩ := G
  have c : ∀ c, c ≠ 0 → c ≠ 12 → c ≠ 44 → c ≠ 61 → c ≠ 62 → (mj_rfM μ w).1 c = σ.1 c := fun c a1 a2 a3 a4 a5 => by
    unfold mj_rfM
    rw [mj_setI_ne _ _ _ a5, g2 c a4, mk_rfC_o a2, t1 c a1 a3]
  have c0 : (mj_rfM μ w).1 0 = ρ.1 0 := by
    unfold mj_rfM
    rw [mj_setI_ne _ _ _ (by decide), g2 0 (by decide), mk_rfC_o (by decide)]
  have c61 : ∀ i, i ∉ mj_TF → (mj_rfM μ w).1 61 i = σ.1 61 i := fun i hi => by
    unfold mj_rfM
    rw [mj_setI_ne _ _ _ (by decide), g3 i hi, mk_rfC_o (by decide), t1 61 (by decide) (by decide)]
  have nf : ∀ i, i < 3 ∨ 43 < i → i ∉ mj_TF := fun i hi => by
    unfold mj_TF
    simp
    omega
  have e2 : (mj_rfM μ w).2 = ρ.2 := by
    show μ.2 = ρ.2
    rw [g1]; rfl
  refine mk_Inv_prm h (fun c' hc => c c' (by omega) (by omega) (by omega) (by omega) (by omega)) (fun i hi => by rw [c0]; exact t2 i (by omega)) ?_ (fun i hi => c61 i (nf i (by omega))) (fun k hk => ?_) (fun c' _ => by rw [e2, t3]) (mk_Dl_o (fun c' i hr => ?_) h.1) (Nat.le_refl _) (mk_Scr_o (c 84 (by decide) (by decide) (by decide) (by decide) (by decide)) (c 85 (by decide) (by decide) (by decide) (by decide) (by decide)) (c 87 (by decide) (by decide) (by decide) (by decide) (by decide)) (c61 51 (nf 51 (by decide))) h.2.2.2.2.1) (by rw [e2, t4]; exact h.2.2.2.2.2.1) (by unfold mj_Rb; rw [e2, t4]; exact h.2.2.2.2.2.2)
  · rw [c0]
    unfold mj_rfM
    rw [mj_setI_ne _ _ _ (by decide), hft]
  · have e12 : (mj_rfM μ w).1 12 k = if k = (-w).toNatClampNeg then σ.1 12 (-w).toNatClampNeg + 1 else σ.1 12 k := by
      unfold mj_rfM
      rw [mj_setI_ne _ _ _ (by decide), g2 12 (by decide)]
      unfold mj_rfC
      rw [mj_rI, t1 12 (by decide) (by decide)]
      simp
    have e62 : (mj_rfM μ w).1 62 k = if k = (-w).toNatClampNeg then σ.1 62 (-w).toNatClampNeg + 1 else σ.1 62 k := by
      unfold mj_rfM
      rw [mj_rI, g2 62 (by decide), mk_rfC_o (by decide), t1 62 (by decide) (by decide)]
      simp
    rw [e12, e62]
    by_cases z : k = (-w).toNatClampNeg
    · rw [if_pos z, if_pos z, ← z, h.2.2.1.1 k hk]
    · rw [if_neg z, if_neg z, h.2.2.1.1 k hk]
  · unfold mk_rel at hr
    by_cases z : c' = 61
    · rw [z]; exact c61 i (nf i (by omega))
    · rw [c c' (by omega) (by omega) (by omega) z (by omega)]
/-- whether there is room for one more after k -/
def mk_room (D : Nat → Nat → Nat) (q : Nat → Nat) (k : Nat) : Bool := decide (D 14 14 + k < 9) && (if q 15 < 5 then decide (mk_wn D (D 14 14) + k < 6) else decide (D 14 14 + k - mk_wn D (D 14 14) < 3))
theorem mk_kz {k : Nat} (h : ρ.1 44 4 = nI (q 15)) (hk : q 15 ≤ 6) (h1 : 1 ≤ q 15) (hk9 : k < 1000) : mj_kz ρ k = nI (if q 15 < 5 then k else 0) := by
  have wk : mj_wk (ρ.1 44 4) = decide (q 15 < 5) := by
    rw [h]
    have : q 15 = 1 ∨ q 15 = 2 ∨ q 15 = 3 ∨ q 15 = 4 ∨ q 15 = 5 ∨ q 15 = 6 := by omega
    rcases this with z | z | z | z | z | z <;> rw [z] <;> decide
  induction k with
  | zero => show (0 : Int32) = _; split <;> rfl
  | succ k ih =>
    show mj_kz ρ k + mj_z (mj_wk (ρ.1 44 4)) = _
    rw [ih (by omega), wk]
    by_cases c : q 15 < 5
    · rw [if_pos c, if_pos c, decide_eq_true c]
      exact nI_add k 1
    · rw [if_neg c, if_neg c, decide_eq_false c]; rfl
theorem mk_wk44 (h : ρ.1 44 4 = nI (q 15)) (hk : q 15 ≤ 6) (h1 : 1 ≤ q 15) : mj_wk (ρ.1 44 4) = decide (q 15 < 5) := by
  rw [h]
  have : q 15 = 1 ∨ q 15 = 2 ∨ q 15 = 3 ∨ q 15 = 4 ∨ q 15 = 5 ∨ q 15 = 6 := by omega
  rcases this with z | z | z | z | z | z <;> rw [z] <;> decide
theorem mk_rmk_eq {k : Nat} (h15 : ρ.1 14 15 = nI (mk_wn D (D 14 14))) (h : ρ.1 44 4 = nI (q 15)) (hk : q 15 ≤ 6) (h1 : 1 ≤ q 15) (hN : D 14 14 ≤ 9) (hk9 : k < 100) : mj_rmk ρ (D 14 14) k = mk_room D q k := by
  have wle := mk_wn_le (D := D) (D 14 14)
  unfold mj_rmk mk_room
  rw [mk_wk44 h hk h1, mk_kz h hk h1 (by omega), h15]
  congr 1
  by_cases c : q 15 < 5
  · rw [decide_eq_true c, if_pos rfl, if_pos c, if_pos c, nI_add]
    exact mj_dec (mk_nI_lt (b := 6) (by omega) (by decide))
  · rw [decide_eq_false c, if_neg (by decide), if_neg c, if_neg c, nI_add, mj_nI_sub (by omega)]
    exact mj_dec (mk_nI_lt (b := 3) (by omega) (by decide))
theorem mk_Mkn_D (hM : mk_isM μ D) (hk : mj_okD D) : ∀ n, n ≤ D 14 14 → mj_Mkn μ true n = mk_wn D n ∧ mj_Mkn μ false n = n - mk_wn D n := by
  intro n
  induction n with
  | zero => intro _; exact ⟨rfl, rfl⟩
  | succ n ih =>
    intro hn
    obtain ⟨i1, i2⟩ := ih (by omega)
    have w := (mk_wk_M hM hk (show n < D 14 14 by omega)).2
    have wle := mk_wn_le (D := D) n
    have e : ∀ b, mj_Mkn μ b (n + 1) = if decide (μ.1 65 n < 5) = b then mj_Mkn μ b n + 1 else mj_Mkn μ b n := fun b => rfl
    rw [e, e, mk_wn_s, i1, i2]
    by_cases c : D 15 n < 5
    · rw [decide_eq_true (w.mpr c), if_pos rfl, if_neg (show ¬ true = false by decide), if_pos c]
      exact ⟨rfl, by omega⟩
    · rw [decide_eq_false (fun z => c (w.mp z)), if_neg (show ¬ false = true by decide), if_pos rfl, if_neg c]
      exact ⟨rfl, by omega⟩
theorem mk_rm_eq {k : Nat} (hM : mk_isM μ (mk_aD D q k)) (hk : mj_okD (mk_aD D q k)) (h33 : μ.1 61 33 = nI (q 15)) (hq : q 15 ≤ 6) : mj_rm μ (D 14 14 + k) = mk_room D q k := by
  obtain ⟨a, b⟩ := mk_Mkn_D hM hk (D 14 14 + k) (by rw [mk_aD_N]; exact Nat.le_refl _)
  rw [mk_aD_wn] at a b
  have l : μ.1 61 33 < 5 ↔ q 15 < 5 := by rw [h33]; exact mk_nI_lt (b := 5) (by omega) (by decide)
  unfold mj_rm mk_room
  rw [a, b]
  congr 1
  by_cases c : q 15 < 5
  · rw [if_pos (l.mpr c), if_pos c, if_pos c]
  · rw [if_neg (fun z => c (l.mp z)), if_neg c, if_neg c, Nat.add_zero]
theorem mk_isM_a0 (hM : mk_isM μ D) : mk_isM μ (mk_aD D q 0) := by
  obtain ⟨b1, b2, b3, b4, b5, b6⟩ := hM
  unfold mk_isM
  rw [mk_aD_N, mk_aD_14 (by decide), mk_aD_14 (by decide), mk_aD_14 (by decide), mk_aD_o (c := 27) (by decide) (by decide), mk_aD_o (c := 28) (by decide) (by decide)]
  refine ⟨b1, b2, b3, fun i hi => ?_, b5, b6⟩
  have c : i < D 14 14 := hi
  rw [mk_aD_l c (by decide), mk_aD_l c (by decide), mk_aD_l c (by decide), mk_aD_l c (by decide), mk_aD_l c (by decide), mk_aD_l c (by decide), mk_aD_l c (by decide), mk_aD_l c (by decide), mk_aD_l c (by decide), mk_aD_l c (by decide)]
  exact b4 i c
theorem mk_room_ok {k : Nat} (hk : mj_okD D) (hq : mk_Nq D q) (hr : mk_room D q k = true) : mj_okD (mk_aD D q (k + 1)) ∧ D 14 14 + k < 9 := by
  unfold mk_room at hr
  rw [Bool.and_eq_true, decide_eq_true_eq] at hr
  have w6 : mk_wn D (D 14 14) ≤ 6 := hk.2.2.2.2.2.2.2.1
  refine ⟨mk_aD_ok hk hq (by omega) ?_, hr.1⟩
  by_cases c : q 15 < 5
  · rw [if_pos c]
    have := hr.2
    rw [if_pos c, decide_eq_true_eq] at this
    omega
  · rw [if_neg c]; omega
theorem mk_aD0_ok (hk : mj_okD D) (hq : mk_Nq D q) : mj_okD (mk_aD D q 0) := mk_aD_ok hk hq (by have := hk.1; omega) (by have : mk_wn D (D 14 14) ≤ 6 := hk.2.2.2.2.2.2.2.1; split <;> omega)
end
