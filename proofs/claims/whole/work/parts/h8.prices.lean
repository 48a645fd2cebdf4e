section
variable {X : mj_X} {d : Nat} {σ τ ρ : mj_St} {D : Nat → Nat → Nat} {R R' B : Nat}
-- spare hands
theorem mk_sm_app {f : Nat → Int32} : ∀ (j k : Nat) (a : Int32), mj_sm f k (j + 1) a = mj_sm f k j a + f (k + j) := by
  intro j
  induction j with
  | zero => intro k a; rfl
  | succ j ih =>
    intro k a
    show mj_sm f (k + 1) (j + 1) (a + f k) = mj_sm f (k + 1) j (a + f k) + f (k + (j + 1))
    rw [ih, show k + 1 + j = k + (j + 1) by omega]
theorem mk_sh1_eq {w : Nat} (h : ∀ t, t < 12 → σ.1 63 t = σ.1 27 t) : ∀ n, w + n ≤ 12 → mj_sh1 σ w n = mj_sm (σ.1 63) w n 0 := by
  intro n
  induction n with
  | zero => intro _; rfl
  | succ n ih =>
    intro hn
    rw [mk_sm_app, ← ih (by omega), h (w + n) (by omega)]
    rfl
theorem mk_spare_eq {o : Int32} (h : mk_Dl σ D) : mj_sp2 σ o (mj_sh1 σ (D 14 17) (12 - D 14 17)) (D 14 14) = mj_spl σ o (D 14 14) (mj_sm (σ.1 63) (D 14 17) (12 - D 14 17) 0) := by
  obtain ⟨hD, hM, hk, -⟩ := h
  have N9 := hk.1
  have w12 := hk.2.2.1
  rw [mk_sh1_eq (fun t ht => (hM.2.2.2.2.1 t ht).trans (hD.2.2.2.2.2.1 t ht).symm) _ (by omega)]
  unfold mj_sp2 mj_spl
  refine mj_it_congr _ (fun i hi u => ?_)
  obtain ⟨a15, a16, a17, a18, a19, a20, a21, a24, a25, a26⟩ := hD.2.2.2.2.1 i hi
  obtain ⟨b65, b66, b67, b68, b69, b70, b71, b74, b76, b77, b75⟩ := hM.2.2.2.1 i hi
  have e : mj_sp1 σ o i = mj_spr σ o i := by
    unfold mj_sp1 mj_spr
    rw [mj_wk_D hD hk hi, a20, a21, b70, b71, b77, hD.2.1, mj_b_nI (by have := hk.2.1; omega)]
    have e1 : decide (σ.1 65 i < 5) = decide (D 15 i < 5) := by
      by_cases c : D 15 i < 5
      · rw [decide_eq_true c, decide_eq_true ((mk_wk_M hM hk hi).2.mpr c)]
      · rw [decide_eq_false c, decide_eq_false (fun z => c ((mk_wk_M hM hk hi).2.mp z))]
    rw [e1]
    cases (D 14 16).testBit i
    · rw [if_neg (by decide), decide_eq_true (show nI 0 = 0 from rfl)]; rfl
    · rw [if_pos rfl, decide_eq_false (show ¬ nI 1 = 0 by decide)]; rfl
  rw [e, a25, b76]
theorem cl_spare {o : Int32} (h : mk_Inv σ D R B) : mk_Cl X σ R B 119 229 [.int o] := by
  have hB := mk_Rl_Bo mk_Rl_0 h
  by_cases c : mj_inb o 8 = true
  · obtain ⟨o', o1, o2⟩ := mj_nI_of c (by decide)
    subst o2
    refine mk_Cl_ok h (kc := 3) (km := 3) (by decide) (by decide) (mk_spare_eq (o := nI o') h.1) (fun d => sp_spareC hB.2.2.2.2.1 o1) (fun d => ?_)
    have z := sp_M_spare (X := X) (d := d) (o := nI o') (mk_Rl_Mst mk_Rl_0 h)
    rw [if_pos c] at z
    exact z
  · refine mk_Cl_no (v := -1000) (w := -6) h (kc := 2) (km := 3) (by decide) (by decide) (fun d => sp_spareN (mk_f8 c)) (fun d => ?_)
    have z := sp_M_spare (X := X) (d := d) (o := o) (mk_Rl_Mst (mk_Rl_rf (w := -6) mk_Rl_0) h)
    rw [if_neg c] at z
    exact z
-- the cheapest to break
theorem mk_KX (h : mk_Inv σ D R B) : mj_KX σ (D 14 14) (D 14 17) (mk_K σ D) := by
  intro τ F set o ho
  obtain ⟨hD, hM, hk, hb, hc, he⟩ := mk_Rl_Bo (mk_Rl_FB F) h
  refine mk_beq ?_
  have := mj_ckg_D (set := set) (gr := 1) hD hk hb hc he (Or.inl rfl) ho
  rw [mk_sg1, mk_Rl_ring (mk_Rl_FB F)] at this
  unfold mj_ckp mk_K
  rw [this, mk_dc_i]
theorem mk_cheap {o : Nat} {c : Int32} {pr : Nat → Nat} (hX : mj_XS X) (h : mk_Inv σ D R B) (ho : o < 8) (hpr : ∀ i, i < D 14 14 → mj_bcs σ c i = nI (pr i)) (hp : ∀ i, i < D 14 14 → pr i ≤ 99) (hpm : ∀ ρ, mk_Rl σ ρ → ∀ i, i < D 14 14 → mj_prc (mj_setI ρ 61 55 c) i = nI (pr i)) : ∃ v ρ, mj_FB σ ρ ∧ (∀ d, mj_ev X (d + 42) 105 [.ref 55, .ref 14, .ref 46, .int (nI o), .int c] σ = some (some (.int v), ρ)) ∧ v = mj_cho (mj_setI ρ 61 55 c) (nI o) (D 14 14) (D 14 17) 0 (2 ^ D 14 14) (-1) := by
  have hB := mk_Rl_Bo mk_Rl_0 h
  obtain ⟨hD, hM, hk, d1, d2, -⟩ := id h.1
  obtain ⟨b, ρ, F, hb, q⟩ := sp_least (X := X) (e := c) (K := mk_K σ D) hX hB.2.2.2.2.1 hB.2.2.2.2.2 (mk_KX h) ho (mk_gd_mono hD hk ho) (mk_gd_full hD hk ho) (mk_gd_price hD hk ho hpr hp)
  refine ⟨_, ρ, F, q, ?_⟩
  have G := mk_Rl_FB F
  have hD' := mk_Rl_Dl G h.1
  have s : ∀ c', c' ≠ 61 → (mj_setI ρ 61 55 c).1 c' = ρ.1 c' := fun c' x => mj_setI_ne _ _ _ x
  refine mk_least_eq hD hk ho d1 d2 hpr hp hb (mj_isD_o (fun c' x => s c' (by omega)) hD'.1) (mk_isM_o (fun c' x y => s c' (by omega)) (mj_setI_i (by decide)) (mj_setI_i (by decide)) (mj_setI_i (by decide)) hD'.2.1) ?_ (hpm ρ G)
  rw [← mk_Rl_ring G]
  exact mk_ring_c (s 14 (by decide)) (s 15 (by decide)) (s 19 (by decide))
theorem mk_Inv_55 {c : Int32} (h : mk_Inv σ D R B) : mk_Inv (mj_setI σ 61 55 c) D R B := by
  have s : ∀ c', c' ≠ 61 → (mj_setI σ 61 55 c).1 c' = σ.1 c' := fun c' x => mj_setI_ne _ _ _ x
  refine mk_Inv_sm h ⟨fun c' _ _ _ _ x _ _ _ _ => s c' x, fun i hi => mj_setI_i (by omega), fun _ _ => rfl⟩ (fun k hk => ?_) (mk_Scr_o (s 84 (by decide)) (s 85 (by decide)) (s 87 (by decide)) (mj_setI_i (by decide)) h.2.2.2.2.1) h.2.2.2.2.2.1 h.2.2.2.2.2.2
  rw [s 12 (by decide), s 62 (by decide)]
  exact h.2.2.1.1 k hk
theorem cl_dear {o : Int32} (hX : mj_XS X) (hR : R + 512 < 2147483648) (h : mk_Inv σ D R B) : mk_Cl X σ R B 104 221 [.int o] := by
  by_cases c : mj_inb o 8 = true
  · obtain ⟨o', o1, o2⟩ := mj_nI_of c (by decide)
    subst o2
    have d5 := h.1.2.2.2.2.2.2.2.1
    obtain ⟨v, ρ, F, q, e⟩ := mk_cheap (X := X) (c := 0) (pr := D 22) hX h o1 (fun i hi => by unfold mj_bcs; rw [if_pos rfl]; exact (d5 i hi).1) (fun i hi => (d5 i hi).2.2.1) (fun ρ G i hi => by
      unfold mj_prc
      rw [mj_setI_eq, if_pos rfl, mj_setI_ne _ _ _ (by decide), G.2.1 72 (by decide)]
      exact (d5 i hi).2.1)
    obtain ⟨τ, G, S, e2⟩ := sp_M_dear (X := X) (o := nI o') (mk_Rl_Mst (mk_Rl_FB F) h) hR
    refine ⟨v, ρ, τ, D, mk_Inv_Fq (mk_Inv_55 (mk_Inv_FB h F)) G S, mk_d (k := 43) (by decide) (fun d => sp_dearC o1 q), mk_d (k := 18) (by decide) (fun d => ?_)⟩
    have z := e2 d
    rw [if_pos c, ← e] at z
    exact z
  · obtain ⟨τ, G, S, e⟩ := sp_M_dear (X := X) (o := o) (mk_Rl_Mst (mk_Rl_rf (w := -6) mk_Rl_0) h) hR
    refine mk_Cl_no (v := -6) (w := -6) h (kc := 2) (km := 18) (by decide) (by decide) (fun d => sp_dearN (mk_f8 c)) (fun d => ?_)
    have z := e d
    rw [if_neg c] at z
    exact z
theorem cl_fewest {o : Int32} (hX : mj_XS X) (hR : R + 512 < 2147483648) (h : mk_Inv σ D R B) : mk_Cl X σ R B 113 225 [.int o] := by
  by_cases c : mj_inb o 8 = true
  · obtain ⟨o', o1, o2⟩ := mj_nI_of c (by decide)
    subst o2
    obtain ⟨v, ρ, F, q, e⟩ := mk_cheap (X := X) (c := 1) (pr := fun _ => 1) hX h o1 (fun i hi => by unfold mj_bcs; rw [if_neg (by decide)]; rfl) (fun i hi => by decide) (fun ρ G i hi => by
      unfold mj_prc
      rw [mj_setI_eq, if_neg (by decide)]; rfl)
    obtain ⟨τ, G, S, e2⟩ := sp_M_fewest (X := X) (o := nI o') (mk_Rl_Mst (mk_Rl_FB F) h) hR
    refine ⟨v, ρ, τ, D, mk_Inv_Fq (mk_Inv_55 (mk_Inv_FB h F)) G S, mk_d (k := 43) (by decide) (fun d => sp_fewestC o1 q), mk_d (k := 18) (by decide) (fun d => ?_)⟩
    have z := e2 d
    rw [if_pos c, ← e] at z
    exact z
  · obtain ⟨τ, G, S, e⟩ := sp_M_fewest (X := X) (o := o) (mk_Rl_Mst (mk_Rl_rf (w := -6) mk_Rl_0) h) hR
    refine mk_Cl_no (v := -6) (w := -6) h (kc := 2) (km := 18) (by decide) (by decide) (fun d => sp_fewestN (mk_f8 c)) (fun d => ?_)
    have z := e d
    rw [if_neg c] at z
    exact z
end
