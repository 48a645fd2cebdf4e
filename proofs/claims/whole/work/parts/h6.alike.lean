section
variable {X : mj_X} {σ τ ρ : mj_St} {D : Nat → Nat → Nat} {R R' B : Nat}
/-- what a call of the class leaves: the deals of both sides stand -/
def mk_Rl (σ ρ : mj_St) : Prop := (∀ c, c < 46 → c ≠ 12 → ρ.1 c = σ.1 c) ∧ (∀ c, 60 < c → ρ.1 c = σ.1 c) ∧ (σ.2.2.2.1 ≤ 20000 → ρ.2.2.2.1 ≤ 20000)
theorem mk_Rl_0 : mk_Rl σ σ := ⟨fun _ _ _ => rfl, fun _ _ => rfl, fun h => h⟩
theorem mk_Rl_Fs (F : mj_Fs σ ρ) : mk_Rl σ ρ := ⟨fun c h _ => F.1 c (Or.inl h), fun c h => F.1 c (Or.inr (by omega)), F.2.2.2.1⟩
theorem mk_Rl_FB (F : mj_FB σ ρ) : mk_Rl σ ρ := ⟨fun c h _ => F.1 c (Or.inl h), fun c h => F.1 c (Or.inr (by omega)), F.2.2.2.1⟩
theorem mk_Rl_rf {w : Int32} (F : mk_Rl σ ρ) : mk_Rl σ (mj_rfC ρ w) := ⟨fun c h x => (mk_rfC_o x).trans (F.1 c h x), fun c h => (mk_rfC_o (by omega)).trans (F.2.1 c h), F.2.2⟩
theorem mk_Rl_Dl (F : mk_Rl σ ρ) (h : mk_Dl σ D) : mk_Dl ρ D := mk_Dl_o (fun c i hr => by
  unfold mk_rel at hr
  by_cases c1 : c < 46
  · rw [F.1 c c1 (by omega)]
  · rw [F.2.1 c (by omega)]) h
theorem mk_Rl_Bo (F : mk_Rl σ ρ) (h : mk_Inv σ D R B) : mk_Bo ρ D := mk_Dl_Bo (mk_Rl_Dl F h.1) (F.2.2 h.2.2.2.2.2.1)
theorem mk_Rl_Mst (F : mk_Rl σ ρ) (h : mk_Inv σ D R B) : mj_Mst ρ (D 14 14) R (D 14 17) (D 14 18) := mk_Mst_o F.2.1 (mk_Dl_Mst h.1 h.2.2.2.2.1)
theorem mk_ring_c (h14 : τ.1 14 = σ.1 14) (h15 : τ.1 15 = σ.1 15) (h19 : τ.1 19 = σ.1 19) : mj_ring τ = mj_ring σ := by
  have e : mj_ringc τ = mj_ringc σ := by
    funext i
    unfold mj_ringc
    rw [h14, h15, h19]
  funext N
  unfold mj_ring
  rw [e]
theorem mk_Rl_ring (F : mk_Rl σ ρ) : mj_ring ρ = mj_ring σ := mk_ring_c (F.1 14 (by decide) (by decide)) (F.1 15 (by decide) (by decide)) (F.1 19 (by decide) (by decide))
theorem mk_Rl_ev (F : mk_Rl σ ρ) : mj_evC ρ = mj_evC σ := by
  unfold mj_evC
  rw [F.1 14 (by decide) (by decide)]
theorem mk_Rl_evy (F : mk_Rl σ ρ) (h : mk_Inv σ D R B) : mj_evy ρ = mj_evC σ := mk_evy_C h.1.1 (mk_Rl_Dl F h.1).2.1
theorem mk_Rl_sgr (F : mk_Rl σ ρ) {N gr : Nat} : mj_sgr ρ N gr = mj_sgr σ N gr := by
  unfold mj_sgr
  rw [mj_tld_o (F.1 14 (by decide) (by decide)) (F.1 28 (by decide) (by decide)), mj_usd_o (F.1 20 (by decide) (by decide)), F.1 14 (by decide) (by decide)]
theorem mk_Rl_K (F : mk_Rl σ ρ) : mk_K ρ D = mk_K σ D := by
  unfold mk_K
  rw [mk_Rl_ring F]
theorem mk_Rl_b (F : mk_Rl σ ρ) : mk_b ρ D = mk_b σ D := by
  unfold mk_b
  rw [mk_Rl_ring F, mk_Rl_ev F, mk_Rl_sgr F]
theorem mk_Rl_C (F : mk_Rl σ ρ) : mk_C ρ D = mk_C σ D := by
  unfold mk_C
  rw [mk_Rl_ring F, mk_Rl_ev F]
theorem mk_Rl_tsl (F : mk_Rl σ ρ) : mj_tsl ρ = mj_tsl σ := by
  funext o
  unfold mj_tsl
  rw [mj_tld_o (F.1 14 (by decide) (by decide)) (F.1 28 (by decide) (by decide)), F.1 14 (by decide) (by decide)]
theorem mk_Rl_trv (F : mk_Rl σ ρ) {K : Int32 → Nat → Bool} : ∀ j o, mj_trv ρ K j o = mj_trv σ K j o := by
  intro j
  induction j with
  | zero => intro o; rfl
  | succ j ih =>
    intro o
    show (if mj_tsl ρ o = true ∧ K (mj_evC ρ) o = false then nI o else mj_trv ρ K j (o + 1)) = (if mj_tsl σ o = true ∧ K (mj_evC σ) o = false then nI o else mj_trv σ K j (o + 1))
    rw [mk_Rl_tsl F, mk_Rl_ev F, ih]
theorem mk_Rl_Mk (F : mk_Rl σ ρ) (h : mk_Inv σ D R B) {set : Int32} {o : Nat} (ho : o < 8) : mj_Mkept ρ (nI o) set (D 14 14) (D 14 17) = mk_K σ D set o := by
  rw [mk_Mk_eq (mk_Rl_Bo F h) ho, mk_Rl_K F]
/-- a search, and both sides tell what they found -/
theorem mk_Cl_fs {c m kc km : Nat} {as : List Value} {v : Int32} (h : mk_Inv σ D R B) (F : mj_Fs σ ρ) (hc : kc ≤ 60) (hm : km ≤ 60) (q : ∀ d, mj_ev X (d + kc) c (.ref 0 :: as) σ = some (some (.int v), ρ)) (hr : ∃ τ R', R' ≤ R + 512 ∧ mj_Fq ρ τ ∧ mj_Scr τ R' ∧ ∀ d, mj_ev X (d + km) m (.ref 61 :: as) ρ = some (some (.int v), τ)) : mk_Cl X σ R B c m as := by
  obtain ⟨τ, R', r1, G, S, e⟩ := hr
  exact ⟨v, ρ, τ, D, mk_Inv_R (mk_Inv_Fq (mk_Inv_Fs h F) G S) r1, mk_d hc q, mk_d hm e⟩
/-- a search, and both sides refuse -/
theorem mk_Cl_fn {c m kc km : Nat} {as : List Value} {v w : Int32} (h : mk_Inv σ D R B) (F : mj_Fs σ ρ) (hc : kc ≤ 60) (hm : km ≤ 60) (q : ∀ d, mj_ev X (d + kc) c (.ref 0 :: as) σ = some (some (.int v), mj_rfC ρ w)) (hr : ∃ τ R', R' ≤ R + 512 ∧ mj_Fq (mj_rfC ρ w) τ ∧ mj_Scr τ R' ∧ ∀ d, mj_ev X (d + km) m (.ref 61 :: as) (mj_rfC ρ w) = some (some (.int v), mj_rfM τ w)) : mk_Cl X σ R B c m as := by
  obtain ⟨τ, R', r1, G, S, e⟩ := hr
  exact ⟨v, mj_rfC ρ w, mj_rfM τ w, D, mk_Inv_R (mk_Inv_no (mk_Inv_Fs h F) G S) r1, mk_d hc q, mk_d hm e⟩
theorem mk_f8 {o : Int32} (c : ¬ mj_inb o 8 = true) : mj_inb o 8 = false := Bool.eq_false_iff.mpr c
theorem cl_can {o : Int32} (hX : mj_XS X) (hR : R + 512 < 2147483648) (h : mk_Inv σ D R B) : mk_Cl X σ R B 51 190 [.int o] := by
  have hB := mk_Rl_Bo mk_Rl_0 h
  by_cases c : mj_inb o 8 = true
  · obtain ⟨o', o1, o2⟩ := mj_nI_of c (by decide)
    subst o2
    obtain ⟨ρ, F, q⟩ := sp_canC (X := X) hX hB.2.2.2.2.1 hB.2.2.2.2.2 (mk_KH hB) o1
    obtain ⟨τ, G, S, e⟩ := sp_M_can (X := X) (o := nI o') (mk_Rl_Mst (mk_Rl_Fs F) h) (by omega)
    refine mk_Cl_fs h F (kc := 42) (km := 29) (by decide) (by decide) q ⟨τ, R + 1, by omega, G, S, fun d => ?_⟩
    have z := e d
    rw [if_pos c, mk_Rl_Mk (mk_Rl_Fs F) h o1, mk_Rl_evy (mk_Rl_Fs F) h] at z
    exact z
  · obtain ⟨τ, G, S, e⟩ := sp_M_can (X := X) (o := o) (mk_Rl_Mst (mk_Rl_rf (w := -6) mk_Rl_0) h) (by omega)
    refine mk_Cl_no (v := -6) (w := -6) h (kc := 2) (km := 29) (by decide) (by decide) (fun d => sp_canN (mk_f8 c)) (fun d => ?_)
    have z := e d
    rw [if_neg c] at z
    exact z
theorem cl_all (hX : mj_XS X) (hR : R + 512 < 2147483648) (h : mk_Inv σ D R B) : mk_Cl X σ R B 99 213 [] := by
  have hB := mk_Rl_Bo mk_Rl_0 h
  obtain ⟨ρ, F, q⟩ := sp_allC (X := X) hX hB.2.2.2.2.1 hB.2.2.2.2.2 (mk_KH hB) (mk_BH hB)
  rw [mk_bav_eq hB] at q
  obtain ⟨τ, G, S, e⟩ := sp_M_all (X := X) (mk_Rl_Mst (mk_Rl_Fs F) h) (by omega)
  refine mk_Cl_fs h F (kc := 43) (km := 29) (by decide) (by decide) q ⟨τ, R + 1, by omega, G, S, fun d => ?_⟩
  have z := e d
  rw [mk_Mall_eq (mk_Rl_Bo (mk_Rl_Fs F) h), mk_Rl_b (mk_Rl_Fs F)] at z
  exact z
theorem cl_trap (hX : mj_XS X) (hR : R + 512 < 2147483648) (h : mk_Inv σ D R B) : mk_Cl X σ R B 102 219 [] := by
  have hB := mk_Rl_Bo mk_Rl_0 h
  obtain ⟨ρ, F, q⟩ := sp_trapC (X := X) hX hB.2.2.2.2.1 hB.2.2.2.2.2 (mk_KH hB)
  obtain ⟨τ, G, S, e⟩ := sp_M_trap (X := X) (mk_Rl_Mst (mk_Rl_Fs F) h) (by omega)
  refine mk_Cl_fs h F (kc := 42) (km := 29) (by decide) (by decide) q ⟨τ, R + 8, by omega, G, S, fun d => ?_⟩
  have z := e d
  rw [← mk_trap_eq (mk_Rl_Bo (mk_Rl_Fs F) h), mk_Rl_trv (mk_Rl_Fs F), mk_Rl_K (mk_Rl_Fs F)] at z
  exact z
theorem cl_quarrel {o : Int32} (hX : mj_XS X) (hR : R + 512 < 2147483648) (h : mk_Inv σ D R B) : mk_Cl X σ R B 103 220 [.int o] := by
  have hB := mk_Rl_Bo mk_Rl_0 h
  by_cases c : mj_inb o 8 = true
  · obtain ⟨o', o1, o2⟩ := mj_nI_of c (by decide)
    subst o2
    obtain ⟨ρ, F, q⟩ := sp_quarrelC (X := X) hX hB.2.2.2.2.1 hB.2.2.2.2.2 (mk_KH hB) o1
    obtain ⟨τ, G, S, e⟩ := sp_M_quarrel (X := X) (o := nI o') (mk_Rl_Mst (mk_Rl_Fs F) h) (by omega)
    refine mk_Cl_fs h F (kc := 42) (km := 29) (by decide) (by decide) q ⟨τ, R + 10, by omega, G, S, fun d => ?_⟩
    have z := e d
    rw [if_pos c, ← mk_qu_eq (mk_Rl_Bo (mk_Rl_Fs F) h) o1, mk_Rl_Mk (mk_Rl_Fs F) h o1, mk_Rl_evy (mk_Rl_Fs F) h, mk_Rl_K (mk_Rl_Fs F), mk_Rl_ev (mk_Rl_Fs F)] at z
    exact z
  · obtain ⟨τ, G, S, e⟩ := sp_M_quarrel (X := X) (o := o) (mk_Rl_Mst (mk_Rl_rf (w := -6) mk_Rl_0) h) (by omega)
    refine mk_Cl_no (v := -6) (w := -6) h (kc := 2) (km := 29) (by decide) (by decide) (fun d => sp_quarrelN (mk_f8 c)) (fun d => ?_)
    have z := e d
    rw [if_neg c] at z
    exact z
theorem mk_Rl_wkM (F : mk_Rl σ ρ) (h : mk_Inv σ D R B) : mj_wkM ρ = mj_wkC σ := by
  rw [mk_wk_eq h.1.1 h.1.2.1 h.1.2.2.1]
  funext u
  unfold mj_wkM
  rw [F.2.1 61 (by decide), F.2.1 65 (by decide)]
theorem cl_doomed {i o : Int32} (hX : mj_XS X) (hR : R + 512 < 2147483648) (h : mk_Inv σ D R B) : mk_Cl X σ R B 120 230 [.int i, .int o] := by
  have hB := mk_Rl_Bo mk_Rl_0 h
  have ref : ∀ τ, mk_Rl σ τ → ∃ ρ, mj_Fq τ ρ ∧ mj_Scr ρ (R + 1) ∧ ∀ d, mj_ev X (d + 29) 230 [.ref 61, .int i, .int o] τ = some (if mj_wkC σ i = true then (if mj_inb o 8 = true then (some (.int (mj_z (!(mj_Mkept τ o (mj_dm (τ.1 69) 10 i 0) (D 14 14) (D 14 17))))), ρ) else (some (.int (-6)), mj_rfM τ (-6))) else (some (.int (-1)), mj_rfM τ (-1))) := fun τ F => by
    obtain ⟨ρ, G, S, e⟩ := sp_M_doomed (X := X) (i := i) (o := o) (mk_Rl_Mst F h) (by omega)
    refine ⟨ρ, G, S, fun d => ?_⟩
    rw [← mk_Rl_wkM F h]
    exact e d
  by_cases c0 : mj_wkC σ i = true
  · by_cases c : mj_inb o 8 = true
    · obtain ⟨n, n1, n2, n3, n4⟩ := mk_wkD h.1.1 h.1.2.2.1 c0
      obtain ⟨o', o1, o2⟩ := mj_nI_of c (by decide)
      subst o2
      obtain ⟨ρ, F, q⟩ := sp_doomedC (X := X) hX hB.2.2.2.2.1 hB.2.2.2.2.2 (mk_KH hB) o1 c0
      obtain ⟨τ, G, S, e⟩ := ref ρ (mk_Rl_Fs F)
      refine mk_Cl_fs h F (kc := 42) (km := 29) (by decide) (by decide) q ⟨τ, R + 1, by omega, G, S, fun d => ?_⟩
      have z := e d
      rw [if_pos c0, if_pos c, mk_Rl_Mk (mk_Rl_Fs F) h o1, (mk_Rl_Fs F).2.1 69 (by decide), n2, ← mk_doom_eq h.1.1 h.1.2.1 h.1.2.2.1 n1, ← n2] at z
      exact z
    · obtain ⟨τ, G, S, e⟩ := ref _ (mk_Rl_rf (w := -6) mk_Rl_0)
      refine mk_Cl_no (v := -6) (w := -6) h (kc := 3) (km := 29) (by decide) (by decide) (fun d => sp_doomedO hB.2.2.2.2.1 c0 (mk_f8 c)) (fun d => ?_)
      have z := e d
      rw [if_pos c0, if_neg c] at z
      exact z
  · obtain ⟨τ, G, S, e⟩ := ref _ (mk_Rl_rf (w := -1) mk_Rl_0)
    refine mk_Cl_no (v := -1) (w := -1) h (kc := 3) (km := 29) (by decide) (by decide) (fun d => sp_doomedN hB.2.2.2.2.1 (Bool.eq_false_iff.mpr c0)) (fun d => ?_)
    have z := e d
    rw [if_neg c0] at z
    exact z
theorem cl_ring (h : mk_Inv σ D R B) : mk_Cl X σ R B 124 198 [] := by
  have hB := mk_Rl_Bo mk_Rl_0 h
  have hM := mk_Rl_Mst mk_Rl_0 h
  exact mk_Cl_ok h (kc := 4) (km := 1) (by decide) (by decide) (mk_ring_eq h.1.1 h.1.2.1 h.1.2.2.1).symm (fun d => sp_ringC hB.2.2.2.2.1) (fun d => sp_M_ring hM.1.1 hM.1.2.1 hM.1.2.2.2.2.2.1)
theorem cl_opening (h : mk_Inv σ D R B) : mk_Cl X σ R B 125 233 [] := by
  have hM := mk_Rl_Mst mk_Rl_0 h
  exact mk_Cl_ok h (kc := 4) (km := 2) (by decide) (by decide) (by rw [mk_open_eq h.1.1 h.1.2.1 h.1.2.2.1]) (fun d => sp_opening h.1.1.1 h.1.2.2.1.1) (fun d => sp_M_opening hM.1.1 hM.1.2.1 hM.1.2.2.2.2.2.1)
end
