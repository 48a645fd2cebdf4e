section
variable {X : mj_X} {d : Nat} {σ τ ρ μ : mj_St} {D : Nat → Nat → Nat} {R R' B : Nat} {f : Nat → Int32} {q : Nat → Nat}
theorem mk_crd_44 (h : τ.1 44 = ρ.1 44) (hc : mj_crd ρ f) : mj_crd τ f := by
  unfold mj_crd mj_cfl at hc ⊢
  rw [h]
  exact hc
theorem mk_Dl_one (h : mk_Dl σ D) (hN : D 14 14 < 9) (hq : mk_Nq D q) (hf : mk_qf f q) (hok : mj_okD (mk_aD D q 1)) (hc : mj_crd ρ f)
    (t1 : ∀ i, i = 16 ∨ i = 17 ∨ i = 18 → τ.1 14 i = σ.1 14 i) (t2 : τ.1 14 14 = nI (D 14 14 + 1)) (t3 : τ.1 14 15 = nI (mk_wn D (D 14 14) + if q 15 < 5 then 1 else 0)) (t4 : ∀ c i, 15 ≤ c → c ≤ 26 → τ.1 c i = if i = D 14 14 then mj_adv ρ c else σ.1 c i) (t5 : τ.1 27 = σ.1 27) (t6 : τ.1 28 = σ.1 28)
    (hM : mk_isM τ (mk_aD D q 1)) (u : ∀ c i, c = 69 ∨ c = 72 ∨ c = 73 ∨ c = 75 → i ≠ D 14 14 → τ.1 c i = σ.1 c i) (u69 : τ.1 69 (D 14 14) = f 37) (u72 : τ.1 72 (D 14 14) = f 40) (u73 : τ.1 73 (D 14 14) = f 41) (u75 : τ.1 75 (D 14 14) = f 43) : mk_Dl τ (mk_aD D q 1) := by
  obtain ⟨hD, hM0, hk, d1, d2, d3, d4, d5, d6, d7⟩ := h
  have N9 := hk.1
  obtain ⟨p15, p16, p17, p18, p19, p20, p21, p22, p23, p24, p25, p26⟩ := id (mk_adv_q hc hf hq.1)
  obtain ⟨q1, q2, q3, q4, q5, q6, ⟨q7, q7'⟩, q8, q9, q10, q11, q12⟩ := id hq
  have adv := mk_adv_q hc hf hq.1
  obtain ⟨f33, f34, f35, f36, f37, f38, f39, f40, f41, f42, f43, -, f43'⟩ := hf
  have tl : ∀ c i, 15 ≤ c → c ≤ 26 → i ≠ D 14 14 → τ.1 c i = σ.1 c i := fun c i x y z => by rw [t4 c i x y, if_neg z]
  have tn : ∀ c, 15 ≤ c → c ≤ 26 → τ.1 c (D 14 14) = mj_adv ρ c := fun c x y => by rw [t4 c _ x y, if_pos rfl]
  refine ⟨mk_aD_isD hD hk q7' adv t1 t2 (fun c i x y z => tl c i x y (by omega)) (fun c i x y z z2 => by rw [show i = D 14 14 by omega]; exact tn c x y) t5 t6, hM, hok, fun i hi => ?_, fun i hi hw => ?_, fun i hi hw hb => ?_, ?_, fun i hi => ?_, fun k h9 => ?_, fun k hkN => ?_⟩
  · rw [mk_aD_14 (by decide)] at hi
    obtain ⟨z1, z2⟩ := d1 i hi
    rw [mk_aD_N, mk_aD_l z1 (by decide)]
    exact ⟨by omega, z2⟩
  · rw [mk_aD_N] at hi
    by_cases c : i < D 14 14
    · rw [mk_aD_l c (by decide)] at hw ⊢
      exact d2 i c hw
    · rw [mk_aD_n (by decide) (by decide) (by omega)] at hw ⊢
      exact q10 hw
  · rw [mk_aD_N] at hi
    by_cases c : i < D 14 14
    · rw [mk_aD_l c (by decide)] at hw
      rw [mk_aD_l c (by decide), mk_aD_l c (by decide)] at hb
      obtain ⟨z1, z2⟩ := d3 i c hw hb
      rw [mk_aD_l c (by decide), mk_aD_14 (by decide), mk_aD_14 (by decide)]
      unfold mj_asD at z2 ⊢
      rw [mk_aD_l c (by decide), mk_aD_l c (by decide)]
      exact ⟨z1, z2⟩
    · rw [mk_aD_n (by decide) (by decide) (by omega), mk_aD_n (by decide) (by decide) (by omega)] at hb
      omega
  · rw [t3, mk_aD_N, mk_aD_wn]
  · rw [mk_aD_N] at hi
    by_cases c : i = D 14 14
    · rw [c, tn 22 (by decide) (by decide), tn 23 (by decide) (by decide), mk_aD_n (c := 22) (by decide) (by decide) (Nat.le_refl _), mk_aD_n (c := 23) (by decide) (by decide) (Nat.le_refl _), u72, u73]
      exact ⟨p22, f40, q11, p23, f41, q12⟩
    · rw [tl 22 i (by decide) (by decide) c, tl 23 i (by decide) (by decide) c, u 72 i (by omega) c, u 73 i (by omega) c, mk_aD_l (by omega) (by decide), mk_aD_l (by omega) (by decide)]
      exact d5 i (by omega)
  · by_cases c : k = D 14 14
    · rw [c, tn 20 (by decide) (by decide), tn 18 (by decide) (by decide), tn 17 (by decide) (by decide), u69, p20, p18, p17, f37]
      refine ⟨mk_oi_in q5 (by decide), mk_oi_in q3 (by decide), mj_in_nI q2.2 (by decide), ?_⟩
      rcases mk_oi_in q4.1 (by omega) with z | z
      · exact Or.inl z
      · right
        obtain ⟨m, m1, m2⟩ := mj_nI_of z (by omega)
        rw [m2]
        exact mj_in_nI (by omega) (by decide)
    · rw [tl 20 k (by decide) (by decide) c, tl 18 k (by decide) (by decide) c, tl 17 k (by decide) (by decide) c, u 69 k (by omega) c]
      exact d6 k h9
  · rw [mk_aD_N] at hkN
    by_cases c : k = D 14 14
    · rw [c, u75]; exact f43'
    · rw [u 75 k (by omega) c]
      exact d7 k (by omega)
theorem mk_TF_n {i : Nat} (h : i < 3 ∨ 43 < i) : i ∉ mj_TF := by
  unfold mj_TF
  simp
  omega
theorem cl_promise {s : Int32} (h : mk_Inv σ D R B) : mk_Cl X σ R B 19 166 [.int s] := by
  obtain ⟨hD, hM, hk, -⟩ := id h.1
  have N9 := hk.1
  by_cases c : mj_rr σ s = 0
  · obtain ⟨n, e, k, n1, n2, n3, e1, e2, e3, k1, s1, s78, s79, lg⟩ := mk_row h c
    have c' : mj_Mw σ s = 0 := by rw [← mk_rr_eq h]; exact c
    subst n2
    obtain ⟨ρ0, F, hc, qc⟩ := sp_promise (X := X) n1 c e2 e1 hD.1 N9
    have T : mk_Tc σ (mj_setI ρ0 0 12 (mj_cft σ n e)) := mk_Tc_of F
    have r012 : (mj_setI ρ0 0 12 (mj_cft σ n e)).1 0 12 = mj_cft σ n e := mj_setI_eq
    have r44 : (mj_setI ρ0 0 12 (mj_cft σ n e)).1 44 = ρ0.1 44 := mj_setI_ne _ _ _ (by decide)
    have rmC : mj_rmC ρ0 (ρ0.1 44 4) (D 14 14) = mj_rmk (mj_setI ρ0 0 12 (mj_cft σ n e)) (D 14 14) 0 := by
      unfold mj_rmC mj_rmk
      rw [r44, mj_setI_ne _ _ _ (show 14 ≠ 0 by decide)]
      have e0 : ρ0.1 14 15 + mj_kz (mj_setI ρ0 0 12 (mj_cft σ n e)) 0 = ρ0.1 14 15 := Int32.add_zero _
      rw [e0, Nat.add_zero]
    rw [rmC] at qc
    generalize mj_setI ρ0 0 12 (mj_cft σ n e) = ρ1 at T r012 r44 qc rmC
    have hc1 : (mj_ctx σ n e).1 = true → mj_crd ρ1 (mj_ctx σ n e).2.2 := fun z => mk_crd_44 r44 (hc z)
    have ref : ∀ μ : mj_St, (∀ c, 60 < c → μ.1 c = σ.1 c) → μ.2.1 = σ.2.1 → ∃ ρ2, mj_Fx mj_TF μ ρ2 ∧ ρ2.1 61 3 = mj_cft σ n e ∧ ((mj_ctx σ n e).1 = true → ∀ i, 33 ≤ i → i ≤ 43 → ρ2.1 61 i = (mj_ctx σ n e).2.2 i) ∧ ∀ d, mj_ev X (d + 7) 166 [.ref 61, .int (nI n)] μ = some (if mj_cby σ n e = 0 then (if mj_rm ρ2 (D 14 14) = true then (some (.int (nI (D 14 14))), mj_adM ρ2 (D 14 14)) else (some (.int (-7)), mj_rfM ρ2 (-7))) else (some (.int (-6)), mj_rfM ρ2 (-6))) := fun μ m1 m2 => by
      obtain ⟨x1, x2, x3⟩ := mk_by_eq (μ := μ) (n := n) (e := e) h e1 lg (by rw [m2]) (fun i _ => by rw [m1 61 (by decide)]) (m1 65 (by decide))
      have w : mj_Mw μ (nI n) = 0 := by
        unfold mj_Mw at c' ⊢
        rw [m1 78 (by decide)]
        exact c'
      obtain ⟨ρ2, G, g1, g2, g3⟩ := sp_M_promise (X := X) (σ := μ) (N := D 14 14) n1 w (by rw [m1 80 (by decide)]; exact e3) e1 (by rw [m1 61 (by decide)]; exact hM.1) N9
      rw [x1] at g2
      rw [x2] at g3
      exact ⟨ρ2, G, g1.trans x3, g2, g3⟩
    obtain ⟨t1, t2, t3, t4⟩ := id T
    by_cases c2 : mj_cby σ n e = 0
    · obtain ⟨ok1, ok2⟩ := mj_cby_ok c2
      obtain ⟨q, hq, hf⟩ := mk_Fok_q hD hk (mj_rd_fok (L := mj_kl σ (4 + n)) (e := e) (wk := mj_wkC σ) ok1).1
      have crd := hc1 ok1
      have hf' : mk_qf (mj_ctx σ n e).2.2 q := hf
      have k44 : ρ1.1 44 4 = nI (q 15) := crd.1.1.trans hf'.1
      have r15 : ρ1.1 14 15 = nI (mk_wn D (D 14 14)) := by rw [t1 14 (by decide) (by decide)]; exact h.1.2.2.2.2.2.2.1
      have rk := mk_rmk_eq (k := 0) r15 k44 hq.1.2 hq.1.1 N9 (by decide)
      rw [rk] at qc
      by_cases c3 : mk_room D q 0 = true
      · obtain ⟨ok, n9⟩ := mk_room_ok hk hq c3
        have n9' : D 14 14 < 9 := n9
        have a1 : ∀ c, c ≠ 14 → ¬ (15 ≤ c ∧ c ≤ 26) → (mj_adC ρ1 (D 14 14)).1 c = ρ1.1 c := fun c x y => mj_adC_o x y
        have a2 : (mj_adC ρ1 (D 14 14)).2 = ρ1.2 := rfl
        obtain ⟨ρ2, ⟨G1, G2, G3⟩, g1, g2, g3⟩ := ref (mj_adC ρ1 (D 14 14)) (fun c hc => by rw [a1 c (by omega) (by omega), t1 c (by omega) (by omega)]) (by rw [a2, t3])
        have hM2 : mk_isM ρ2 D := mk_isM_o (fun c x y => by rw [G2 c (by omega), a1 c (by omega) (by omega), t1 c (by omega) (by omega)]) (by rw [G3 0 (mk_TF_n (by decide)), a1 61 (by decide) (by decide), t1 61 (by decide) (by decide)]) (by rw [G3 1 (mk_TF_n (by decide)), a1 61 (by decide) (by decide), t1 61 (by decide) (by decide)]) (by rw [G3 2 (mk_TF_n (by decide)), a1 61 (by decide) (by decide), t1 61 (by decide) (by decide)]) hM
        have fs := g2 ok1
        have rm : mj_rm ρ2 (D 14 14) = true := by
          have := mk_rm_eq (k := 0) (mk_isM_a0 hM2) (mk_aD0_ok hk hq) ((fs 33 (by decide) (by decide)).trans hf'.1) hq.1.2
          rw [Nat.add_zero] at this
          rw [this]; exact c3
        have v1 : ∀ c, c < 60 → (mj_adM ρ2 (D 14 14)).1 c = (mj_adC ρ1 (D 14 14)).1 c := fun c hc => by
          rw [mj_adM_c (Or.inl (by omega)) (by omega), G2 c (by omega)]
        have v14 : ∀ i, i ≠ 14 → i ≠ 15 → (mj_adC ρ1 (D 14 14)).1 14 i = σ.1 14 i := fun i x y => by
          have e : (mj_adC ρ1 (D 14 14)).1 14 i = ρ1.1 14 i := by
            unfold mj_adC
            simp [mj_setI, x, y]
          rw [e, t1 14 (by decide) (by decide)]
        have vc : ∀ c, 60 < c → c ≠ 61 → (c < 65 ∨ 77 < c) → (mj_adM ρ2 (D 14 14)).1 c = σ.1 c := fun c x y z => by
          rw [mj_adM_c z y, G2 c y, a1 c (by omega) (by omega), t1 c (by omega) (by omega)]
        have v61 : ∀ i, i ≠ 0 → i < 3 ∨ 43 < i → (mj_adM ρ2 (D 14 14)).1 61 i = σ.1 61 i := fun i x y => by
          rw [mj_adM_i x, G3 i (mk_TF_n y), a1 61 (by decide) (by decide), t1 61 (by decide) (by decide)]
        have vk : ∀ c i, 65 ≤ c → c ≤ 77 → i ≠ D 14 14 → (mj_adM ρ2 (D 14 14)).1 c i = σ.1 c i := fun c i x y z => by
          rw [mj_adM_k z (by omega), G2 c (by omega), a1 c (by omega) (by omega), t1 c (by omega) (by omega)]
        have x2 : (mj_adM ρ2 (D 14 14)).2 = ρ1.2 := by rw [mj_adM_2, G1, a2]
        refine ⟨nI (D 14 14), mj_adC ρ1 (D 14 14), mj_adM ρ2 (D 14 14), mk_aD D q 1, mk_Inv_R (mk_Inv_prm h (fun c' hc' => ?_) (fun i hi => ?_) ?_ (fun i hi => v61 i (by omega) (by omega)) (fun k' hk' => ?_) (fun c' _ => by rw [x2, t3]) (mk_Dl_one (ρ := ρ1) h.1 n9' hq hf' ok crd (fun i hi => ?_) ?_ ?_ (fun c' i x y => ?_) ?_ ?_ (mk_adM_isM (k := 0) (mk_isM_a0 hM2) n9 (fun i hi => (h.1.2.2.2.1 i hi).1) hq.2.2.2.2.2.2.1.2 hf' fs) (fun c' i x y => vk c' i (by omega) (by omega) y) ?_ ?_ ?_ ?_) ?_ (mk_Scr_o (vc 84 (by decide) (by decide) (by decide)) (vc 85 (by decide) (by decide) (by decide)) (vc 87 (by decide) (by decide) (by decide)) (v61 51 (by decide) (by decide)) h.2.2.2.2.1) (by rw [x2, t4]; exact h.2.2.2.2.2.1) (by unfold mj_Rb; rw [x2, t4]; exact h.2.2.2.2.2.2)) (Nat.le_add_right _ _), mk_d (k := 8) (by decide) (fun d => ?_), mk_d (k := 7) (by decide) (fun d => ?_)⟩
        · by_cases z : c' < 60
          · rw [v1 c' z, a1 c' (by omega) (by omega), t1 c' (by omega) (by omega)]
          · exact vc c' (by omega) (by omega) (by omega)
        · rw [v1 0 (by decide), a1 0 (by decide) (by decide), t2 i (by omega)]
        · rw [v1 0 (by decide), a1 0 (by decide) (by decide), r012, mj_adM_i (by decide), g1]
        · rw [v1 12 (by decide), a1 12 (by decide) (by decide), t1 12 (by decide) (by decide), vc 62 (by decide) (by decide) (by decide)]
          exact h.2.2.1.1 k' hk'
        · rw [v1 14 (by decide), v14 i (by omega) (by omega)]
        · rw [v1 14 (by decide)]
          unfold mj_adC
          simp [mj_setI]
        · rw [v1 14 (by decide)]
          have e15 : (mj_adC ρ1 (D 14 14)).1 14 15 = ρ1.1 14 15 + mj_z (mj_wk (ρ1.1 44 4)) := by
            unfold mj_adC
            simp [mj_setI]
          rw [e15, r15, mk_wk44 k44 hq.1.2 hq.1.1]
          by_cases z : q 15 < 5
          · rw [decide_eq_true z, if_pos z]; exact nI_add _ 1
          · rw [decide_eq_false z, if_neg z]; exact nI_add _ 0
        · rw [v1 c' (by omega), mj_adC_c x y, t1 c' (by omega) (by omega)]
        · rw [v1 27 (by decide), a1 27 (by decide) (by decide), t1 27 (by decide) (by decide)]
        · rw [v1 28 (by decide), a1 28 (by decide) (by decide), t1 28 (by decide) (by decide)]
        · rw [mj_adM_N (by decide) (by decide)]; exact fs 37 (by decide) (by decide)
        · rw [mj_adM_N (by decide) (by decide)]; exact fs 40 (by decide) (by decide)
        · rw [mj_adM_N (by decide) (by decide)]; exact fs 41 (by decide) (by decide)
        · rw [mj_adM_N (by decide) (by decide)]; exact fs 43 (by decide) (by decide)
        · rw [mk_aD_N]; exact Nat.le_add_right _ _
        · have z := qc d
          rw [if_pos c2, if_pos c3] at z
          exact z
        · have z := g3 d
          rw [if_pos c2, if_pos rm] at z
          exact z
      · obtain ⟨ρ2, G, g1, g2, g3⟩ := ref (mj_rfC ρ1 (-7)) (fun c hc => by rw [mk_rfC_o (by omega), t1 c (by omega) (by omega)]) t3
        have hM2 : mk_isM ρ2 D := mk_isM_o (fun c x y => by rw [G.2.1 c (by omega), mk_rfC_o (by omega), t1 c (by omega) (by omega)]) (by rw [G.2.2 0 (mk_TF_n (by decide)), mk_rfC_o (by decide), t1 61 (by decide) (by decide)]) (by rw [G.2.2 1 (mk_TF_n (by decide)), mk_rfC_o (by decide), t1 61 (by decide) (by decide)]) (by rw [G.2.2 2 (mk_TF_n (by decide)), mk_rfC_o (by decide), t1 61 (by decide) (by decide)]) hM
        have rm : ¬ mj_rm ρ2 (D 14 14) = true := by
          have := mk_rm_eq (k := 0) (mk_isM_a0 hM2) (mk_aD0_ok hk hq) ((g2 ok1 33 (by decide) (by decide)).trans hf'.1) hq.1.2
          rw [Nat.add_zero] at this
          rw [this]; exact c3
        refine ⟨-7, mj_rfC ρ1 (-7), mj_rfM ρ2 (-7), D, mk_Inv_R (mk_Inv_txt h T G (g1.trans r012.symm)) (Nat.le_add_right _ _), mk_d (k := 8) (by decide) (fun d => ?_), mk_d (k := 7) (by decide) (fun d => ?_)⟩
        · have z := qc d
          rw [if_pos c2, if_neg c3] at z
          exact z
        · have z := g3 d
          rw [if_pos c2, if_neg rm] at z
          exact z
    · obtain ⟨ρ2, G, g1, g2, g3⟩ := ref (mj_rfC ρ1 (-6)) (fun c hc => by rw [mk_rfC_o (by omega), t1 c (by omega) (by omega)]) t3
      refine ⟨-6, mj_rfC ρ1 (-6), mj_rfM ρ2 (-6), D, mk_Inv_R (mk_Inv_txt h T G (g1.trans r012.symm)) (Nat.le_add_right _ _), mk_d (k := 8) (by decide) (fun d => ?_), mk_d (k := 7) (by decide) (fun d => ?_)⟩
      · have z := qc d
        rw [if_neg c2] at z
        exact z
      · have z := g3 d
        rw [if_neg c2] at z
        exact z
  · have c' : ¬ mj_Mw σ s = 0 := by rw [← mk_rr_eq h]; exact c
    refine mk_Cl_no (v := mj_rr σ s) (w := mj_rr σ s) h (kc := 4) (km := 4) (by decide) (by decide) (fun d => sp_promise_no c) (fun d => ?_)
    have z := sp_M_promise_no (X := X) (d := d) (σ := mj_rfC σ (mj_rr σ s)) (s := s) (by rw [mk_Mw_rfC]; exact c')
    rw [mk_Mw_rfC, ← mk_rr_eq h] at z
    exact z
end
