section
variable {X : mj_X} {d : Nat} {σ τ ρ μ : mj_St} {D : Nat → Nat → Nat} {R R' B : Nat} {f : Nat → Int32} {q : Nat → Nat}
/-- how many can be borne: both sides count alike -/
theorem mk_many_eq (hk : mj_okD D) (hq : mk_Nq D q) (hf : mk_qf f q) (hlb : ∀ i, (D 14 16).testBit i = true → i < D 14 14) (h15 : ρ.1 14 15 = nI (mk_wn D (D 14 14))) (h44 : ρ.1 44 4 = nI (q 15)) : ∀ (j k : Nat) (μ : mj_St), D 14 14 + k ≤ 9 → mj_okD (mk_aD D q k) → mk_isM μ (mk_aD D q k) → (∀ i, 33 ≤ i → i ≤ 43 → μ.1 61 i = f i) → mj_myv (mj_rmk ρ (D 14 14)) (fun k => mk_bD (mk_aD D q (k + 1))) j k = mj_mny (D 14 17) j μ (D 14 14 + k) k := by
  intro j
  induction j with
  | zero => intro k μ _ _ _ _; rfl
  | succ j ih =>
    intro k μ h9 hok hM hfs
    show (if mj_rmk ρ (D 14 14) k = true then (if mk_bD (mk_aD D q (k + 1)) = true then mj_myv (mj_rmk ρ (D 14 14)) (fun k => mk_bD (mk_aD D q (k + 1))) j (k + 1) else k) else k) = (if mj_rm μ (D 14 14 + k) = true then (if mj_Mall (mj_adM μ (D 14 14 + k)) (D 14 14 + k + 1) (D 14 17) = true then mj_mny (D 14 17) j (mj_adM μ (D 14 14 + k)) (D 14 14 + k + 1) (k + 1) else k) else k)
    rw [mk_rmk_eq h15 h44 hq.1.2 hq.1.1 hk.1 (by omega), mk_rm_eq hM hok ((hfs 33 (by decide) (by decide)).trans hf.1) hq.1.2]
    by_cases c : mk_room D q k = true
    · obtain ⟨ok, n9⟩ := mk_room_ok hk hq c
      have hM' := mk_adM_isM hM n9 hlb hq.2.2.2.2.2.2.1.2 hf hfs
      have e := mk_Mall_bD hM' ok
      rw [mk_aD_N, mk_aD_14 (by decide), ← Nat.add_assoc] at e
      rw [if_pos c, if_pos c, e, ih (k + 1) (mj_adM μ (D 14 14 + k)) (by omega) ok hM' (fun i x y => by rw [mj_adM_i (by omega)]; exact hfs i x y), ← Nat.add_assoc]
    · rw [if_neg c, if_neg c]
theorem mk_isM_TF {ρ2 : mj_St} (hM : mk_isM σ D) (m1 : ∀ c, 60 < c → μ.1 c = σ.1 c) (G : mj_Fx mj_TF μ ρ2) : mk_isM ρ2 D := mk_isM_o (fun c x y => by rw [G.2.1 c (by omega), m1 c (by omega)]) (by rw [G.2.2 0 (mk_TF_n (by decide)), m1 61 (by decide)]) (by rw [G.2.2 1 (mk_TF_n (by decide)), m1 61 (by decide)]) (by rw [G.2.2 2 (mk_TF_n (by decide)), m1 61 (by decide)]) hM
theorem cl_give {s : Int32} (hX : mj_XS X) (hR : R + 512 < 2147483648) (h : mk_Inv σ D R B) : mk_Cl X σ R B 121 231 [.int s] := by
  obtain ⟨hD, hM, hk, -⟩ := id h.1
  have N9 := hk.1
  by_cases c : mj_rr σ s = 0
  · obtain ⟨n, e, k, n1, n2, n3, e1, e2, e3, k1, s1, s78, s79, lg⟩ := mk_row h c
    have c' : mj_Mw σ s = 0 := by rw [← mk_rr_eq h]; exact c
    subst n2
    obtain ⟨ρ0, F, hc, hrd⟩ := sp_readingRefusal (X := X) n1 c e2 e1 hD.1 N9
    have T : mk_Tc σ (mj_setI ρ0 0 12 (mj_cft σ n e)) := mk_Tc_of F
    have r012 : (mj_setI ρ0 0 12 (mj_cft σ n e)).1 0 12 = mj_cft σ n e := mj_setI_eq
    have r44 : (mj_setI ρ0 0 12 (mj_cft σ n e)).1 44 = ρ0.1 44 := mj_setI_ne _ _ _ (by decide)
    generalize mj_setI ρ0 0 12 (mj_cft σ n e) = ρ1 at T r012 r44 hrd
    have hc1 : (mj_ctx σ n e).1 = true → mj_crd ρ1 (mj_ctx σ n e).2.2 := fun z => mk_crd_44 r44 (hc z)
    have ref : ∀ μ : mj_St, (∀ c, 60 < c → μ.1 c = σ.1 c) → μ.2.1 82 = σ.2.1 82 → ∃ ρ2 ρ3, mj_Fx mj_TF μ ρ2 ∧ ρ2.1 61 3 = mj_cft σ n e ∧ ((mj_ctx σ n e).1 = true → ∀ i, 33 ≤ i → i ≤ 43 → ρ2.1 61 i = (mj_ctx σ n e).2.2 i) ∧ (mj_cby σ n e = 0 → mj_rm ρ2 (D 14 14) = true → mj_Fq (mj_adM ρ2 (D 14 14)) ρ3 ∧ mj_Scr ρ3 (R + 1)) ∧ ∀ d, mj_ev X (d + 30) 231 [.ref 61, .int (nI n)] μ = some (if mj_cby σ n e = 0 then (if mj_rm ρ2 (D 14 14) = true then (some (.int (mj_z (mj_Mall (mj_adM ρ2 (D 14 14)) (D 14 14 + 1) (D 14 17)))), mj_setI ρ3 61 0 (nI (D 14 14))) else (some (.int (-7)), mj_rfM ρ2 (-7))) else (some (.int (-6)), mj_rfM ρ2 (-6))) := fun μ m1 m2 => by
      obtain ⟨x1, x2, x3⟩ := mk_by_eq (μ := μ) (n := n) (e := e) h e1 lg m2 (fun i _ => by rw [m1 61 (by decide)]) (m1 65 (by decide))
      have w : mj_Mw μ (nI n) = 0 := by
        unfold mj_Mw at c' ⊢
        rw [m1 78 (by decide)]
        exact c'
      obtain ⟨ρ2, ρ3, G, g1, g2, g3, g4⟩ := sp_M_give (X := X) (mk_Mst_o m1 (mk_Dl_Mst h.1 h.2.2.2.2.1)) (by omega) n1 w (by rw [m1 80 (by decide)]; exact e3) e1
      rw [x1] at g2
      rw [x2] at g3 g4
      exact ⟨ρ2, ρ3, G, g1.trans x3, g2, g3, g4⟩
    obtain ⟨t1, t2, t3, t4⟩ := id T
    have rfr : ∀ w : Int32, (∀ c, 60 < c → (mj_rfC ρ1 w).1 c = σ.1 c) ∧ (mj_rfC ρ1 w).2.1 82 = σ.2.1 82 := fun w => ⟨fun c hc => by rw [mk_rfC_o (by omega), t1 c (by omega) (by omega)], by show ρ1.2.1 82 = _; rw [t3]⟩
    by_cases c2 : mj_cby σ n e = 0
    · obtain ⟨ok1, ok2⟩ := mj_cby_ok c2
      obtain ⟨q, hq, hf⟩ := mk_Fok_q hD hk (mj_rd_fok (L := mj_kl σ (4 + n)) (e := e) (wk := mj_wkC σ) ok1).1
      have crd := hc1 ok1
      have hf' : mk_qf (mj_ctx σ n e).2.2 q := hf
      have k44 : ρ1.1 44 4 = nI (q 15) := crd.1.1.trans hf'.1
      have r15 : ρ1.1 14 15 = nI (mk_wn D (D 14 14)) := by rw [t1 14 (by decide) (by decide)]; exact h.1.2.2.2.2.2.2.1
      obtain ⟨τ, A, qc⟩ := sp_giveC (X := X) (s := nI n) (w := D 14 17) (B := fun k => mk_bD (mk_aD D q (k + 1))) hX mj_cby_or (by rw [t1 14 (by decide) (by decide)]; exact hD.1) N9 (fun _ => mk_GH h T hq hf' crd) hrd
      rw [mk_rmk_eq (k := 0) r15 k44 hq.1.2 hq.1.1 N9 (by decide)] at qc
      by_cases c3 : mk_room D q 0 = true
      · obtain ⟨ok, n9⟩ := mk_room_ok hk hq c3
        have m1 : ∀ c, 60 < c → τ.1 c = σ.1 c := fun c hc => by rw [A.1 c (by omega) (by omega) (by omega), t1 c (by omega) (by omega)]
        obtain ⟨ρ2, ρ3, G, g1, g2, g3, g4⟩ := ref τ m1 (by rw [A.2.2.2.2.2.2.1 82 (by decide), t3])
        have hM2 := mk_isM_TF hM m1 G
        have fs := g2 ok1
        have rm : mj_rm ρ2 (D 14 14) = true := by
          have := mk_rm_eq (k := 0) (mk_isM_a0 hM2) (mk_aD0_ok hk hq) ((fs 33 (by decide) (by decide)).trans hf'.1) hq.1.2
          rw [Nat.add_zero] at this
          rw [this]; exact c3
        obtain ⟨Q, S⟩ := g3 c2 rm
        have hM' : mk_isM (mj_adM ρ2 (D 14 14)) (mk_aD D q (0 + 1)) := mk_adM_isM (k := 0) (mk_isM_a0 hM2) n9 (fun i hi => (h.1.2.2.2.1 i hi).1) hq.2.2.2.2.2.2.1.2 hf' fs
        have eM := mk_Mall_bD hM' ok
        rw [mk_aD_N, mk_aD_14 (by decide)] at eM
        refine ⟨mj_z (mk_bD (mk_aD D q (0 + 1))), τ, mj_setI ρ3 61 0 (nI (D 14 14)), D, mk_Inv_R (R := R + 1) (mk_Inv_gm h T hq hf' crd A G (mj_Fy_cut (mj_Fy_tr mj_Fy_adM (mj_Fy_Fq Q))) mj_setI_eq (mk_Scr_o (mj_setI_ne _ _ _ (by decide)) (mj_setI_ne _ _ _ (by decide)) (mj_setI_ne _ _ _ (by decide)) (mj_setI_i (by decide)) S) (fun k' h9 => ?_) (g1.trans r012.symm)) (by omega), mk_d (k := 43) (by decide) (fun d => ?_), mk_d (k := 30) (by decide) (fun d => ?_)⟩
        · rw [mj_setI_ne _ _ _ (by decide), Q.2.1 69 (by decide) (by decide) (by decide) (by decide) (by decide)]
          by_cases z : k' = D 14 14
          · rw [z, mj_adM_N (by decide) (by decide), fs 37 (by decide) (by decide), hf'.2.2.2.2.1]
            rcases mk_oi_in hq.2.2.2.1.1 (by omega) with z | z
            · exact Or.inl z
            · right
              obtain ⟨m, m1, m2⟩ := mj_nI_of z (by omega)
              rw [m2]
              exact mj_in_nI (by omega) (by decide)
          · rw [mj_adM_k z (by decide), G.2.1 69 (by decide), m1 69 (by decide)]
            exact (h.1.2.2.2.2.2.2.2.2.1 k' h9).2.2.2
        · have z := qc d
          rw [if_pos c2, if_pos c3] at z
          exact z
        · have z := g4 d
          rw [if_pos c2, if_pos rm, eM] at z
          exact z
      · obtain ⟨ρ2, ρ3, G, g1, g2, g3, g4⟩ := ref (mj_rfC ρ1 (-7)) (rfr (-7)).1 (rfr (-7)).2
        have hM2 := mk_isM_TF hM (rfr (-7)).1 G
        have rm : ¬ mj_rm ρ2 (D 14 14) = true := by
          have := mk_rm_eq (k := 0) (mk_isM_a0 hM2) (mk_aD0_ok hk hq) ((g2 ok1 33 (by decide) (by decide)).trans hf'.1) hq.1.2
          rw [Nat.add_zero] at this
          rw [this]; exact c3
        refine ⟨-7, mj_rfC ρ1 (-7), mj_rfM ρ2 (-7), D, mk_Inv_R (mk_Inv_txt h T G (g1.trans r012.symm)) (Nat.le_add_right _ _), mk_d (k := 43) (by decide) (fun d => ?_), mk_d (k := 30) (by decide) (fun d => ?_)⟩
        · have z := qc d
          rw [if_pos c2, if_neg c3] at z
          exact z
        · have z := g4 d
          rw [if_pos c2, if_neg rm] at z
          exact z
    · obtain ⟨τ, A, qc⟩ := sp_giveC (X := X) (s := nI n) (w := D 14 17) (B := fun _ => false) hX mj_cby_or (by rw [t1 14 (by decide) (by decide)]; exact hD.1) N9 (fun z => absurd z c2) hrd
      obtain ⟨ρ2, ρ3, G, g1, g2, g3, g4⟩ := ref (mj_rfC ρ1 (-6)) (rfr (-6)).1 (rfr (-6)).2
      refine ⟨-6, mj_rfC ρ1 (-6), mj_rfM ρ2 (-6), D, mk_Inv_R (mk_Inv_txt h T G (g1.trans r012.symm)) (Nat.le_add_right _ _), mk_d (k := 43) (by decide) (fun d => ?_), mk_d (k := 30) (by decide) (fun d => ?_)⟩
      · have z := qc d
        rw [if_neg c2] at z
        exact z
      · have z := g4 d
        rw [if_neg c2] at z
        exact z
  · have c' : ¬ mj_Mw σ s = 0 := by rw [← mk_rr_eq h]; exact c
    refine mk_Cl_no (v := mj_rr σ s) (w := mj_rr σ s) h (kc := 4) (km := 4) (by decide) (by decide) (fun d => sp_give_no c) (fun d => ?_)
    have z := sp_M_give_no (X := X) (d := d) (σ := mj_rfC σ (mj_rr σ s)) (s := s) (by rw [mk_Mw_rfC]; exact c')
    rw [mk_Mw_rfC, ← mk_rr_eq h] at z
    exact z
theorem cl_many {s : Int32} (hX : mj_XS X) (hR : R + 512 < 2147483648) (h : mk_Inv σ D R B) : mk_Cl X σ R B 123 232 [.int s] := by
  obtain ⟨hD, hM, hk, -⟩ := id h.1
  have N9 := hk.1
  by_cases c : mj_rr σ s = 0
  · obtain ⟨n, e, k, n1, n2, n3, e1, e2, e3, k1, s1, s78, s79, lg⟩ := mk_row h c
    have c' : mj_Mw σ s = 0 := by rw [← mk_rr_eq h]; exact c
    subst n2
    obtain ⟨ρ0, F, hc, hrd⟩ := sp_readingRefusal (X := X) n1 c e2 e1 hD.1 N9
    have T : mk_Tc σ (mj_setI ρ0 0 12 (mj_cft σ n e)) := mk_Tc_of F
    have r012 : (mj_setI ρ0 0 12 (mj_cft σ n e)).1 0 12 = mj_cft σ n e := mj_setI_eq
    have r44 : (mj_setI ρ0 0 12 (mj_cft σ n e)).1 44 = ρ0.1 44 := mj_setI_ne _ _ _ (by decide)
    generalize mj_setI ρ0 0 12 (mj_cft σ n e) = ρ1 at T r012 r44 hrd
    have hc1 : (mj_ctx σ n e).1 = true → mj_crd ρ1 (mj_ctx σ n e).2.2 := fun z => mk_crd_44 r44 (hc z)
    have ref : ∀ μ : mj_St, (∀ c, 60 < c → μ.1 c = σ.1 c) → μ.2.1 82 = σ.2.1 82 → ∃ ρ2 ρ3, mj_Fx mj_TF μ ρ2 ∧ ρ2.1 61 3 = mj_cft σ n e ∧ ((mj_ctx σ n e).1 = true → ∀ i, 33 ≤ i → i ≤ 43 → ρ2.1 61 i = (mj_ctx σ n e).2.2 i) ∧ (mj_cby σ n e = 0 → mj_Fy (D 14 14) ρ2 ρ3 ∧ mj_Mst ρ3 (D 14 14) (R + 9) (D 14 17) (D 14 18)) ∧ ∀ d, mj_ev X (d + 30) 232 [.ref 61, .int (nI n)] μ = some (if mj_cby σ n e = 0 then (some (.int (nI (mj_mny (D 14 17) 9 ρ2 (D 14 14) 0))), ρ3) else (some (.int (-6)), mj_rfM ρ2 (-6))) := fun μ m1 m2 => by
      obtain ⟨x1, x2, x3⟩ := mk_by_eq (μ := μ) (n := n) (e := e) h e1 lg m2 (fun i _ => by rw [m1 61 (by decide)]) (m1 65 (by decide))
      have w : mj_Mw μ (nI n) = 0 := by
        unfold mj_Mw at c' ⊢
        rw [m1 78 (by decide)]
        exact c'
      obtain ⟨ρ2, ρ3, G, g1, g2, g3, g4⟩ := sp_M_manyC (X := X) (mk_Mst_o m1 (mk_Dl_Mst h.1 h.2.2.2.2.1)) (by omega) n1 w (by rw [m1 80 (by decide)]; exact e3) e1
      rw [x1] at g2
      rw [x2] at g3 g4
      exact ⟨ρ2, ρ3, G, g1.trans x3, g2, g3, g4⟩
    obtain ⟨t1, t2, t3, t4⟩ := id T
    have rfr : ∀ w : Int32, (∀ c, 60 < c → (mj_rfC ρ1 w).1 c = σ.1 c) ∧ (mj_rfC ρ1 w).2.1 82 = σ.2.1 82 := fun w => ⟨fun c hc => by rw [mk_rfC_o (by omega), t1 c (by omega) (by omega)], by show ρ1.2.1 82 = _; rw [t3]⟩
    by_cases c2 : mj_cby σ n e = 0
    · obtain ⟨ok1, ok2⟩ := mj_cby_ok c2
      obtain ⟨q, hq, hf⟩ := mk_Fok_q hD hk (mj_rd_fok (L := mj_kl σ (4 + n)) (e := e) (wk := mj_wkC σ) ok1).1
      have crd := hc1 ok1
      have hf' : mk_qf (mj_ctx σ n e).2.2 q := hf
      have k44 : ρ1.1 44 4 = nI (q 15) := crd.1.1.trans hf'.1
      have r15 : ρ1.1 14 15 = nI (mk_wn D (D 14 14)) := by rw [t1 14 (by decide) (by decide)]; exact h.1.2.2.2.2.2.2.1
      obtain ⟨τ, A, qc⟩ := sp_manyC (X := X) (s := nI n) (w := D 14 17) (B := fun k => mk_bD (mk_aD D q (k + 1))) hX mj_cby_or (by rw [t1 14 (by decide) (by decide)]; exact hD.1) N9 (fun _ => mk_GH h T hq hf' crd) hrd
      have m1 : ∀ c, 60 < c → τ.1 c = σ.1 c := fun c hc => by rw [A.1 c (by omega) (by omega) (by omega), t1 c (by omega) (by omega)]
      obtain ⟨ρ2, ρ3, G, g1, g2, g3, g4⟩ := ref τ m1 (by rw [A.2.2.2.2.2.2.1 82 (by decide), t3])
      have hM2 := mk_isM_TF hM m1 G
      obtain ⟨Y, M3⟩ := g3 c2
      have ev := mk_many_eq (ρ := ρ1) hk hq hf' (fun i hi => (h.1.2.2.2.1 i hi).1) r15 k44 9 0 ρ2 (by omega) (mk_aD0_ok hk hq) (mk_isM_a0 hM2) (g2 ok1)
      rw [Nat.add_zero] at ev
      refine ⟨nI (mj_mny (D 14 17) 9 ρ2 (D 14 14) 0), τ, ρ3, D, mk_Inv_R (R := R + 9) (mk_Inv_gm h T hq hf' crd A G Y M3.1.1 M3.2.1 M3.1.2.2.2.2.2.1 (g1.trans r012.symm)) (by omega), mk_d (k := 43) (by decide) (fun d => ?_), mk_d (k := 30) (by decide) (fun d => ?_)⟩
      · have z := qc d
        rw [if_pos c2, ev] at z
        exact z
      · have z := g4 d
        rw [if_pos c2] at z
        exact z
    · obtain ⟨τ, A, qc⟩ := sp_manyC (X := X) (s := nI n) (w := D 14 17) (B := fun _ => false) hX mj_cby_or (by rw [t1 14 (by decide) (by decide)]; exact hD.1) N9 (fun z => absurd z c2) hrd
      obtain ⟨ρ2, ρ3, G, g1, g2, g3, g4⟩ := ref (mj_rfC ρ1 (-6)) (rfr (-6)).1 (rfr (-6)).2
      refine ⟨-6, mj_rfC ρ1 (-6), mj_rfM ρ2 (-6), D, mk_Inv_R (mk_Inv_txt h T G (g1.trans r012.symm)) (Nat.le_add_right _ _), mk_d (k := 43) (by decide) (fun d => ?_), mk_d (k := 30) (by decide) (fun d => ?_)⟩
      · have z := qc d
        rw [if_neg c2] at z
        exact z
      · have z := g4 d
        rw [if_neg c2] at z
        exact z
  · have c' : ¬ mj_Mw σ s = 0 := by rw [← mk_rr_eq h]; exact c
    refine mk_Cl_no (v := mj_rr σ s) (w := mj_rr σ s) h (kc := 4) (km := 4) (by decide) (by decide) (fun d => sp_many_no c) (fun d => ?_)
    have z := sp_M_many_no (X := X) (d := d) (σ := mj_rfC σ (mj_rr σ s)) (s := s) (by rw [mk_Mw_rfC]; exact c')
    rw [mk_Mw_rfC, ← mk_rr_eq h] at z
    exact z
end
