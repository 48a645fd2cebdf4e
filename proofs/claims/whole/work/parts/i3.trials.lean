section
variable {X : mj_X} {d : Nat} {σ τ ρ μ : mj_St} {D : Nat → Nat → Nat} {R R' B : Nat} {f : Nat → Int32} {q : Nat → Nat}
-- the class alone
theorem mk_sgr_o (o : ∀ c, c < 46 → τ.1 c = σ.1 c) {N gr : Nat} : mj_sgr τ N gr = mj_sgr σ N gr := by
  unfold mj_sgr
  rw [mj_tld_o (o 14 (by decide)) (o 28 (by decide)), mj_usd_o (o 20 (by decide)), o 14 (by decide)]
theorem mk_KHc (hD : mj_isD σ D) (hk : mj_okD D) (hb : ∀ i, (D 14 16).testBit i = true → i < D 14 14) (hc : mj_pc σ (D 14 14) (D 14 17)) (he : mj_pe σ) : mj_KH σ (D 14 14) (D 14 17) (mk_K σ D) := by
  intro τ F set o ho
  have o46 : ∀ c, c < 46 → τ.1 c = σ.1 c := fun c hc => F.1 c (Or.inl hc)
  refine mk_beq ?_
  have := mj_ckg_D (set := set) (gr := 1) (mj_isD_o o46 hD) hk hb (mj_Fs_pc F hc) (mj_Fs_pe F he) (Or.inl rfl) ho
  rw [mk_sg1, mj_ring_o o46] at this
  unfold mj_ckp mk_K
  rw [this, mk_dc_i]
theorem mk_BHc (hD : mj_isD σ D) (hk : mj_okD D) (hb : ∀ i, (D 14 16).testBit i = true → i < D 14 14) (hc : mj_pc σ (D 14 14) (D 14 17)) (he : mj_pe σ) : mj_BH σ (D 14 14) (D 14 17) (mk_b σ D) := by
  intro τ F
  have o46 : ∀ c, c < 46 → τ.1 c = σ.1 c := fun c hc => F.1 c (Or.inl hc)
  refine mk_beq ?_
  have := mj_ckg_D (set := mj_evC σ) (gr := 8) (o := 0) (mj_isD_o o46 hD) hk hb (mj_Fs_pc F hc) (mj_Fs_pe F he) (Or.inr rfl) (by decide)
  rw [mj_ring_o o46, mk_sgr_o o46] at this
  unfold mk_b
  rw [mk_dc_i, ← this]
  exact Iff.rfl
theorem mk_bavc (hD : mj_isD σ D) (hk : mj_okD D) : mj_bav σ (D 14 14) (mk_K σ D) (mk_b σ D) = mk_b σ D := by
  unfold mj_bav
  cases z : mk_b σ D
  · rw [Bool.and_false]
  · rw [Bool.and_true, Bool.not_eq_true']
    cases y : mj_anyF (fun o => mj_bsl σ (D 14 14) o && !(mk_K σ D (mj_evC σ) o)) 0 8
    · rfl
    · obtain ⟨o, -, ho, hq⟩ := (mj_anyF_iff _ _).mp y
      rw [Bool.and_eq_true] at hq
      obtain ⟨q1, q2⟩ := hq
      unfold mk_b at z
      rw [mk_dc_i] at z
      have ag := mk_bsl_i hD hk (by omega) q1
      have e12 : 12 - (12 - D 14 17) = D 14 17 := by have := hk.2.2.1; omega
      have hK : mk_K σ D (mj_evC σ) o = true := by
        unfold mk_K
        rw [mk_dc_i]
        refine ⟨z.1, mk_DW_81 hk (12 - D 14 17) _ 0 (D 25) (by omega) ?_ z.2⟩
        rw [e12]
        exact mk_ug_sg hD hk (fun f hf _ hd => ag f hf (Or.inl hd))
      rw [hK] at q2
      exact absurd q2 (by decide)
theorem mk_Mallc (hD : mj_isD σ D) (hM : mk_isM μ D) (hk : mj_okD D) : mj_Mall μ (D 14 14) (D 14 17) = mk_b σ D := by
  have h17 := hk.2.2.1
  have h18 := hk.2.2.2.1
  refine mk_beq ?_
  unfold mj_Mall mk_b
  rw [Bool.and_eq_true, Bool.not_eq_true', mk_evy_C hD hM, mk_Mls_D hM hk, mk_dc_i]
  refine and_congr_right (fun hl => ?_)
  by_cases cw : D 14 17 = 12
  · rw [cw]
    exact ⟨fun _ => trivial, fun _ => rfl⟩
  · obtain ⟨u, u1, u2, u3⟩ := mk_told (h := D 14 17) (t := D 14 18) hM hk (by omega) h18
    rw [hM.2.2.1, u2]
    have hM' := mk_cnS_M (N := D 14 14) hM
    have := (mk_Br_D (mt := mj_evC σ) (g := (mj_sgr σ (D 14 14) 8).toNatClampNeg) hM' hk (by omega) (mk_lvn_L hM hk hl) u1 (mk_ug_sg hD hk (fun f hf _ hd => u3 f hf hd))).2
    rw [mk_cnS_46, mk_ring_eq hD hM hk] at this
    exact this
/-- whether all can be borne, by the numbers alone -/
noncomputable def mk_bD (D : Nat → Nat → Nat) : Bool := mk_dc (∃ τ, mj_isD τ D ∧ mk_b τ D = true)
theorem mk_b_DD (hD : mj_isD σ D) (hD' : mj_isD τ D) (hk : mj_okD D) : mk_b σ D = mk_b τ D := by
  have er : mj_ring σ (D 14 14) = mj_ring τ (D 14 14) := mj_b_ext (fun b hb => by rw [Bool.eq_iff_iff, mk_ring_D hD hk hb, mk_ring_D hD' hk hb])
  have ee : mj_evC σ = mj_evC τ := by
    unfold mj_evC
    rw [hD.1, hD'.1]
  have es : (mj_sgr σ (D 14 14) 8).toNatClampNeg = (mj_sgr τ (D 14 14) 8).toNatClampNeg := by
    obtain ⟨s1, -⟩ := mj_sgrN (σ := σ) (N := D 14 14) (gr := 8) (Or.inr rfl)
    obtain ⟨s2, -⟩ := mj_sgrN (σ := τ) (N := D 14 14) (gr := 8) (Or.inr rfl)
    apply Nat.eq_of_testBit_eq
    intro i
    by_cases c : i < 3
    · rw [mk_sg_b hD hk c, mk_sg_b hD' hk c]
    · have p : 8 ≤ 2 ^ i := by
        have := Nat.pow_le_pow_right (n := 2) (by decide) (show 3 ≤ i by omega)
        omega
      rw [Nat.testBit_lt_two_pow (by omega), Nat.testBit_lt_two_pow (by omega)]
  unfold mk_b
  rw [er, ee, es]
theorem mk_b_bD (hD : mj_isD σ D) (hk : mj_okD D) : mk_b σ D = mk_bD D := by
  refine mk_beq ?_
  unfold mk_bD
  rw [mk_dc_i]
  exact ⟨fun z => ⟨σ, hD, z⟩, fun ⟨τ, t1, t2⟩ => by rw [mk_b_DD hD t1 hk]; exact t2⟩
theorem mk_Mall_bD (hM : mk_isM μ D) (hk : mj_okD D) : mj_Mall μ (D 14 14) (D 14 17) = mk_bD D := by
  have hD : mj_isD ((fun c i => if c = 18 ∨ c = 19 ∨ c = 20 then mj_oi (D c i) else nI (D c i), μ.2) : mj_St) D := by
    unfold mj_isD
    exact ⟨rfl, rfl, rfl, rfl, fun i _ => ⟨rfl, rfl, rfl, rfl, rfl, rfl, rfl, rfl, rfl, rfl⟩, fun _ _ => rfl, fun _ _ => rfl⟩
  exact (mk_Mallc hD hM hk).trans (mk_b_bD hD hk)
theorem mk_isD_Tc (T : mk_Tc σ ρ) (hD : mj_isD σ D) : mj_isD ρ D := by
  have t : ∀ c, c ≠ 0 → c ≠ 44 → ρ.1 c = σ.1 c := T.1
  unfold mj_isD at hD ⊢
  rw [t 14 (by decide) (by decide), t 15 (by decide) (by decide), t 16 (by decide) (by decide), t 17 (by decide) (by decide), t 18 (by decide) (by decide), t 19 (by decide) (by decide), t 20 (by decide) (by decide), t 21 (by decide) (by decide), t 24 (by decide) (by decide), t 25 (by decide) (by decide), t 26 (by decide) (by decide), t 27 (by decide) (by decide), t 28 (by decide) (by decide)]
  exact hD
/-- more and more promises, in the class -/
theorem mk_GH (h : mk_Inv σ D R B) (T : mk_Tc σ ρ) (hq : mk_Nq D q) (hf : mk_qf f q) (hc : mj_crd ρ f) : mj_GH ρ (D 14 14) (D 14 17) (fun k => mk_bD (mk_aD D q (k + 1))) := by
  obtain ⟨hD, hM, hk, d1, d2, d3, d4, d5, d6, d7⟩ := id h.1
  have N9 := hk.1
  obtain ⟨t1, t2, t3, t4⟩ := id T
  have adv := mk_adv_q hc hf hq.1
  intro k τ hr A
  have rm := hr k (Nat.lt_succ_self k)
  have k9 : D 14 14 + k < 9 := by
    have z := rm
    unfold mj_rmk at z
    rw [Bool.and_eq_true, decide_eq_true_eq] at z
    exact z.1
  rw [mk_rmk_eq (by rw [t1 14 (by decide) (by decide)]; exact d4) (hc.1.1.trans hf.1) hq.1.2 hq.1.1 N9 (by omega)] at rm
  obtain ⟨ok, -⟩ := mk_room_ok hk hq rm
  obtain ⟨A1, A2, A3, A4, A5, A6, A7, A8, A9, A10⟩ := id A
  have col : ∀ c i, 15 ≤ c → c ≤ 26 → τ.1 c i = σ.1 c i ∨ τ.1 c i = mj_adv ρ c := fun c i x y => by
    rcases A6 c i x y with z | z
    · exact Or.inl (z.trans (by rw [t1 c (by omega) (by omega)]))
    · exact Or.inr z.2
  have iD : mj_isD τ (mk_aD D q (k + 1)) := by
    refine mk_aD_isD (ρ := ρ) hD hk hq.2.2.2.2.2.2.1.2 adv (fun i hi => ?_) A3 (fun c i x y z => ?_) (fun c i x y z z2 => A5 c i x y z z2) ?_ ?_
    · rw [A2 i (by omega) (by omega), t1 14 (by decide) (by decide)]
    · rcases A6 c i x y with u | u
      · rw [u, t1 c (by omega) (by omega)]
      · omega
    · rw [A1 27 (by decide) (by decide) (by decide), t1 27 (by decide) (by decide)]
    · rw [A1 28 (by decide) (by decide) (by decide), t1 28 (by decide) (by decide)]
  have hb' : ∀ i, (mk_aD D q (k + 1) 14 16).testBit i = true → i < mk_aD D q (k + 1) 14 14 := fun i hi => by
    rw [mk_aD_14 (by decide)] at hi
    rw [mk_aD_N]
    have := (d1 i hi).1
    omega
  have pe : mj_pe τ := by
    refine ⟨fun k' h9 => ?_, fun k' h9 => ?_⟩
    · rcases col 18 k' (by decide) (by decide) with z | z
      · rw [z]; exact (d6 k' h9).2.1
      · rw [z, adv.2.2.2.1]; exact mk_oi_in hq.2.2.1 (by decide)
    · rcases col 17 k' (by decide) (by decide) with z | z
      · rw [z]; exact (d6 k' h9).2.2.1
      · rw [z, adv.2.2.1]; exact mj_in_nI hq.2.1.2 (by decide)
  have pc : mj_pc τ (mk_aD D q (k + 1) 14 14) (mk_aD D q (k + 1) 14 17) := by
    refine ⟨iD.1, ok.1, iD.2.2.1, ok.2.2.1, fun k' h9 => ?_, ?_, fun i hi _ => ⟨mk_aD D q (k + 1) 25 i, ?_, (iD.2.2.2.2.1 i hi).2.2.2.2.2.2.2.2.1⟩, A9 (by rw [t4]; exact h.2.2.2.2.2.1)⟩
    · rcases col 20 k' (by decide) (by decide) with z | z
      · rw [z]; exact (d6 k' h9).1
      · rw [z, adv.2.2.2.2.2.1]; exact mk_oi_in hq.2.2.2.2.1 (by decide)
    · rw [mk_wk_len iD ok]
      exact ok.2.2.2.2.2.2.2.1
    · have := (ok.2.2.2.2.1 i hi).2.2.2.2.2.2.1
      omega
  have kh := mk_KHc iD ok hb' pc pe
  have bh := mk_BHc iD ok hb' pc pe
  have bv := mk_bavc iD ok
  rw [mk_b_bD iD ok] at bv
  rw [mk_aD_N, mk_aD_14 (by decide)] at kh bh pc
  rw [mk_aD_N] at bv
  exact ⟨pc, pe, mk_K τ (mk_aD D q (k + 1)), mk_b τ (mk_aD D q (k + 1)), kh, bh, by rw [mk_b_bD iD ok]; exact bv⟩
/-- a deal stands when only what lies above has changed -/
theorem mk_Dl_st (h : mk_Dl σ D) (r1 : ∀ i, 14 ≤ i → i ≤ 18 → τ.1 14 i = σ.1 14 i) (r2 : ∀ c i, 15 ≤ c → c ≤ 26 → i < D 14 14 → τ.1 c i = σ.1 c i) (r3 : ∀ c i, 65 ≤ c → c ≤ 77 → i < D 14 14 → τ.1 c i = σ.1 c i) (r4 : ∀ i, i < 3 → τ.1 61 i = σ.1 61 i) (r5 : ∀ c, c = 27 ∨ c = 28 ∨ c = 63 ∨ c = 64 → τ.1 c = σ.1 c) (r6 : ∀ k, k < 9 → (τ.1 20 k = -1 ∨ mj_inb (τ.1 20 k) 3 = true) ∧ (τ.1 18 k = -1 ∨ mj_inb (τ.1 18 k) 4 = true) ∧ mj_inb (τ.1 17 k) 12 = true ∧ (τ.1 69 k = -1 ∨ mj_inb (τ.1 69 k) 9 = true)) : mk_Dl τ D := by
  obtain ⟨⟨a1, a2, a3, a4, a5, a6, a7⟩, ⟨b1, b2, b3, b4, b5, b6⟩, hk, c1, c2, c3, c4, c5, c6, c7⟩ := h
  refine ⟨⟨?_, ?_, ?_, ?_, fun i hi => ?_, fun t ht => ?_, fun f hf => ?_⟩, ⟨?_, ?_, ?_, fun i hi => ?_, fun t ht => ?_, fun f hf => ?_⟩, hk, c1, c2, c3, ?_, fun i hi => ?_, r6, fun k hkN => ?_⟩
  · rw [r1 14 (by omega) (by omega)]; exact a1
  · rw [r1 16 (by omega) (by omega)]; exact a2
  · rw [r1 17 (by omega) (by omega)]; exact a3
  · rw [r1 18 (by omega) (by omega)]; exact a4
  · rw [r2 15 i (by omega) (by omega) hi, r2 16 i (by omega) (by omega) hi, r2 17 i (by omega) (by omega) hi, r2 18 i (by omega) (by omega) hi, r2 19 i (by omega) (by omega) hi, r2 20 i (by omega) (by omega) hi, r2 21 i (by omega) (by omega) hi, r2 24 i (by omega) (by omega) hi, r2 25 i (by omega) (by omega) hi, r2 26 i (by omega) (by omega) hi]
    exact a5 i hi
  · rw [r5 27 (by omega)]; exact a6 t ht
  · rw [r5 28 (by omega)]; exact a7 f hf
  · rw [r4 0 (by omega)]; exact b1
  · rw [r4 1 (by omega)]; exact b2
  · rw [r4 2 (by omega)]; exact b3
  · rw [r3 65 i (by omega) (by omega) hi, r3 66 i (by omega) (by omega) hi, r3 67 i (by omega) (by omega) hi, r3 68 i (by omega) (by omega) hi, r3 69 i (by omega) (by omega) hi, r3 70 i (by omega) (by omega) hi, r3 71 i (by omega) (by omega) hi, r3 74 i (by omega) (by omega) hi, r3 76 i (by omega) (by omega) hi, r3 77 i (by omega) (by omega) hi, r3 75 i (by omega) (by omega) hi]
    exact b4 i hi
  · rw [r5 63 (by omega)]; exact b5 t ht
  · rw [r5 64 (by omega)]; exact b6 f hf
  · rw [r1 15 (by omega) (by omega)]; exact c4
  · rw [r2 22 i (by omega) (by omega) hi, r2 23 i (by omega) (by omega) hi, r3 72 i (by omega) (by omega) hi, r3 73 i (by omega) (by omega) hi]
    exact c5 i hi
  · rw [r3 75 k (by omega) (by omega) hkN]
    exact c7 k hkN
/-- what stands after promises are tried and taken away -/
theorem mk_Inv_gm (h : mk_Inv σ D R B) (T : mk_Tc σ ρ) (hq : mk_Nq D q) (hf : mk_qf f q) (hc : mj_crd ρ f) (A : mj_Fa (D 14 14) 0 ρ τ) {ρ2 : mj_St} (G : mj_Fx mj_TF τ ρ2) (Y : mj_Fy (D 14 14) ρ2 μ) (e0 : μ.1 61 0 = nI (D 14 14)) (S : mj_Scr μ R') (r69 : ∀ k, k < 9 → μ.1 69 k = -1 ∨ mj_inb (μ.1 69 k) 9 = true) (g : ρ2.1 61 3 = ρ.1 0 12) : mk_Inv μ D R' B := by
  have d6 := h.1.2.2.2.2.2.2.2.2.1
  obtain ⟨t1, t2, t3, t4⟩ := id T
  have adv := mk_adv_q hc hf hq.1
  obtain ⟨A1, A2, A3, A4, A5, A6, A7, A8, A9, A10⟩ := id A
  obtain ⟨G1, G2, G3⟩ := G
  obtain ⟨Y1, Y2, Y3⟩ := Y
  have lo : ∀ c i, c < 46 → μ.1 c i = τ.1 c i := fun c i hc => by
    rw [Y2 c i (by omega) (by omega) (by omega) (by omega) (by omega) (by omega), G2 c (by omega)]
  have same : ∀ c, c ≠ 0 → c ≠ 14 → ¬ (15 ≤ c ∧ c ≤ 26) → c ≠ 44 → (c < 46 ∨ 54 < c) → c ≠ 61 → c ≠ 85 → c ≠ 86 → c ≠ 87 → c ≠ 88 → (c < 65 ∨ 77 < c) → μ.1 c = σ.1 c := fun c a1 a2 a3 a4 a5 a6 a7 a8 a9 a10 a11 => by
    funext i
    rw [Y2 c i a6 a7 a8 a9 a10 (by omega), G2 c a6, A1 c a5 a2 a3, t1 c a1 a4]
  have s61 : ∀ i, i = 1 ∨ i = 2 ∨ 59 ≤ i → μ.1 61 i = σ.1 61 i := fun i hi => by
    rw [Y3 i (by omega), G3 i (mk_TF_n (by omega)), A1 61 (by decide) (by decide) (by decide), t1 61 (by decide) (by decide)]
  have s0 : ∀ i, μ.1 0 i = ρ.1 0 i := fun i => by
    rw [lo 0 i (by decide), A1 0 (by decide) (by decide) (by decide)]
  have col : ∀ c i, 15 ≤ c → c ≤ 26 → μ.1 c i = σ.1 c i ∨ (D 14 14 ≤ i ∧ μ.1 c i = mj_adv ρ c) := fun c i x y => by
    rw [lo c i (by omega)]
    rcases A6 c i x y with z | z
    · exact Or.inl (z.trans (by rw [t1 c (by omega) (by omega)]))
    · exact Or.inr z
  refine mk_Inv_prm h (fun c hc => same c (by omega) (by omega) (by omega) (by omega) (by omega) (by omega) (by omega) (by omega) (by omega) (by omega) (by omega)) (fun i hi => by rw [s0]; exact t2 i (by omega)) (by rw [s0, Y3 3 (by omega), g]) (fun i hi => s61 i (by omega)) (fun k hk => ?_) (fun c hc => ?_) (mk_Dl_st h.1 (fun i x y => ?_) (fun c i x y z => ?_) (fun c i x y z => ?_) (fun i hi => ?_) (fun c hc => same c (by omega) (by omega) (by omega) (by omega) (by omega) (by omega) (by omega) (by omega) (by omega) (by omega) (by omega)) (fun k h9 => ⟨?_, ?_, ?_, r69 k h9⟩)) (Nat.le_refl _) S ?_ ?_
  · rw [same 12 (by decide) (by decide) (by decide) (by decide) (by decide) (by decide) (by decide) (by decide) (by decide) (by decide) (by decide), same 62 (by decide) (by decide) (by decide) (by decide) (by decide) (by decide) (by decide) (by decide) (by decide) (by decide) (by decide)]
    exact h.2.2.1.1 k hk
  · rw [Y1, G1, A7 c (by omega), t3]
  · rw [lo 14 i (by decide)]
    by_cases z : i = 14
    · rw [z, A3, Nat.add_zero]; exact h.1.1.1.symm
    · by_cases z2 : i = 15
      · rw [z2, A4, t1 14 (by decide) (by decide)]
        exact Int32.add_zero _
      · rw [A2 i z z2, t1 14 (by decide) (by decide)]
  · rcases col c i x y with u | u
    · exact u
    · omega
  · rw [Y2 c i (by omega) (by omega) (by omega) (by omega) (by omega) (Or.inl z), G2 c (by omega), A1 c (by omega) (by omega) (by omega), t1 c (by omega) (by omega)]
  · by_cases z : i = 0
    · rw [z, e0]; exact h.1.2.1.1.symm
    · exact s61 i (by omega)
  · rcases col 20 k (by decide) (by decide) with z | z
    · rw [z]; exact (d6 k h9).1
    · rw [z.2, adv.2.2.2.2.2.1]; exact mk_oi_in hq.2.2.2.2.1 (by decide)
  · rcases col 18 k (by decide) (by decide) with z | z
    · rw [z]; exact (d6 k h9).2.1
    · rw [z.2, adv.2.2.2.1]; exact mk_oi_in hq.2.2.1 (by decide)
  · rcases col 17 k (by decide) (by decide) with z | z
    · rw [z]; exact (d6 k h9).2.2.1
    · rw [z.2, adv.2.2.1]; exact mj_in_nI hq.2.1.2 (by decide)
  · rw [Y1, G1]
    exact A9 (by rw [t4]; exact h.2.2.2.2.2.1)
  · unfold mj_Rb
    rw [Y1, G1]
    exact A10 B (by unfold mj_Rb; rw [t4]; exact h.2.2.2.2.2.2)
end
