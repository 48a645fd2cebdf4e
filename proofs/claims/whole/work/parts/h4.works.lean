section
variable {X : mj_X} {σ τ ρ : mj_St} {D : Nat → Nat → Nat} {R R' B : Nat}
/-- only cells of the deal have changed, and scratch -/
theorem mk_Inv_deal2 {D' : Nat → Nat → Nat} (h : mk_Inv σ D R B) (h1 : ∀ c, (c < 14 ∨ (28 < c ∧ c < 46) ∨ c = 62 ∨ (77 < c ∧ c < 85) ∨ 88 < c) → τ.1 c = σ.1 c) (h61 : ∀ i, i = 3 ∨ 59 ≤ i → τ.1 61 i = σ.1 61 i) (h2 : τ.2 = σ.2) (hDl : mk_Dl τ D') (hN : D' 14 14 = D 14 14) (hS : mj_Scr τ R') : mk_Inv τ D' R' B := by
  obtain ⟨i1, i2, ⟨o1, o2, o3, o4⟩, i4, i5, i6, i7⟩ := h
  refine ⟨hDl, ?_, ⟨?_, ?_, ?_, ?_⟩, mk_Im_o (by rw [h1 0 (by omega)]) (fun c i a b => by rw [h1 c (by omega)]) (fun i a _ => h61 i (by omega)) (h1 90 (by omega)) i4, hS, by rw [h2]; exact i6, by unfold mj_Rb; rw [h2]; exact i7⟩
  · rw [hN]
    intro s hs
    rw [h1 1 (by omega), h1 2 (by omega), h1 78 (by omega), h1 79 (by omega), h1 80 (by omega), h1 81 (by omega), h2]
    exact i2 s hs
  · rw [h1 12 (by omega), h1 62 (by omega)]; exact o1
  · rw [h1 0 (by omega), h61 3 (by omega)]; exact o2
  · rw [h1 0 (by omega), h61 59 (by omega)]; exact o3
  · rw [h1 0 (by omega), h1 13 (by omega), h1 89 (by omega)]; exact o4
/-- the deal of the reference lies in the reference's cells -/
theorem mk_Mst_o {N R w t : Nat} (c : ∀ c, 60 < c → τ.1 c = σ.1 c) (h : mj_Mst σ N R w t) : mj_Mst τ N R w t := by
  have ew : mj_wc τ = mj_wc σ := by
    funext n
    unfold mj_wc
    rw [c 65 (by decide)]
  have el : mj_lvn τ = mj_lvn σ := by
    funext n
    unfold mj_lvn
    rw [c 76 (by decide), c 77 (by decide)]
  unfold mj_Mst mj_Wd mj_Scr mj_Pw mj_Mok at h ⊢
  rw [ew, el, c 61 (by decide), c 65 (by decide), c 68 (by decide), c 69 (by decide), c 70 (by decide), c 75 (by decide), c 84 (by decide), c 85 (by decide), c 87 (by decide)]
  exact h
/-- the hour that is now, as both sides see it -/
def mk_yw (D : Nat → Nat → Nat) (i : Nat) : Nat := if (D 14 16).testBit i = true then 4 else D 25 i
theorem mk_HR_now (h : mk_Dl σ D) (hM : mk_isM ρ D) : mk_HR σ (mj_cnS ρ (D 14 14)) D 25 (D 25) (mk_yw D) (D 14 16) (mj_lvn ρ) (mj_evC σ) := by
  obtain ⟨hD, -, hk, d1, -⟩ := h
  refine ⟨hD, mk_cnS_M hM, hk, by rw [mk_cnS_46, mk_ring_eq hD hM hk], fun b hb => mk_ev_b hD hk hb, fun i hi => ⟨(hD.2.2.2.2.1 i hi).2.2.2.2.2.2.2.2.1, (hk.2.2.2.2.1 i hi).2.2.2.2.2.2.1.2⟩, hk.2.1, d1, fun i hi h5 => ⟨?_, rfl⟩⟩
  obtain ⟨e65, e66, e67, e68, e69, e70, e71, e74, e76, e77, e75⟩ := hM.2.2.2.1 i hi
  unfold mj_lvn mk_yw
  rw [e77, e76]
  by_cases c : (D 14 16).testBit i = true
  · rw [if_pos c, if_pos c, if_pos (show nI 1 = 1 from rfl)]; rfl
  · rw [if_neg c, if_neg c, if_neg (by decide)]
theorem mk_evy_C (hD : mj_isD σ D) (hM : mk_isM ρ D) : mj_evy ρ = mj_evC σ := by
  unfold mj_evy mj_evC
  rw [hD.1, hM.1]
/-- both sides let the hour be worked, or neither -/
theorem mk_wok_eq {set : Int32} (h : mk_Dl σ D) (hM : mk_isM ρ D) (hw : D 14 17 < 12) : mj_wok ρ (D 14 14) (D 14 17) (D 14 18) set = true ↔ mj_why σ 25 set (nI (D 14 17)) (nI (D 14 18)) (nI (D 14 16)) (D 14 14) = 0 := by
  have hr := mk_HR_now h hM
  rw [mk_why_eq hr hw h.2.2.1.2.2.2.1]
  unfold mj_wok mj_pwy
  rw [Bool.and_eq_true, decide_eq_true_eq, decide_eq_true_eq, mk_evy_C h.1 hM]
  by_cases c : set &&& (mj_Gset (mj_cnS ρ (D 14 14)) (nI (D 14 17)) (nI (D 14 18)) (mj_evC σ) (mj_lvn ρ) (D 14 14) ^^^ -1) = 0
  · rw [if_pos c]
    exact ⟨fun z => z.2, fun z => ⟨c, z⟩⟩
  · rw [if_neg c]
    exact ⟨fun z => absurd z.1 c, fun z => absurd z (by decide)⟩
/-- the deal after an hour's work -/
def mk_wD (D : Nat → Nat → Nat) (set : Int32) (P : Nat) (c i : Nat) : Nat := if c = 25 then D 25 i - (if mj_b set i = true then 1 else 0) else if c = 14 ∧ i = 16 then D 14 16 ||| P else if c = 14 ∧ i = 17 then D 14 17 + 1 else D c i
theorem mk_wD_o {set : Int32} {P c : Nat} (h1 : c ≠ 25) (h2 : c ≠ 14) : mk_wD D set P c = D c := by
  funext i
  unfold mk_wD
  rw [if_neg h1, if_neg (fun z => h2 z.1), if_neg (fun z => h2 z.1)]
theorem mk_wD_Dl {set : Int32} {P : Nat} (h : mk_Dl σ D) (hw : D 14 17 < 12) (hP : P < 512) (b1 : ∀ i, P.testBit i = true ↔ i < D 14 14 ∧ D 15 i < 5 ∧ mk_lc D (mj_b (mj_evC σ)) (D 14 18) (D 14 17) (mk_yw D) (mj_b set) i)
    (b2 : ∀ i, i < D 14 14 → mj_b set i = true → D 15 i < 5 ∧ D 25 i ≠ 0 ∧ (D 14 16).testBit i = false ∧ D 16 i ≤ D 14 17 ∧ D 14 17 ≤ D 17 i ∧ mj_asD D i (D 14 18) = true)
    (t1 : ∀ c, c ≠ 25 → c ≠ 14 → c ≠ 61 → c ≠ 76 → c ≠ 77 → c < 46 ∨ (60 < c ∧ c < 85) → τ.1 c = σ.1 c) (t2 : τ.1 14 14 = σ.1 14 14) (t3 : τ.1 14 15 = σ.1 14 15) (t4 : τ.1 14 18 = σ.1 14 18) (t5 : τ.1 14 16 = nI (D 14 16 ||| P)) (t6 : τ.1 14 17 = nI (D 14 17 + 1)) (t7 : τ.1 61 0 = σ.1 61 0) (t8 : τ.1 61 1 = nI (D 14 17 + 1)) (t9 : τ.1 61 2 = σ.1 61 2)
    (u1 : ∀ i, i < D 14 14 → τ.1 25 i = nI (D 25 i - if mj_b set i = true then 1 else 0)) (u2 : ∀ i, i < D 14 14 → τ.1 76 i = nI (D 25 i - if mj_b set i = true then 1 else 0)) (u3 : ∀ i, i < D 14 14 → τ.1 77 i = nI (if (D 14 16 ||| P).testBit i = true then 1 else 0)) :
    mk_Dl τ (mk_wD D set P) := by
  obtain ⟨⟨a1, a2, a3, a4, a5, a6, a7⟩, ⟨m1, m2, m3, m4, m5, m6⟩, hk, d1, d2, d3, d4, d5, d6, d7⟩ := h
  have hev : ∀ b, b < D 14 14 → mj_b (mj_evC σ) b = true := fun b hb => by
    have N9 := hk.1
    rw [mk_ev_b (σ := σ) (D := D) ⟨a1, a2, a3, a4, a5, a6, a7⟩ hk (by omega)]
    exact decide_eq_true hb
  obtain ⟨k1, k2, k3, k4, k5, k6, k7, k8, k9⟩ := hk
  have e : ∀ c, c ≠ 25 → c ≠ 14 → mk_wD D set P c = D c := fun c x y => mk_wD_o x y
  have e25 : ∀ i, mk_wD D set P 25 i = D 25 i - (if mj_b set i = true then 1 else 0) := fun i => rfl
  have e14 : mk_wD D set P 14 14 = D 14 14 := rfl
  have e16 : mk_wD D set P 14 16 = D 14 16 ||| P := rfl
  have e17 : mk_wD D set P 14 17 = D 14 17 + 1 := rfl
  have e18 : mk_wD D set P 14 18 = D 14 18 := rfl
  have s : ∀ c, c ≠ 25 → c ≠ 14 → c ≠ 61 → c ≠ 76 → c ≠ 77 → c < 46 ∨ (60 < c ∧ c < 85) → τ.1 c = σ.1 c := t1
  have begun : ∀ i, i < D 14 14 → D 15 i < 5 → (D 25 i - if mj_b set i = true then 1 else 0) < D 24 i → D 16 i < D 14 17 + 1 ∧ mj_asD D i (D 14 18) = true := fun i hi h5 hl => by
    by_cases c : mj_b set i = true
    · obtain ⟨-, -, -, z1, -, z2⟩ := b2 i hi c
      exact ⟨by omega, z2⟩
    · rw [if_neg c] at hl
      obtain ⟨z1, z2⟩ := d3 i hi h5 (by omega)
      exact ⟨by omega, z2⟩
  unfold mk_Dl mj_isD mk_isM mj_okD mk_wn
  unfold mj_asD at begun ⊢
  simp only [e14, e16, e17, e18, e25]
  rw [e 15 (by decide) (by decide), e 16 (by decide) (by decide), e 17 (by decide) (by decide), e 18 (by decide) (by decide), e 19 (by decide) (by decide), e 20 (by decide) (by decide), e 21 (by decide) (by decide), e 22 (by decide) (by decide), e 23 (by decide) (by decide), e 24 (by decide) (by decide), e 26 (by decide) (by decide), e 27 (by decide) (by decide), e 28 (by decide) (by decide)]
  rw [t2, t3, t4, t5, t6, t7, t8, t9]
  rw [s 15 (by decide) (by decide) (by decide) (by decide) (by decide) (by decide), s 16 (by decide) (by decide) (by decide) (by decide) (by decide) (by decide), s 17 (by decide) (by decide) (by decide) (by decide) (by decide) (by decide), s 18 (by decide) (by decide) (by decide) (by decide) (by decide) (by decide), s 19 (by decide) (by decide) (by decide) (by decide) (by decide) (by decide), s 20 (by decide) (by decide) (by decide) (by decide) (by decide) (by decide), s 21 (by decide) (by decide) (by decide) (by decide) (by decide) (by decide), s 22 (by decide) (by decide) (by decide) (by decide) (by decide) (by decide), s 23 (by decide) (by decide) (by decide) (by decide) (by decide) (by decide), s 24 (by decide) (by decide) (by decide) (by decide) (by decide) (by decide), s 26 (by decide) (by decide) (by decide) (by decide) (by decide) (by decide), s 27 (by decide) (by decide) (by decide) (by decide) (by decide) (by decide), s 28 (by decide) (by decide) (by decide) (by decide) (by decide) (by decide)]
  rw [s 63 (by decide) (by decide) (by decide) (by decide) (by decide) (by decide), s 64 (by decide) (by decide) (by decide) (by decide) (by decide) (by decide), s 65 (by decide) (by decide) (by decide) (by decide) (by decide) (by decide), s 66 (by decide) (by decide) (by decide) (by decide) (by decide) (by decide), s 67 (by decide) (by decide) (by decide) (by decide) (by decide) (by decide), s 68 (by decide) (by decide) (by decide) (by decide) (by decide) (by decide), s 69 (by decide) (by decide) (by decide) (by decide) (by decide) (by decide), s 70 (by decide) (by decide) (by decide) (by decide) (by decide) (by decide), s 71 (by decide) (by decide) (by decide) (by decide) (by decide) (by decide), s 72 (by decide) (by decide) (by decide) (by decide) (by decide) (by decide), s 73 (by decide) (by decide) (by decide) (by decide) (by decide) (by decide), s 74 (by decide) (by decide) (by decide) (by decide) (by decide) (by decide), s 75 (by decide) (by decide) (by decide) (by decide) (by decide) (by decide)]
  refine ⟨⟨a1, rfl, rfl, a4, fun i hi => ?_, a6, a7⟩, ⟨m1, rfl, m3, fun i hi => ?_, m5, m6⟩, ⟨k1, Nat.or_lt_two_pow (n := 9) k2 hP, by omega, k4, fun i hi => ?_, k6, k7, k8, fun i hi h2 hp hl hd => ?_⟩, fun i hb => ?_, d2, begun, d4, d5, d6, d7⟩
  · obtain ⟨z1, z2, z3, z4, z5, z6, z7, z8, z9, z10⟩ := a5 i hi
    exact ⟨z1, z2, z3, z4, z5, z6, z7, z8, u1 i hi, z10⟩
  · obtain ⟨z1, z2, z3, z4, z5, z6, z7, z8, z9, z10, z11⟩ := m4 i hi
    exact ⟨z1, z2, z3, z4, z5, z6, z7, z8, u2 i hi, u3 i hi, z11⟩
  · obtain ⟨z1, z2, z3, z4, z5, z6, ⟨z7, z8⟩, z9⟩ := k5 i hi
    exact ⟨z1, z2, z3, z4, z5, z6, ⟨z7, by omega⟩, z9⟩
  · rw [Nat.testBit_or, Bool.or_eq_true]
    by_cases g : (D 14 16).testBit i = true
    · exact Or.inl g
    · right
      have w5 : D 15 i < 5 := by omega
      by_cases c : D 17 i < D 14 17
      · by_cases cs : mj_b set i = true
        · obtain ⟨-, -, -, -, z, -⟩ := b2 i hi cs
          omega
        · rw [if_neg cs] at hp hl
          exact absurd (k9 i hi h2 (by omega) (by omega) c) g
      · have as := (begun i hi w5 hl).2
        refine (b1 i).mpr ⟨hi, w5, hev i hi, ?_, as, ?_, ?_⟩
        · unfold mk_yw
          rw [if_neg g]
          have := (k5 i hi).2.2.2.2.2.2.1
          omega
        · unfold mk_yw
          rw [if_neg g]
          omega
        · left; omega
  · rw [Nat.testBit_or, Bool.or_eq_true] at hb
    rcases hb with z | z
    · exact d1 i z
    · exact ⟨((b1 i).mp z).1, ((b1 i).mp z).2.1⟩
theorem mk_cnS_Scr {N : Nat} (h : mj_Scr σ R) : mj_Scr (mj_cnS σ N) R := by
  obtain ⟨p1, p2, p3, p4⟩ := h
  refine ⟨mj_cnS_Pw p1, ?_, p3, p4⟩
  rw [mj_cnS_o (c := 87) (by decide) (by decide)]
  exact p2
theorem cl_work {set : Int32} (h : mk_Inv σ D R B) : mk_Cl X σ R B 141 239 [.int set] := by
  have hDl := h.1
  obtain ⟨hD, hM, hk, -⟩ := id h.1
  have N9 := hk.1
  have qc := fun d => sp_work (X := X) (d := d) (σ := σ) (N := D 14 14) (w := D 14 17) (set := set) hD.1 N9 hD.2.2.1 hk.2.2.1 (mk_fork h)
  rw [show σ.1 14 18 = nI (D 14 18) from hD.2.2.2.1, show σ.1 14 16 = nI (D 14 16) from hD.2.1] at qc
  by_cases c : D 14 17 < 12 ∧ mj_why σ 25 set (nI (D 14 17)) (nI (D 14 18)) (nI (D 14 16)) (D 14 14) = 0
  · have hr := mk_HR_now hDl hM
    have hs : set &&& (mj_Gset (mj_cnS σ (D 14 14)) (nI (D 14 17)) (nI (D 14 18)) (mj_evC σ) (mj_lvn σ) (D 14 14) ^^^ -1) = 0 := by
      have := (mk_wok_eq hDl hM c.1).mpr c.2
      unfold mj_wok at this
      rw [Bool.and_eq_true, decide_eq_true_eq, mk_evy_C hD hM] at this
      exact this.1
    obtain ⟨P, P1, P2, P3, P4, P5, P6, P7⟩ := mk_pass_eq hr c.1 hk.2.2.2.1 hs
    rw [P2] at qc
    have qc' := qc
    rw [if_pos c] at qc'
    generalize hρ : mj_Cwst σ set (nI P) (D 14 14) (D 14 17) = ρ at qc'
    have r1 : ∀ c, c ≠ 14 → c ≠ 25 → ρ.1 c = σ.1 c := fun c x y => by
      rw [← hρ]
      unfold mj_Cwst
      rw [mj_setI_ne _ _ _ x, mj_setI_ne _ _ _ x, mj_psS_o y]
    have r14 : ∀ i, ρ.1 14 i = if i = 17 then nI (D 14 17 + 1) else if i = 16 then nI (D 14 16 ||| P) else σ.1 14 i := fun i => by
      rw [← hρ]
      unfold mj_Cwst
      rw [mj_rI, mj_rI, mj_psS_o (by decide), hD.2.1, mj_nI_or (by have := hk.2.1; omega) (by omega)]
      by_cases z : i = 17
      · rw [if_pos ⟨rfl, z⟩, if_pos z]
      · rw [if_neg (fun q => z q.2), if_neg z]
        by_cases z2 : i = 16
        · rw [if_pos ⟨rfl, z2⟩, if_pos z2]
        · rw [if_neg (fun q => z2 q.2), if_neg z2]
    have r25 : ∀ i, i < D 14 14 → ρ.1 25 i = nI (D 25 i - if mj_b set i = true then 1 else 0) := fun i hi => by
      rw [← P6 i hi, ← hρ]
      unfold mj_Cwst
      rw [mj_setI_ne _ _ _ (by decide), mj_setI_ne _ _ _ (by decide)]
      show (if 25 = 25 ∧ i < D 14 14 then _ else _) = _
      rw [if_pos ⟨rfl, hi⟩]
    have r2 : ρ.2 = σ.2 := by rw [← hρ]; rfl
    have hMρ : mk_isM ρ D := mk_isM_o (fun c x y => r1 c (by omega) (by omega)) (by rw [r1 61 (by decide) (by decide)]) (by rw [r1 61 (by decide) (by decide)]) (by rw [r1 61 (by decide) (by decide)]) hM
    have mst : mj_Mst ρ (D 14 14) R (D 14 17) (D 14 18) := mk_Mst_o (fun c hc => r1 c (by omega) (by omega)) (mk_Dl_Mst hDl h.2.2.2.2.1)
    have hok := (mk_wok_eq hDl hMρ c.1).mpr c.2
    have lo : mj_wlo ρ (D 14 14) (D 14 17) (D 14 18) set = nI P := by
      have hsρ : set &&& (mj_Gset (mj_cnS ρ (D 14 14)) (nI (D 14 17)) (nI (D 14 18)) (mj_evC σ) (mj_lvn ρ) (D 14 14) ^^^ -1) = 0 := by
        have := hok
        unfold mj_wok at this
        rw [Bool.and_eq_true, decide_eq_true_eq, mk_evy_C hD hMρ] at this
        exact this.1
      obtain ⟨P', Q1, Q2, Q3, -⟩ := mk_pass_eq (mk_HR_now hDl hMρ) c.1 hk.2.2.2.1 hsρ
      unfold mj_wlo
      rw [mk_evy_C hD hMρ, Q3, ← Q2, P2]
    have w1 : ∀ c, c ≠ 61 → c ≠ 76 → c ≠ 77 → c ≠ 85 → (mj_wst ρ (D 14 14) (D 14 17) (D 14 18) set).1 c = ρ.1 c := fun c x1 x2 x3 x4 => by
      unfold mj_wst
      rw [mj_setI_ne _ _ _ x1, mj_wkS_o x2 x3, mj_setI_ne _ _ _ x1, mj_cnS_o x4 x1]
    have w61 : ∀ i, i ≠ 1 → i ≠ 46 → i ≠ 47 → (mj_wst ρ (D 14 14) (D 14 17) (D 14 18) set).1 61 i = ρ.1 61 i := fun i x1 x2 x3 => by
      unfold mj_wst
      rw [mj_setI_i x1, mj_wkS_o (by decide) (by decide), mj_setI_i x3]
      unfold mj_cnS
      rw [mj_setI_i x2, mj_figS_o (by decide)]
    have w611 : (mj_wst ρ (D 14 14) (D 14 17) (D 14 18) set).1 61 1 = nI (D 14 17 + 1) := by
      unfold mj_wst
      exact mj_setI_eq
    have w76 : ∀ i, i < D 14 14 → (mj_wst ρ (D 14 14) (D 14 17) (D 14 18) set).1 76 i = nI (D 25 i - if mj_b set i = true then 1 else 0) := fun i hi => by
      unfold mj_wst
      rw [mj_setI_ne _ _ _ (by decide), mj_wkS_76, mj_setI_ne _ _ _ (by decide), mj_cnS_o (by decide) (by decide), ← P6 i hi, r1 76 (by decide) (by decide), (hM.2.2.2.1 i hi).2.2.2.2.2.2.2.2.1, (hD.2.2.2.2.1 i hi).2.2.2.2.2.2.2.2.1]
      cases mj_b set i
      · rw [if_neg (fun z => absurd z.2 (by decide))]
        show _ = nI (D 25 i) - 0
        rw [Int32.sub_zero]
      · rw [if_pos ⟨hi, rfl⟩]; rfl
    have w77 : ∀ i, i < D 14 14 → (mj_wst ρ (D 14 14) (D 14 17) (D 14 18) set).1 77 i = nI (if (D 14 16 ||| P).testBit i = true then 1 else 0) := fun i hi => by
      unfold mj_wst
      rw [mj_setI_ne _ _ _ (by decide), mj_wkS_77, lo, mj_b_nI (by omega), mj_setI_ne _ _ _ (by decide), mj_cnS_o (by decide) (by decide), r1 77 (by decide) (by decide), (hM.2.2.2.1 i hi).2.2.2.2.2.2.2.2.2.1, Nat.testBit_or]
      cases P.testBit i
      · rw [if_neg (fun z => absurd z.2 (by decide)), Bool.or_false]
      · rw [if_pos ⟨hi, rfl⟩, Bool.or_true]; rfl
    have n12 : ¬ D 14 17 = 12 := by have := c.1; omega
    refine ⟨nI P, ρ, mj_wst ρ (D 14 14) (D 14 17) (D 14 18) set, mk_wD D set P, mk_Inv_R (mk_Inv_deal2 h (fun c' hc => ?_) (fun i hi => ?_) ?_ (mk_wD_Dl hDl c.1 P1 P4 P5 ?_ ?_ ?_ ?_ ?_ ?_ ?_ w611 ?_ ?_ w76 w77) rfl (mj_Mst_work mst c.1 hok).2.1) (Nat.le_add_right _ _), mk_d (k := 6) (by decide) qc', mk_d (k := 5) (by decide) (fun d => ?_)⟩
    · rw [w1 c' (by omega) (by omega) (by omega) (by omega), r1 c' (by omega) (by omega)]
    · rw [w61 i (by omega) (by omega) (by omega), r1 61 (by decide) (by decide)]
    · exact r2
    · intro c' x1 x2 x3 x4 x5 x6
      rw [w1 c' x3 x4 x5 (by omega), r1 c' x2 x1]
    · rw [w1 14 (by decide) (by decide) (by decide) (by decide), r14 14]; rfl
    · rw [w1 14 (by decide) (by decide) (by decide) (by decide), r14 15]; rfl
    · rw [w1 14 (by decide) (by decide) (by decide) (by decide), r14 18]; rfl
    · rw [w1 14 (by decide) (by decide) (by decide) (by decide), r14 16]; rfl
    · rw [w1 14 (by decide) (by decide) (by decide) (by decide), r14 17]; rfl
    · rw [w61 0 (by decide) (by decide) (by decide), r1 61 (by decide) (by decide)]
    · rw [w61 2 (by decide) (by decide) (by decide), r1 61 (by decide) (by decide)]
    · intro i hi
      rw [w1 25 (by decide) (by decide) (by decide) (by decide)]
      exact r25 i hi
    · have q := sp_M_work (X := X) (d := d) (set := set) mst
      rw [if_neg n12, if_pos hok, lo] at q
      exact q
  · have mst := mk_Mst_o (τ := mj_rfC σ (-6)) (fun c hc => mk_rfC_o (by omega)) (mk_Dl_Mst hDl h.2.2.2.2.1)
    have hMρ : mk_isM (mj_rfC σ (-6)) D := mk_isM_o (fun c x y => mk_rfC_o (by omega)) (by rw [mk_rfC_o (by decide)]) (by rw [mk_rfC_o (by decide)]) (by rw [mk_rfC_o (by decide)]) hM
    have qm := fun d => sp_M_work (X := X) (d := d) (set := set) mst
    by_cases n12 : D 14 17 = 12
    · refine mk_Cl_no (v := -6) (w := -6) h (kc := 6) (km := 5) (by decide) (by decide) (fun d => ?_) (fun d => ?_)
      · have q := qc d
        rw [if_neg c] at q
        exact q
      · have q := qm d
        rw [if_pos n12] at q
        exact q
    · have lt : D 14 17 < 12 := by have := hk.2.2.1; omega
      have nok : ¬ mj_wok (mj_rfC σ (-6)) (D 14 14) (D 14 17) (D 14 18) set = true := fun z => c ⟨lt, (mk_wok_eq hDl hMρ lt).mp z⟩
      refine ⟨-6, mj_rfC σ (-6), mj_rfM (mj_cnS (mj_rfC σ (-6)) (D 14 14)) (-6), D, mk_Inv_R (mk_Inv_no h mj_cnS_Fq (mk_cnS_Scr (mk_Scr_rfC h.2.2.2.2.1))) (Nat.le_add_right _ _), mk_d (k := 6) (by decide) (fun d => ?_), mk_d (k := 5) (by decide) (fun d => ?_)⟩
      · have q := qc d
        rw [if_neg c] at q
        exact q
      · have q := qm d
        rw [if_neg n12, if_neg nok] at q
        exact q
end
