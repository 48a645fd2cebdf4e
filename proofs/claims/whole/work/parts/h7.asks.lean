section
variable {X : mj_X} {d : Nat} {σ τ ρ : mj_St} {D : Nat → Nat → Nat} {R R' B : Nat}
theorem mk_Rl_fsp {set : Int32} {gr o hh : Nat} (F : mk_Rl σ ρ) (h : mk_Inv σ D R B) (hgr : gr = 1 ∨ gr = 8) (ho : o < 8) (hw : D 14 17 ≤ hh) (h11 : hh ≤ 11) : mj_fsp ρ set gr (nI o) (D 14 14) (D 14 17) hh = mj_fsp σ set gr (nI o) (D 14 14) (D 14 17) hh := by
  obtain ⟨hD, hM, hk, hb, hc, he⟩ := mk_Rl_Bo mk_Rl_0 h
  obtain ⟨hD', hM', hk', hb', hc', he'⟩ := mk_Rl_Bo F h
  obtain ⟨f1, f2⟩ := mj_fsp_D (set := set) (gr := gr) (o := o) hD hk hb hc he hgr ho hw h11
  obtain ⟨g1, g2⟩ := mj_fsp_D (set := set) (gr := gr) (o := o) hD' hk hb hc' he' hgr ho hw h11
  rw [mk_Rl_ring F, mk_Rl_sgr F] at g1 g2
  by_cases z : mj_nl D (mj_b set) ∧ mj_DW D (mj_b set) (mj_b (mj_ring σ (D 14 14))) gr o mj_Qno (12 - D 14 17) (mj_sgr σ (D 14 14) gr).toNatClampNeg (D 25)
  · obtain ⟨v, v1, v2, v3⟩ := f1 z
    obtain ⟨u, u1, u2, u3⟩ := g1 z
    rw [u2, v2, mk_pth_u _ _ _ _ _ v3 u3]
  · exact (g2 z).trans (f2 z).symm
theorem mk_Rl_csp {set : Int32} {gr o : Nat} (F : mk_Rl σ ρ) (h : mk_Inv σ D R B) (hgr : gr = 1 ∨ gr = 8) (ho : o < 8) (hw : D 14 17 < 12) : mj_csp ρ set gr (nI o) (D 14 14) (D 14 17) = mj_csp σ set gr (nI o) (D 14 14) (D 14 17) := by
  obtain ⟨hD, hM, hk, hb, hc, he⟩ := mk_Rl_Bo mk_Rl_0 h
  obtain ⟨hD', hM', hk', hb', hc', he'⟩ := mk_Rl_Bo F h
  obtain ⟨f1, f2⟩ := mj_csp_D (set := set) (gr := gr) (o := o) hD hk hb hc he hgr ho hw
  obtain ⟨g1, g2⟩ := mj_csp_D (set := set) (gr := gr) (o := o) hD' hk hb hc' he' hgr ho hw
  rw [mk_Rl_ring F, mk_Rl_sgr F] at g1 g2
  by_cases z : mj_nl D (mj_b set) ∧ mj_DW D (mj_b set) (mj_b (mj_ring σ (D 14 14))) gr o mj_Qno (12 - D 14 17) (mj_sgr σ (D 14 14) gr).toNatClampNeg (D 25)
  · exact mk_mst_u (g1 z).1 (f1 z).1
  · exact (g2 z).trans (f2 z).symm
theorem cl_hour {o x : Int32} (hX : mj_XS X) (hR : R + 512 < 2147483648) (h : mk_Inv σ D R B) : mk_Cl X σ R B 95 212 [.int o, .int x] := by
  have hB := mk_Rl_Bo mk_Rl_0 h
  have w12 := h.1.2.2.1.2.2.1
  by_cases c : mj_inb o 8 = true ∧ ¬ x < nI (D 14 17) ∧ ¬ 11 < x
  · obtain ⟨o', o1, o2⟩ := mj_nI_of c.1 (by decide)
    have x0 : ¬ x < 0 := fun z => c.2.1 (by
      have a := Int32.lt_iff_toInt_lt.mp z
      have e0 : (0 : Int32).toInt = 0 := by decide
      rw [Int32.lt_iff_toInt_lt, nI_toInt (by omega)]
      omega)
    obtain ⟨hh, x1, x2⟩ := mj_nI_of (mj_inb_of (k := 12) (hi := 11) x0 c.2.2 (by decide)) (by decide)
    subst o2
    subst x2
    have wh : D 14 17 ≤ hh := Nat.le_of_not_lt (fun z => c.2.1 (nI_lt z (by omega)))
    obtain ⟨ρ, F, q⟩ := sp_hourC (X := X) hX hB.2.2.2.2.1 hB.2.2.2.2.2 o1 wh (show hh ≤ 11 by omega)
    have ref : ∀ τ, mk_Rl σ τ → ∃ ρ ρ', mj_Fq τ ρ ∧ mj_Scr ρ (R + 1) ∧ mj_Fq τ ρ' ∧ mj_Scr ρ' (R + 1) ∧ ∀ d, mj_ev X (d + 29) 212 [.ref 61, .int (nI o'), .int (nI hh)] τ = some (if mj_Mkept τ (nI o') (mj_evy τ) (D 14 14) (D 14 17) = true then (some (.int (mj_fsp σ (mj_evC σ) 1 (nI o') (D 14 14) (D 14 17) hh)), ρ') else (some (.int (-5)), mj_rfM ρ (-5))) := fun τ G => by
      obtain ⟨ρ1, ρ2, g1, g2, g3, g4, e⟩ := sp_M_hour (X := X) (o := nI o') (x := nI hh) (mk_Rl_Mst G h) (by omega)
      refine ⟨ρ1, ρ2, g1, g2, g3, g4, fun d => ?_⟩
      have z := e d
      rw [if_pos c, nI_clamp (by omega)] at z
      rw [z]
      by_cases k : mj_Mkept τ (nI o') (mj_evy τ) (D 14 14) (D 14 17) = true
      · rw [if_pos k, if_pos k, ← ((mk_hour_eq (mk_Rl_Bo G h) o1 wh (by omega)).1 k).1, mk_Rl_ev G, mk_Rl_fsp G h (Or.inl rfl) o1 wh (by omega)]
      · rw [if_neg k, if_neg k]
    have hE := mk_hour_eq hB o1 wh (by omega)
    have kE : ∀ τ, mk_Rl σ τ → mj_Mkept τ (nI o') (mj_evy τ) (D 14 14) (D 14 17) = mj_Mkept σ (nI o') (mj_evy σ) (D 14 14) (D 14 17) := fun τ G => by
      rw [mk_Rl_Mk G h o1, mk_Rl_evy G h, mk_Rl_Mk mk_Rl_0 h o1, mk_Rl_evy mk_Rl_0 h]
    by_cases k : mj_Mkept σ (nI o') (mj_evy σ) (D 14 14) (D 14 17) = true
    · obtain ⟨-, k2⟩ := hE.1 k
      obtain ⟨ρ1, ρ2, g1, g2, g3, g4, e⟩ := ref ρ (mk_Rl_Fs F)
      refine mk_Cl_fs (v := mj_fsp σ (mj_evC σ) 1 (nI o') (D 14 14) (D 14 17) hh) h F (kc := 42) (km := 29) (by decide) (by decide) (fun d => ?_) ⟨ρ2, R + 1, by omega, g3, g4, fun d => ?_⟩
      · have z := q d
        rw [mj_rfv_n k2] at z
        exact z
      · have z := e d
        rw [if_pos (by rw [kE ρ (mk_Rl_Fs F)]; exact k)] at z
        exact z
    · have k2 := hE.2 (Bool.eq_false_iff.mpr k)
      obtain ⟨ρ1, ρ2, g1, g2, g3, g4, e⟩ := ref (mj_rfC ρ (-5)) (mk_Rl_rf (mk_Rl_Fs F))
      refine mk_Cl_fn (v := -5) (w := -5) h F (kc := 42) (km := 29) (by decide) (by decide) (fun d => ?_) ⟨ρ1, R + 1, by omega, g1, g2, fun d => ?_⟩
      · have z := q d
        rw [mj_rfv_m k2] at z
        exact z
      · have z := e d
        rw [if_neg (by rw [kE _ (mk_Rl_rf (mk_Rl_Fs F))]; exact k)] at z
        exact z
  · have hn : mj_inb o 8 = false ∨ x < nI (D 14 17) ∨ ¬ x < 12 := by
      by_cases c1 : mj_inb o 8 = true
      · by_cases c2 : x < nI (D 14 17)
        · exact Or.inr (Or.inl c2)
        · right; right
          intro z
          have g : (11 < x) = ¬ (x < 12) := mj_gt_of (n := 11) (by decide) (by decide)
          exact c ⟨c1, c2, fun y => (g ▸ y : ¬ x < 12) z⟩
      · exact Or.inl (mk_f8 c1)
    obtain ⟨ρ1, ρ2, -, -, -, -, e⟩ := sp_M_hour (X := X) (o := o) (x := x) (mk_Rl_Mst (mk_Rl_rf (w := -5) mk_Rl_0) h) (by omega)
    refine mk_Cl_no (v := -5) (w := -5) h (kc := 2) (km := 29) (by decide) (by decide) (fun d => sp_hourN h.1.1.2.2.1 hn) (fun d => ?_)
    have z := e d
    rw [if_neg c] at z
    exact z
theorem cl_must {o : Int32} (hX : mj_XS X) (hR : R + 512 < 2147483648) (h : mk_Inv σ D R B) : mk_Cl X σ R B 117 228 [.int o] := by
  have hB := mk_Rl_Bo mk_Rl_0 h
  have w12 := h.1.2.2.1.2.2.1
  by_cases c : mj_inb o 8 = true ∧ ¬ D 14 17 = 12
  · obtain ⟨o', o1, o2⟩ := mj_nI_of c.1 (by decide)
    subst o2
    have lt : D 14 17 < 12 := by have := c.2; omega
    obtain ⟨ρ, F, q⟩ := sp_mustC (X := X) hX hB.2.2.2.2.1 hB.2.2.2.2.2 o1 (show D 14 17 ≤ 11 by omega)
    have ref : ∀ τ, mk_Rl σ τ → ∃ ρ ρ', mj_Fq τ ρ ∧ mj_Scr ρ (R + 1) ∧ mj_Fq τ ρ' ∧ mj_Scr ρ' (R + 1) ∧ ∀ d, mj_ev X (d + 29) 228 [.ref 61, .int (nI o')] τ = some (if mj_Mkept τ (nI o') (mj_evy τ) (D 14 14) (D 14 17) = true then (some (.int (mj_csp σ (mj_evC σ) 1 (nI o') (D 14 14) (D 14 17))), ρ') else (some (.int (-5)), mj_rfM ρ (-5))) := fun τ G => by
      obtain ⟨ρ1, ρ2, g1, g2, g3, g4, e⟩ := sp_M_must (X := X) (o := nI o') (mk_Rl_Mst G h) (by omega)
      refine ⟨ρ1, ρ2, g1, g2, g3, g4, fun d => ?_⟩
      have z := e d
      rw [if_pos c] at z
      rw [z]
      by_cases k : mj_Mkept τ (nI o') (mj_evy τ) (D 14 14) (D 14 17) = true
      · rw [if_pos k, if_pos k, ← ((mk_must_eq (mk_Rl_Bo G h) o1 lt).1 k).1, mk_Rl_ev G, mk_Rl_csp G h (Or.inl rfl) o1 lt]
      · rw [if_neg k, if_neg k]
    have hE := mk_must_eq hB o1 lt
    have kE : ∀ τ, mk_Rl σ τ → mj_Mkept τ (nI o') (mj_evy τ) (D 14 14) (D 14 17) = mj_Mkept σ (nI o') (mj_evy σ) (D 14 14) (D 14 17) := fun τ G => by
      rw [mk_Rl_Mk G h o1, mk_Rl_evy G h, mk_Rl_Mk mk_Rl_0 h o1, mk_Rl_evy mk_Rl_0 h]
    by_cases k : mj_Mkept σ (nI o') (mj_evy σ) (D 14 14) (D 14 17) = true
    · obtain ⟨-, k2⟩ := hE.1 k
      obtain ⟨ρ1, ρ2, g1, g2, g3, g4, e⟩ := ref ρ (mk_Rl_Fs F)
      refine mk_Cl_fs (v := mj_csp σ (mj_evC σ) 1 (nI o') (D 14 14) (D 14 17)) h F (kc := 42) (km := 29) (by decide) (by decide) (fun d => ?_) ⟨ρ2, R + 1, by omega, g3, g4, fun d => ?_⟩
      · have z := q d
        rw [mj_rfv_n k2] at z
        exact z
      · have z := e d
        rw [if_pos (by rw [kE ρ (mk_Rl_Fs F)]; exact k)] at z
        exact z
    · have k2 := hE.2 (Bool.eq_false_iff.mpr k)
      obtain ⟨ρ1, ρ2, g1, g2, g3, g4, e⟩ := ref (mj_rfC ρ (-5)) (mk_Rl_rf (mk_Rl_Fs F))
      refine mk_Cl_fn (v := -5) (w := -5) h F (kc := 42) (km := 29) (by decide) (by decide) (fun d => ?_) ⟨ρ1, R + 1, by omega, g1, g2, fun d => ?_⟩
      · have z := q d
        rw [mj_rfv_m k2] at z
        exact z
      · have z := e d
        rw [if_neg (by rw [kE _ (mk_Rl_rf (mk_Rl_Fs F))]; exact k)] at z
        exact z
  · have hn : mj_inb o 8 = false ∨ D 14 17 = 12 := by
      by_cases c1 : mj_inb o 8 = true
      · by_cases c2 : D 14 17 = 12
        · exact Or.inr c2
        · exact absurd ⟨c1, c2⟩ c
      · exact Or.inl (mk_f8 c1)
    obtain ⟨ρ1, ρ2, -, -, -, -, e⟩ := sp_M_must (X := X) (o := o) (mk_Rl_Mst (mk_Rl_rf (w := -5) mk_Rl_0) h) (by omega)
    refine mk_Cl_no (v := -5) (w := -5) h (kc := 2) (km := 29) (by decide) (by decide) (fun d => sp_mustN h.1.1.2.2.1 hn) (fun d => ?_)
    have z := e d
    rw [if_neg c] at z
    exact z
theorem sp_beginN (hw : σ.1 14 17 = nI 12) : mj_ev X (d + 43) 101 [.ref 0] σ = some (some (.int (-5)), mj_rfC σ (-5)) := by
  have h3 : mj_ev X (d + 42) 3 [.ref 0, .int (-5)] σ = _ := sp_rf5 (d := d + 41)
  have hr : (mj_rfC σ (-5)).2.2.2.2 = σ.2.2.2.2 := rfl
  have q : ¬ nI 12 < 12 := by decide
  refine st101 ?_
  simp only [u101_0, u101_1, u101_4, u101_7, u101_9, u101_12, u101_13, u101_16, u101_19, u101_20, u101_22, u101_25, u101_26, u101_27, u101_30, u101_31, u101_34, u101_37, u101_40, u101_41, u101_42, u101_43, u101_46, u101_47, u101_49, u101_52, u101_55, u101_56, hw, q, h3, hr, mj_cc_v, mj_cc_n, List.all_cons, List.all_nil, mj_noMk_int, mj_noMk_long, mj_noMk_ref, mj_noMk_junk, List.length_nil, List.length_cons, Nat.zero_le, Nat.reduceLeDiff, Nat.reduceAdd, Bool.and_true, Bool.true_and, Bool.and_self, Nat.reduceBNe, true_or, or_true, true_and, and_true, mj_z0, mj_z1, mj_z01, decide_true, decide_false, Bool.true_and, Bool.false_and, Bool.and_true, Bool.and_false, Bool.true_or, Bool.false_or, Bool.or_false, Bool.or_true, Bool.not_true, Bool.not_false, Bool.and_self, Bool.or_self, if_true, if_false, Bool.true_eq_false, Bool.false_eq_true, not_true, not_false_eq_true]
theorem cl_begin (hX : mj_XS X) (hR : R + 512 < 2147483648) (h : mk_Inv σ D R B) : mk_Cl X σ R B 101 218 [] := by
  have hB := mk_Rl_Bo mk_Rl_0 h
  have w12 := h.1.2.2.1.2.2.1
  by_cases c : D 14 17 = 12
  · obtain ⟨ρ1, ρ2, -, -, -, -, e⟩ := sp_M_begin (X := X) (mk_Rl_Mst (mk_Rl_rf (w := -5) mk_Rl_0) h) (by omega)
    refine mk_Cl_no (v := -5) (w := -5) h (kc := 43) (km := 29) (by decide) (by decide) (fun d => sp_beginN (by rw [h.1.1.2.2.1, c])) (fun d => ?_)
    have z := e d
    rw [if_pos c] at z
    exact z
  · have lt : D 14 17 < 12 := by omega
    obtain ⟨ρ, F, q⟩ := sp_beginC (X := X) hX hB.2.2.2.2.1 hB.2.2.2.2.2 (mk_KH hB) (mk_BH hB) (mk_FH hB lt)
    unfold mj_bgv at q
    rw [if_neg c, mk_bav_eq hB] at q
    by_cases k : mk_b σ D = true
    · obtain ⟨-, k2⟩ := mk_begin_eq hB lt k
      obtain ⟨ρ1, ρ2, g1, g2, g3, g4, e⟩ := sp_M_begin (X := X) (mk_Rl_Mst (mk_Rl_Fs F) h) (by omega)
      have kρ : mk_b ρ D = true := by rw [mk_Rl_b (mk_Rl_Fs F)]; exact k
      refine mk_Cl_fs (v := mj_fsp σ (mj_evC σ) 8 0 (D 14 14) (D 14 17) (D 14 17)) h F (kc := 43) (km := 29) (by decide) (by decide) (fun d => ?_) ⟨ρ2, R + 1, by omega, g3, g4, fun d => ?_⟩
      · have z := q d
        rw [if_pos k, mj_rfv_n k2] at z
        exact z
      · have z := e d
        have fs : mj_fsp ρ (mj_evC σ) 8 0 (D 14 14) (D 14 17) (D 14 17) = mj_fsp σ (mj_evC σ) 8 0 (D 14 14) (D 14 17) (D 14 17) := mk_Rl_fsp (o := 0) (mk_Rl_Fs F) h (Or.inr rfl) (by decide) (Nat.le_refl _) (by omega)
        rw [if_neg c, mk_Mall_eq (mk_Rl_Bo (mk_Rl_Fs F) h), if_pos kρ, ← (mk_begin_eq (mk_Rl_Bo (mk_Rl_Fs F) h) lt kρ).1, mk_Rl_ev (mk_Rl_Fs F), fs] at z
        exact z
    · obtain ⟨ρ1, ρ2, g1, g2, g3, g4, e⟩ := sp_M_begin (X := X) (mk_Rl_Mst (mk_Rl_rf (w := -5) (mk_Rl_Fs F)) h) (by omega)
      refine mk_Cl_fn (v := -5) (w := -5) h F (kc := 43) (km := 29) (by decide) (by decide) (fun d => ?_) ⟨ρ1, R + 1, by omega, g1, g2, fun d => ?_⟩
      · have z := q d
        rw [if_neg k, mj_rfv_m rfl] at z
        exact z
      · have z := e d
        rw [if_neg c, mk_Mall_eq (mk_Rl_Bo (mk_Rl_rf (w := -5) (mk_Rl_Fs F)) h), mk_Rl_b (mk_Rl_rf (w := -5) (mk_Rl_Fs F)), if_neg k] at z
        exact z
theorem cl_ends {i o : Int32} (hX : mj_XS X) (hR : R + 512 < 2147483648) (h : mk_Inv σ D R B) : mk_Cl X σ R B 114 226 [.int i, .int o] := by
  have hB := mk_Rl_Bo mk_Rl_0 h
  have w12 := h.1.2.2.1.2.2.1
  have cnd : ∀ τ, mk_Rl σ τ → ((mj_lt0 i (τ.1 61 0) && decide (τ.1 65 i.toNatClampNeg < 5)) = true ∧ mj_inb o 8 = true ∧ ¬ τ.1 76 i.toNatClampNeg < τ.1 74 i.toNatClampNeg ↔ mj_wkC σ i = true ∧ mj_inb o 8 = true ∧ σ.1 25 i.toNatClampNeg = σ.1 24 i.toNatClampNeg) := fun τ G => by
    have e : (mj_lt0 i (τ.1 61 0) && decide (τ.1 65 i.toNatClampNeg < 5)) = mj_wkC σ i := congrFun (mk_Rl_wkM G h) i
    rw [e]
    constructor
    · rintro ⟨c1, c2, c3⟩
      obtain ⟨n, n1, n2, n3, n4⟩ := mk_wkD h.1.1 h.1.2.2.1 c1
      refine ⟨c1, c2, ?_⟩
      obtain ⟨-, -, -, -, -, -, -, a24, a25, -⟩ := h.1.1.2.2.2.2.1 n n1
      obtain ⟨-, -, -, -, -, -, -, b74, b76, -⟩ := h.1.2.1.2.2.2.1 n n1
      have k := (h.1.2.2.1.2.2.2.2.1 n n1).2.2.2.2.2.2.1
      rw [n3, G.2.1 76 (by decide), G.2.1 74 (by decide), b74, b76, mk_nI_lt (by omega) (by omega)] at c3
      rw [n3, a24, a25, show D 25 n = D 24 n by omega]
    · rintro ⟨c1, c2, c3⟩
      obtain ⟨n, n1, n2, n3, n4⟩ := mk_wkD h.1.1 h.1.2.2.1 c1
      refine ⟨c1, c2, ?_⟩
      obtain ⟨-, -, -, -, -, -, -, a24, a25, -⟩ := h.1.1.2.2.2.2.1 n n1
      obtain ⟨-, -, -, -, -, -, -, b74, b76, -⟩ := h.1.2.1.2.2.2.1 n n1
      have k := (h.1.2.2.1.2.2.2.2.1 n n1).2.2.2.2.2.2.1
      rw [n3, a24, a25] at c3
      rw [n3, G.2.1 76 (by decide), G.2.1 74 (by decide), b74, b76, ← c3, mk_nI_lt (by omega) (by omega)]
      exact Nat.lt_irrefl _
  by_cases c : mj_wkC σ i = true ∧ mj_inb o 8 = true ∧ σ.1 25 i.toNatClampNeg = σ.1 24 i.toNatClampNeg
  · obtain ⟨n, n1, n2, n3, n4⟩ := mk_wkD h.1.1 h.1.2.2.1 c.1
    obtain ⟨o', o1, o2⟩ := mj_nI_of c.2.1 (by decide)
    subst o2
    subst n2
    rw [n3] at cnd
    have c3 : σ.1 25 n = σ.1 24 n := by have := c.2.2; rw [n3] at this; exact this
    obtain ⟨ρ, F, q⟩ := sp_endsC (X := X) hX hB.2.2.2.2.1 hB.2.2.2.2.2 (mk_CH hB) o1 n1 c.1 c3
    have ref : ∀ τ, mk_Rl σ τ → ∃ ρ ρ', mj_Fq τ ρ ∧ mj_Scr ρ (R + 1) ∧ mj_Fq τ ρ' ∧ mj_Scr ρ' (R + 1) ∧ ∀ d, mj_ev X (d + 29) 226 [.ref 61, .int (nI n), .int (nI o')] τ = some (if mj_env (mk_C σ D o' n) (D 14 17) = -1 then (some (.int (-5)), mj_rfM ρ (-5)) else (some (.int (mj_env (mk_C σ D o' n) (D 14 17))), ρ')) := fun τ G => by
      obtain ⟨ρ1, ρ2, g1, g2, g3, g4, e⟩ := sp_M_ends (X := X) (i := nI n) (o := nI o') (mk_Rl_Mst G h) (by omega)
      obtain ⟨k1, k2⟩ := mk_ends_eq (mk_Rl_Bo G h) o1 n1
      rw [mk_Rl_C G] at k1 k2
      by_cases k : mj_Mkept τ (nI o') (mj_evy τ) (D 14 14) (D 14 17) = true
      · obtain ⟨k3, k4⟩ := k2 k
        by_cases u : (mj_en (fun h => mj_Fi (mj_cnS τ (D 14 14)) (nI o') (mj_evy τ) (D 14 14) n h (12 - D 14 17) (mj_lvn τ)) (D 14 17) (12 - D 14 17) (-1, -1)).1 = -1
        · refine ⟨ρ2, ρ2, g3, g4, g3, g4, fun d => ?_⟩
          have z := e d
          rw [n3, if_pos ((cnd τ G).mpr ⟨c.1, c.2.1, c3⟩), if_pos k, if_pos u] at z
          rw [z, if_pos (k3 u)]
        · refine ⟨ρ1, ρ2, g1, g2, g3, g4, fun d => ?_⟩
          have z := e d
          rw [n3, if_pos ((cnd τ G).mpr ⟨c.1, c.2.1, c3⟩), if_pos k, if_neg u, ← (k4 u).1] at z
          rw [z, if_neg (k4 u).2]
      · refine ⟨ρ1, ρ2, g1, g2, g3, g4, fun d => ?_⟩
        have z := e d
        rw [n3, if_pos ((cnd τ G).mpr ⟨c.1, c.2.1, c3⟩), if_neg k] at z
        rw [z, if_pos (k1 (Bool.eq_false_iff.mpr k))]
    by_cases k : mj_env (mk_C σ D o' n) (D 14 17) = -1
    · obtain ⟨ρ1, ρ2, g1, g2, g3, g4, e⟩ := ref (mj_rfC ρ (-5)) (mk_Rl_rf (mk_Rl_Fs F))
      refine mk_Cl_fn (v := -5) (w := -5) h F (kc := 42) (km := 29) (by decide) (by decide) (fun d => ?_) ⟨ρ1, R + 1, by omega, g1, g2, fun d => ?_⟩
      · have z := q d
        rw [mj_rfv_m k] at z
        exact z
      · have z := e d
        rw [if_pos k] at z
        exact z
    · obtain ⟨ρ1, ρ2, g1, g2, g3, g4, e⟩ := ref ρ (mk_Rl_Fs F)
      refine mk_Cl_fs (v := mj_env (mk_C σ D o' n) (D 14 17)) h F (kc := 42) (km := 29) (by decide) (by decide) (fun d => ?_) ⟨ρ2, R + 1, by omega, g3, g4, fun d => ?_⟩
      · have z := q d
        rw [mj_rfv_n k] at z
        exact z
      · have z := e d
        rw [if_neg k] at z
        exact z
  · have hn : mj_wkC σ i = false ∨ mj_inb o 8 = false ∨ ¬ σ.1 25 i.toNatClampNeg = σ.1 24 i.toNatClampNeg := by
      by_cases c1 : mj_wkC σ i = true
      · by_cases c2 : mj_inb o 8 = true
        · exact Or.inr (Or.inr (fun z => c ⟨c1, c2, z⟩))
        · exact Or.inr (Or.inl (mk_f8 c2))
      · exact Or.inl (Bool.eq_false_iff.mpr c1)
    obtain ⟨ρ1, ρ2, -, -, -, -, e⟩ := sp_M_ends (X := X) (i := i) (o := o) (mk_Rl_Mst (mk_Rl_rf (w := -5) mk_Rl_0) h) (by omega)
    refine mk_Cl_no (v := -5) (w := -5) h (kc := 3) (km := 29) (by decide) (by decide) (fun d => sp_endsN hB.2.2.2.2.1 hn) (fun d => ?_)
    have z := e d
    rw [if_neg (fun y => c ((cnd _ (mk_Rl_rf (w := -5) mk_Rl_0)).mp y))] at z
    exact z
end
