section
variable {σ τ π : mj_St} {D : Nat → Nat → Nat}
theorem mj_asD_eq {i g g' : Nat} (h : ∀ f, D 20 i = f + 1 → g'.testBit f = g.testBit f) : mj_asD D i g' = mj_asD D i g := by
  unfold mj_asD
  by_cases c : D 20 i = 0
  · rw [decide_eq_true c, Bool.true_or, Bool.true_or]
  · congr 1
    have h2 := h (D 20 i - 1) (by omega)
    rw [Nat.testBit_eq_decide_div_mod_eq, Nat.testBit_eq_decide_div_mod_eq] at h2
    have a := Nat.mod_lt (g' / 2 ^ (D 20 i - 1)) (show 0 < 2 by decide)
    have b := Nat.mod_lt (g / 2 ^ (D 20 i - 1)) (show 0 < 2 by decide)
    have e : g' / 2 ^ (D 20 i - 1) % 2 = g / 2 ^ (D 20 i - 1) % 2 := by
      have h3 := decide_eq_decide.mp h2
      omega
    rw [e]
theorem mj_ka_ma {gr o g h i : Nat} (hk : mj_kaV D gr o g h i = true) : mj_maV D gr o g h i = true := by
  unfold mj_kaV at hk
  unfold mj_maV
  rw [Bool.and_eq_true] at hk
  by_cases c : gr = 1
  · rw [if_pos c]
    rw [if_pos c] at hk
    exact hk.2
  · rw [if_neg c]
    rw [if_neg c] at hk
    rw [hk.2, Bool.or_true]
/-- who is out of the question at first stays so -/
theorem mj_ma_keep {gr o g sg w h i : Nat} (hk : mj_okD D) (hi : i < D 14 14) (hw : w ≤ h) (hg : ∀ f, f < 3 → D 28 f ≤ w → g.testBit f = sg.testBit f) (hm : mj_maV D gr o sg w i = false) : mj_maV D gr o g h i = false := by
  have k20 := (hk.2.2.2.2.1 i hi).2.2.2.2.1
  unfold mj_maV at hm ⊢
  by_cases c : gr = 1
  · rw [if_pos c] at hm ⊢; exact hm
  · rw [if_neg c] at hm ⊢
    rw [Bool.or_eq_false_iff, Bool.not_eq_false'] at hm
    have e : mj_asD D i g = mj_asD D i sg := mj_asD_eq (fun f hf => by
      refine hg f (by omega) ?_
      have := hm.1
      unfold mj_knD at this
      rw [hf, Nat.add_sub_cancel, Bool.or_eq_true, decide_eq_true_eq, decide_eq_true_eq] at this
      omega)
    rw [mj_kn_mono hw hm.1, e, hm.2]
    rfl
/-- one without a place has no part in it -/
theorem mj_noplace {mt rg : Nat → Bool} {gr o sg g h s i : Nat} {L : List Nat} {x : Nat → Nat} (hS : mj_Sch π D mt gr o sg L) (hR : mj_Rel D mt L sg g s x) (hl : ∀ i, i < D 14 14 → mt i = true → (D 14 16).testBit i = false) (hw : D 14 17 ≤ h) (hi : i < D 14 14) (hm : mt i = true) (h5 : D 15 i < 5) (hL : i ∉ L) :
    ¬ mj_opD D mt rg gr o g h x i ∧ (mj_maV D gr o g h i = true → ∀ dn, ¬ mj_beh D h (x i) dn i) := by
  have hx := hR.2.2.1 i hi hm h5 hL
  have hin := mj_L_in hS (i := i)
  have hk := hS.2.1
  have bg := hk.2.2.2.2.2.2.2.2 i hi
  have keep := fun z => mj_ma_keep (gr := gr) (o := o) (g := g) (sg := sg) hk hi hw hR.2.2.2 z
  have np : mj_plD D mt gr o sg i = false := by
    cases z : mj_plD D mt gr o sg i
    · rfl
    · exact absurd (hin.mpr ⟨hi, z⟩) hL
  have cases3 : D 25 i = 0 ∨ D 17 i < D 14 17 ∨ mj_maV D gr o sg (D 14 17) i = false := by
    by_cases a : D 25 i = 0
    · exact Or.inl a
    · by_cases b : D 17 i < D 14 17
      · exact Or.inr (Or.inl b)
      · refine Or.inr (Or.inr ?_)
        unfold mj_plD at np
        rw [hm, decide_eq_true h5, decide_eq_true (show 0 < D 25 i by omega), decide_eq_true (show D 14 17 ≤ D 17 i by omega), Bool.true_and, Bool.true_and, Bool.true_and, Bool.true_and] at np
        exact np
  have cv17 : mj_cvD D i h = true → h ≤ D 17 i := fun z => by
    unfold mj_cvD at z
    rw [Bool.and_eq_true, decide_eq_true_eq, decide_eq_true_eq] at z
    exact z.2
  constructor
  · rintro ⟨-, -, -, a4, a5, a6, -⟩
    rcases cases3 with z | z | z
    · rw [hx] at a6
      exact a6 z
    · have := cv17 a4
      omega
    · have := mj_ka_ma a5
      rw [keep z] at this
      exact absurd this (by decide)
  · rintro ma dn ⟨b1, b2⟩
    rw [hx] at b1 b2
    rcases cases3 with z | z | z
    · rw [z] at b1
      omega
    · rcases b2 with y | y | y
      · omega
      · have := bg y.1 (by omega) y.2.1 z
        rw [hl i hi hm] at this
        exact absurd this (by decide)
      · have := cv17 y.2.1.1
        omega
    · rw [keep z] at ma
      exact absurd ma (by decide)
/-- the place another waits for -/
theorem mj_af_D {mt rg : Nat → Bool} {gr o sg g s p : Nat} {L : List Nat} {x : Nat → Nat} {px : Nat → Nat → Bool} (hE : mj_Env π D mt rg gr o sg L px) (hR : mj_Rel D mt L sg g s x) (hp : p < L.length) :
    ((¬ π.1 48 p = -2 ∧ (π.1 48 p < 0 ∨ mj_lf s (π.1 48 p).toNatClampNeg = 0)) ↔ (rg (L.getD p 0) = false ∧ (D 19 (L.getD p 0) = 0 ∨ mt (D 19 (L.getD p 0) - 1) = true ∧ x (D 19 (L.getD p 0) - 1) = 0))) := by
  obtain ⟨hS, -, h48, -, -, hrg⟩ := hE
  have n6 := mj_Sch_len hS
  obtain ⟨q1, -⟩ := mj_Sch_pl hS hp
  have inj : ∀ a b, a < L.length → b < L.length → π.1 47 a = π.1 47 b → a = b := fun a b ha hb e => by
    have la := (mj_Sch_pl hS ha).1
    have lb := (mj_Sch_pl hS hb).1
    have N9 := hS.2.1.1
    rw [hS.2.2.2.2.2.2.2.2.2.1 a ha, hS.2.2.2.2.2.2.2.2.2.1 b hb] at e
    exact mj_L_inj hS ha hb (mj_nI_inj (by omega) (by omega) e)
  have e47 := hS.2.2.2.2.2.2.2.2.2.1 p hp
  have hin := fun i => mj_L_in hS (i := i)
  have hD := hS.1
  have hk := hS.2.1
  have mts := hS.2.2.2.2.2.2.1
  have h47 := hS.2.2.2.2.2.2.2.2.2.1
  have N9 := hk.1
  rw [h48 p hp]
  generalize L.getD p 0 = q at *
  have hq47 : (π.1 47 p).toNatClampNeg = q := by rw [e47]; exact nI_clamp (by omega)
  obtain ⟨-, -, -, -, e19, -, -, -, -, -⟩ := hD.2.2.2.2.1 q q1
  obtain ⟨-, -, -, k19, -⟩ := hk.2.2.2.2.1 q q1
  have m22 : (-2 : Int32) = -2 := rfl
  have m12 : ¬ (-1 : Int32) = -2 := by decide
  have m1 : (-1 : Int32) < 0 := by decide
  unfold mj_afv
  rw [hq47, hrg q q1, e19]
  cases cr : mj_b (mj_ring π (D 14 14)) q
  · rw [if_neg (by decide)]
    by_cases c0 : D 19 q = 0
    · have e : mj_oi (D 19 q) = -1 := (mj_oi_m1 (by omega)).mpr c0
      have lt : mj_lt0 (-1) (π.1 14 14) = false := by unfold mj_lt0; rfl
      rw [e, lt, if_neg (by decide)]
      exact ⟨fun _ => ⟨rfl, Or.inl c0⟩, fun _ => ⟨m12, Or.inl m1⟩⟩
    · have ha : D 19 q - 1 < D 14 14 := by omega
      have hw5 := k19.2 (by omega)
      rw [mj_oi_pos (by omega)]
      have lt : mj_lt0 (nI (D 19 q - 1)) (π.1 14 14) = true := by
        rw [hD.1]
        exact mj_lt0_nI ha (by omega)
      rw [if_pos lt, nI_clamp (by omega), mts _ ha]
      have e25 := (hD.2.2.2.2.1 _ ha).2.2.2.2.2.2.2.2.1
      have k25 := (hk.2.2.2.2.1 _ ha).2.2.2.2.2.2.1
      generalize D 19 q - 1 = a at *
      cases cm : mt a
      · rw [if_neg (by decide)]
        exact ⟨fun z => absurd m22 z.1, fun z => by
          rcases z.2 with y | y
          · exact absurd y c0
          · exact absurd y.1 (by decide)⟩
      · rw [if_pos rfl, e25]
        by_cases cl : D 25 a = 0
        · have n00 : nI 0 = (0 : Int32) := rfl
          rw [cl, if_pos n00]
          have hnL : a ∉ L := fun z => by
            have := ((hin a).mp z).2
            unfold mj_plD at this
            simp only [Bool.and_eq_true, decide_eq_true_eq] at this
            omega
          have hx := hR.2.2.1 a ha cm hw5 hnL
          exact ⟨fun _ => ⟨rfl, Or.inr ⟨rfl, by rw [hx]; exact cl⟩⟩, fun _ => ⟨m12, Or.inl m1⟩⟩
        · have n0 : ¬ nI (D 25 a) = 0 := fun z => by
            have := mj_nI_inj (b := 0) (by omega) (by omega) z
            omega
          rw [if_neg n0]
          by_cases hmem : a ∈ L
          · obtain ⟨r, hr, er⟩ := mj_L_mem hmem
            have hpl := mj_plc_of (π := π) (n := L.length) (q := r) (i := a) n6 inj hr (by rw [h47 r hr, er])
            have hx := hR.2.1 r hr
            rw [er] at hx
            rw [hpl, nI_clamp (by omega), hx]
            have nn : ¬ nI r < 0 := nI_nlt (b := 0) (by omega) (by omega)
            have n2 : ¬ nI r = -2 := fun z => by
              rw [z] at nn
              exact nn (by decide)
            exact ⟨fun z => ⟨rfl, Or.inr ⟨rfl, z.2.resolve_left nn⟩⟩, fun z => ⟨n2, Or.inr (by
              rcases z.2 with y | y
              · exact absurd y c0
              · exact y.2)⟩⟩
          · have hx := hR.2.2.1 a ha cm hw5 hmem
            have hpl : mj_plc π (nI a) L.length 0 = -2 := by
              rcases mj_plc_c (σ := π) (x := nI a) L.length 0 with z | ⟨r, -, b, -, d⟩
              · exact z
              · exfalso
                have lr := (mj_Sch_pl hS (p := r) (by omega)).1
                rw [h47 r (by omega)] at d
                have := mj_nI_inj (by omega) (by omega) d
                exact hmem (by rw [← this]; exact mj_getD_mem (by omega))
            rw [hpl]
            exact ⟨fun z => absurd m22 z.1, fun z => by
              rcases z.2 with y | y
              · exact absurd y c0
              · rw [hx] at y
                exact absurd y.2 cl⟩
  · rw [if_pos rfl]
    exact ⟨fun z => absurd m22 z.1, fun z => absurd z.1 (by decide)⟩
/-- open: the class says it as the document does -/
theorem mj_mop_D {mt rg : Nat → Bool} {gr o sg g h s p : Nat} {L : List Nat} {x : Nat → Nat} {px : Nat → Nat → Bool} (hE : mj_Env π D mt rg gr o sg L px) (hR : mj_Rel D mt L sg g s x) (hg : g < gr) (hw : D 14 17 ≤ h) (hh : h < 12) (hp : p < L.length) :
    mj_mop π g h s p = true ↔ (mj_opD D mt rg gr o g h x (L.getD p 0) ∧ mj_clD D mt gr o g h (L.getD p 0) = false ∧ px h p = false) := by
  have af := mj_af_D hE hR hp
  obtain ⟨hS, hB, -, -, h52, -⟩ := hE
  have n6 := mj_Sch_len hS
  have hk := hS.2.1
  have hD := hS.1
  have N9 := hk.1
  obtain ⟨q1, q2, q3, q4, q5, q6⟩ := mj_Sch_pl hS hp
  have hx := hR.2.1 p hp
  have e47 := hS.2.2.2.2.2.2.2.2.2.1 p hp
  have hb := ((hB g h hg hw hh).2 p hp).1
  have l52 := (h52 p h hp hw hh).1
  generalize L.getD p 0 = q at *
  have hq47 : (π.1 47 p).toNatClampNeg = q := by rw [e47]; exact nI_clamp (by omega)
  have l4 := mj_lf_lt (s := s) (p := p)
  have e3 := mj_kd3 hD hk q1
  -- the span's demand
  have ag : mj_cvD D q h = true → ((π.1 52 (p * 12 + h) = -1 ∨ π.1 52 (p * 12 + h) = nI (mj_lf s p)) ↔ (D 15 q = 3 → D 24 q = x q + (h - D 16 q) / D 26 q)) := by
    intro cv
    rw [l52]
    unfold mj_lah mj_agn
    rw [hq47, e3]
    by_cases c3 : D 15 q = 3
    · rw [if_pos (decide_eq_true c3)]
      obtain ⟨a1, a2⟩ := mj_agD hD hk hq47 q1 hh cv c3
      have k24 := (hk.2.2.2.2.1 q q1).2.2.2.2.2.2.1
      rw [a2, hx]
      generalize (h - D 16 q) / D 26 q = v at *
      constructor
      · rintro (z | z) -
        · exact absurd z (mj_nI_m1 (by omega))
        · have := mj_nI_inj (by omega) (by omega) z
          omega
      · intro z
        have := z c3
        right
        congr 1
        omega
    · rw [if_neg (by rw [decide_eq_false c3]; decide)]
      exact ⟨fun _ z => absurd z c3, fun _ => Or.inl rfl⟩
  unfold mj_mop mj_isr
  rw [hb]
  simp only [Bool.and_eq_true, Bool.or_eq_true, decide_eq_true_eq, Bool.not_eq_true', decide_eq_false_iff_not]
  unfold mj_opD
  constructor
  · rintro ⟨a1, ⟨⟨b1, b2, b3, b4⟩, b5⟩, c1, c2⟩
    obtain ⟨f1, f2⟩ := af.mp ⟨b4, c1⟩
    exact ⟨⟨q2, q3, f1, b2, b1, by rw [hx]; exact a1, f2, (ag b2).mp c2⟩, b3, b5⟩
  · rintro ⟨⟨-, -, f1, b2, b1, a1, f2, f3⟩, b3, b5⟩
    obtain ⟨b4, c1⟩ := af.mpr ⟨f1, f2⟩
    exact ⟨by rw [← hx]; exact a1, ⟨⟨b1, b2, b3, b4⟩, b5⟩, c1, (ag b2).mpr f3⟩
end
