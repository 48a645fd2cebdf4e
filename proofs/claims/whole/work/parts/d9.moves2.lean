section
variable {σ τ π : mj_St} {D : Nat → Nat → Nat}
/-! a move, told of the promises -/
/-- the span is at its end -/
def mj_enD (D : Nat → Nat → Nat) (i h : Nat) : Prop := mj_cvD D i h = true ∧ (D 17 i = h ∨ (h + 1 - D 16 i) / D 26 i ≠ (h - D 16 i) / D 26 i)
/-- somebody is behind -/
def mj_beh (D : Nat → Nat → Nat) (h x : Nat) (dn : Bool) (i : Nat) : Prop := x - (if dn = true then 1 else 0) ≠ 0 ∧ (D 17 i = h ∨ (D 15 i = 2 ∧ x < D 24 i ∧ dn = false) ∨ (D 15 i = 3 ∧ mj_enD D i h ∧ D 24 i - (x - (if dn = true then 1 else 0)) ≤ (h - D 16 i) / D 26 i))
def mj_sbt (A : Nat → Bool) : Nat := mj_sgm (fun i => if A i = true then 1 else 0) 9
/-- one may do it now -/
def mj_opD (D : Nat → Nat → Nat) (mt rg : Nat → Bool) (gr o g h : Nat) (x : Nat → Nat) (i : Nat) : Prop := mt i = true ∧ D 15 i < 5 ∧ rg i = false ∧ mj_cvD D i h = true ∧ mj_kaV D gr o g h i = true ∧ x i ≠ 0 ∧ (D 19 i = 0 ∨ mt (D 19 i - 1) = true ∧ x (D 19 i - 1) = 0) ∧ (D 15 i = 3 → D 24 i = x i + (h - D 16 i) / D 26 i)
def mj_vok (D : Nat → Nat → Nat) (mt rg : Nat → Bool) (gr o g h : Nat) (x : Nat → Nat) (A : Nat → Bool) : Prop :=
  (∀ i, A i = true → i < D 14 14 ∧ mj_opD D mt rg gr o g h x i ∧ mj_clD D mt gr o g h i = false) ∧
  mj_sbt A ≤ D 27 h ∧ (∀ i j, A i = true → A j = true → D 18 i = D 18 j → D 18 i ≠ 0 → i = j) ∧
  ∀ i, i < D 14 14 → mt i = true → D 15 i < 5 → mj_maV D gr o g h i = true → ¬ mj_beh D h (x i) (A i) i
/-- the class's state and how much is left of each -/
def mj_Rel (D : Nat → Nat → Nat) (mt : Nat → Bool) (L : List Nat) (sg g s : Nat) (x : Nat → Nat) : Prop :=
  s < 4 ^ L.length ∧ (∀ p, p < L.length → x (L.getD p 0) = mj_lf s p) ∧ (∀ i, i < D 14 14 → mt i = true → D 15 i < 5 → i ∉ L → x i = D 25 i) ∧ ∀ f, f < 3 → D 28 f ≤ D 14 17 → g.testBit f = sg.testBit f
theorem mj_spn_n {sp fr h : Nat} (hs : sp < 1000) (hf : fr ≤ h) (hh : h < 1000) : mj_spn (nI sp) (nI fr) (nI h) = nI ((h - fr) / sp) := by
  unfold mj_spn
  by_cases c : sp = 0
  · subst c
    rw [if_neg (by decide), Nat.div_zero]
    rfl
  · have h0 : (0 : Int32) < nI sp := nI_lt (a := 0) (by omega) (by omega)
    rw [if_pos h0, mj_nI_sub hf, mj_nI_div (by omega) (by omega)]
theorem mj_q_lt {fr tl sp len h : Nat} (h1 : len = (tl - fr) / sp + 1) (h2 : h ≤ tl) : (h - fr) / sp < len := by
  have := Nat.div_le_div_right (c := sp) (show h - fr ≤ tl - fr by omega)
  omega
theorem mj_kd3 {i : Nat} (hD : mj_isD π D) (hk : mj_okD D) (hi : i < D 14 14) : decide (π.1 15 i = 3) = decide (D 15 i = 3) := by
  have h5 := (hD.2.2.2.2.1 i hi).1
  have k := (hk.2.2.2.2.1 i hi).1
  rw [h5]
  exact mj_dec (nI_eq (b := 3) (by omega) (by omega))
theorem mj_agD {p q h : Nat} (hD : mj_isD π D) (hk : mj_okD D) (h47 : (π.1 47 p).toNatClampNeg = q) (hq : q < D 14 14) (hh : h < 12) (hc : mj_cvD D q h = true) : D 15 q = 3 → (h - D 16 q) / D 26 q < D 24 q ∧ mj_tdo π p h = nI (D 24 q - (h - D 16 q) / D 26 q) := by
  intro k3
  obtain ⟨-, e16, e17, -, -, -, -, e24, e25, e26⟩ := hD.2.2.2.2.1 q hq
  obtain ⟨k15, k17, k18, k19, k20, k21, k24, kk3, k5⟩ := hk.2.2.2.2.1 q hq
  unfold mj_cvD at hc
  rw [Bool.and_eq_true, decide_eq_true_eq, decide_eq_true_eq] at hc
  obtain ⟨s1, s2, s3⟩ := kk3 k3
  have hl := mj_q_lt s3 hc.2
  refine ⟨hl, ?_⟩
  unfold mj_tdo
  rw [h47, e24, e26, e16, mj_spn_n (by omega) hc.1 (by omega), mj_nI_sub (by omega)]
/-- how much may be left behind an hour -/
theorem mj_laf_D {p q h : Nat} (hD : mj_isD π D) (hk : mj_okD D) (h47 : (π.1 47 p).toNatClampNeg = q) (hq : q < D 14 14) (hh : h < 12) : ∃ m, m ≤ 3 ∧ mj_laf π p h = nI m ∧ ((D 17 q = h ∧ m = 0) ∨ (D 17 q ≠ h ∧ D 15 q = 3 ∧ mj_enD D q h ∧ (h - D 16 q) / D 26 q < D 24 q ∧ m = D 24 q - (h - D 16 q) / D 26 q - 1) ∨ (D 17 q ≠ h ∧ ¬ (D 15 q = 3 ∧ mj_enD D q h) ∧ m = 3)) := by
  obtain ⟨-, e16, e17, -, -, -, -, e24, e25, e26⟩ := hD.2.2.2.2.1 q hq
  obtain ⟨k15, k17, k18, k19, k20, k21, k24, kk3, k5⟩ := hk.2.2.2.2.1 q hq
  have e17e : (π.1 17 q = nI h) = (D 17 q = h) := by
    rw [e17]
    exact propext (nI_eq (by omega) (by omega))
  have cv := mj_cov_D hD hk hq (h := h) (by omega)
  have e3 := mj_kd3 hD hk hq
  have en : (mj_agn π p = true ∧ mj_enp π p h = true) ↔ (D 15 q = 3 ∧ mj_enD D q h) := by
    unfold mj_agn mj_enp mj_ends
    rw [h47, e3, cv, decide_eq_true_eq, Bool.and_eq_true, Bool.or_eq_true, decide_eq_true_eq]
    unfold mj_enD
    refine and_congr_right (fun k3 => and_congr_right (fun hc => ?_))
    have hc' := hc
    unfold mj_cvD at hc'
    rw [Bool.and_eq_true, decide_eq_true_eq, decide_eq_true_eq] at hc'
    obtain ⟨s1, s2, s3⟩ := kk3 k3
    have a1 : mj_spn (π.1 26 q) (π.1 16 q) (nI h) = nI ((h - D 16 q) / D 26 q) := by
      rw [e26, e16]
      exact mj_spn_n (by omega) hc'.1 (by omega)
    have a2 : mj_spn (π.1 26 q) (π.1 16 q) (nI h + 1) = nI ((h + 1 - D 16 q) / D 26 q) := by
      rw [e26, e16, nI_1]
      exact mj_spn_n (by omega) (by omega) (by omega)
    have l1 := mj_q_lt s3 hc'.2
    have l2 : (h + 1 - D 16 q) / D 26 q ≤ h + 1 - D 16 q := Nat.div_le_self _ _
    rw [a1, a2, Bool.not_eq_true', decide_eq_false_iff_not, nI_eq (by omega) (by omega), eq_comm, e17e]
  unfold mj_laf
  rw [h47]
  by_cases c1 : D 17 q = h
  · rw [if_pos (by rw [e17e]; exact c1)]
    exact ⟨0, by omega, rfl, Or.inl ⟨c1, rfl⟩⟩
  · rw [if_neg (by rw [e17e]; exact c1)]
    by_cases c2 : D 15 q = 3 ∧ mj_enD D q h
    · rw [if_pos (en.mpr c2)]
      obtain ⟨l1, l2⟩ := mj_agD hD hk h47 hq hh c2.2.1 c2.1
      have k24' := k24.1
      clear kk3
      generalize (h - D 16 q) / D 26 q = v at *
      refine ⟨D 24 q - v - 1, by omega, ?_, Or.inr (Or.inl ⟨c1, c2.1, c2.2, l1, rfl⟩)⟩
      rw [l2]
      show nI _ - nI 1 = _
      rw [mj_nI_sub (by omega)]
    · rw [if_neg (fun z => c2 (en.mp z))]
      exact ⟨3, by omega, rfl, Or.inr (Or.inr ⟨c1, c2, rfl⟩)⟩
/-- must be done now, or it is too late: the class says it as the document does -/
theorem mj_force_D {p q h x : Nat} {dn : Bool} (hD : mj_isD π D) (hk : mj_okD D) (h47 : (π.1 47 p).toNatClampNeg = q) (hq : q < D 14 14) (hh : h < 12) (hx : x ≠ 0) (hx3 : x ≤ 3) (hdn : dn = true → 1 ≤ x) : (¬ mj_laf π p h + 1 < nI x ∧ ((mj_laf π p h < nI x ∨ mj_iuw π p (nI x) = true) → dn = true)) ↔ ¬ mj_beh D h x dn q := by
  obtain ⟨e15, -, -, -, -, -, -, e24, -⟩ := hD.2.2.2.2.1 q hq
  obtain ⟨k15, -, -, -, -, -, k24, -⟩ := hk.2.2.2.2.1 q hq
  obtain ⟨m, m3, em, hm⟩ := mj_laf_D hD hk h47 hq hh
  have iu : mj_iuw π p (nI x) = true ↔ (D 15 q = 2 ∧ x < D 24 q) := by
    unfold mj_iuw
    rw [h47, e15, e24, Bool.and_eq_true, decide_eq_true_eq, decide_eq_true_eq]
    refine and_congr (nI_eq (b := 2) (by omega) (by omega)) ?_
    exact ⟨fun z => Classical.byContradiction (fun y => nI_nlt (by omega) (by omega) z), fun z => nI_lt z (by omega)⟩
  have l1 : nI m + 1 < nI x ↔ m + 1 < x := by
    rw [nI_1]
    exact ⟨fun z => Classical.byContradiction (fun y => nI_nlt (by omega) (by omega) z), fun z => nI_lt z (by omega)⟩
  have l2 : nI m < nI x ↔ m < x := ⟨fun z => Classical.byContradiction (fun y => nI_nlt (by omega) (by omega) z), fun z => nI_lt z (by omega)⟩
  rw [em, iu, l1, l2]
  unfold mj_beh
  generalize (h - D 16 q) / D 26 q = v at *
  cases dn
  · simp only [Bool.false_eq_true, if_false, Nat.sub_zero, imp_false]
    rcases hm with ⟨a, b⟩ | ⟨a, b, c, d, e⟩ | ⟨a, b, c⟩
    · constructor
      · intro z
        exact absurd (Or.inl (by omega)) z.2
      · intro z
        exact absurd ⟨hx, Or.inl a⟩ z
    · constructor
      · rintro ⟨z1, z2⟩ ⟨-, y | y | y⟩
        · exact a y
        · exact z2 (Or.inr ⟨y.1, y.2.1⟩)
        · exact z2 (Or.inl (by omega))
      · intro z
        refine ⟨fun y => z ⟨hx, Or.inr (Or.inr ⟨b, c, by omega⟩)⟩, fun y => ?_⟩
        rcases y with y | y
        · exact z ⟨hx, Or.inr (Or.inr ⟨b, c, by omega⟩)⟩
        · omega
    · constructor
      · rintro ⟨z1, z2⟩ ⟨-, y | y | y⟩
        · exact a y
        · exact z2 (Or.inr ⟨y.1, y.2.1⟩)
        · exact b ⟨y.1, y.2.1⟩
      · intro z
        refine ⟨by omega, fun y => ?_⟩
        rcases y with y | y
        · omega
        · exact z ⟨hx, Or.inr (Or.inl ⟨y.1, y.2, trivial⟩)⟩
  · have h1 := hdn rfl
    simp only [if_true, implies_true, and_true]
    rcases hm with ⟨a, b⟩ | ⟨a, b, c, d, e⟩ | ⟨a, b, c⟩
    · constructor
      · rintro z ⟨y, -⟩
        omega
      · intro z y
        exact z ⟨by omega, Or.inl a⟩
    · constructor
      · rintro z ⟨y0, y | y | y⟩
        · exact a y
        · exact absurd y.2.2 (by decide)
        · have := y.2.2
          omega
      · intro z y
        exact z ⟨by omega, Or.inr (Or.inr ⟨b, c, by omega⟩)⟩
    · constructor
      · rintro z ⟨y0, y | y | y⟩
        · exact a y
        · exact absurd y.2.2 (by decide)
        · exact b ⟨y.1, y.2.1⟩
      · intro z y
        omega
end
