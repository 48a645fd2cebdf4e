section
variable {σ τ μ : mj_St} {D : Nat → Nat → Nat}
/-- the deal of the reference, in numbers -/
def mk_isM (μ : mj_St) (D : Nat → Nat → Nat) : Prop :=
  μ.1 61 0 = nI (D 14 14) ∧ μ.1 61 1 = nI (D 14 17) ∧ μ.1 61 2 = nI (D 14 18) ∧
  (∀ i, i < D 14 14 → μ.1 65 i = nI (D 15 i) ∧ μ.1 66 i = nI (D 16 i) ∧ μ.1 67 i = nI (D 17 i) ∧ μ.1 68 i = mj_oi (D 18 i) ∧ μ.1 69 i = mj_oi (D 19 i) ∧ μ.1 70 i = mj_oi (D 20 i) ∧ μ.1 71 i = nI (D 21 i) ∧ μ.1 74 i = nI (D 24 i) ∧ μ.1 76 i = nI (D 25 i) ∧ μ.1 77 i = nI (if (D 14 16).testBit i = true then 1 else 0) ∧ (D 15 i = 3 → μ.1 75 i = nI (D 26 i))) ∧
  (∀ h, h < 12 → μ.1 63 h = nI (D 27 h)) ∧ ∀ f, f < 3 → μ.1 64 f = nI (D 28 f)
theorem mk_ask_M {i o : Nat} (hM : mk_isM μ D) (hk : mj_okD D) (hi : i < D 14 14) (ho : o < 2 ^ 31) : mj_ask (μ.1 70 i) (μ.1 71 i) (nI o) = mj_asD D i o := by
  obtain ⟨-, -, -, -, -, e20, e21, -⟩ := hM.2.2.2.1 i hi
  obtain ⟨-, -, -, -, k20, k21, -⟩ := hk.2.2.2.2.1 i hi
  unfold mj_ask mj_asD
  rw [e20, e21]
  by_cases c : D 20 i = 0
  · rw [decide_eq_true (by rw [mj_oi_m1 (by omega)]; exact c), decide_eq_true c, Bool.true_or, Bool.true_or]
  · rw [decide_eq_false (by rw [mj_oi_m1 (by omega)]; exact c), decide_eq_false c, Bool.false_or, Bool.false_or, mj_oi_pos (by omega), mj_bt (by omega), mj_b_nI (by omega)]
    have tb : o.testBit (D 20 i - 1) = decide (o / 2 ^ (D 20 i - 1) % 2 = 1) := Nat.testBit_eq_decide_div_mod_eq
    have m2 := Nat.mod_lt (o / 2 ^ (D 20 i - 1)) (show 0 < 2 by decide)
    refine mj_dec ?_
    rw [tb]
    by_cases c2 : o / 2 ^ (D 20 i - 1) % 2 = 1
    · rw [decide_eq_true c2, c2]
      show nI 1 = nI _ ↔ _
      rw [nI_eq (by omega) (by omega)]
    · rw [decide_eq_false c2, show o / 2 ^ (D 20 i - 1) % 2 = 0 by omega]
      show nI 0 = nI _ ↔ _
      rw [nI_eq (by omega) (by omega)]
theorem mk_cov_M {i h : Nat} (hM : mk_isM μ D) (hk : mj_okD D) (hi : i < D 14 14) (hh : h < 2147483648) : mj_cov (μ.1 66 i) (μ.1 67 i) (nI h) = mj_cvD D i h := by
  obtain ⟨-, e16, e17, -⟩ := hM.2.2.2.1 i hi
  obtain ⟨-, ⟨k16, k17⟩, -⟩ := hk.2.2.2.2.1 i hi
  rw [e16, e17]
  exact mj_cov_n (by omega) (by omega) hh
theorem mk_kd_M {i k : Nat} (hM : mk_isM μ D) (hk : mj_okD D) (hi : i < D 14 14) (k9 : k < 100) : μ.1 65 i = nI k ↔ D 15 i = k := by
  obtain ⟨e15, -⟩ := hM.2.2.2.1 i hi
  obtain ⟨k15, -⟩ := hk.2.2.2.2.1 i hi
  rw [e15, nI_eq (by omega) (by omega)]
theorem mk_wk_M {i : Nat} (hM : mk_isM μ D) (hk : mj_okD D) (hi : i < D 14 14) : (4 < μ.1 65 i ↔ ¬ D 15 i < 5) ∧ (μ.1 65 i < 5 ↔ D 15 i < 5) := by
  obtain ⟨e15, -⟩ := hM.2.2.2.1 i hi
  obtain ⟨k15, -⟩ := hk.2.2.2.2.1 i hi
  rw [e15]
  refine ⟨⟨fun z y => nI_nlt (a := 4) (b := D 15 i) (by omega) (by omega) z, fun z => nI_lt (a := 4) (by omega) (by omega)⟩, ⟨fun z => Classical.byContradiction (fun y => nI_nlt (a := D 15 i) (b := 5) (by omega) (by omega) z), fun z => nI_lt (b := 5) z (by omega)⟩⟩
/-- what is left of each, in the reference -/
def mk_Lx (D : Nat → Nat → Nat) (mt : Nat → Bool) (l : Nat → Int32) (x : Nat → Nat) : Prop := ∀ i, i < D 14 14 → D 15 i < 5 → mt i = true → l i = nI (x i) ∧ x i ≤ D 24 i
/-- open, by a way that things turn out -/
def mk_opE (D : Nat → Nat → Nat) (mt rg : Nat → Bool) (o h : Nat) (x : Nat → Nat) (i : Nat) : Prop := mt i = true ∧ D 15 i < 5 ∧ rg i = false ∧ mj_cvD D i h = true ∧ (mj_knD D i h && mj_asD D i o) = true ∧ x i ≠ 0 ∧ (D 19 i = 0 ∨ mt (D 19 i - 1) = true ∧ x (D 19 i - 1) = 0) ∧ (D 15 i = 3 → D 24 i = x i + (h - D 16 i) / D 26 i)
theorem mk_Gopn_D {i h o : Nat} {mt : Int32} {l : Nat → Int32} {x : Nat → Nat} (hM : mk_isM μ D) (hk : mj_okD D) (hL : mk_Lx D (mj_b mt) l x) (hi : i < D 14 14) (hh : h < 12) (ho : o < 8) :
    mj_Gopn μ (nI h) (nI o) mt l i = true ↔ mk_opE D (mj_b mt) (mj_b (μ.1 61 46)) o h x i := by
  have eask := mk_ask_M (o := o) hM hk hi (by omega)
  have ecov := mk_cov_M (h := h) hM hk hi (by omega)
  obtain ⟨w1, w2⟩ := mk_wk_M hM hk hi
  obtain ⟨e15, e16, e17, e18, e19, e20, e21, e24, e25, -, e26⟩ := hM.2.2.2.1 i hi
  obtain ⟨k15, ⟨k16, k17⟩, k18, ⟨k19, k19'⟩, k20, k21, ⟨k24, k25⟩, k3, k5⟩ := hk.2.2.2.2.1 i hi
  have N9 := hk.1
  unfold mj_Gopn mk_opE mj_knD
  rw [eask, ecov]
  simp only [Bool.and_eq_true, Bool.or_eq_true, Bool.not_eq_true', decide_eq_true_eq, decide_eq_false_iff_not]
  rw [w1, Classical.not_not]
  have ekn : (μ.1 70 i = -1 ∨ ¬ nI h < μ.1 64 (μ.1 70 i).toNatClampNeg) ↔ (D 20 i = 0 ∨ D 28 (D 20 i - 1) ≤ h) := by
    rw [e20, mj_oi_m1 (by omega)]
    by_cases c : D 20 i = 0
    · exact ⟨fun _ => Or.inl c, fun _ => Or.inl c⟩
    · refine or_congr Iff.rfl ?_
      have k28 := hk.2.2.2.2.2.2.1 (D 20 i - 1) (by omega)
      rw [mj_oi_pos (by omega), nI_clamp (by omega), hM.2.2.2.2.2 _ (by omega)]
      exact ⟨fun z => Classical.byContradiction (fun y => z (nI_lt (by omega) (by omega))), fun z => nI_nlt z (by omega)⟩
  rw [ekn]
  constructor
  · rintro ⟨a1, a2, a3, a4, a5, a6, a7, a8, a9, a10⟩
    obtain ⟨l1, l2⟩ := hL i hi a1 a2
    refine ⟨a2, a1, a3, a4, ⟨a6, a5⟩, fun z => a7 (by rw [l1, z]; rfl), ?_, fun z => ?_⟩
    · rcases a9 with z | z
      · rw [e19, mj_oi_m1 (by omega)] at z
        exact Or.inl z
      · by_cases c : D 19 i = 0
        · exact Or.inl c
        · rw [e19, mj_oi_pos (by omega), nI_clamp (by omega)] at z
          obtain ⟨m1, m2⟩ := hL (D 19 i - 1) (by omega) (k19' (by omega)) z.1
          have k24' := (hk.2.2.2.2.1 (D 19 i - 1) (by omega)).2.2.2.2.2.2.1
          rw [m1] at z
          exact Or.inr ⟨z.1, (nI_eq (b := 0) (by omega) (by omega)).mp z.2⟩
    · rcases a10 with y | y
      · exact absurd ((mk_kd_M hM hk hi (k := 3) (by omega)).mpr z) y
      · unfold mj_cvD at a4
        rw [Bool.and_eq_true, decide_eq_true_eq, decide_eq_true_eq] at a4
        rw [e24, l1, e16, e26 z, mj_nI_sub l2, mj_nI_sub (by omega), mj_nI_div (by omega) (by have := (k3 z).2.1; omega)] at y
        have := mj_nI_inj (by omega) (by have := Nat.div_le_self (h - D 16 i) (D 26 i); omega) y
        omega
  · rintro ⟨a2, a1, a3, a4, ⟨a6, a5⟩, a7, a9, a10⟩
    obtain ⟨l1, l2⟩ := hL i hi a1 a2
    refine ⟨a1, a2, a3, a4, a5, a6, fun z => a7 ?_, fun z => ?_, ?_, ?_⟩
    · rw [l1] at z
      exact (nI_eq (b := 0) (by omega) (by omega)).mp z
    · rw [l1] at z
      have := (nI_eq (b := 4) (by omega) (by omega)).mp z
      omega
    · rcases a9 with z | z
      · exact Or.inl (by rw [e19, mj_oi_m1 (by omega)]; exact z)
      · by_cases c : D 19 i = 0
        · exact Or.inl (by rw [e19, mj_oi_m1 (by omega)]; exact c)
        · refine Or.inr ?_
          rw [e19, mj_oi_pos (by omega), nI_clamp (by omega)]
          obtain ⟨m1, m2⟩ := hL (D 19 i - 1) (by omega) (k19' (by omega)) z.1
          rw [m1, z.2]
          exact ⟨z.1, rfl⟩
    · by_cases z : D 15 i = 3
      · refine Or.inr ?_
        unfold mj_cvD at a4
        rw [Bool.and_eq_true, decide_eq_true_eq, decide_eq_true_eq] at a4
        rw [e24, l1, e16, e26 z, mj_nI_sub l2, mj_nI_sub (by omega), mj_nI_div (by omega) (by have := (k3 z).2.1; omega)]
        have := a10 z
        congr 1
        omega
      · exact Or.inl (fun y => z ((mk_kd_M hM hk hi (k := 3) (by omega)).mp y))
theorem mk_spn_end {a s : Nat} (hs : 1 ≤ s) (h6 : s ≤ 6) : (a + 1) / s ≠ a / s ↔ a % s = s - 1 := by
  have : s = 1 ∨ s = 2 ∨ s = 3 ∨ s = 4 ∨ s = 5 ∨ s = 6 := by omega
  rcases this with c | c | c | c | c | c <;> subst c <;> omega
/-- somebody is behind: the reference says it as the document does -/
theorem mk_bhf_D {i h o : Nat} {mt set : Int32} {l : Nat → Int32} {x : Nat → Nat} (hM : mk_isM μ D) (hk : mj_okD D) (hL : mk_Lx D (mj_b mt) l x) (hi : i < D 14 14) (h5 : D 15 i < 5) (hh : h < 12) (ho : o < 8) (hs : mj_b mt i = true → mj_b set i = true → x i ≠ 0) :
    mj_bhf μ (nI h) set (nI o) mt (l i) i = true ↔ mj_b mt i = true ∧ mj_asD D i o = true ∧ mj_beh D h (x i) (mj_b set i) i := by
  have eask := mk_ask_M (o := o) hM hk hi (by omega)
  have ecov := mk_cov_M (h := h) hM hk hi (by omega)
  obtain ⟨e15, e16, e17, e18, e19, e20, e21, e24, e25, -, e26⟩ := hM.2.2.2.1 i hi
  obtain ⟨k15, ⟨k16, k17⟩, k18, ⟨k19, k19'⟩, k20, k21, ⟨k24, k25⟩, k3, k5⟩ := hk.2.2.2.2.1 i hi
  unfold mj_bhf
  rw [eask]
  simp only [Bool.and_eq_true, decide_eq_true_eq]
  refine and_congr_right (fun hm => ?_)
  obtain ⟨l1, l2⟩ := hL i hi h5 hm
  have hs := hs hm
  have ebis : mj_bis (l i) (mj_b set i) = nI (x i - if mj_b set i = true then 1 else 0) := by
    unfold mj_bis
    cases c : mj_b set i
    · rw [if_neg (by decide), if_neg (by decide), l1]; rfl
    · rw [if_pos rfl, if_pos rfl, l1]
      exact mj_nI_sub (b := 1) (by have := hs c; omega)
  rw [ebis]
  have n4 : ¬ l i = 4 := fun z => by
    rw [l1] at z
    have := (nI_eq (b := 4) (by omega) (by omega)).mp z
    omega
  have n0 : (¬ nI (x i - if mj_b set i = true then 1 else 0) = 0) ↔ x i - (if mj_b set i = true then 1 else 0) ≠ 0 := by
    rw [show (0 : Int32) = nI 0 from rfl, nI_eq (by omega) (by omega)]
  have e3 : mj_bh3 μ (nI h) (nI (x i - if mj_b set i = true then 1 else 0)) i = true ↔ (D 15 i = 3 ∧ mj_enD D i h ∧ D 24 i - (x i - if mj_b set i = true then 1 else 0) ≤ (h - D 16 i) / D 26 i) := by
    unfold mj_bh3 mj_enD
    rw [ecov]
    simp only [Bool.and_eq_true, Bool.or_eq_true, decide_eq_true_eq]
    have kd3 : μ.1 65 i = 3 ↔ D 15 i = 3 := mk_kd_M hM hk hi (k := 3) (by omega)
    rw [kd3]
    refine and_congr_right (fun c3 => ?_)
    obtain ⟨s1, s2, s3⟩ := k3 c3
    rw [and_assoc]
    refine and_congr_right (fun cv => ?_)
    unfold mj_cvD at cv
    rw [Bool.and_eq_true, decide_eq_true_eq, decide_eq_true_eq] at cv
    have q1 := Nat.div_le_self (h - D 16 i) (D 26 i)
    have q2 : (h - D 16 i) / D 26 i * D 26 i ≤ h - D 16 i := Nat.div_mul_le_self _ _
    have q3 := Nat.div_add_mod (h - D 16 i) (D 26 i)
    rw [Nat.mul_comm] at q3
    rw [e16, e26 c3, e17, e24, mj_nI_sub cv.1, mj_nI_div (by omega) (by omega), mj_nI_mul, mj_nI_sub q2, mj_nI_sub (show D 24 i ≥ x i - if mj_b set i = true then 1 else 0 by omega), show nI (D 26 i) - 1 = nI (D 26 i - 1) from mj_nI_sub (b := 1) s1]
    rw [nI_eq (by omega) (by omega), nI_eq (by omega) (by omega)]
    have en := mk_spn_end (a := h - D 16 i) s1 s2
    have eh : h + 1 - D 16 i = h - D 16 i + 1 := by omega
    rw [eh, en]
    have em : h - D 16 i - (h - D 16 i) / D 26 i * D 26 i = (h - D 16 i) % D 26 i := by omega
    rw [em]
    have l3 : ¬ nI ((h - D 16 i) / D 26 i) < nI (D 24 i - (x i - if mj_b set i = true then 1 else 0)) ↔ D 24 i - (x i - if mj_b set i = true then 1 else 0) ≤ (h - D 16 i) / D 26 i := ⟨fun z => Classical.byContradiction (fun y => z (nI_lt (by omega) (by omega))), fun z => nI_nlt z (by omega)⟩
    rw [l3]
    constructor
    · rintro ⟨a | a, b⟩
      · exact ⟨Or.inr a, b⟩
      · exact ⟨Or.inl a.symm, b⟩
    · rintro ⟨a | a, b⟩
      · exact ⟨Or.inr a.symm, b⟩
      · exact ⟨Or.inl a, b⟩
  have e2 : mj_bh2 μ (l i) (mj_b set i) i = true ↔ (D 15 i = 2 ∧ x i < D 24 i ∧ mj_b set i = false) := by
    unfold mj_bh2
    simp only [Bool.and_eq_true, decide_eq_true_eq, Bool.not_eq_true']
    have kd2 : μ.1 65 i = 2 ↔ D 15 i = 2 := mk_kd_M hM hk hi (k := 2) (by omega)
    rw [kd2, e24, l1]
    refine and_congr_right (fun _ => and_congr ?_ Iff.rfl)
    exact ⟨fun z => Classical.byContradiction (fun y => nI_nlt (by omega) (by omega) z), fun z => nI_lt z (by omega)⟩
  have e17' : μ.1 67 i = nI h ↔ D 17 i = h := by rw [e17, nI_eq (by omega) (by omega)]
  unfold mj_beh
  rw [Bool.or_eq_true, Bool.or_eq_true, decide_eq_true_eq, e3, e2, e17', n0]
  constructor
  · rintro ⟨-, b, c, d⟩
    refine ⟨c, b, ?_⟩
    rcases d with (d | d) | d
    · exact Or.inl d
    · exact Or.inr (Or.inl d)
    · exact Or.inr (Or.inr d)
  · rintro ⟨c, b, d⟩
    refine ⟨n4, b, c, ?_⟩
    rcases d with d | d | d
    · exact Or.inl (Or.inl d)
    · exact Or.inl (Or.inr d)
    · exact Or.inr d
end
