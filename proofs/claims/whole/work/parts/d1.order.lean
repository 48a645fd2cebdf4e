section
variable {σ τ ρ : mj_St}
/-! the deadlines and their order -/
theorem mj_ud_e {f : Nat → Int32} {o : Nat} {v : Int32} : mj_ud f o v o = v := if_pos rfl
theorem mj_ud_n {f : Nat → Int32} {o j : Nat} {v : Int32} (h : j ≠ o) : mj_ud f o v j = f j := if_neg h
theorem mj_ins_c {D : Nat → Int32} {p : Nat} : ∀ (a : Nat) (g : Nat → Int32), (∀ i, a < i → mj_ins D p a g i = g i) ∧ ∃ b, b ≤ a ∧ (∀ i, i < b → mj_ins D p a g i = g i) ∧ mj_ins D p a g b = nI p ∧ (∀ i, b < i → i ≤ a → mj_ins D p a g i = g (i - 1)) ∧ (∀ i, b ≤ i → i < a → D p < D (g i).toNatClampNeg) ∧ (0 < b → ¬ D p < D (g (b - 1)).toNatClampNeg) := by
  intro a
  induction a with
  | zero =>
    intro g
    refine ⟨fun i hi => mj_ud_n (by omega), 0, Nat.le_refl _, fun i hi => absurd hi (by omega), mj_ud_e, fun i h1 h2 => absurd h1 (by omega), fun i h1 h2 => absurd h2 (by omega), fun h => absurd h (by omega)⟩
  | succ a ih =>
    intro g
    simp only [mj_ins]
    by_cases c : D p < D (g a).toNatClampNeg
    · rw [if_pos c]
      obtain ⟨h0, b, hb, h1, h2, h3, h4, h5⟩ := ih (mj_ud g (a + 1) (g a))
      refine ⟨fun i hi => (h0 i (by omega)).trans (mj_ud_n (by omega)), b, by omega, fun i hi => (h1 i hi).trans (mj_ud_n (by omega)), h2, fun i hi hi2 => ?_, fun i hi hi2 => ?_, fun hb0 => ?_⟩
      · by_cases ci : i = a + 1
        · rw [ci, h0 (a + 1) (by omega), mj_ud_e, Nat.add_sub_cancel]
        · rw [h3 i hi (by omega), mj_ud_n (by omega)]
      · by_cases ci : i = a
        · rw [ci]; exact c
        · have := h4 i hi (by omega)
          rw [mj_ud_n (by omega)] at this
          exact this
      · have := h5 hb0
        rw [mj_ud_n (by omega)] at this
        exact this
    · rw [if_neg c]
      refine ⟨fun i hi => mj_ud_n (by omega), a + 1, Nat.le_refl _, fun i hi => mj_ud_n (by omega), mj_ud_e, fun i h1 h2 => absurd h1 (by omega), fun i h1 h2 => absurd h2 (by omega), fun _ => ?_⟩
      rw [Nat.add_sub_cancel]
      exact c
/-- an order: each once, the earlier ends first -/
def mj_SO (D : Nat → Int32) (n : Nat) (f : Nat → Int32) : Prop := (∀ i, i < n → ∃ q, q < n ∧ f i = nI q) ∧ ∀ i j, i < j → j < n → f i ≠ f j ∧ ¬ D (f j).toNatClampNeg < D (f i).toNatClampNeg
theorem mj_nlt_trans {a b c : Int32} (h1 : ¬ a < b) (h2 : ¬ b < c) : ¬ a < c := by
  rw [Int32.lt_iff_toInt_lt] at h1 h2 ⊢
  omega
theorem mj_lt_nlt {a b : Int32} (h : a < b) : ¬ b < a := by
  rw [Int32.lt_iff_toInt_lt] at h ⊢
  omega
theorem mj_ord_SO {D g : Nat → Int32} : ∀ n, n ≤ 6 → mj_SO D n (mj_ord D g n) := by
  intro n
  induction n with
  | zero => intro _; exact ⟨fun i h => absurd h (by omega), fun i j h1 h2 => absurd h2 (by omega)⟩
  | succ n ih =>
    intro hn
    obtain ⟨s1, s2⟩ := ih (by omega)
    have e : mj_ord D g (n + 1) = mj_ins D n n (mj_ord D g n) := rfl
    rw [e]
    generalize mj_ord D g n = f at *
    obtain ⟨-, b, hb, h1, h2, h3, h4, h5⟩ := mj_ins_c (D := D) (p := n) n f
    generalize mj_ins D n n f = f' at *
    have cn : (nI n).toNatClampNeg = n := nI_clamp (by omega)
    refine ⟨fun i hi => ?_, fun i j hij hj => ?_⟩
    · by_cases c1 : i < b
      · obtain ⟨q, q1, q2⟩ := s1 i (by omega)
        exact ⟨q, by omega, by rw [h1 i c1]; exact q2⟩
      · by_cases c2 : i = b
        · exact ⟨n, by omega, by rw [c2]; exact h2⟩
        · obtain ⟨q, q1, q2⟩ := s1 (i - 1) (by omega)
          exact ⟨q, by omega, by rw [h3 i (by omega) (by omega)]; exact q2⟩
    · by_cases c1 : j < b
      · rw [h1 i (by omega), h1 j c1]
        exact s2 i j hij (by omega)
      · by_cases c2 : j = b
        · subst c2
          rw [h1 i hij, h2, cn]
          obtain ⟨q, q1, q2⟩ := s1 i (by omega)
          refine ⟨fun z => ?_, ?_⟩
          · rw [q2] at z
            have := mj_nI_inj (by omega) (by omega) z
            omega
          · by_cases c3 : i = j - 1
            · rw [c3]
              exact h5 (by omega)
            · exact mj_nlt_trans (h5 (by omega)) (s2 i (j - 1) (by omega) (by omega)).2
        · have ej := h3 j (by omega) (by omega)
          by_cases c3 : i < b
          · rw [h1 i c3, ej]
            exact s2 i (j - 1) (by omega) (by omega)
          · by_cases c4 : i = b
            · subst c4
              rw [h2, ej, cn]
              obtain ⟨q, q1, q2⟩ := s1 (j - 1) (by omega)
              refine ⟨fun z => ?_, mj_lt_nlt (h4 (j - 1) (by omega) (by omega))⟩
              rw [q2] at z
              have := mj_nI_inj (by omega) (by omega) z
              omega
            · rw [h3 i (by omega) (by omega), ej]
              exact s2 (i - 1) (j - 1) (by omega) (by omega)
/-- all is done by the deadlines -/
def mj_DI (n h : Nat) (c : Nat → Nat) (su : Nat → Bool) (S : Nat → Nat → Bool) (f : Nat → Int32) : Prop := ∀ q, q < n → su q = true → 0 < c q → ∃ d, d < 12 ∧ f q = nI d ∧ mj_ct (fun u => S u q) h (d + 1) = c q
theorem mj_dst_DI {n h p : Nat} {c T : Nat → Nat} {ca : Nat → Nat → Bool} {af : Nat → Nat → Prop} {su : Nat → Bool} {S : Nat → Nat → Bool} {f : Nat → Int32} (hP : mj_Pln n h c T ca af S) (hp : p < n)
    (h25 : mj_dcc σ n p = true → (σ.1 48 p).toNatClampNeg < n ∧ (0 < c (σ.1 48 p).toNatClampNeg → su p = true ∧ 0 < c p ∧ σ.1 25 (σ.1 47 p).toNatClampNeg = nI (c p) ∧ af p (σ.1 48 p).toNatClampNeg)) (hD : mj_DI n h c su S f) : mj_DI n h c su S (mj_dst σ n p f) := by
  unfold mj_dst
  by_cases dc : mj_dcc σ n p = true
  · rw [if_pos dc]
    obtain ⟨hq, hh⟩ := h25 dc
    generalize (σ.1 48 p).toNatClampNeg = q at *
    intro i hi hs hc
    by_cases ci : i = q
    · subst ci
      rw [mj_ud_e]
      obtain ⟨g1, g2, g3, g4⟩ := hh hc
      obtain ⟨d, d1, d2, d3⟩ := hD p hp g1 g2
      obtain ⟨k1, k2⟩ := mj_Pln_af hP hp hq g4 g2 hc d1 d3
      by_cases cm : f p - σ.1 25 (σ.1 47 p).toNatClampNeg < f i
      · rw [if_pos cm, d2, g3, mj_nI_sub (by omega)]
        exact ⟨d - c p, by omega, rfl, k2⟩
      · rw [if_neg cm]
        exact hD i hi hs hc
    · rw [mj_ud_n ci]
      exact hD i hi hs hc
  · rw [if_neg dc]
    exact hD
theorem mj_dl0_u {n : Nat} : ∀ k, k ≤ n → ∀ q, q < k → mj_it (fun p f => mj_ud f p (σ.1 17 (σ.1 47 p).toNatClampNeg)) (σ.1 50) k q = σ.1 17 (σ.1 47 q).toNatClampNeg := by
  intro k
  induction k with
  | zero => intro _ q hq; exact absurd hq (by omega)
  | succ k ih =>
    intro hk q hq
    simp only [mj_it]
    by_cases c : q = k
    · subst c
      exact mj_ud_e
    · rw [mj_ud_n c]
      exact ih (by omega) q (by omega)
theorem mj_dl_DI {n h : Nat} {c T : Nat → Nat} {ca : Nat → Nat → Bool} {af : Nat → Nat → Prop} {su : Nat → Bool} {S : Nat → Nat → Bool} (hP : mj_Pln n h c T ca af S)
    (h17 : ∀ p, p < n → T p < 12 ∧ σ.1 17 (σ.1 47 p).toNatClampNeg = nI (T p)) (hsu : ∀ p, p < n → su p = true → 0 < c p → h ≤ T p ∧ ca (T p) p = true)
    (h25 : ∀ p, p < n → mj_dcc σ n p = true → (σ.1 48 p).toNatClampNeg < n ∧ (0 < c (σ.1 48 p).toNatClampNeg → su p = true ∧ 0 < c p ∧ σ.1 25 (σ.1 47 p).toNatClampNeg = nI (c p) ∧ af p (σ.1 48 p).toNatClampNeg)) : ∀ k, mj_DI n h c su S (mj_dl σ n k) := by
  have one : ∀ (f : Nat → Int32), mj_DI n h c su S f → ∀ j, j ≤ n → mj_DI n h c su S (mj_drd σ n f j) := by
    intro f hf j
    induction j with
    | zero => intro _; exact hf
    | succ j ih =>
      intro hj
      exact mj_dst_DI hP (by omega) (h25 j (by omega)) (ih (by omega))
  intro k
  induction k with
  | zero =>
    intro q hq hs hc
    obtain ⟨a1, a2⟩ := hsu q hq hs hc
    obtain ⟨b1, b2⟩ := h17 q hq
    refine ⟨T q, b1, ?_, hP.2.1 q hq a1 b1 a2⟩
    rw [← b2]
    exact mj_dl0_u n (Nat.le_refl _) q hq
  | succ k ih => exact one _ ih n (Nat.le_refl _)
end
