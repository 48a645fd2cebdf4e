section
/-! counting -/
def mj_sgm (f : Nat → Nat) : Nat → Nat
  | 0 => 0
  | n + 1 => mj_sgm f n + f n
theorem mj_sgm_congr {f g : Nat → Nat} : ∀ n, (∀ i, i < n → f i = g i) → mj_sgm f n = mj_sgm g n := by
  intro n
  induction n with
  | zero => intro _; rfl
  | succ n ih =>
    intro h
    simp only [mj_sgm]
    rw [ih (fun i q => h i (by omega)), h n (by omega)]
theorem mj_sgm_le {f g : Nat → Nat} : ∀ n, (∀ i, i < n → f i ≤ g i) → mj_sgm f n ≤ mj_sgm g n := by
  intro n
  induction n with
  | zero => intro _; exact Nat.le_refl _
  | succ n ih =>
    intro h
    simp only [mj_sgm]
    have h1 := ih (fun i q => h i (by omega))
    have h2 := h n (by omega)
    omega
theorem mj_sgm_0 {f : Nat → Nat} : ∀ n, (∀ i, i < n → f i = 0) → mj_sgm f n = 0 := by
  intro n
  induction n with
  | zero => intro _; rfl
  | succ n ih =>
    intro h
    simp only [mj_sgm]
    rw [ih (fun i q => h i (by omega)), h n (by omega)]
theorem mj_sgm_add {f g : Nat → Nat} : ∀ n, mj_sgm (fun i => f i + g i) n = mj_sgm f n + mj_sgm g n := by
  intro n
  induction n with
  | zero => rfl
  | succ n ih =>
    simp only [mj_sgm]
    omega
theorem mj_sgm_swap {f : Nat → Nat → Nat} {m : Nat} : ∀ n, mj_sgm (fun i => mj_sgm (f i) m) n = mj_sgm (fun j => mj_sgm (fun i => f i j) n) m := by
  intro n
  induction n with
  | zero =>
    simp only [mj_sgm]
    exact (mj_sgm_0 m (fun _ _ => rfl)).symm
  | succ n ih =>
    simp only [mj_sgm]
    rw [ih, ← mj_sgm_add]
theorem mj_sgm_mono {f : Nat → Nat} {a : Nat} : ∀ j, mj_sgm f a ≤ mj_sgm f (a + j) := by
  intro j
  induction j with
  | zero => exact Nat.le_refl _
  | succ j ih =>
    show mj_sgm f a ≤ mj_sgm f (a + j) + f (a + j)
    omega
theorem mj_sgm_mono' {f : Nat → Nat} {a b : Nat} (h : a ≤ b) : mj_sgm f a ≤ mj_sgm f b := by
  have := mj_sgm_mono (f := f) (a := a) (b - a)
  rw [Nat.add_sub_cancel' h] at this
  exact this
/-- one place more -/
theorem mj_sgm_put {f : Nat → Nat} {p v : Nat} (hz : f p = 0) : ∀ n, p < n → mj_sgm (fun i => if i = p then v else f i) n = mj_sgm f n + v := by
  intro n
  induction n with
  | zero => intro h; exact absurd h (by omega)
  | succ n ih =>
    intro h
    simp only [mj_sgm]
    by_cases c : n = p
    · subst c
      rw [if_pos rfl, hz]
      have : mj_sgm (fun i => if i = n then v else f i) n = mj_sgm f n := mj_sgm_congr n (fun i q => if_neg (by omega))
      omega
    · rw [if_neg c, ih (by omega)]
      omega
/-- how often between two hours -/
def mj_ct (P : Nat → Bool) (a b : Nat) : Nat := mj_sgm (fun t => if a ≤ t ∧ P t = true then 1 else 0) b
theorem mj_ct_s {P : Nat → Bool} {a b : Nat} : mj_ct P a (b + 1) = mj_ct P a b + if a ≤ b ∧ P b = true then 1 else 0 := rfl
theorem mj_ct_0 {P : Nat → Bool} {a b : Nat} (h : b ≤ a) : mj_ct P a b = 0 := mj_sgm_0 b (fun t q => if_neg (fun z => absurd z.1 (by omega)))
theorem mj_ct_mono {P : Nat → Bool} {a b c : Nat} (h : b ≤ c) : mj_ct P a b ≤ mj_ct P a c := mj_sgm_mono' h
theorem mj_ct_len {P : Nat → Bool} {a : Nat} : ∀ b, mj_ct P a b ≤ b - a := by
  intro b
  induction b with
  | zero => exact Nat.zero_le _
  | succ b ih =>
    rw [mj_ct_s]
    by_cases c : a ≤ b ∧ P b = true
    · rw [if_pos c]
      have := c.1
      omega
    · rw [if_neg c]
      omega
theorem mj_ct_dif {P : Nat → Bool} {a b : Nat} : ∀ j, mj_ct P a (b + j) ≤ mj_ct P a b + j := by
  intro j
  induction j with
  | zero => exact Nat.le_refl _
  | succ j ih =>
    rw [← Nat.add_assoc, mj_ct_s]
    by_cases c : a ≤ b + j ∧ P (b + j) = true
    · rw [if_pos c]; omega
    · rw [if_neg c]; omega
/-- the first hour apart -/
theorem mj_ct_hd {P P' : Nat → Bool} {h : Nat} (e : ∀ t, h < t → P' t = P t) : ∀ b, h < b → mj_ct P h b = (if P h = true then 1 else 0) + mj_ct P' (h + 1) b := by
  intro b
  induction b with
  | zero => intro q; exact absurd q (by omega)
  | succ b ih =>
    intro q
    rw [mj_ct_s, mj_ct_s]
    by_cases c : h < b
    · have e1 : (if h ≤ b ∧ P b = true then 1 else 0) = (if P b = true then (1 : Nat) else 0) := by simp [show h ≤ b by omega]
      have e2 : (if h + 1 ≤ b ∧ P b = true then 1 else 0) = (if P b = true then (1 : Nat) else 0) := by simp [show h + 1 ≤ b by omega]
      rw [ih c, e b c, e1, e2]
      omega
    · have eb : b = h := by omega
      subst eb
      rw [mj_ct_0 (Nat.le_refl _), mj_ct_0 (show b ≤ b + 1 by omega)]
      simp
      intro z
      omega
/-- if it is done at all by then, a first time is -/
theorem mj_ct_first {P : Nat → Bool} {a : Nat} : ∀ b, 0 < mj_ct P a b → ∃ t, a ≤ t ∧ t < b ∧ P t = true ∧ mj_ct P a t = 0 := by
  intro b
  induction b with
  | zero => intro h; exact absurd h (Nat.lt_irrefl 0)
  | succ b ih =>
    intro h
    by_cases c : 0 < mj_ct P a b
    · obtain ⟨t, h1, h2, h3, h4⟩ := ih c
      exact ⟨t, h1, by omega, h3, h4⟩
    · rw [mj_ct_s] at h
      by_cases c2 : a ≤ b ∧ P b = true
      · exact ⟨b, c2.1, by omega, c2.2, by omega⟩
      · rw [if_neg c2] at h
        omega
/-! a plan of hours: what is done in each -/
def mj_Pln (n h : Nat) (c T : Nat → Nat) (ca : Nat → Nat → Bool) (af : Nat → Nat → Prop) (S : Nat → Nat → Bool) : Prop :=
  (∀ t p, h ≤ t → t < 12 → p < n → S t p = true → mj_ct (fun u => S u p) h t < c p) ∧
  (∀ p, p < n → h ≤ T p → T p < 12 → ca (T p) p = true → mj_ct (fun u => S u p) h (T p + 1) = c p) ∧
  (∀ t p q, h ≤ t → t < 12 → p < n → q < n → S t p = true → af p q → mj_ct (fun u => S u q) h t = c q)
/-- never more than there is to do -/
theorem mj_Pln_le {n h p : Nat} {c T : Nat → Nat} {ca : Nat → Nat → Bool} {af : Nat → Nat → Prop} {S : Nat → Nat → Bool} (hP : mj_Pln n h c T ca af S) (hp : p < n) : ∀ t, t ≤ 12 → mj_ct (fun u => S u p) h t ≤ c p := by
  intro t
  induction t with
  | zero => intro _; exact Nat.zero_le _
  | succ t ih =>
    intro ht
    rw [mj_ct_s]
    by_cases q : h ≤ t ∧ S t p = true
    · rw [if_pos q]
      have := hP.1 t p q.1 (by omega) hp q.2
      omega
    · rw [if_neg q]
      have := ih (by omega)
      omega
/-- what another is after is done in time -/
theorem mj_Pln_af {n h p q : Nat} {c T : Nat → Nat} {ca : Nat → Nat → Bool} {af : Nat → Nat → Prop} {S : Nat → Nat → Bool} {d : Nat} (hP : mj_Pln n h c T ca af S) (hp : p < n) (hq : q < n) (ha : af p q) (hc : 0 < c p) (hcq : 0 < c q) (hd : d < 12) (hd' : mj_ct (fun u => S u p) h (d + 1) = c p) : h + c p ≤ d ∧ mj_ct (fun u => S u q) h (d - c p + 1) = c q := by
  obtain ⟨t, h1, h2, h3, h4⟩ := mj_ct_first (P := fun u => S u p) (a := h) (d + 1) (by omega)
  have h5 := hP.2.2 t p q h1 (by omega) hp hq h3 ha
  have h6 := mj_ct_dif (P := fun u => S u p) (a := h) (b := t) (d + 1 - t)
  rw [show t + (d + 1 - t) = d + 1 by omega, hd', h4] at h6
  have h7 := mj_ct_len (P := fun u => S u q) (a := h) t
  have h8 := mj_ct_mono (P := fun u => S u q) (a := h) (show t ≤ d - c p + 1 by omega)
  have h9 := mj_Pln_le hP hq (d - c p + 1) (by omega)
  exact ⟨by omega, by omega⟩
/-- one plan and an hour ahead of it -/
theorem mj_Pln_cons {n h : Nat} {c c' T : Nat → Nat} {ca : Nat → Nat → Bool} {af : Nat → Nat → Prop} {S : Nat → Nat → Bool} {A : Nat → Bool} (hh : h < 12) (hP : mj_Pln n (h + 1) c' T ca af S) (hc : ∀ p, p < n → c p = c' p + if A p = true then 1 else 0)
    (hT : ∀ p, p < n → T p = h → ca h p = true → c' p = 0) (ha : ∀ p q, p < n → q < n → A p = true → af p q → c q = 0) : mj_Pln n h c T ca af (fun t p => if t = h then A p else S t p) := by
  have e : ∀ p, p < n → ∀ b, h < b → mj_ct (fun u => if u = h then A p else S u p) h b = (if A p = true then 1 else 0) + mj_ct (fun u => S u p) (h + 1) b := by
    intro p _ b hb
    have := mj_ct_hd (P := fun u => if u = h then A p else S u p) (P' := fun u => S u p) (h := h) (fun t q => by
      show S t p = if t = h then A p else S t p
      rw [if_neg (by omega)]) b hb
    simp only [if_true] at this
    exact this
  refine ⟨fun t p h1 h2 h3 h4 => ?_, fun p h1 h2 h3 h4 => ?_, fun t p q h1 h2 h3 h4 h5 h6 => ?_⟩
  · have hcp := hc p h3
    replace h4 : (if t = h then A p else S t p) = true := h4
    show mj_ct (fun u => if u = h then A p else S u p) h t < c p
    by_cases ct : t = h
    · subst ct
      rw [if_pos rfl] at h4
      rw [mj_ct_0 (Nat.le_refl _), hcp, if_pos h4]
      omega
    · rw [if_neg ct] at h4
      have h7 := hP.1 t p (by omega) h2 h3 h4
      rw [e p h3 t (by omega)]
      omega
  · have hcp := hc p h1
    show mj_ct (fun u => if u = h then A p else S u p) h (T p + 1) = c p
    rw [e p h1 _ (by omega)]
    by_cases ct : T p = h
    · have h5 := hT p h1 ct (by rw [← ct]; exact h4)
      rw [ct, mj_ct_0 (Nat.le_refl _)]
      omega
    · have h5 := hP.2.1 p h1 (by omega) h3 h4
      omega
  · have hcq := hc q h4
    replace h5 : (if t = h then A p else S t p) = true := h5
    show mj_ct (fun u => if u = h then A q else S u q) h t = c q
    by_cases ct : t = h
    · subst ct
      rw [if_pos rfl] at h5
      rw [mj_ct_0 (Nat.le_refl _), ha p q h3 h4 h5 h6]
    · rw [if_neg ct] at h5
      have h7 := hP.2.2 t p q (by omega) h2 h3 h4 h5 h6
      rw [e q h4 t (by omega)]
      omega
end
