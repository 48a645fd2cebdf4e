section
variable {σ τ μ : mj_St} {D : Nat → Nat → Nat}
/-- from one to the one that it is after, and on (one more than its number; 0: none) -/
def mk_aw (D : Nat → Nat → Nat) : Nat → Nat → Nat
  | 0, a => a
  | k + 1, a => if a = 0 then 0 else mk_aw D k (D 19 (a - 1))
theorem mk_aw_0 : ∀ k, mk_aw D k 0 = 0 := by
  intro k
  cases k with
  | zero => rfl
  | succ k => exact if_pos rfl
theorem mk_aw_s {k a : Nat} (h : a ≠ 0) : mk_aw D (k + 1) a = mk_aw D k (D 19 (a - 1)) := if_neg h
theorem mk_aw_add : ∀ (a b x : Nat), mk_aw D (a + b) x = mk_aw D b (mk_aw D a x) := by
  intro a
  induction a with
  | zero => intro b x; rw [Nat.zero_add]; rfl
  | succ a ih =>
    intro b x
    rw [show a + 1 + b = (a + b) + 1 by omega]
    by_cases c : x = 0
    · rw [c, mk_aw_0, mk_aw_0, mk_aw_0]
    · rw [mk_aw_s c, mk_aw_s c, ih]
theorem mk_aw_le (hk : mj_okD D) : ∀ (k a : Nat), a ≤ D 14 14 → mk_aw D k a ≤ D 14 14 := by
  intro k
  induction k with
  | zero => intro a h; exact h
  | succ k ih =>
    intro a h
    by_cases c : a = 0
    · rw [c, mk_aw_0]; omega
    · rw [mk_aw_s c]
      exact ih _ (hk.2.2.2.2.1 (a - 1) (by omega)).2.2.2.1.1
/-- more places than numbers: two alike -/
theorem mk_php : ∀ (n : Nat) (f : Nat → Nat), (∀ i, i < n + 1 → f i < n) → ∃ a b, a < b ∧ b < n + 1 ∧ f a = f b := by
  intro n
  induction n with
  | zero => intro f h; exact absurd (h 0 (by omega)) (Nat.not_lt_zero _)
  | succ n ih =>
    intro f h
    by_cases c : ∃ a, a < n + 1 ∧ f a = f (n + 1)
    · obtain ⟨a, a1, a2⟩ := c
      exact ⟨a, n + 1, a1, by omega, a2⟩
    · have hl := h (n + 1) (by omega)
      have ne : ∀ a, a < n + 1 → f a ≠ f (n + 1) := fun a ha e => c ⟨a, ha, e⟩
      obtain ⟨a, b, a1, a2, a3⟩ := ih (fun i => if f i < f (n + 1) then f i else f i - 1) (fun i hi => by
        have h1 := h i (by omega)
        have h2 := ne i hi
        show (if f i < f (n + 1) then f i else f i - 1) < n
        split <;> omega)
      refine ⟨a, b, a1, by omega, ?_⟩
      have h1 := ne a (by omega)
      have h2 := ne b (by omega)
      have a3' : (if f a < f (n + 1) then f a else f a - 1) = (if f b < f (n + 1) then f b else f b - 1) := a3
      split at a3' <;> split at a3' <;> omega
theorem mk_aw_short (hk : mj_okD D) {a v : Nat} (ha : a ≤ D 14 14) : ∀ (k : Nat), mk_aw D k a = v + 1 → ∃ k', k' < D 14 14 ∧ mk_aw D k' a = v + 1 := by
  intro k
  induction k using Nat.strongRecOn with
  | _ k ih =>
    intro e
    by_cases c : k < D 14 14
    · exact ⟨k, c, e⟩
    · have nz : ∀ i, i ≤ k → mk_aw D i a ≠ 0 := fun i hi z => by
        have := mk_aw_add (D := D) i (k - i) a
        rw [show i + (k - i) = k by omega, z, mk_aw_0, e] at this
        omega
      obtain ⟨x, y, h1, h2, h3⟩ := mk_php (D 14 14) (fun i => mk_aw D i a - 1) (fun i hi => by
        have h1 := mk_aw_le hk i a ha
        have h2 := nz i (by omega)
        show mk_aw D i a - 1 < D 14 14
        omega)
      have h3' : mk_aw D x a - 1 = mk_aw D y a - 1 := h3
      have n1 := nz x (by omega)
      have n2 := nz y (by omega)
      have exy : mk_aw D x a = mk_aw D y a := by omega
      refine ih (x + (k - y)) (by omega) ?_
      rw [mk_aw_add, exy, ← mk_aw_add, show y + (k - y) = k by omega, e]
theorem mk_oi_lt {a n : Nat} (hn : n < 1000) (ha : a ≤ n) : mj_lt0 (mj_oi a) (nI n) = decide (a ≠ 0) := by
  by_cases c : a = 0
  · rw [c, decide_eq_false (by simp)]
    rfl
  · rw [decide_eq_true c, mj_oi_pos (by omega)]
    exact mj_lt0_nI (by omega) (by omega)
/-- the chain of the class's -/
theorem mk_ch_D {af : Nat → Int32} {b : Nat} (hk : mj_okD D) (haf : ∀ i, i < D 14 14 → af i = mj_oi (D 19 i)) (hb : b < 32) : ∀ (j a : Nat) (acc : Int32), a ≤ D 14 14 → (mj_b (mj_ch af (nI (D 14 14)) j (mj_oi a) acc) b = true ↔ mj_b acc b = true ∨ ∃ k, k < j ∧ mk_aw D k a = b + 1) := by
  have N9 := hk.1
  intro j
  induction j with
  | zero =>
    intro a acc _
    exact ⟨fun z => Or.inl z, fun z => z.elim id (fun ⟨k, h, _⟩ => absurd h (Nat.not_lt_zero k))⟩
  | succ j ih =>
    intro a acc ha
    show mj_b (if mj_lt0 (mj_oi a) (nI (D 14 14)) = true then mj_ch af (nI (D 14 14)) j (af (mj_oi a).toNatClampNeg) (acc ||| 1 <<< (mj_oi a &&& 31)) else acc) b = true ↔ _
    rw [mk_oi_lt (by omega) ha]
    by_cases c : a = 0
    · rw [if_neg (by simp [c])]
      refine ⟨fun z => Or.inl z, fun z => z.elim id (fun ⟨k, _, h⟩ => ?_)⟩
      rw [c, mk_aw_0] at h
      omega
    · rw [if_pos (decide_eq_true c), mj_oi_pos (by omega), nI_clamp (by omega), haf _ (by omega), ih _ _ (hk.2.2.2.2.1 (a - 1) (by omega)).2.2.2.1.1, mj_b_or, mj_b_sh1 (by omega) hb, Bool.or_eq_true, decide_eq_true_eq]
      constructor
      · rintro ((z | z) | ⟨k, k1, k2⟩)
        · exact Or.inl z
        · exact Or.inr ⟨0, by omega, by show a = b + 1; omega⟩
        · exact Or.inr ⟨k + 1, by omega, by rw [mk_aw_s c]; exact k2⟩
      · rintro (z | ⟨k, k1, k2⟩)
        · exact Or.inl (Or.inl z)
        · cases k with
          | zero =>
            have k2' : a = b + 1 := k2
            exact Or.inl (Or.inr (by omega))
          | succ k =>
            rw [mk_aw_s c] at k2
            exact Or.inr ⟨k, by omega, k2⟩
theorem mk_rwk_D {af : Nat → Int32} {i : Nat} (hk : mj_okD D) (haf : ∀ i, i < D 14 14 → af i = mj_oi (D 19 i)) (hi : i < D 14 14) : ∀ (j a : Nat), a ≤ D 14 14 → (mj_rwk af (nI i) j (mj_oi a) = nI i ↔ ∃ k, k ≤ j ∧ mk_aw D k a = i + 1) := by
  have N9 := hk.1
  have e0 : ∀ a, a ≤ D 14 14 → (mj_oi a = nI i ↔ a = i + 1) := fun a ha => by
    by_cases c : a = 0
    · rw [c]
      exact ⟨fun z => absurd z.symm (mj_nI_m1 (by omega)), fun z => by omega⟩
    · rw [mj_oi_pos (by omega), nI_eq (by omega) (by omega)]
      omega
  intro j
  induction j with
  | zero =>
    intro a ha
    show mj_oi a = nI i ↔ _
    rw [e0 a ha]
    exact ⟨fun z => ⟨0, Nat.le_refl _, z⟩, fun ⟨k, k1, k2⟩ => by
      have : k = 0 := by omega
      subst this
      exact k2⟩
  | succ j ih =>
    intro a ha
    show (if mj_oi a = -1 ∨ mj_oi a = nI i then mj_oi a else mj_rwk af (nI i) j (af (mj_oi a).toNatClampNeg)) = nI i ↔ _
    have em : mj_oi a = -1 ↔ a = 0 := by rw [mj_oi_m1 (by omega)]
    by_cases c : a = 0
    · rw [if_pos (Or.inl (em.mpr c)), e0 a ha]
      refine ⟨fun z => by omega, fun ⟨k, _, h⟩ => ?_⟩
      rw [c, mk_aw_0] at h
      omega
    · by_cases c2 : a = i + 1
      · rw [if_pos (Or.inr ((e0 a ha).mpr c2)), e0 a ha]
        exact ⟨fun z => ⟨0, Nat.zero_le _, z⟩, fun _ => c2⟩
      · rw [if_neg (fun z => z.elim (fun y => c (em.mp y)) (fun y => c2 ((e0 a ha).mp y))), mj_oi_pos (by omega), nI_clamp (by omega), haf _ (by omega), ih _ (hk.2.2.2.2.1 (a - 1) (by omega)).2.2.2.1.1]
        constructor
        · rintro ⟨k, k1, k2⟩
          exact ⟨k + 1, by omega, by rw [mk_aw_s c]; exact k2⟩
        · rintro ⟨k, k1, k2⟩
          cases k with
          | zero => exact absurd k2 c2
          | succ k =>
            rw [mk_aw_s c] at k2
            exact ⟨k, by omega, k2⟩
/-- a work that is after itself in the end -/
def mk_rg (D : Nat → Nat → Nat) (i : Nat) : Prop := D 15 i < 5 ∧ ∃ k, mk_aw D k (D 19 i) = i + 1
theorem mk_fbt {p : Nat → Bool} {b n : Nat} (hb : b < 32) (hn : n ≤ 32) : mj_b (mj_it (fun i u => if p i = true then u ||| 1 <<< (nI i &&& 31) else u) 0 n) b = (decide (b < n) && p b) := mj_fb_b (p := p) hb n hn
theorem mk_ring_D {b : Nat} (hD : mj_isD σ D) (hk : mj_okD D) (hb : b < 32) : mj_b (mj_ring σ (D 14 14)) b = true ↔ b < D 14 14 ∧ mk_rg D b := by
  have N9 := hk.1
  unfold mj_ring
  rw [mk_fbt hb (by omega), Bool.and_eq_true, decide_eq_true_eq]
  refine and_congr_right (fun hbN => ?_)
  have k19 := (hk.2.2.2.2.1 b hbN).2.2.2.1.1
  have e19 : ∀ i, i < D 14 14 → σ.1 19 i = mj_oi (D 19 i) := fun i hi => (hD.2.2.2.2.1 i hi).2.2.2.2.1
  unfold mj_ringc mk_rg
  rw [Bool.and_eq_true, Bool.and_eq_true, mj_wk_D hD hk hbN, decide_eq_true_eq, Bool.not_eq_true', decide_eq_false_iff_not, e19 b hbN, hD.1, mk_ch_D hk e19 hb 9 _ 0 k19, mj_b_0, mj_oi_m1 (by omega)]
  refine and_congr_right (fun _ => ?_)
  constructor
  · rintro ⟨-, z | ⟨k, -, h⟩⟩
    · exact absurd z (by decide)
    · exact ⟨k, h⟩
  · rintro ⟨k, h⟩
    refine ⟨fun z => ?_, Or.inr ?_⟩
    · rw [z, mk_aw_0] at h
      omega
    · obtain ⟨k', a, b⟩ := mk_aw_short hk k19 k h
      exact ⟨k', by omega, b⟩
theorem mk_Mring_D {b : Nat} (hM : mk_isM μ D) (hk : mj_okD D) (hb : b < 32) : mj_b (mj_Mring μ (D 14 14) (D 14 14)) b = true ↔ b < D 14 14 ∧ mk_rg D b := by
  have N9 := hk.1
  unfold mj_Mring
  rw [mk_fbt hb (by omega), Bool.and_eq_true, decide_eq_true_eq]
  refine and_congr_right (fun hbN => ?_)
  have k19 := (hk.2.2.2.2.1 b hbN).2.2.2.1.1
  have e19 : ∀ i, i < D 14 14 → μ.1 69 i = mj_oi (D 19 i) := fun i hi => (hM.2.2.2.1 i hi).2.2.2.2.1
  unfold mj_Mrg mk_rg
  rw [Bool.and_eq_true, decide_eq_true_eq, decide_eq_true_eq, (mk_wk_M hM hk hbN).1, Classical.not_not, e19 b hbN, mk_rwk_D hk e19 hbN _ _ k19]
  refine and_congr_right (fun _ => ?_)
  constructor
  · rintro ⟨k, -, h⟩
    exact ⟨k, h⟩
  · rintro ⟨k, h⟩
    obtain ⟨k', a, b⟩ := mk_aw_short hk k19 k h
    exact ⟨k', by omega, b⟩
theorem mk_ring_eq (hD : mj_isD σ D) (hM : mk_isM μ D) (hk : mj_okD D) : mj_Mring μ (D 14 14) (D 14 14) = mj_ring σ (D 14 14) := by
  apply mj_b_ext
  intro b hb
  rw [Bool.eq_iff_iff, mk_ring_D hD hk hb, mk_Mring_D hM hk hb]
theorem mk_isM_o (h : ∀ c, 62 < c → c < 78 → τ.1 c = σ.1 c) (h0 : τ.1 61 0 = σ.1 61 0) (h1 : τ.1 61 1 = σ.1 61 1) (h2 : τ.1 61 2 = σ.1 61 2) (hM : mk_isM σ D) : mk_isM τ D := by
  unfold mk_isM at hM ⊢
  rw [h 63 (by decide) (by decide), h 64 (by decide) (by decide), h 65 (by decide) (by decide), h 66 (by decide) (by decide), h 67 (by decide) (by decide), h 68 (by decide) (by decide), h 69 (by decide) (by decide), h 70 (by decide) (by decide), h 71 (by decide) (by decide), h 74 (by decide) (by decide), h 75 (by decide) (by decide), h 76 (by decide) (by decide), h 77 (by decide) (by decide), h0, h1, h2]
  exact hM
theorem mk_cnS_M {N : Nat} (hM : mk_isM σ D) : mk_isM (mj_cnS σ N) D := mk_isM_o (fun c a b => mj_cnS_o (by omega) (by omega)) mj_cnS_0 rfl rfl hM
theorem mk_cnS_46 {N : Nat} : (mj_cnS σ N).1 61 46 = mj_Mring σ N N := rfl
/-- none of the set is lost -/
theorem mk_Mls_D {mt : Int32} (hM : mk_isM μ D) (hk : mj_okD D) : mj_Mls μ mt (D 14 14) = false ↔ mj_nl D (mj_b mt) := by
  unfold mj_Mls mj_nl
  have e77 : ∀ i, i < D 14 14 → (μ.1 77 i = 1 ↔ (D 14 16).testBit i = true) := fun i hi => by
    rw [(hM.2.2.2.1 i hi).2.2.2.2.2.2.2.2.2.1]
    by_cases c : (D 14 16).testBit i = true
    · rw [if_pos c]
      exact ⟨fun _ => c, fun _ => rfl⟩
    · rw [if_neg c]
      exact ⟨fun z => absurd z (by decide), fun z => absurd z c⟩
  constructor
  · intro h i hi hm
    cases z : (D 14 16).testBit i
    · rfl
    · have : mj_anyF (fun i => mj_b mt i && decide (μ.1 77 i = 1)) 0 (D 14 14) = true := (mj_anyF_iff _ _).mpr ⟨i, Nat.zero_le _, by omega, by rw [hm, Bool.true_and]; exact decide_eq_true ((e77 i hi).mpr z)⟩
      rw [this] at h
      exact absurd h (by decide)
  · intro h
    cases z : mj_anyF (fun i => mj_b mt i && decide (μ.1 77 i = 1)) 0 (D 14 14)
    · rfl
    · obtain ⟨i, -, hi, hb⟩ := (mj_anyF_iff _ _).mp z
      rw [Bool.and_eq_true, decide_eq_true_eq] at hb
      have hi' : i < D 14 14 := by omega
      have := (e77 i hi').mp hb.2
      rw [h i hi' hb.1] at this
      exact absurd this (by decide)
theorem mk_lvn_L {mt : Nat → Bool} (hM : mk_isM μ D) (hk : mj_okD D) (hl : mj_nl D mt) : mk_Lx D mt (mj_lvn μ) (D 25) := fun i hi _ hm => by
  obtain ⟨-, -, -, -, -, -, -, -, e76, e77, -⟩ := hM.2.2.2.1 i hi
  have k25 := (hk.2.2.2.2.1 i hi).2.2.2.2.2.2.1
  unfold mj_lvn
  rw [e77, hl i hi hm]
  exact ⟨e76, k25.2⟩
/-- whether all of a set can be kept, by the reference: told of the deal -/
theorem mk_Mkept_D {mt : Int32} {o g : Nat} (hM : mk_isM μ D) (hk : mj_okD D) (ho : o < 8) : mj_Mkept μ (nI o) mt (D 14 14) (D 14 17) = true ↔ mj_nl D (mj_b mt) ∧ mj_DW D (mj_b mt) (mj_b (mj_Mring μ (D 14 14) (D 14 14))) 1 o mj_Qno (12 - D 14 17) g (D 25) := by
  unfold mj_Mkept
  rw [Bool.and_eq_true, Bool.not_eq_true', mk_Mls_D hM hk]
  refine and_congr_right (fun hl => ?_)
  have := mk_Kp_D (o := o) (mt := mt) (mk_cnS_M (N := D 14 14) hM) hk ho (12 - D 14 17) g (mj_lvn μ) (D 25) (by omega) (mk_lvn_L hM hk hl)
  rw [mk_cnS_46] at this
  exact this
end
