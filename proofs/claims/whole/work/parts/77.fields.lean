section
variable {X : mj_X} {d : Nat} {σ τ ρ : mj_St}
theorem mj_inb_of {v hi : Int32} {k : Nat} (h1 : ¬ v < 0) (h2 : ¬ hi < v) (hk : hi.toInt + 1 = (k : Int)) : mj_inb v k = true := by
  rw [mj_in_iff]
  intro q
  rcases q with q | q
  · exact h1 q
  · apply h2
    have := mj_clamp h1
    rw [Int32.lt_iff_toInt_lt]
    omega
theorem mj_nI_of {v : Int32} {k : Nat} (h : mj_inb v k = true) (hk : k < 2147483648) : ∃ n, n < k ∧ v = nI n := ⟨_, mj_in_lt h, mj_in_eq h hk⟩
theorem mj_digit_nI {x : Int32} (h1 : ¬ x < 48) (h2 : ¬ 57 < x) : ∃ n, n < 10 ∧ x - 48 = nI n := by
  have h0 : ¬ x < 0 := by
    intro q
    apply h1
    rw [Int32.lt_iff_toInt_lt] at q ⊢
    have e0 : (0 : Int32).toInt = 0 := by decide
    have e4 : (48 : Int32).toInt = 48 := by decide
    omega
  obtain ⟨n, hn, e⟩ := mj_nI_of (mj_inb_of (k := 58) h0 h2 (by decide)) (by decide)
  subst e
  have h48 : 48 ≤ n := by
    apply Classical.byContradiction
    intro q
    exact h1 (nI_lt (b := 48) (by omega) (by decide))
  refine ⟨n - 48, by omega, ?_⟩
  show nI n - nI 48 = nI (n - 48)
  exact mj_nI_sub h48
theorem mj_dig_nI {L : Nat → Int32} {e a : Nat} (h : mj_dig L e a = true) : ∃ n, n < 10 ∧ L a - 48 = nI n := by
  unfold mj_dig at h
  simp only [Bool.and_eq_true, decide_eq_true_eq] at h
  exact mj_digit_nI h.2.1 h.2.2
theorem mj_gw_in {L : Nat → Int32} {e a : Nat} {lo hi : Int32} {w : List Int32} (h : (mj_gw L e w lo hi a).1 = true) : ∃ n, n < 10 ∧ (mj_gw L e w lo hi a).2.2 = nI n ∧ ¬ nI n < lo ∧ ¬ hi < nI n := by
  unfold mj_gw at h ⊢
  simp only [Bool.and_eq_true] at h
  have h2 := h.2
  unfold mj_dg at h2
  simp only [Bool.and_eq_true, decide_eq_true_eq] at h2
  obtain ⟨n, hn, e1⟩ := mj_dig_nI h2.1
  refine ⟨n, hn, e1, ?_, ?_⟩
  · rw [← e1]; exact h2.2.1
  · rw [← e1]; exact h2.2.2
theorem mj_ds_in {L : Nat → Int32} {e a : Nat} (h : mj_dig L e a = true) : ∃ n, n < 100 ∧ (mj_ds L e a).2 = nI n := by
  obtain ⟨n, hn, e1⟩ := mj_dig_nI h
  unfold mj_ds
  by_cases c : mj_dig L e (a + 1) = true
  · rw [if_pos c]
    obtain ⟨m, hm, e2⟩ := mj_dig_nI c
    refine ⟨10 * n + m, by omega, ?_⟩
    show 10 * (L a - 48) + L (a + 1) - 48 = nI (10 * n + m)
    have e3 : 10 * (L a - 48) + L (a + 1) - 48 = 10 * (L a - 48) + (L (a + 1) - 48) := by grind
    rw [e3, e1, e2]
    show nI 10 * nI n + nI m = nI (10 * n + m)
    rw [mj_nI_mul, nI_add]
  · rw [if_neg c]
    exact ⟨n, by omega, e1⟩
theorem mj_gw2_in {L : Nat → Int32} {e a : Nat} {hi : Int32} {w : List Int32} (h : (mj_gw2 L e w hi a).1 = true) : ∃ n, n < 100 ∧ (mj_gw2 L e w hi a).2.2 = nI n ∧ ¬ hi < nI n := by
  unfold mj_gw2 at h ⊢
  simp only [Bool.and_eq_true] at h
  have h2 := h.2
  unfold mj_dsok at h2
  simp only [Bool.and_eq_true, decide_eq_true_eq] at h2
  obtain ⟨n, hn, e1⟩ := mj_ds_in h2.1
  refine ⟨n, hn, e1, ?_⟩
  rw [← e1]
  exact h2.2
/-- what the fields of a text that stands keep -/
def mj_Fok (wk : Int32 → Bool) (f : Nat → Int32) : Prop :=
  (∃ k, 1 ≤ k ∧ k ≤ 6 ∧ f 33 = nI k) ∧ mj_inb (f 34) 12 = true ∧ mj_inb (f 35) 12 = true ∧ ¬ f 35 < f 34 ∧ (f 36 = -1 ∨ mj_inb (f 36) 4 = true) ∧ (f 33 = 5 → mj_inb (f 36) 4 = true) ∧ (f 37 = -1 ∨ wk (f 37) = true) ∧ (f 38 = -1 ∨ mj_inb (f 38) 3 = true) ∧ (f 39 = 0 ∨ f 39 = 1) ∧ mj_inb (f 40) 100 = true ∧ mj_inb (f 41) 6 = true ∧ (∃ n, n ≤ 3 ∧ f 42 = nI n ∧ (f 33 < 5 → 1 ≤ n)) ∧ (∃ n, 1 ≤ n ∧ n ≤ 6 ∧ f 43 = nI n) ∧ (f 33 = 3 → f 42 = (f 35 - f 34) / f 43 + 1) ∧ (¬ f 33 < 5 → f 42 = 0) ∧ (f 33 < 5 → ¬ f 33 = 3 → ¬ f 35 - f 34 + 1 < f 42) ∧ (¬ f 33 = 3 → f 43 = 1) ∧ (¬ f 33 < 5 → f 37 = -1) ∧ (f 33 = 6 → f 36 = -1) ∧ (f 38 = -1 → f 39 = 0)
theorem mj_hd_in {L : Nat → Int32} {e : Nat} (h : (mj_hd L e).1 = true) : ∃ k n, 1 ≤ k ∧ k ≤ 6 ∧ n ≤ 6 ∧ (mj_hd L e).2.2.1 = nI k ∧ (mj_hd L e).2.2.2 = nI n ∧ (k < 5 → 1 ≤ n) ∧ (k < 5 → k ≠ 3 → n ≤ 3) ∧ (k = 5 → n ≤ 3) := by
  have key : ∀ (w : List Int32) (a : Nat), (mj_gw L e w 1 3 a).1 = true → ∃ n, 1 ≤ n ∧ n ≤ 3 ∧ (mj_gw L e w 1 3 a).2.2 = nI n := by
    intro w a q
    obtain ⟨n, hn, e1, l1, l2⟩ := mj_gw_in q
    refine ⟨n, ?_, ?_, e1⟩
    · apply Classical.byContradiction
      intro z
      exact l1 (nI_lt (b := 1) (by omega) (by decide))
    · apply Classical.byContradiction
      intro z
      exact l2 (nI_lt (a := 3) (by omega) (by omega))
  unfold mj_hd at h ⊢
  split at h
  · rename_i c
    rw [if_pos c]
    obtain ⟨n, n1, n3, e1⟩ := key _ _ h
    exact ⟨1, n, by omega, by omega, by omega, rfl, e1, fun _ => n1, fun _ _ => n3, fun _ => n3⟩
  · rename_i c
    rw [if_neg c]
    split at h
    · rename_i c
      rw [if_pos c]
      obtain ⟨n, n1, n3, e1⟩ := key _ _ h
      exact ⟨2, n, by omega, by omega, by omega, rfl, e1, fun _ => n1, fun _ _ => n3, fun _ => n3⟩
    · rename_i c
      rw [if_neg c]
      split at h
      · rename_i c
        rw [if_pos c]
        obtain ⟨n, n1, n3, e1⟩ := key _ _ h
        exact ⟨4, n, by omega, by omega, by omega, rfl, e1, fun _ => n1, fun _ _ => n3, fun _ => n3⟩
      · rename_i c
        rw [if_neg c]
        split at h
        · rename_i c
          rw [if_pos c]
          obtain ⟨n, hn, e1, l1, l2⟩ := mj_gw_in h
          have n1 : 1 ≤ n := by
            apply Classical.byContradiction
            intro z
            exact l1 (nI_lt (b := 1) (by omega) (by decide))
          have n6 : n ≤ 6 := by
            apply Classical.byContradiction
            intro z
            exact l2 (nI_lt (a := 6) (by omega) (by omega))
          exact ⟨3, n, by omega, by omega, n6, rfl, e1, fun _ => n1, fun _ z => absurd rfl z, fun z => absurd z (by decide)⟩
        · rename_i c
          rw [if_neg c]
          split at h
          · rename_i c
            rw [if_pos c]
            obtain ⟨n, hn, e1, l1, l2⟩ := mj_gw_in h
            have n3 : n ≤ 3 := by
              apply Classical.byContradiction
              intro z
              exact l2 (nI_lt (a := 3) (by omega) (by omega))
            exact ⟨5, n, by omega, by omega, by omega, rfl, e1, fun z => absurd z (by decide), fun z => absurd z (by decide), fun _ => n3⟩
          · rename_i c
            rw [if_neg c]
            split at h
            · rename_i c
              rw [if_pos c]
              exact ⟨6, 0, by omega, by omega, by omega, rfl, rfl, fun z => absurd z (by decide), fun z => absurd z (by decide), fun z => absurd z (by decide)⟩
            · exact absurd h mj_ft
theorem mj_sp_in {L : Nat → Int32} {e a : Nat} {kd nb : Int32} (h : (mj_sp L e kd nb a).1 = true) : ∃ n m, n ≤ m ∧ m < 12 ∧ (mj_sp L e kd nb a).2.2.1 = nI n ∧ (mj_sp L e kd nb a).2.2.2 = nI m ∧ (kd = 3 → ¬ 3 < mj_lasts kd nb (nI n) (nI m)) ∧ (¬ kd = 3 → kd < 5 → ¬ nI m - nI n + 1 < nb) := by
  unfold mj_sp at h ⊢
  split at h
  · rename_i c1
    rw [if_pos c1]
    split at h
    · rename_i c2
      rw [if_pos c2]
      obtain ⟨n, n1, e1, l1⟩ := mj_gw2_in c1
      obtain ⟨m, m1, e2, l2⟩ := mj_gw2_in c2
      dsimp only at h ⊢
      rw [e1, e2] at h ⊢
      by_cases c3 : ¬ nI m < nI n ∧ (if kd = 3 then ¬ 3 < mj_lasts kd nb (nI n) (nI m) else if kd < 5 then ¬ nI m - nI n + 1 < nb else True)
      · rw [if_pos c3]
        refine ⟨n, m, ?_, ?_, rfl, rfl, fun k => ?_, fun k k5 => ?_⟩
        · apply Classical.byContradiction
          intro z
          exact c3.1 (nI_lt (by omega) (by omega))
        · apply Classical.byContradiction
          intro z
          exact l2 (nI_lt (a := 11) (by omega) (by omega))
        · have := c3.2
          rw [if_pos k] at this
          exact this
        · have := c3.2
          rw [if_neg k, if_pos k5] at this
          exact this
      · rw [if_neg c3] at h
        exact absurd h mj_ft
    · exact absurd h mj_ft
  · exact absurd h mj_ft
theorem mj_f0_ok {wk : Int32 → Bool} {L : Nat → Int32} {e a : Nat} (h : (mj_hd L e).1 = true) (h2 : (mj_sp L e (mj_hd L e).2.2.1 (mj_hd L e).2.2.2 a).1 = true) : mj_Fok wk (mj_f0 (mj_hd L e).2.2.1 (mj_hd L e).2.2.2 (mj_sp L e (mj_hd L e).2.2.1 (mj_hd L e).2.2.2 a).2.2.1 (mj_sp L e (mj_hd L e).2.2.1 (mj_hd L e).2.2.2 a).2.2.2) := by
  obtain ⟨k, nb, k1, k6, nb6, ek, en, q1, q2, q3⟩ := mj_hd_in h
  rw [ek, en] at h2 ⊢
  obtain ⟨n, m, nm, m12, e1, e2, l1, l2⟩ := mj_sp_in h2
  rw [e1, e2]
  clear e1 e2 h2 ek en h
  have x3 : (nI k = 3) = (k = 3) := propext (nI_eq (b := 3) (by omega) (by decide))
  have x5 : (nI k = 5) = (k = 5) := propext (nI_eq (b := 5) (by omega) (by decide))
  have x6 : (nI k = 6) = (k = 6) := propext (nI_eq (b := 6) (by omega) (by decide))
  have xl : (nI k < 5) = (k < 5) := by
    apply propext
    constructor
    · intro z
      apply Classical.byContradiction
      intro y
      exact nI_nlt (b := 5) (Nat.le_of_not_lt y) (by omega) z
    · intro z
      exact nI_lt (b := 5) z (by decide)
  have f42 : mj_f0 (nI k) (nI nb) (nI n) (nI m) 42 = mj_lasts (nI k) (nI nb) (nI n) (nI m) := rfl
  have f43 : mj_f0 (nI k) (nI nb) (nI n) (nI m) 43 = if nI k = 3 then nI nb else 1 := rfl
  have f36 : mj_f0 (nI k) (nI nb) (nI n) (nI m) 36 = if nI k = 5 then nI nb else -1 := rfl
  have f33 : mj_f0 (nI k) (nI nb) (nI n) (nI m) 33 = nI k := rfl
  have f34 : mj_f0 (nI k) (nI nb) (nI n) (nI m) 34 = nI n := rfl
  have f35 : mj_f0 (nI k) (nI nb) (nI n) (nI m) 35 = nI m := rfl
  have hlen : ∃ j, j ≤ 3 ∧ mj_lasts (nI k) (nI nb) (nI n) (nI m) = nI j ∧ (k < 5 → 1 ≤ j) := by
    unfold mj_lasts at l1 ⊢
    simp only [x3, xl] at l1 ⊢
    by_cases c3 : k = 3
    · rw [if_pos c3] at l1
      rw [if_pos c3]
      have hnb1 : 1 ≤ nb := q1 (by omega)
      have ej : (nI m - nI n) / nI nb + 1 = nI ((m - n) / nb + 1) := by
        rw [mj_nI_sub nm, mj_nI_div (by omega) (by omega), nI_1]
      rw [ej] at l1 ⊢
      have hle : (m - n) / nb ≤ m - n := Nat.div_le_self _ _
      generalize (m - n) / nb = qq at *
      refine ⟨qq + 1, ?_, rfl, fun _ => by omega⟩
      apply Classical.byContradiction
      intro z
      exact l1 c3 (nI_lt (a := 3) (by omega) (by omega))
    · rw [if_neg c3]
      by_cases c5 : k < 5
      · rw [if_pos c5]
        exact ⟨nb, q2 c5 c3, rfl, fun _ => q1 c5⟩
      · rw [if_neg c5]
        exact ⟨0, by omega, rfl, fun z => absurd z c5⟩
  refine ⟨⟨k, k1, k6, rfl⟩, mj_in_nI (by omega) (by decide), mj_in_nI m12 (by decide), nI_nlt nm (by omega), ?_, ?_, Or.inl rfl, Or.inl rfl, Or.inl rfl, (show mj_inb 0 100 = true by decide), (show mj_inb 0 6 = true by decide), ?_, ?_, ?_, ?_, ?_, ?_, fun _ => rfl, ?_, fun _ => rfl⟩
  · rw [f36]
    simp only [x5]
    by_cases c : k = 5
    · rw [if_pos c]
      exact Or.inr (mj_in_nI (by have := q3 c; omega) (by decide))
    · rw [if_neg c]
      exact Or.inl rfl
  · rw [f36, f33]
    simp only [x5]
    intro c
    rw [if_pos c]
    exact mj_in_nI (by have := q3 c; omega) (by decide)
  · rw [f42, f33, xl]
    exact hlen
  · rw [f43]
    simp only [x3]
    by_cases c : k = 3
    · rw [if_pos c]
      exact ⟨nb, q1 (by omega), nb6, rfl⟩
    · rw [if_neg c]
      exact ⟨1, by omega, by omega, rfl⟩
  · rw [f33, f42, f43, f34, f35]
    intro c
    unfold mj_lasts
    rw [if_pos c, if_pos c]
  · rw [f33, f42]
    intro c
    unfold mj_lasts
    rw [if_neg (fun z => c (by rw [z]; decide)), if_neg c]
  · rw [f33, f42, f34, f35]
    intro c c3
    unfold mj_lasts
    rw [if_neg c3, if_pos c]
    exact l2 c3 c
  · rw [f33, f43]
    intro c
    rw [if_neg c]
  · rw [f33, f36]
    simp only [x6, x5]
    intro c
    rw [if_neg (by omega)]
theorem mj_ext_fok {L : Nat → Int32} {e a st : Nat} {wk : Int32 → Bool} {f : Nat → Int32} (h : (mj_ext L e wk a st f).1 = true) (hf : mj_Fok wk f) : mj_Fok wk (mj_ext L e wk a st f).2.2.2 := by
  obtain ⟨a1, a2, a3, a4, a5, a6, a7, a8, a9, b1, b2, b3, b4, b5, b6, b7, b8, b9, c1, c2⟩ := hf
  have up : ∀ {n : Nat} {hi : Int32} {k : Nat}, ¬ hi < nI n → n < 100 → hi.toInt + 1 = (k : Int) → mj_inb (nI n) k = true := by
    intro n hi k q hn hk
    exact mj_inb_of (nI_nlt (b := 0) (Nat.zero_le _) (by omega)) q hk
  unfold mj_ext at h ⊢
  split at h
  · rename_i c
    rw [if_pos c]
    split at h
    · rename_i q1
      rw [if_pos q1]
      obtain ⟨n, hn, e1, l1, l2⟩ := mj_gw_in h
      have hv : mj_inb (nI n) 4 = true := up l2 (by omega) (by decide)
      rw [← e1] at hv
      refine ⟨a1, a2, a3, a4, Or.inr hv, fun _ => hv, a7, a8, a9, b1, b2, b3, b4, b5, b6, b7, b8, b9, fun z => ?_, c2⟩
      have z' : f 33 = 6 := z
      have := q1.2.2.2
      rw [z'] at this
      exact absurd this (by decide)
    · rename_i q1
      rw [if_neg q1]
      split at h
      · rename_i q2
        rw [if_pos q2]
        split at h
        · rename_i q3
          rw [if_pos q3]
          split at h
          · rename_i q4
            rw [if_pos q4]
            refine ⟨a1, a2, a3, a4, a5, a6, Or.inr q4, a8, a9, b1, b2, b3, b4, b5, b6, b7, b8, fun z => ?_, c1, c2⟩
            exact absurd q2.2.2.2 z
          · exact absurd h mj_ft
        · exact absurd h mj_ft
      · rename_i q2
        rw [if_neg q2]
        split at h
        · rename_i q3
          rw [if_pos q3]
          split at h
          · rename_i q4
            rw [if_pos q4]
            obtain ⟨n, hn, e1, l1, l2⟩ := mj_gw_in q4
            obtain ⟨m, hm, e2, l3, l4⟩ := mj_gw_in h
            have hv : mj_inb (nI n) 3 = true := up l2 (by omega) (by decide)
            have hm2 : m ≤ 1 := by
              apply Classical.byContradiction
              intro z
              exact l4 (nI_lt (a := 1) (by omega) (by omega))
            have hw : nI m = 0 ∨ nI m = 1 := by
              have : m = 0 ∨ m = 1 := by omega
              rcases this with z | z
              · left; rw [z]; rfl
              · right; rw [z]; rfl
            rw [← e1] at hv
            rw [← e2] at hw
            refine ⟨a1, a2, a3, a4, a5, a6, a7, Or.inr hv, hw, b1, b2, b3, b4, b5, b6, b7, b8, b9, c1, fun z => ?_⟩
            have z' : (mj_gw L e [102, 32] 0 2 (a + 2)).2.2 = -1 := z
            rw [z'] at hv
            exact absurd hv (by decide)
          · exact absurd h mj_ft
        · rename_i q3
          rw [if_neg q3]
          split at h
          · rename_i q4
            rw [if_pos q4]
            obtain ⟨n, hn, e1, l2⟩ := mj_gw2_in h
            have hv : mj_inb (nI n) 100 = true := up l2 (by omega) (by decide)
            rw [← e1] at hv
            exact ⟨a1, a2, a3, a4, a5, a6, a7, a8, a9, hv, b2, b3, b4, b5, b6, b7, b8, b9, c1, c2⟩
          · rename_i q4
            rw [if_neg q4]
            split at h
            · rename_i q5
              rw [if_pos q5]
              obtain ⟨n, hn, e1, l1, l2⟩ := mj_gw_in h
              have hv : mj_inb (nI n) 6 = true := up l2 (by omega) (by decide)
              rw [← e1] at hv
              exact ⟨a1, a2, a3, a4, a5, a6, a7, a8, a9, b1, hv, b3, b4, b5, b6, b7, b8, b9, c1, c2⟩
            · exact absurd h mj_ft
  · exact absurd h mj_ft
theorem mj_mr_fok {L : Nat → Int32} {e : Nat} {wk : Int32 → Bool} : ∀ (n a st : Nat) (f : Nat → Int32), (mj_mr L e wk n a st f).1 = true → mj_Fok wk f → mj_Fok wk (mj_mr L e wk n a st f).2.2 ∧ ((mj_mr L e wk n a st f).2.2 33 = 4 → ¬ (mj_mr L e wk n a st f).2.2 38 = -1) := by
  intro n
  induction n with
  | zero => intro a st f h; exact absurd h mj_ft
  | succ n ih =>
    intro a st f h hf
    simp only [mj_mr] at h ⊢
    by_cases c1 : a < e
    · rw [if_pos c1] at h ⊢
      by_cases c2 : st = 5
      · rw [if_pos c2] at h
        exact absurd h mj_ft
      · rw [if_neg c2] at h ⊢
        by_cases c3 : (mj_ext L e wk a st f).1 = true
        · rw [if_pos c3] at h ⊢
          exact ih _ _ _ h (mj_ext_fok c3 hf)
        · rw [if_neg c3] at h
          exact absurd h mj_ft
    · rw [if_neg c1] at h ⊢
      by_cases c2 : f 33 = 4 ∧ f 38 = -1
      · rw [if_pos c2] at h
        exact absurd h mj_ft
      · rw [if_neg c2]
        exact ⟨hf, fun z y => c2 ⟨z, y⟩⟩
theorem mj_rd_fok {L : Nat → Int32} {e : Nat} {wk : Int32 → Bool} (h : (mj_rd L e wk).1 = true) : mj_Fok wk (mj_rd L e wk).2.2 ∧ ((mj_rd L e wk).2.2 33 = 4 → ¬ (mj_rd L e wk).2.2 38 = -1) := by
  unfold mj_rd at h ⊢
  by_cases c1 : (mj_hd L e).1 = true
  · rw [if_pos c1] at h ⊢
    by_cases c2 : (mj_sp L e (mj_hd L e).2.2.1 (mj_hd L e).2.2.2 (mj_hd L e).2.1).1 = true
    · rw [if_pos c2] at h ⊢
      exact mj_mr_fok _ _ _ _ h (mj_f0_ok c1 c2)
    · rw [if_neg c2] at h
      exact absurd h mj_ft
  · rw [if_neg c1] at h
    exact absurd h mj_ft
end
