section
variable {σ τ ρ : mj_St}
/-! what the tables of a search say, bit by bit -/
theorem mj_sti_b {g h cl u : Int32} {p k : Nat} (hp : p < 6) (hk : k < 32) : mj_b (mj_sti σ g h cl p u) k = (((mj_b u k || (!(decide (mj_stg σ (σ.1 47 p).toNatClampNeg g h < 1)) && decide (k = p + 6))) || (!(decide (mj_stg σ (σ.1 47 p).toNatClampNeg g h < 2)) && decide (k = p + 12))) || (mj_stb σ g h cl p && decide (k = p))) := by
  have b6 : mj_b (if mj_stg σ (σ.1 47 p).toNatClampNeg g h < 1 then (0 : Int32) else ((1 : Int32) <<< (nI p &&& 31)) <<< ((6 : Int32) &&& 31)) k = (!(decide (mj_stg σ (σ.1 47 p).toNatClampNeg g h < 1)) && decide (k = p + 6)) := by
    by_cases c : mj_stg σ (σ.1 47 p).toNatClampNeg g h < 1
    · rw [if_pos c, mj_b_0, decide_eq_true c]; rfl
    · rw [if_neg c, mj_sh6 p hp, mj_b_sh1 (by omega) hk, decide_eq_false c]; rfl
  have b12 : mj_b (if mj_stg σ (σ.1 47 p).toNatClampNeg g h < 2 then (0 : Int32) else ((1 : Int32) <<< (nI p &&& 31)) <<< ((12 : Int32) &&& 31)) k = (!(decide (mj_stg σ (σ.1 47 p).toNatClampNeg g h < 2)) && decide (k = p + 12)) := by
    by_cases c : mj_stg σ (σ.1 47 p).toNatClampNeg g h < 2
    · rw [if_pos c, mj_b_0, decide_eq_true c]; rfl
    · rw [if_neg c, mj_sh12 p hp, mj_b_sh1 (by omega) hk, decide_eq_false c]; rfl
  unfold mj_sti
  cases c : mj_stb σ g h cl p
  · rw [if_neg (by decide), mj_b_or, mj_b_or, b6, b12, Bool.false_and, Bool.or_false]
  · rw [if_pos rfl, mj_b_or, mj_b_or, mj_b_or, b6, b12, mj_b_sh1 (by omega) hk, Bool.true_and]
theorem mj_stv_b {g h cl : Int32} : ∀ n, n ≤ 6 → ∀ p, p < 6 → mj_b (mj_stv σ g h cl n) p = (decide (p < n) && mj_stb σ g h cl p) ∧ mj_b (mj_stv σ g h cl n) (p + 6) = (decide (p < n) && !(decide (mj_stg σ (σ.1 47 p).toNatClampNeg g h < 1))) ∧ mj_b (mj_stv σ g h cl n) (p + 12) = (decide (p < n) && !(decide (mj_stg σ (σ.1 47 p).toNatClampNeg g h < 2))) := by
  intro n
  induction n with
  | zero =>
    intro _ p _
    refine ⟨mj_b_0, mj_b_0, mj_b_0⟩
  | succ n ih =>
    intro hn p hp
    obtain ⟨h1, h2, h3⟩ := ih (by omega) p hp
    have e : mj_stv σ g h cl (n + 1) = mj_sti σ g h cl n (mj_stv σ g h cl n) := rfl
    rw [e, mj_sti_b (by omega) (by omega), mj_sti_b (by omega) (by omega), mj_sti_b (by omega) (by omega), h1, h2, h3]
    by_cases c : p = n
    · subst c
      refine ⟨?_, ?_, ?_⟩ <;> simp
    · have c1 : (p + 6 = n + 6) = False := eq_false (by omega)
      have c2 : (p + 12 = n + 12) = False := eq_false (by omega)
      have d1 : (p = n + 6) = False := eq_false (by omega)
      have d2 : (p = n + 12) = False := eq_false (by omega)
      have d3 : (p + 6 = n + 12) = False := eq_false (by omega)
      have d4 : (p + 6 = n) = False := eq_false (by omega)
      have d5 : (p + 12 = n + 6) = False := eq_false (by omega)
      have d6 : (p + 12 = n) = False := eq_false (by omega)
      have e2 : decide (p < n + 1) = decide (p < n) := by
        by_cases z : p < n
        · rw [decide_eq_true z, decide_eq_true (by omega)]
        · rw [decide_eq_false z, decide_eq_false (by omega)]
      rw [e2]
      refine ⟨?_, ?_, ?_⟩ <;> simp [c, c1, c2, d1, d2, d3, d4, d5, d6]
/-- what is told in an hour, and what stands -/
theorem mj_frs_lt {h : Int32} {N : Nat} : ∃ m, m < 8 ∧ mj_frs σ h N = nI m := by
  have h1 : ∀ j, j ≤ 3 → ∀ k, k < 32 → 3 ≤ k → mj_b (mj_it (fun f u => u ||| (if σ.1 28 f = h then (1 : Int32) <<< (nI f &&& 31) else 0)) 0 j) k = false := by
    intro j
    induction j with
    | zero => intro _ k _ _; exact mj_b_0
    | succ j ih =>
      intro hj k hk h3
      simp only [mj_it]
      rw [mj_b_or, ih (by omega) k hk h3, Bool.false_or]
      by_cases c : σ.1 28 j = h
      · rw [if_pos c, mj_b_sh1 (by omega) hk]
        exact decide_eq_false (by omega)
      · rw [if_neg c]; exact mj_b_0
  obtain ⟨m, hm, e⟩ := mj_b_lt (a := mj_frs σ h N) (n := 3) (by decide) (fun k hk h3 => by
    unfold mj_frs
    rw [mj_b_and, h1 3 (by decide) k hk h3, Bool.false_and])
  exact ⟨m, hm, e⟩
theorem mj_sw_b {N n gr g h : Nat} (hn : n ≤ 6) {k : Nat} (hk : k < 18) : mj_b (mj_sw σ N n gr g h) k = mj_b (mj_stv σ (nI g) (nI h) (mj_clo σ (nI g) (nI h) n N) n) k := by
  unfold mj_sw
  rw [mj_b_or]
  by_cases c : gr = 8
  · rw [if_pos c, show (18 : Int32) &&& 31 = nI 18 &&& 31 from rfl, mj_b_shl (by decide) (by omega), decide_eq_false (by omega), Bool.false_and, Bool.false_or]
  · rw [if_neg c, mj_b_0, Bool.false_or]
theorem mj_sw_fr {N n gr g h : Nat} (hn : n ≤ 6) : mj_sw σ N n gr g h >>> (18 &&& 31) = if gr = 8 then mj_frs σ (nI h) N else 0 := by
  have hi := mj_stv_hi (σ := σ) (g := nI g) (h := nI h) (cl := mj_clo σ (nI g) (nI h) n N) n hn
  unfold mj_sw
  by_cases c : gr = 8
  · rw [if_pos c, if_pos c]
    obtain ⟨m, hm, e⟩ := mj_frs_lt (σ := σ) (h := nI h) (N := N)
    rw [e]
    apply mj_b_ext
    intro k hk
    have e18 : (18 : Int32) &&& 31 = nI 18 &&& 31 := rfl
    by_cases q : k < 14
    · rw [e18, mj_b_shr (by decide) (by omega), mj_b_or, mj_b_shl (by decide) (by omega), hi _ (by omega) (by omega), Bool.or_false, decide_eq_true (by omega), Bool.true_and, Nat.add_sub_cancel_left]
    · obtain ⟨x, hx, ex⟩ := mj_b_lt (a := nI m <<< ((18 : Int32) &&& 31) ||| mj_stv σ (nI g) (nI h) (mj_clo σ (nI g) (nI h) n N) n) (n := 21) (by decide) (fun j hj h21 => by
        rw [e18, mj_b_or, mj_b_shl (by decide) hj, hi j hj (by omega), Bool.or_false, mj_b_nI (by omega), Nat.testBit_lt_two_pow (Nat.lt_of_lt_of_le (show m < 2 ^ 3 by omega) (Nat.pow_le_pow_right (n := 2) (by decide) (by omega))), Bool.and_false])
      rw [ex, e18, mj_nI_shr (by decide) (by omega), mj_b_nI (by omega), mj_b_nI (by omega), Nat.testBit_lt_two_pow (Nat.lt_of_lt_of_le (show x / 2 ^ 18 < 2 ^ 3 by omega) (Nat.pow_le_pow_right (n := 2) (by decide) (by omega))), Nat.testBit_lt_two_pow (Nat.lt_of_lt_of_le (show m < 2 ^ 3 by omega) (Nat.pow_le_pow_right (n := 2) (by decide) (by omega)))]
  · rw [if_neg c, if_neg c, Int32.zero_or]
    exact mj_stv_18 hn
-- room
def mj_pn64 (m : Nat) : Nat := (mj_pop (nI m)).toNatClampNeg
theorem mj_pn64_e : ∀ m, m < 64 → mj_pop (nI m) = nI (mj_pn64 m) ∧ mj_pn64 m ≤ 6 := by decide +kernel
theorem mj_pn64_sK : ∀ k, k < 22 → ∀ m, m < 64 → mj_sK k &&& m = mj_sK k → mj_pn64 (mj_sK k) ≤ mj_pn64 m := by decide +kernel
theorem mj_pn64_sg : ∀ k, k < 22 → ∀ n, n < 7 → mj_sgm (fun q => if (mj_sK k).testBit q = true then 1 else 0) n ≤ mj_pn64 (mj_sK k) := by decide +kernel
theorem mj_and63 {x : Int32} : ∃ m, m < 64 ∧ x &&& 63 = nI m ∧ ∀ p, p < 6 → m.testBit p = mj_b x p := by
  obtain ⟨m, hm, e⟩ := mj_b_lt (a := x &&& 63) (n := 6) (by decide) (fun k hk h6 => by
    rw [mj_b_and, show (63 : Int32) = nI (2 ^ 6 - 1) from rfl, mj_b_nI (by decide), Nat.testBit_two_pow_sub_one, decide_eq_false (by omega), Bool.and_false])
  refine ⟨m, hm, e, fun p hp => ?_⟩
  rw [← mj_b_nI (by omega), ← e, mj_b_and, show (63 : Int32) = nI (2 ^ 6 - 1) from rfl, mj_b_nI (by decide), Nat.testBit_two_pow_sub_one, decide_eq_true hp, Bool.and_true]
theorem mj_mst_v {h : Nat} : ∀ gr, ∃ M, M ≤ 6 ∧ mj_mst σ h gr = nI M ∧ ∀ g, g < gr → ∀ m, m < 64 → σ.1 51 (g * 12 + h) &&& 63 = nI m → mj_pn64 m ≤ M := by
  intro gr
  induction gr with
  | zero => exact ⟨0, by decide, rfl, fun g hg => absurd hg (by omega)⟩
  | succ gr ih =>
    obtain ⟨M, h1, h2, h3⟩ := ih
    obtain ⟨m, hm, em, -⟩ := mj_and63 (x := σ.1 51 (gr * 12 + h))
    obtain ⟨p1, p2⟩ := mj_pn64_e m hm
    have e : mj_mst σ h (gr + 1) = if mj_mst σ h gr < mj_pop (σ.1 51 (gr * 12 + h) &&& 63) then mj_pop (σ.1 51 (gr * 12 + h) &&& 63) else mj_mst σ h gr := rfl
    rw [e, em, p1, h2]
    have uniq : ∀ m', m' < 64 → σ.1 51 (gr * 12 + h) &&& 63 = nI m' → m' = m := fun m' a b => by
      rw [em] at b
      exact (mj_nI_inj (by omega) (by omega) b).symm
    by_cases c : M < mj_pn64 m
    · rw [if_pos (nI_lt c (by omega))]
      refine ⟨_, p2, rfl, fun g hg m' a b => ?_⟩
      by_cases cg : g = gr
      · rw [cg] at b
        rw [uniq m' a b]
        exact Nat.le_refl _
      · have := h3 g (by omega) m' a b
        omega
    · rw [if_neg (nI_nlt (by omega) (by omega))]
      refine ⟨M, h1, rfl, fun g hg m' a b => ?_⟩
      by_cases cg : g = gr
      · rw [cg] at b
        rw [uniq m' a b]
        omega
      · exact h3 g (by omega) m' a b
/-- there is room for all that may be done -/
theorem mj_room {n w gr : Nat} (hn : n ≤ 6) (hh : ∀ t, t < 12 → ∃ m, m ≤ 2 ∧ σ.1 27 t = nI m) : ∃ R : Nat → Nat, (∀ k, w + k ≤ 12 → mj_rb σ w gr k = nI (R (w + k))) ∧ (∀ t, t ≤ 12 → R t ≤ 1000) ∧
    ∀ g t k, g < gr → w ≤ t → t < 12 → k < 22 → ¬ σ.1 27 t < mj_pop (nI (mj_sK k)) → (∀ p, p < 6 → (mj_sK k).testBit p = true → p < n ∧ mj_b (σ.1 51 (g * 12 + t)) p = true) → R t + mj_sgm (fun q => if (mj_sK k).testBit q = true then 1 else 0) n ≤ R (t + 1) := by
  have ex : ∀ i, ∃ a, a ≤ 2 ∧ (w + i < 12 → (if σ.1 27 (w + i) < mj_mst σ (w + i) gr then σ.1 27 (w + i) else mj_mst σ (w + i) gr) = nI a ∧ ∀ x, (∀ m, σ.1 27 (w + i) = nI m → m ≤ 2 → x ≤ m) → (∀ M, mj_mst σ (w + i) gr = nI M → M ≤ 6 → x ≤ M) → x ≤ a) := by
    intro i
    by_cases c : w + i < 12
    · obtain ⟨m, m2, em⟩ := hh (w + i) c
      obtain ⟨M, M6, eM, -⟩ := mj_mst_v (σ := σ) (h := w + i) gr
      rw [em, eM]
      by_cases z : m < M
      · refine ⟨m, m2, fun _ => ⟨if_pos (nI_lt z (by omega)), fun x h1 _ => h1 m rfl m2⟩⟩
      · refine ⟨M, by omega, fun _ => ⟨if_neg (nI_nlt (by omega) (by omega)), fun x _ h2 => h2 M rfl M6⟩⟩
    · exact ⟨0, by decide, fun q => absurd q c⟩
  obtain ⟨a, ha⟩ := Classical.axiomOfChoice ex
  have bnd : ∀ k, mj_sgm a k ≤ k * 2 := fun k => mj_sgm_bnd k (fun i _ => (ha i).1)
  have rb : ∀ k, w + k ≤ 12 → mj_rb σ w gr k = nI (mj_sgm a k) := by
    intro k
    induction k with
    | zero => intro _; rfl
    | succ k ih =>
      intro hk
      have e : mj_rb σ w gr (k + 1) = mj_rb σ w gr k + (if σ.1 27 (w + k) < mj_mst σ (w + k) gr then σ.1 27 (w + k) else mj_mst σ (w + k) gr) := rfl
      rw [e, ih (by omega), ((ha k).2 (by omega)).1, nI_add]
      rfl
  refine ⟨fun t => mj_sgm a (t - w), fun k hk => by
    show mj_rb σ w gr k = nI (mj_sgm a (w + k - w))
    rw [rb k hk, Nat.add_sub_cancel_left], fun t ht => by have := bnd (t - w); show mj_sgm a (t - w) ≤ 1000; omega, fun g t k hg hw ht hk hp hb => ?_⟩
  have h1 := mj_pn64_sg k hk n (by omega)
  obtain ⟨p1, p2⟩ := mj_pn64_e (mj_sK k) (mj_sK_lt k hk)
  have h2 := ((ha (t - w)).2 (by omega)).2
  rw [show w + (t - w) = t by omega] at h2
  have h3 := h2 (mj_pn64 (mj_sK k)) (fun m em m2 => by
    rw [em, p1] at hp
    exact Nat.le_of_not_lt (fun z => hp (nI_lt z (by omega)))) (fun M eM M6 => by
    obtain ⟨M', M6', eM', hM'⟩ := mj_mst_v (σ := σ) (h := t) gr
    have : M = M' := mj_nI_inj (by omega) (by omega) (eM.symm.trans eM')
    obtain ⟨m, hm, em, hbm⟩ := mj_and63 (x := σ.1 51 (g * 12 + t))
    have h4 := hM' g hg m hm em
    have h5 := mj_pn64_sK k hk m hm (by
      apply Nat.eq_of_testBit_eq
      intro i
      rw [Nat.testBit_and]
      by_cases ci : i < 6
      · cases q : (mj_sK k).testBit i
        · rfl
        · rw [hbm i ci, (hb i ci q).2]; rfl
      · rw [mj_sK_hi hk (by omega)]; rfl)
    omega)
  show mj_sgm a (t - w) + _ ≤ mj_sgm a (t + 1 - w)
  rw [show t + 1 - w = (t - w) + 1 by omega]
  show mj_sgm a (t - w) + _ ≤ mj_sgm a (t - w) + a (t - w)
  omega
end
