section
variable {σ τ ρ : mj_St}
/-! the search without its looking ahead -/
def mj_mv0 (σ : mj_St) (g h s n : Nat) : Int32 := if mj_anyF (mj_mbd σ g h s) 0 n = true then -1 else mj_mvf (mj_fbi 0 (mj_mop σ g h s) n) (mj_fbi (mj_pin σ h) (mj_mfo σ g h s) n)
def mj_W0 (σ : mj_St) (n : Nat) : Nat → Nat → Nat → Bool
  | 0 => fun _ _ => true
  | r + 1 => fun g s => decide (¬ mj_mv0 σ g (11 - r) s n = -1) && mj_anyF (fun k => mj_imv σ k (11 - r) (mj_mv0 σ g (11 - r) s n) && mj_fl σ (mj_W0 σ n r) r g (s - mj_tK k)) 0 (mj_top n + 1)
theorem mj_mvs_hrm {g h s n : Nat} (hr : mj_hrm σ h ((mj_sts σ g h >>> (12 &&& 31)) &&& 63) s n = true) : mj_mvs σ g h s n = mj_mv0 σ g h s n := by
  unfold mj_mvs mj_mv0
  rw [if_pos hr]
theorem mj_mvs_no {g h s n : Nat} (hr : mj_hrm σ h ((mj_sts σ g h >>> (12 &&& 31)) &&& 63) s n = false) : mj_mvs σ g h s n = -1 := by
  unfold mj_mvs
  rw [if_neg (by rw [hr]; decide)]
/-- a move -/
def mj_okm (σ : mj_St) (n g h s k : Nat) : Prop := (∀ p, p < 6 → (mj_sK k).testBit p = true → p < n ∧ mj_mop σ g h s p = true) ∧ (∀ p, p < n → mj_mbd σ g h s p = false) ∧ (∀ p, p < n → mj_mfo σ g h s p = true → (mj_sK k).testBit p = true) ∧ (∀ p, p < 32 → mj_b (mj_pin σ h) p = true → (mj_sK k).testBit p = true) ∧ ¬ σ.1 27 h < mj_pop (nI (mj_sK k)) ∧ (σ.1 46 8 >>> (nI k &&& 31)) &&& 1 = 0
theorem mj_sK_hi {k p : Nat} (hk : k < 22) (hp : 6 ≤ p) : (mj_sK k).testBit p = false := by
  have h1 := mj_sK_lt k hk
  exact Nat.testBit_lt_two_pow (Nat.lt_of_lt_of_le h1 (Nat.pow_le_pow_right (n := 2) (by decide) hp))
theorem mj_fbi_hi {b : Int32} {f : Nat → Bool} {n p : Nat} (hn : n ≤ 6) (hp : p < 32) (hp6 : 6 ≤ p) : mj_b (mj_fbi b f n) p = mj_b b p := by
  rw [mj_fbi_b hp n (by omega), decide_eq_false (show ¬ p < n by omega), Bool.false_and, Bool.or_false]
theorem mj_mvf_ne {op fo : Int32} (ho : mj_b op 31 = false) (hf : mj_b fo 25 = false) (h : fo &&& (op ^^^ -1) = 0) : ¬ mj_mvf op fo = -1 := by
  intro z
  unfold mj_mvf at z
  rw [if_pos h] at z
  have h1 : mj_b (op ||| fo <<< (6 &&& 31)) 31 = mj_b (-1) 31 := congrArg (fun x => mj_b x 31) z
  have e6 : (6 : Int32) &&& 31 = nI 6 &&& 31 := rfl
  rw [mj_b_or, e6, mj_b_shl (by decide) (by decide), ho, hf, mj_b_m1 (by decide)] at h1
  exact absurd h1 (by decide)
theorem mj_sub_of {a b : Int32} (h : ∀ k, k < 32 → mj_b a k = true → mj_b b k = true) : a &&& (b ^^^ -1) = 0 := by
  rw [mj_b_eq0]
  intro k hk
  rw [mj_b_and, mj_b_not hk]
  cases c : mj_b a k
  · rfl
  · rw [h k hk c]; rfl
theorem mj_okm_iff {n g h s k : Nat} (hn : n ≤ 6) (hk : k < 22) (hpin : ∀ p, p < 32 → 6 ≤ p → mj_b (mj_pin σ h) p = false) : (¬ mj_mv0 σ g h s n = -1 ∧ mj_imv σ k h (mj_mv0 σ g h s n) = true) ↔ mj_okm σ n g h s k := by
  have k64 := mj_sK_lt k hk
  have hop31 : mj_b (mj_fbi 0 (mj_mop σ g h s) n) 31 = false := by rw [mj_fbi_hi hn (by decide) (by decide)]; exact mj_b_0
  have hfo25 : mj_b (mj_fbi (mj_pin σ h) (mj_mfo σ g h s) n) 25 = false := by rw [mj_fbi_hi hn (by decide) (by decide)]; exact hpin 25 (by decide) (by decide)
  have bop : ∀ p, p < 32 → mj_b (mj_fbi 0 (mj_mop σ g h s) n) p = (decide (p < n) && mj_mop σ g h s p) := fun p hp => by rw [mj_fbi_b hp n (by omega), mj_b_0, Bool.false_or]
  have bfo : ∀ p, p < 32 → mj_b (mj_fbi (mj_pin σ h) (mj_mfo σ g h s) n) p = (mj_b (mj_pin σ h) p || (decide (p < n) && mj_mfo σ g h s p)) := fun p hp => mj_fbi_b hp n (by omega)
  have bsK : ∀ p, mj_b (nI (mj_sK k)) p = (mj_sK k).testBit p := fun p => mj_b_nI (by omega)
  -- the forced ones, as the class reads them
  have e6 : (6 : Int32) &&& 31 = nI 6 &&& 31 := rfl
  have hsh : ∀ p, p < 26 → mj_b ((mj_fbi 0 (mj_mop σ g h s) n ||| mj_fbi (mj_pin σ h) (mj_mfo σ g h s) n <<< (6 &&& 31)) >>> (6 &&& 31)) p = mj_b (mj_fbi (mj_pin σ h) (mj_mfo σ g h s) n) p := by
    intro p hp
    rw [e6, mj_b_shr (by decide) (by omega), mj_b_or, mj_b_shl (by decide) (by omega), mj_fbi_hi hn (by omega) (by omega), mj_b_0, Bool.false_or, decide_eq_true (by omega), Bool.true_and, Nat.add_sub_cancel_left]
  have hsh2 : ∀ p, p < 32 → 26 ≤ p → mj_b ((mj_fbi 0 (mj_mop σ g h s) n ||| mj_fbi (mj_pin σ h) (mj_mfo σ g h s) n <<< (6 &&& 31)) >>> (6 &&& 31)) p = false := by
    intro p hp hp2
    obtain ⟨m, hm, em⟩ := mj_b_lt (a := mj_fbi 0 (mj_mop σ g h s) n ||| mj_fbi (mj_pin σ h) (mj_mfo σ g h s) n <<< (6 &&& 31)) (n := 12) (by decide) (fun q hq hq2 => by
      rw [e6, mj_b_or, mj_b_shl (by decide) hq, mj_fbi_hi hn hq (by omega), mj_b_0, Bool.false_or, mj_fbi_hi hn (by omega) (by omega), hpin _ (by omega) (by omega), Bool.and_false])
    rw [em, e6, mj_nI_shr (by decide) (by omega), mj_b_nI (by omega)]
    exact Nat.testBit_lt_two_pow (Nat.lt_of_lt_of_le (show m / 2 ^ 6 < 2 ^ 26 by omega) (Nat.pow_le_pow_right (n := 2) (by decide) hp2))
  have core : mj_anyF (mj_mbd σ g h s) 0 n = false → mj_fbi (mj_pin σ h) (mj_mfo σ g h s) n &&& (mj_fbi 0 (mj_mop σ g h s) n ^^^ -1) = 0 → mj_mv0 σ g h s n = mj_fbi 0 (mj_mop σ g h s) n ||| mj_fbi (mj_pin σ h) (mj_mfo σ g h s) n <<< (6 &&& 31) := by
    intro h1 h2
    unfold mj_mv0 mj_mvf
    rw [if_neg (by rw [h1]; decide), if_pos h2]
  constructor
  · rintro ⟨hv, hi⟩
    have hb : mj_anyF (mj_mbd σ g h s) 0 n = false := by
      cases z : mj_anyF (mj_mbd σ g h s) 0 n
      · rfl
      · unfold mj_mv0 at hv
        rw [if_pos z] at hv
        exact absurd rfl hv
    have hfo : mj_fbi (mj_pin σ h) (mj_mfo σ g h s) n &&& (mj_fbi 0 (mj_mop σ g h s) n ^^^ -1) = 0 := by
      by_cases z : mj_fbi (mj_pin σ h) (mj_mfo σ g h s) n &&& (mj_fbi 0 (mj_mop σ g h s) n ^^^ -1) = 0
      · exact z
      · unfold mj_mv0 mj_mvf at hv
        rw [if_neg (by rw [hb]; decide), if_neg z] at hv
        exact absurd rfl hv
    rw [core hb hfo] at hi
    unfold mj_imv at hi
    simp only [Bool.and_eq_true, decide_eq_true_eq] at hi
    obtain ⟨i1, i2, i3, i4⟩ := hi
    have forced : ∀ p, p < 26 → mj_b (mj_fbi (mj_pin σ h) (mj_mfo σ g h s) n) p = true → (mj_sK k).testBit p = true := by
      intro p hp hb2
      have h1 : mj_b (nI (mj_sK k) &&& ((mj_fbi 0 (mj_mop σ g h s) n ||| mj_fbi (mj_pin σ h) (mj_mfo σ g h s) n <<< (6 &&& 31)) >>> (6 &&& 31))) p = mj_b ((mj_fbi 0 (mj_mop σ g h s) n ||| mj_fbi (mj_pin σ h) (mj_mfo σ g h s) n <<< (6 &&& 31)) >>> (6 &&& 31)) p := congrArg (fun x => mj_b x p) i2
      rw [mj_b_and, hsh p hp, hb2, Bool.and_true, bsK] at h1
      exact h1
    refine ⟨fun p hp ht => ?_, fun p hp => ?_, fun p hp hm => ?_, fun p hp hm => ?_, i3, i4⟩
    · have h1 := mj_sub_b (k := p) i1 (by rw [bsK]; exact ht)
      rw [mj_b_or, e6, mj_b_shl (by decide) (by omega), decide_eq_false (show ¬ 6 ≤ p by omega), Bool.false_and, Bool.or_false, bop p (by omega)] at h1
      simp only [Bool.and_eq_true, decide_eq_true_eq] at h1
      exact h1
    · cases z : mj_mbd σ g h s p
      · rfl
      · have : mj_anyF (mj_mbd σ g h s) 0 n = true := (mj_anyF_iff _ _).mpr ⟨p, by omega, by omega, z⟩
        rw [hb] at this
        exact absurd this (by decide)
    · refine forced p (by omega) ?_
      rw [bfo p (by omega), decide_eq_true hp, hm, Bool.and_self, Bool.or_true]
    · by_cases c : p < 6
      · refine forced p (by omega) ?_
        rw [bfo p hp, hm, Bool.true_or]
      · rw [hpin p hp (by omega)] at hm
        exact absurd hm (by decide)
  · rintro ⟨m1, m2, m3, m4, m5, m6⟩
    have hb : mj_anyF (mj_mbd σ g h s) 0 n = false := by
      cases z : mj_anyF (mj_mbd σ g h s) 0 n
      · rfl
      · obtain ⟨p, -, hp, hq⟩ := (mj_anyF_iff _ _).mp z
        rw [m2 p (by omega)] at hq
        exact absurd hq (by decide)
    have fos : ∀ p, p < 32 → mj_b (mj_fbi (mj_pin σ h) (mj_mfo σ g h s) n) p = true → (mj_sK k).testBit p = true := by
      intro p hp hf
      rw [bfo p hp] at hf
      rcases Bool.or_eq_true _ _ |>.mp hf with z | z
      · exact m4 p hp z
      · simp only [Bool.and_eq_true, decide_eq_true_eq] at z
        exact m3 p z.1 z.2
    have ops : ∀ p, p < 32 → (mj_sK k).testBit p = true → mj_b (mj_fbi 0 (mj_mop σ g h s) n) p = true := by
      intro p hp ht
      by_cases c : p < 6
      · obtain ⟨a, b⟩ := m1 p c ht
        rw [bop p hp, decide_eq_true a, b]
        rfl
      · rw [mj_sK_hi hk (by omega)] at ht
        exact absurd ht (by decide)
    have hfo : mj_fbi (mj_pin σ h) (mj_mfo σ g h s) n &&& (mj_fbi 0 (mj_mop σ g h s) n ^^^ -1) = 0 := mj_sub_of (fun p hp hf => ops p hp (fos p hp hf))
    refine ⟨?_, ?_⟩
    · have := mj_mvf_ne hop31 hfo25 hfo
      unfold mj_mv0
      rw [if_neg (by rw [hb]; decide)]
      exact this
    · rw [core hb hfo]
      unfold mj_imv
      simp only [Bool.and_eq_true, decide_eq_true_eq]
      refine ⟨mj_sub_of (fun p hp ht => ?_), ?_, m5, m6⟩
      · rw [bsK] at ht
        rw [mj_b_or, ops p hp ht, Bool.true_or]
      · apply mj_b_ext
        intro p hp
        rw [mj_b_and, bsK]
        by_cases c : p < 26
        · rw [hsh p c]
          cases z : mj_b (mj_fbi (mj_pin σ h) (mj_mfo σ g h s) n) p
          · rw [Bool.and_false]
          · rw [fos p hp z]; rfl
        · rw [hsh2 p hp (by omega), Bool.and_false]
/-- what a move leaves -/
theorem mj_take {k s : Nat} (hk : k < 22) (hs : s < 4096) (h : ∀ p, p < 6 → (mj_sK k).testBit p = true → ¬ mj_lf s p = 0) : mj_tK k ≤ s ∧ ∀ p, p < 6 → mj_lf s p = mj_lf (s - mj_tK k) p + if (mj_sK k).testBit p = true then 1 else 0 := by
  have k0 := h 0 (by decide)
  have k1 := h 1 (by decide)
  have k2 := h 2 (by decide)
  have k3 := h 3 (by decide)
  have k4 := h 4 (by decide)
  have k5 := h 5 (by decide)
  clear h
  unfold mj_lf at k0 k1 k2 k3 k4 k5 ⊢
  simp only [Nat.reducePow, Nat.div_one] at k0 k1 k2 k3 k4 k5
  have hp6 : ∀ P : Nat → Prop, P 0 → P 1 → P 2 → P 3 → P 4 → P 5 → ∀ p, p < 6 → P p := by
    intro P p0 p1 p2 p3 p4 p5 p hp
    have : p = 0 ∨ p = 1 ∨ p = 2 ∨ p = 3 ∨ p = 4 ∨ p = 5 := by omega
    rcases this with q | q | q | q | q | q <;> subst q <;> assumption
  have : k = 0 ∨ k = 1 ∨ k = 2 ∨ k = 3 ∨ k = 4 ∨ k = 5 ∨ k = 6 ∨ k = 7 ∨ k = 8 ∨ k = 9 ∨ k = 10 ∨ k = 11 ∨ k = 12 ∨ k = 13 ∨ k = 14 ∨ k = 15 ∨ k = 16 ∨ k = 17 ∨ k = 18 ∨ k = 19 ∨ k = 20 ∨ k = 21 := by omega
  rcases this with q | q | q | q | q | q | q | q | q | q | q | q | q | q | q | q | q | q | q | q | q | q <;> subst q <;> simp (config := {decide := true}) [mj_sK, mj_tK, mj_SETS, mj_TAKES] at k0 k1 k2 k3 k4 k5 ⊢ <;> refine ⟨by omega, ?_⟩ <;> refine hp6 _ ?_ ?_ ?_ ?_ ?_ ?_ <;> simp (config := {decide := true}) <;> omega
end
