section
variable {X : mj_X} {d : Nat} {σ : mj_St}
theorem mj_nI_mul (a b : Nat) : nI a * nI b = nI (a * b) := (Int32.ofNat_mul a b).symm
theorem mj_nI_sub {a b : Nat} (h : b ≤ a) : nI a - nI b = nI (a - b) := by
  have e : nI a = nI (a - b) + nI b := by rw [nI_add, Nat.sub_add_cancel h]
  rw [e, Int32.add_sub_cancel]
theorem mj_nI_div {a b : Nat} (ha : a < 2 ^ 31) (hb : b < 2 ^ 31) : nI a / nI b = nI (a / b) := by
  have hn : ¬ nI b = -1 := by
    intro h
    have := congrArg Int32.toInt h
    rw [nI_toInt hb] at this
    have e : (-1 : Int32).toInt = -1 := by decide
    omega
  apply Int32.toInt_inj.mp
  have hq : a / b < 2 ^ 31 := Nat.lt_of_le_of_lt (Nat.div_le_self a b) ha
  rw [Int32.toInt_div_of_ne_right _ _ hn, nI_toInt ha, nI_toInt hb, nI_toInt hq]
  exact Int.ofNat_tdiv a b
theorem mj_it_s {α : Type} {f : Nat → α → α} {a : α} {n : Nat} : mj_it f a (n + 1) = f n (mj_it f a n) := rfl
/-- digits of base five, a place for each work -/
def mj_encN (σ : mj_St) (d : Nat → Nat) (n : Nat) : Nat := mj_it (fun i c => if σ.1 65 i < 5 then c + 5 ^ mj_wc σ i * d i else c) 0 n
theorem mj_encN_s {d : Nat → Nat} {n : Nat} : mj_encN σ d (n + 1) = if σ.1 65 n < 5 then mj_encN σ d n + 5 ^ mj_wc σ n * d n else mj_encN σ d n := rfl
theorem mj_encN_lt {d : Nat → Nat} : ∀ n, (∀ i, i < n → d i < 5) → mj_encN σ d n < 5 ^ mj_wc σ n := by
  intro n
  induction n with
  | zero => intro _; exact Nat.one_pos
  | succ n ih =>
    intro hd
    have h1 := ih (fun i hi => hd i (by omega))
    have h2 := hd n (by omega)
    rw [mj_encN_s, mj_wc_s]
    split
    · have h3 : 5 ^ mj_wc σ n * d n ≤ 5 ^ mj_wc σ n * 4 := Nat.mul_le_mul_left _ (by omega)
      rw [Nat.pow_succ]
      omega
    · exact h1
theorem mj_wc_mono {k : Nat} : ∀ n, k ≤ n → mj_wc σ k ≤ mj_wc σ n := by
  intro n
  induction n with
  | zero => intro h; have : k = 0 := by omega
            subst this; exact Nat.le_refl _
  | succ n ih =>
    intro h
    by_cases e : k = n + 1
    · subst e; exact Nat.le_refl _
    · have := ih (by omega)
      rw [mj_wc_s]
      split <;> omega
theorem mj_encN_dec {d : Nat → Nat} {k : Nat} (hw : σ.1 65 k < 5) : ∀ n, k < n → (∀ i, i < n → d i < 5) → mj_encN σ d n / 5 ^ mj_wc σ k % 5 = d k := by
  intro n
  induction n with
  | zero => intro h; omega
  | succ n ih =>
    intro hk hd
    have hp : 0 < 5 ^ mj_wc σ k := Nat.pow_pos (by decide)
    rw [mj_encN_s]
    by_cases e : k = n
    · subst e
      rw [if_pos hw, Nat.add_mul_div_left _ _ hp, Nat.div_eq_of_lt (mj_encN_lt k (fun i hi => hd i (by omega)))]
      have := hd k (by omega)
      omega
    · have h1 := ih (by omega) (fun i hi => hd i (by omega))
      split
      · have h2 : mj_wc σ k + 1 ≤ mj_wc σ n := by
          have h3 := mj_wc_mono (σ := σ) (k := k + 1) n (by omega)
          rw [mj_wc_s, if_pos hw] at h3
          exact h3
        have h4 : 5 ^ mj_wc σ n * d n = 5 ^ mj_wc σ k * (5 * (5 ^ (mj_wc σ n - mj_wc σ k - 1) * d n)) := by
          have h5 : 5 ^ mj_wc σ n = 5 ^ mj_wc σ k * 5 * 5 ^ (mj_wc σ n - mj_wc σ k - 1) := by
            rw [← Nat.pow_succ, ← Nat.pow_add]
            congr 1
            omega
          rw [h5]
          simp only [Nat.mul_assoc]
        rw [h4, Nat.add_mul_div_left _ _ hp, Nat.add_mul_mod_self_left]
        exact h1
      · exact h1
theorem mj_cno_enc {d : Nat → Nat} (hP : mj_Pw σ) : ∀ n, n ≤ 9 → mj_cno σ (fun i => nI (d i)) n = nI (mj_encN σ d n) := by
  intro n
  induction n with
  | zero => intro _; rfl
  | succ n ih =>
    intro h9
    have e1 : mj_cno σ (fun i => nI (d i)) (n + 1) = if σ.1 65 n < 5 then mj_cno σ (fun i => nI (d i)) n + σ.1 84 (mj_wc σ n) * nI (d n) else mj_cno σ (fun i => nI (d i)) n := rfl
    rw [e1, mj_encN_s, ih (by omega)]
    split
    · have := mj_wc_le (σ := σ) n
      rw [hP.2 _ (by omega), mj_nI_mul, nI_add]
    · rfl
theorem mj_cno_congr {l1 l2 : Nat → Int32} {n : Nat} (h : ∀ i, i < n → σ.1 65 i < 5 → l1 i = l2 i) : mj_cno σ l1 n = mj_cno σ l2 n := by
  unfold mj_cno
  apply mj_it_congr
  intro i hi u
  split
  · rename_i hw
    rw [h i hi hw]
  · rfl
theorem mj_cno_upd {lv : Nat → Int32} {k : Nat} {v : Int32} (hw : σ.1 65 k < 5) : ∀ n, k < n → mj_cno σ (fun i => if i = k then v else lv i) n = mj_cno σ lv n + σ.1 84 (mj_wc σ k) * (v - lv k) := by
  intro n
  induction n with
  | zero => intro h; omega
  | succ n ih =>
    intro hk
    have e1 : ∀ l : Nat → Int32, mj_cno σ l (n + 1) = if σ.1 65 n < 5 then mj_cno σ l n + σ.1 84 (mj_wc σ n) * l n else mj_cno σ l n := fun _ => rfl
    rw [e1, e1]
    by_cases e : k = n
    · subst e
      rw [if_pos hw, if_pos hw, if_pos rfl, mj_cno_congr (l2 := lv) (fun i hi _ => by rw [if_neg (by omega)])]
      grind
    · have e2 : (if n = k then v else lv n) = lv n := if_neg (fun h => e h.symm)
      rw [ih (by omega), e2]
      split
      · grind
      · rfl
theorem mj_encN_b {d : Nat → Nat} {n : Nat} (h9 : n ≤ 9) (hd : ∀ i, i < n → d i < 5) : mj_encN σ d n < 2 ^ 31 := by
  have h1 := mj_encN_lt (σ := σ) n hd
  have h2 := mj_wc_le (σ := σ) n
  have h3 : 5 ^ mj_wc σ n ≤ 5 ^ 9 := Nat.pow_le_pow_right (by decide) (by omega)
  have h4 : (5 : Nat) ^ 9 < 2 ^ 31 := by decide
  omega
theorem mj_lin_dec {d : Nat → Nat} {N k : Nat} (hP : mj_Pw σ) (hfig : σ.1 85 k = nI (mj_wc σ k)) (hw : σ.1 65 k < 5) (hk : k < N) (h9 : N ≤ 9) (hd : ∀ i, i < N → d i < 5) : mj_lin σ (mj_cno σ (fun i => nI (d i)) N) k = nI (d k) := by
  have hwk := mj_wc_le (σ := σ) k
  unfold mj_lin
  rw [hfig, mj_nz9 (show mj_wc σ k < 9 by omega) (by decide), hP.2 _ (by omega), mj_cno_enc hP N h9]
  have hb := mj_encN_b (σ := σ) h9 hd
  have hp : 5 ^ mj_wc σ k < 2 ^ 31 := by
    have h3 : 5 ^ mj_wc σ k ≤ 5 ^ 9 := Nat.pow_le_pow_right (by decide) (by omega)
    have h4 : (5 : Nat) ^ 9 < 2 ^ 31 := by decide
    omega
  rw [mj_nI_div hb hp]
  have hq : mj_encN σ d N / 5 ^ mj_wc σ k < 2 ^ 31 := Nat.lt_of_le_of_lt (Nat.div_le_self _ _) hb
  have e5 : (5 : Int32) = nI 5 := rfl
  rw [e5, mj_nI_div hq (by decide), mj_nI_mul, mj_nI_sub (by omega)]
  have := mj_encN_dec hw N hk hd
  congr 1
  omega
end
