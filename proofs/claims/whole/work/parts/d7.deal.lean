section
variable {σ τ π : mj_St} {D : Nat → Nat → Nat}
theorem mj_dec {p q : Prop} [Decidable p] [Decidable q] (h : p ↔ q) : decide p = decide q := decide_eq_decide.mpr h
/-! a deal, told in numbers (by the class's places: 15 kind, 16 from, 17 till, 18 thing + 1, 19 after + 1, 20 fork + 1, 21 how, 22 owing, 23 whom, 24 length, 25 left, 26 span, 27 hands, 28 known; 14 14 count, 14 16 lost, 14 17 now, 14 18 turned) -/
def mj_oi (x : Nat) : Int32 := if x = 0 then -1 else nI (x - 1)
def mj_isD (σ : mj_St) (D : Nat → Nat → Nat) : Prop :=
  σ.1 14 14 = nI (D 14 14) ∧ σ.1 14 16 = nI (D 14 16) ∧ σ.1 14 17 = nI (D 14 17) ∧ σ.1 14 18 = nI (D 14 18) ∧
  (∀ i, i < D 14 14 → σ.1 15 i = nI (D 15 i) ∧ σ.1 16 i = nI (D 16 i) ∧ σ.1 17 i = nI (D 17 i) ∧ σ.1 18 i = mj_oi (D 18 i) ∧ σ.1 19 i = mj_oi (D 19 i) ∧ σ.1 20 i = mj_oi (D 20 i) ∧ σ.1 21 i = nI (D 21 i) ∧ σ.1 24 i = nI (D 24 i) ∧ σ.1 25 i = nI (D 25 i) ∧ σ.1 26 i = nI (D 26 i)) ∧
  (∀ h, h < 12 → σ.1 27 h = nI (D 27 h)) ∧ ∀ f, f < 3 → σ.1 28 f = nI (D 28 f)
/-- what every deal is like -/
def mj_okD (D : Nat → Nat → Nat) : Prop :=
  D 14 14 ≤ 9 ∧ D 14 16 < 512 ∧ D 14 17 ≤ 12 ∧ D 14 18 < 8 ∧
  (∀ i, i < D 14 14 → (1 ≤ D 15 i ∧ D 15 i ≤ 6) ∧ (D 16 i ≤ D 17 i ∧ D 17 i < 12) ∧ D 18 i ≤ 4 ∧ (D 19 i ≤ D 14 14 ∧ (0 < D 19 i → D 15 (D 19 i - 1) < 5)) ∧ D 20 i ≤ 3 ∧ D 21 i ≤ 1 ∧ (D 24 i ≤ 3 ∧ D 25 i ≤ D 24 i) ∧ (D 15 i = 3 → 1 ≤ D 26 i ∧ D 26 i ≤ 6 ∧ D 24 i = (D 17 i - D 16 i) / D 26 i + 1) ∧ (D 15 i = 5 → 1 ≤ D 18 i)) ∧
  (∀ h, h < 12 → D 27 h ≤ 2) ∧ (∀ f, f < 3 → D 28 f < 12) ∧
  ((List.range (D 14 14)).filter (fun i => decide (D 15 i < 5))).length ≤ 6 ∧
  ∀ i, i < D 14 14 → D 15 i = 2 → 0 < D 25 i → D 25 i < D 24 i → D 17 i < D 14 17 → (D 14 16).testBit i = true
theorem mj_oi_m1 {x : Nat} (hx : x < 2147483648) : (mj_oi x = -1) = (x = 0) := by
  apply propext
  unfold mj_oi
  by_cases c : x = 0
  · rw [if_pos c]; exact ⟨fun _ => c, fun _ => rfl⟩
  · rw [if_neg c]
    exact ⟨fun z => absurd z (mj_nI_m1 (by omega)), fun z => absurd z c⟩
theorem mj_oi_eq {x y : Nat} (hx : x < 2147483648) (hy : y < 2147483648) : (mj_oi x = mj_oi y) = (x = y) := by
  apply propext
  refine ⟨fun h => ?_, fun h => by rw [h]⟩
  by_cases c : y = 0
  · rw [show mj_oi y = -1 by rw [mj_oi_m1 hy]; exact c, mj_oi_m1 hx] at h
    omega
  · by_cases c2 : x = 0
    · rw [show mj_oi x = -1 by rw [mj_oi_m1 hx]; exact c2] at h
      rw [eq_comm, mj_oi_m1 hy] at h
      omega
    · unfold mj_oi at h
      rw [if_neg c, if_neg c2] at h
      have := mj_nI_inj (by omega) (by omega) h
      omega
theorem mj_oi_pos {x : Nat} (h : 0 < x) : mj_oi x = nI (x - 1) := if_neg (by omega)
-- who is asked, and who is known
def mj_asD (D : Nat → Nat → Nat) (i o : Nat) : Bool := decide (D 20 i = 0) || decide (o / 2 ^ (D 20 i - 1) % 2 = D 21 i)
def mj_knD (D : Nat → Nat → Nat) (i h : Nat) : Bool := decide (D 20 i = 0) || decide (D 28 (D 20 i - 1) ≤ h)
def mj_cvD (D : Nat → Nat → Nat) (i h : Nat) : Bool := decide (D 16 i ≤ h) && decide (h ≤ D 17 i)
theorem mj_ask_D {i o : Nat} (hD : mj_isD σ D) (hk : mj_okD D) (hi : i < D 14 14) (ho : o < 2 ^ 31) : mj_ask (σ.1 20 i) (σ.1 21 i) (nI o) = mj_asD D i o := by
  obtain ⟨-, -, -, -, h5, -, -⟩ := hD
  obtain ⟨-, -, -, -, -, e20, e21, -⟩ := h5 i hi
  obtain ⟨-, -, -, -, k5, -⟩ := hk
  obtain ⟨-, -, -, -, k20, k21, -⟩ := k5 i hi
  unfold mj_ask mj_asD
  rw [e20, e21]
  have em : decide (mj_oi (D 20 i) = -1) = decide (D 20 i = 0) := mj_dec (by rw [mj_oi_m1 (by omega)])
  rw [em]
  by_cases c : D 20 i = 0
  · rw [decide_eq_true c, Bool.true_or, Bool.true_or]
  · rw [mj_oi_pos (by omega), mj_bt (by omega), mj_b_nI (by omega), Nat.testBit_eq_decide_div_mod_eq]
    congr 1
    have h2 := Nat.mod_lt (o / 2 ^ (D 20 i - 1)) (show 0 < 2 by decide)
    generalize o / 2 ^ (D 20 i - 1) % 2 = x at *
    have hx : x = 0 ∨ x = 1 := by omega
    have hy : D 21 i = 0 ∨ D 21 i = 1 := by omega
    rcases hx with a | a <;> rcases hy with b | b <;> rw [a, b] <;> decide
theorem mj_kn_D {i h : Nat} (hD : mj_isD σ D) (hk : mj_okD D) (hi : i < D 14 14) (hh : h < 2147483648) : mj_kn σ i (nI h) = mj_knD D i h := by
  obtain ⟨-, -, -, -, h5, -, h7⟩ := hD
  obtain ⟨-, -, -, -, -, e20, -⟩ := h5 i hi
  obtain ⟨-, -, -, -, k5, -, k7, -⟩ := hk
  obtain ⟨-, -, -, -, k20, -⟩ := k5 i hi
  unfold mj_kn mj_knD
  rw [e20]
  have em : decide (mj_oi (D 20 i) = -1) = decide (D 20 i = 0) := mj_dec (by rw [mj_oi_m1 (by omega)])
  rw [em]
  by_cases c : D 20 i = 0
  · rw [decide_eq_true c, Bool.true_or, Bool.true_or]
  · have k := k7 (D 20 i - 1) (by omega)
    rw [mj_oi_pos (by omega), nI_clamp (by omega), h7 _ (by omega)]
    congr 1
    by_cases z : D 28 (D 20 i - 1) ≤ h
    · rw [decide_eq_true z, decide_eq_true (nI_nlt z (by omega))]
    · rw [decide_eq_false z, decide_eq_false (fun y => y (nI_lt (by omega) (by omega)))]
theorem mj_cov_n {a b h : Nat} (ha : a < 2147483648) (hb : b < 2147483648) (hh : h < 2147483648) : mj_cov (nI a) (nI b) (nI h) = (decide (a ≤ h) && decide (h ≤ b)) := by
  unfold mj_cov
  congr 1
  · by_cases z : a ≤ h
    · rw [decide_eq_true z, decide_eq_true (nI_nlt z (by omega))]
    · rw [decide_eq_false z, decide_eq_false (fun y => y (nI_lt (by omega) (by omega)))]
  · by_cases z : h ≤ b
    · rw [decide_eq_true z, decide_eq_true (nI_nlt z (by omega))]
    · rw [decide_eq_false z, decide_eq_false (fun y => y (nI_lt (by omega) (by omega)))]
theorem mj_cov_D {i h : Nat} (hD : mj_isD σ D) (hk : mj_okD D) (hi : i < D 14 14) (hh : h < 2147483648) : mj_cov (σ.1 16 i) (σ.1 17 i) (nI h) = mj_cvD D i h := by
  obtain ⟨-, -, -, -, h5, -, -⟩ := hD
  obtain ⟨-, e16, e17, -⟩ := h5 i hi
  obtain ⟨-, -, -, -, k5, -⟩ := hk
  obtain ⟨-, k17, -⟩ := k5 i hi
  rw [e16, e17]
  exact mj_cov_n (by omega) (by omega) hh
theorem mj_wk_D {i : Nat} (hD : mj_isD σ D) (hk : mj_okD D) (hi : i < D 14 14) : mj_wk (σ.1 15 i) = decide (D 15 i < 5) := by
  obtain ⟨-, -, -, -, h5, -, -⟩ := hD
  obtain ⟨e15, -⟩ := h5 i hi
  obtain ⟨-, -, -, -, k5, -⟩ := hk
  obtain ⟨⟨k1, k2⟩, -⟩ := k5 i hi
  rw [e15]
  have : ∀ k : Nat, 1 ≤ k → k ≤ 6 → mj_wk (nI k) = decide (k < 5) := by
    intro k a b
    have : k = 1 ∨ k = 2 ∨ k = 3 ∨ k = 4 ∨ k = 5 ∨ k = 6 := by omega
    rcases this with q | q | q | q | q | q <;> subst q <;> decide
  exact this _ k1 k2
-- how a search sees them: for one outcome, or for whatever comes
def mj_kaV (D : Nat → Nat → Nat) (gr o g h i : Nat) : Bool := mj_knD D i h && mj_asD D i (if gr = 1 then o else g)
def mj_maV (D : Nat → Nat → Nat) (gr o g h i : Nat) : Bool := if gr = 1 then mj_asD D i o else !(mj_knD D i h) || mj_asD D i g
def mj_suV (D : Nat → Nat → Nat) (gr o g h i : Nat) : Bool := if gr = 1 then mj_asD D i o else mj_knD D i h && mj_asD D i g
theorem mj_stg_D {gr o g h i : Nat} (hD : mj_isD σ D) (hk : mj_okD D) (hgr : gr = 1 ∨ gr = 8) (h2 : σ.1 46 2 = nI gr) (h3 : σ.1 46 3 = nI o) (hi : i < D 14 14) (ho : o < 8) (hg : g < 8) (hh : h < 2147483648) :
    decide (mj_stg σ i (nI g) (nI h) = 3) = mj_kaV D gr o g h i ∧ (!(decide (mj_stg σ i (nI g) (nI h) < 1))) = mj_maV D gr o g h i ∧ (!(decide (mj_stg σ i (nI g) (nI h) < 2))) = mj_suV D gr o g h i ∧ decide (¬ mj_stg σ i (nI g) (nI h) = 0) = mj_maV D gr o g h i := by
  have a1 := mj_ask_D hD hk hi (o := o) (by omega)
  have a2 := mj_ask_D hD hk hi (o := g) (by omega)
  have a3 := mj_kn_D hD hk hi hh
  unfold mj_stg mj_kaV mj_maV mj_suV
  rw [h2, h3, a1, a2, a3]
  rcases hgr with z | z
  · subst z
    have e : nI 1 = (1 : Int32) := rfl
    rw [if_pos e, if_pos rfl, if_pos rfl, if_pos rfl]
    cases mj_asD D i o <;> cases mj_knD D i h <;> decide
  · subst z
    have e : ¬ nI 8 = (1 : Int32) := by decide
    have e8 : ¬ (8 : Nat) = 1 := by decide
    simp only [e, e8, if_false]
    cases mj_asD D i g <;> cases mj_knD D i h <;> decide
/-- who is shut out of an hour by those that want it free, or a thing left alone -/
def mj_clD (D : Nat → Nat → Nat) (mt : Nat → Bool) (gr o g h q : Nat) : Bool := mj_anyF (fun i => mt i && (!(decide (D 15 i < 5)) && (mj_cvD D i h && (mj_maV D gr o g h i && (decide (D 15 i = 6) || decide (D 18 q = D 18 i)))))) 0 (D 14 14)
theorem mj_clp_b {i n k : Nat} {u : Int32} (hn : n ≤ 6) (hk : k < 32) : mj_b (mj_clp σ i u n) k = (mj_b u k || (decide (k < n) && mj_clc σ i k)) := mj_fbi_b (b := u) (p := mj_clc σ i) hk n (by omega)
theorem mj_clo_b {g h : Int32} {n k : Nat} (hn : n ≤ 6) (hk : k < n) : ∀ N, mj_b (mj_clo σ g h n N) k = mj_anyF (fun i => mj_cls σ g h i && mj_clc σ i k) 0 N := by
  intro N
  induction N with
  | zero => exact mj_b_0
  | succ N ih =>
    have e : mj_clo σ g h n (N + 1) = if mj_cls σ g h N = true then mj_clp σ N (mj_clo σ g h n N) n else mj_clo σ g h n N := rfl
    rw [e, mj_anyS, Nat.zero_add]
    cases c : mj_cls σ g h N
    · rw [if_neg (by decide), ih, Bool.false_and, Bool.or_false]
    · rw [if_pos rfl, mj_clp_b hn (by omega), ih, decide_eq_true hk, Bool.true_and]
theorem mj_clo_D {gr o g h n k q : Nat} {mt : Nat → Bool} (hD : mj_isD σ D) (hk : mj_okD D) (hgr : gr = 1 ∨ gr = 8) (h1 : ∀ i, i < D 14 14 → mj_b (σ.1 46 1) i = mt i) (h2 : σ.1 46 2 = nI gr) (h3 : σ.1 46 3 = nI o) (ho : o < 8) (hg : g < 8) (hh : h < 2147483648) (hn : n ≤ 6) (hkn : k < n) (h47 : σ.1 47 k = nI q) (hq : q < D 14 14) : mj_b (mj_clo σ (nI g) (nI h) n (D 14 14)) k = mj_clD D mt gr o g h q := by
  rw [mj_clo_b hn hkn]
  unfold mj_clD
  have N9 := hk.1
  refine mj_anyF_congr _ _ (fun i _ hi => ?_)
  have hi' : i < D 14 14 := by omega
  obtain ⟨-, -, -, s4⟩ := mj_stg_D hD hk hgr h2 h3 hi' ho hg hh
  unfold mj_cls mj_clc
  rw [h1 i hi', mj_wk_D hD hk hi', mj_cov_D hD hk hi' hh, s4, h47, nI_clamp (by omega)]
  obtain ⟨-, -, -, -, d5, -, -⟩ := hD
  obtain ⟨e15, -, -, e18, -⟩ := d5 i hi'
  obtain ⟨-, -, -, e18q, -⟩ := d5 q hq
  have k5 := hk.2.2.2.2.1
  have ki := k5 i hi'
  have kq := k5 q hq
  rw [e15, e18, e18q]
  have e6 : decide (nI (D 15 i) = 6) = decide (D 15 i = 6) := mj_dec (nI_eq (b := 6) (by omega) (by omega))
  have e7 : decide (mj_oi (D 18 q) = mj_oi (D 18 i)) = decide (D 18 q = D 18 i) := mj_dec (by rw [mj_oi_eq (by omega) (by omega)])
  rw [e6, e7]
  cases mt i <;> cases decide (D 15 i < 5) <;> cases mj_cvD D i h <;> cases mj_maV D gr o g h i <;> rfl
end
