section
variable {σ τ ρ : mj_St}
/-! a plan leaves room -/
theorem mj_sgm_one {P : Nat → Prop} [DecidablePred P] : ∀ n, (∀ p q, p < n → q < n → P p → P q → p = q) → mj_sgm (fun q => if P q then 1 else 0) n ≤ 1 := by
  intro n
  induction n with
  | zero => intro _; exact Nat.zero_le _
  | succ n ih =>
    intro h
    simp only [mj_sgm]
    by_cases c : P n
    · rw [if_pos c]
      have : mj_sgm (fun q => if P q then 1 else 0) n = 0 := mj_sgm_0 n (fun q hq => if_neg (fun z => by
        have := h q n (by omega) (by omega) z c
        omega))
      omega
    · rw [if_neg c]
      have := ih (fun p q a b => h p q (by omega) (by omega))
      omega
theorem mj_sgm_bnd {f : Nat → Nat} {m : Nat} : ∀ n, (∀ i, i < n → f i ≤ m) → mj_sgm f n ≤ n * m := by
  intro n
  induction n with
  | zero => intro _; exact Nat.zero_le _
  | succ n ih =>
    intro h
    simp only [mj_sgm]
    have h1 := ih (fun i q => h i (by omega))
    have h2 := h n (by omega)
    rw [Nat.succ_mul]
    omega
theorem mj_sgm_ct {S : Nat → Nat → Bool} {V : Nat → Prop} [DecidablePred V] {h b n : Nat} : mj_sgm (fun q => if V q then mj_ct (fun u => S u q) h b else 0) n = mj_sgm (fun t => mj_sgm (fun q => if V q ∧ h ≤ t ∧ S t q = true then 1 else 0) n) b := by
  rw [← mj_sgm_swap]
  refine mj_sgm_congr n (fun q _ => ?_)
  by_cases c : V q
  · rw [if_pos c]
    refine mj_sgm_congr b (fun t _ => ?_)
    simp [c]
  · rw [if_neg c]
    refine (mj_sgm_0 b (fun t _ => ?_)).symm
    simp [c]
theorem mj_sgm_hours {f : Nat → Nat} {R : Nat → Nat} {h : Nat} (h0 : ∀ t, t < h → f t = 0) : ∀ j, (∀ t, h ≤ t → t < h + j → R t + f t ≤ R (t + 1)) → R h + mj_sgm f (h + j) ≤ R (h + j) := by
  intro j
  induction j with
  | zero =>
    intro _
    rw [Nat.add_zero, mj_sgm_0 h h0]
    exact Nat.le_refl _
  | succ j ih =>
    intro hr
    have h1 := ih (fun t a b => hr t a (by omega))
    have h2 := hr (h + j) (by omega) (by omega)
    show R h + (mj_sgm f (h + j) + f (h + j)) ≤ R (h + j + 1)
    omega
def mj_ath (σ : mj_St) (c : Nat → Nat) (U : Nat → Bool) (n v : Nat) : Nat := mj_sgm (fun q => if U q = true ∧ σ.1 18 (σ.1 47 q).toNatClampNeg = nI v then c q else 0) n
theorem mj_ath_put {c : Nat → Nat} {U : Nat → Bool} {n v p : Nat} (hp : p < n) (hU : U p = false) : mj_ath σ c (fun q => U q || decide (q = p)) n v = mj_ath σ c U n v + if σ.1 18 (σ.1 47 p).toNatClampNeg = nI v then c p else 0 := by
  unfold mj_ath
  have h1 := mj_sgm_put (f := fun q => if U q = true ∧ σ.1 18 (σ.1 47 q).toNatClampNeg = nI v then c q else 0) (p := p) (v := if σ.1 18 (σ.1 47 p).toNatClampNeg = nI v then c p else 0) (by simp [hU]) n hp
  rw [← h1]
  refine mj_sgm_congr n (fun q _ => ?_)
  by_cases e : q = p
  · subst e
    simp
  · simp [e]
theorem mj_sum_put {c : Nat → Nat} {U : Nat → Bool} {n p : Nat} (hp : p < n) (hU : U p = false) : mj_sgm (fun q => if (U q || decide (q = p)) = true then c q else 0) n = mj_sgm (fun q => if U q = true then c q else 0) n + c p := by
  have h1 := mj_sgm_put (f := fun q => if U q = true then c q else 0) (p := p) (v := c p) (by simp [hU]) n hp
  rw [← h1]
  refine mj_sgm_congr n (fun q _ => ?_)
  by_cases e : q = p
  · subst e
    simp
  · simp [e]
theorem mj_5sh {a b c d x : Nat} (ha : a ≤ 18) (hb : b ≤ 18) (hc : c ≤ 18) (hd : d ≤ 18) (hx : x ≤ 3) :
    (((nI (a + 32 * b + 1024 * c + 32768 * d) + nI x <<< ((5 * nI 0) &&& 31)) >>> ((5 * nI 0) &&& 31)) &&& 31 = nI (a + x)) ∧ (((nI (a + 32 * b + 1024 * c + 32768 * d) + nI x <<< ((5 * nI 1) &&& 31)) >>> ((5 * nI 1) &&& 31)) &&& 31 = nI (b + x)) ∧
    (((nI (a + 32 * b + 1024 * c + 32768 * d) + nI x <<< ((5 * nI 2) &&& 31)) >>> ((5 * nI 2) &&& 31)) &&& 31 = nI (c + x)) ∧ (((nI (a + 32 * b + 1024 * c + 32768 * d) + nI x <<< ((5 * nI 3) &&& 31)) >>> ((5 * nI 3) &&& 31)) &&& 31 = nI (d + x)) ∧
    (nI (a + 32 * b + 1024 * c + 32768 * d) + nI x <<< ((5 * nI 0) &&& 31) = nI ((a + x) + 32 * b + 1024 * c + 32768 * d)) ∧ (nI (a + 32 * b + 1024 * c + 32768 * d) + nI x <<< ((5 * nI 1) &&& 31) = nI (a + 32 * (b + x) + 1024 * c + 32768 * d)) ∧
    (nI (a + 32 * b + 1024 * c + 32768 * d) + nI x <<< ((5 * nI 2) &&& 31) = nI (a + 32 * b + 1024 * (c + x) + 32768 * d)) ∧ (nI (a + 32 * b + 1024 * c + 32768 * d) + nI x <<< ((5 * nI 3) &&& 31) = nI (a + 32 * b + 1024 * c + 32768 * (d + x))) := by
  have m31 : ∀ m : Nat, m < 2 ^ 31 → nI m &&& 31 = nI (m % 32) := by
    intro m hm
    apply mj_b_ext
    intro k hk
    rw [mj_b_and, mj_b_nI (by omega), mj_b_nI (by omega), show (31 : Int32) = nI (2 ^ 5 - 1) from rfl, mj_b_nI (by decide), Nat.testBit_two_pow_sub_one, show (32 : Nat) = 2 ^ 5 from rfl, Nat.testBit_mod_two_pow, Bool.and_comm]
  have e0 : (5 : Int32) * nI 0 = nI 0 := rfl
  have e1 : (5 : Int32) * nI 1 = nI 5 := rfl
  have e2 : (5 : Int32) * nI 2 = nI 10 := rfl
  have e3 : (5 : Int32) * nI 3 = nI 15 := rfl
  rw [e0, e1, e2, e3, mj_nI_shl (a := x) (j := 0) (by decide) (by omega), mj_nI_shl (a := x) (j := 5) (by decide) (by omega), mj_nI_shl (a := x) (j := 10) (by decide) (by omega), mj_nI_shl (a := x) (j := 15) (by decide) (by omega), nI_add, nI_add, nI_add, nI_add,
    mj_nI_shr (by decide) (by omega), mj_nI_shr (by decide) (by omega), mj_nI_shr (by decide) (by omega), mj_nI_shr (by decide) (by omega), m31 _ (by omega), m31 _ (by omega), m31 _ (by omega), m31 _ (by omega)]
  refine ⟨?_, ?_, ?_, ?_, ?_, ?_, ?_, ?_⟩ <;> congr 1 <;> omega
theorem mj_hrm_ok {n h s : Nat} {ask : Int32} {T : Nat → Nat} {ca : Nat → Nat → Bool} {af : Nat → Nat → Prop} {S : Nat → Nat → Bool} {R : Nat → Nat} (hn : n ≤ 6) (hh : h < 12) (hP : mj_Pln n h (mj_lf s) T ca af S) (hSO : mj_SO (σ.1 50) n (σ.1 49)) (hDI : mj_DI n h (mj_lf s) (mj_b ask) S (σ.1 50))
    (hR : ∀ t, h ≤ t → t ≤ 12 → σ.1 54 t = nI (R t)) (hR2 : ∀ t, h ≤ t → t < 12 → R t + mj_sgm (fun q => if S t q = true then 1 else 0) n ≤ R (t + 1)) (hR3 : ∀ t, t ≤ 12 → R t ≤ 1000)
    (hth : ∀ q, q < n → σ.1 18 (σ.1 47 q).toNatClampNeg = -1 ∨ ∃ v, v < 4 ∧ σ.1 18 (σ.1 47 q).toNatClampNeg = nI v)
    (hE : ∀ t p q, h ≤ t → t < 12 → p < n → q < n → S t p = true → S t q = true → σ.1 18 (σ.1 47 p).toNatClampNeg = σ.1 18 (σ.1 47 q).toNatClampNeg → ¬ σ.1 18 (σ.1 47 p).toNatClampNeg = -1 → p = q) : mj_hrm σ h ask s n = true := by
  -- what is done by an hour
  have tot : ∀ d, h ≤ d → d < 12 → R h + mj_sgm (fun q => mj_ct (fun u => S u q) h (d + 1)) n ≤ R (d + 1) := by
    intro d h1 h2
    have e := mj_sgm_ct (S := S) (V := fun _ => True) (h := h) (b := d + 1) (n := n)
    simp only [if_true, true_and] at e
    rw [e]
    have := mj_sgm_hours (f := fun t => mj_sgm (fun q => if h ≤ t ∧ S t q = true then 1 else 0) n) (R := R) (h := h) (fun t ht => mj_sgm_0 n (fun q _ => if_neg (fun z => absurd z.1 (by omega)))) (d + 1 - h) (fun t a b => by
      have e1 : mj_sgm (fun q => if h ≤ t ∧ S t q = true then 1 else 0) n = mj_sgm (fun q => if S t q = true then 1 else 0) n := mj_sgm_congr n (fun q _ => by simp [a])
      show R t + mj_sgm (fun q => if h ≤ t ∧ S t q = true then 1 else 0) n ≤ R (t + 1)
      rw [e1]
      exact hR2 t a (by omega))
    rw [show h + (d + 1 - h) = d + 1 by omega] at this
    exact this
  have thg : ∀ d v, h ≤ d → d < 12 → v < 4 → h + mj_sgm (fun q => if σ.1 18 (σ.1 47 q).toNatClampNeg = nI v then mj_ct (fun u => S u q) h (d + 1) else 0) n ≤ d + 1 := by
    intro d v h1 h2 hv
    rw [mj_sgm_ct (S := S) (V := fun q => σ.1 18 (σ.1 47 q).toNatClampNeg = nI v)]
    have := mj_sgm_hours (f := fun t => mj_sgm (fun q => if σ.1 18 (σ.1 47 q).toNatClampNeg = nI v ∧ h ≤ t ∧ S t q = true then 1 else 0) n) (R := fun t => t) (h := h) (fun t ht => mj_sgm_0 n (fun q _ => if_neg (fun z => absurd z.2.1 (by omega)))) (d + 1 - h) (fun t a b => by
      have := mj_sgm_one (P := fun q => σ.1 18 (σ.1 47 q).toNatClampNeg = nI v ∧ h ≤ t ∧ S t q = true) n (fun p q hp hq a1 a2 => hE t p q a (by omega) hp hq a1.2.2 a2.2.2 (a1.1.trans a2.1.symm) (by rw [a1.1]; exact mj_nI_m1 (by omega)))
      show t + mj_sgm (fun q => if σ.1 18 (σ.1 47 q).toNatClampNeg = nI v ∧ h ≤ t ∧ S t q = true then 1 else 0) n ≤ t + 1
      omega)
    rw [show h + (d + 1 - h) = d + 1 by omega] at this
    exact this
  have l3 : ∀ q, mj_lf s q ≤ 3 := fun q => by have := mj_lf_lt (s := s) (p := q); omega
  have walk : ∀ (j k : Nat) (U : Nat → Bool), k + j = n → (∀ q, q < n → U q = true → mj_b ask q = true ∧ 0 < mj_lf s q ∧ ∃ i, i < k ∧ σ.1 49 i = nI q) → mj_hrs σ h ask s j k (nI (mj_sgm (fun q => if U q = true then mj_lf s q else 0) n), nI (mj_ath σ (mj_lf s) U n 0 + 32 * mj_ath σ (mj_lf s) U n 1 + 1024 * mj_ath σ (mj_lf s) U n 2 + 32768 * mj_ath σ (mj_lf s) U n 3)) = true := by
    intro j
    induction j with
    | zero => intro k U _ _; rfl
    | succ j ih =>
      intro k U hk hU
      obtain ⟨p, hp, ep⟩ := hSO.1 k (by omega)
      have ecp : (σ.1 49 k).toNatClampNeg = p := by rw [ep]; exact nI_clamp (by omega)
      simp only [mj_hrs]
      rw [ecp]
      by_cases c1 : mj_lf s p = 0 ∨ mj_b ask p = false
      · unfold mj_hrk
        rw [if_pos c1]
        exact ih (k + 1) U (by omega) (fun q hq hu => by
          obtain ⟨a, b, i, hi, hi2⟩ := hU q hq hu
          exact ⟨a, b, i, by omega, hi2⟩)
      · have hsp : mj_b ask p = true := by
          cases z : mj_b ask p
          · exact absurd (Or.inr z) c1
          · rfl
        have hcp : 0 < mj_lf s p := Nat.pos_of_ne_zero (fun z => c1 (Or.inl z))
        obtain ⟨d, hd, eD, ect⟩ := hDI p hp hsp hcp
        have hUp : U p = false := by
          cases z : U p
          · rfl
          · obtain ⟨-, -, i, hi, hi2⟩ := hU p hp z
            exact absurd (hi2.trans ep.symm) (hSO.2 i k hi (by omega)).1
        have hhd : h ≤ d := by
          have := mj_ct_len (P := fun u => S u p) (a := h) (d + 1)
          omega
        -- all so far have to be done by then
        have before : ∀ q, q < n → (U q || decide (q = p)) = true → mj_lf s q ≤ mj_ct (fun u => S u q) h (d + 1) := by
          intro q hq hu
          by_cases cq : q = p
          · rw [cq, ect]
            exact Nat.le_refl _
          · have hu2 : U q = true := by simpa [cq] using hu
            obtain ⟨a, b, i, hi, hi2⟩ := hU q hq hu2
            obtain ⟨dq, hdq, eDq, ectq⟩ := hDI q hq a b
            have so := (hSO.2 i k hi (by omega)).2
            rw [hi2, ep, nI_clamp (by omega), nI_clamp (by omega), eD, eDq] at so
            have : dq ≤ d := by
              rw [Int32.lt_iff_toInt_lt, nI_toInt (by omega), nI_toInt (by omega)] at so
              omega
            rw [← ectq]
            exact mj_ct_mono (by omega)
        have s1 := mj_sum_put (c := mj_lf s) (U := U) hp hUp
        have s2 : mj_sgm (fun q => if (U q || decide (q = p)) = true then mj_lf s q else 0) n ≤ mj_sgm (fun q => mj_ct (fun u => S u q) h (d + 1)) n := mj_sgm_le n (fun q hq => by
          by_cases z : (U q || decide (q = p)) = true
          · rw [if_pos z]; exact before q hq z
          · rw [if_neg z]; exact Nat.zero_le _)
        have s3 := tot d hhd hd
        have r1 := hR3 (d + 1) (by omega)
        have bnd : ∀ v, mj_ath σ (mj_lf s) U n v ≤ 18 := fun v => by
          have := mj_sgm_bnd (f := fun q => if U q = true ∧ σ.1 18 (σ.1 47 q).toNatClampNeg = nI v then mj_lf s q else 0) (m := 3) n (fun q _ => by
            by_cases z : U q = true ∧ σ.1 18 (σ.1 47 q).toNatClampNeg = nI v
            · rw [if_pos z]; exact l3 q
            · rw [if_neg z]; exact Nat.zero_le _)
          unfold mj_ath
          omega
        have nU : ∀ q, q < n → (U q || decide (q = p)) = true → mj_b ask q = true ∧ 0 < mj_lf s q ∧ ∃ i, i < k + 1 ∧ σ.1 49 i = nI q := by
          intro q hq hu
          by_cases cq : q = p
          · rw [cq]
            exact ⟨hsp, hcp, k, by omega, ep⟩
          · have hu2 : U q = true := by simpa [cq] using hu
            obtain ⟨a, b, i, hi, hi2⟩ := hU q hq hu2
            exact ⟨a, b, i, by omega, hi2⟩
        have nx := ih (k + 1) (fun q => U q || decide (q = p)) (by omega) nU
        have e54 : σ.1 54 (nI d + 1).toNatClampNeg - σ.1 54 h = nI (R (d + 1) - R h) := by
          rw [nI_1, nI_clamp (by omega), hR _ (by omega) (by omega), hR h (Nat.le_refl _) (by omega), mj_nI_sub (by omega)]
        have eh : nI d - nI h + 1 = nI (d + 1 - h) := by
          rw [mj_nI_sub hhd, nI_1]
          congr 1
          omega
        have q1 : ¬ nI (d + 1 - h) < nI (mj_lf s p) := nI_nlt (by
          have := mj_ct_len (P := fun u => S u p) (a := h) (d + 1)
          omega) (by omega)
        have q2 : ¬ nI (R (d + 1) - R h) < nI (mj_sgm (fun q => if U q = true then mj_lf s q else 0) n) + nI (mj_lf s p) := by
          rw [nI_add]
          exact nI_nlt (by omega) (by omega)
        have a0 := mj_ath_put (σ := σ) (c := mj_lf s) (U := U) (v := 0) hp hUp
        have a1 := mj_ath_put (σ := σ) (c := mj_lf s) (U := U) (v := 1) hp hUp
        have a2 := mj_ath_put (σ := σ) (c := mj_lf s) (U := U) (v := 2) hp hUp
        have a3 := mj_ath_put (σ := σ) (c := mj_lf s) (U := U) (v := 3) hp hUp
        rw [s1, a0, a1, a2, a3] at nx
        unfold mj_hrk
        rw [if_neg c1, eD, e54, eh, if_neg (fun z => z.elim q1 q2)]
        rcases hth p hp with t | ⟨v, hv, t⟩
        · rw [if_pos t]
          rw [t] at nx
          have m1 : ∀ v : Nat, v < 4 → ¬ (-1 : Int32) = nI v := fun v hv z => mj_nI_m1 (s := v) (by omega) z.symm
          simp only [m1 0 (by decide), m1 1 (by decide), m1 2 (by decide), m1 3 (by decide), if_false, Nat.add_zero] at nx
          rw [nI_add]
          exact nx
        · have s4 : mj_ath σ (mj_lf s) (fun q => U q || decide (q = p)) n v ≤ d + 1 - h := by
            have h1 := thg d v hhd hd hv
            have h2 : mj_ath σ (mj_lf s) (fun q => U q || decide (q = p)) n v ≤ mj_sgm (fun q => if σ.1 18 (σ.1 47 q).toNatClampNeg = nI v then mj_ct (fun u => S u q) h (d + 1) else 0) n := by
              unfold mj_ath
              refine mj_sgm_le n (fun q hq => ?_)
              by_cases z : (U q || decide (q = p)) = true ∧ σ.1 18 (σ.1 47 q).toNatClampNeg = nI v
              · rw [if_pos z, if_pos z.2]
                exact before q hq z.1
              · rw [if_neg z]; exact Nat.zero_le _
            omega
          rw [mj_ath_put (v := v) hp hUp, if_pos t] at s4
          rw [if_neg (by rw [t]; exact mj_nI_m1 (by omega)), t]
          rw [t] at nx
          obtain ⟨f0, f1, f2, f3, g0, g1, g2, g3⟩ := mj_5sh (x := mj_lf s p) (bnd 0) (bnd 1) (bnd 2) (bnd 3) (l3 p)
          have ne : ∀ a b : Nat, a < 4 → b < 4 → a ≠ b → ¬ nI a = nI b := fun a b ha hb hab z => hab (mj_nI_inj (by omega) (by omega) z)
          have hv4 : v = 0 ∨ v = 1 ∨ v = 2 ∨ v = 3 := by omega
          have b0 := bnd 0
          have b1 := bnd 1
          have b2 := bnd 2
          have b3 := bnd 3
          rcases hv4 with z | z | z | z <;> subst z
          · simp only [ne 0 1 (by decide) (by decide) (by decide), ne 0 2 (by decide) (by decide) (by decide), ne 0 3 (by decide) (by decide) (by decide), if_true, if_false, Nat.add_zero] at nx
            have l0 := l3 p
            rw [f0, g0, if_neg (nI_nlt s4 (by omega)), nI_add]
            exact nx
          · simp only [ne 1 0 (by decide) (by decide) (by decide), ne 1 2 (by decide) (by decide) (by decide), ne 1 3 (by decide) (by decide) (by decide), if_true, if_false, Nat.add_zero] at nx
            have l0 := l3 p
            rw [f1, g1, if_neg (nI_nlt s4 (by omega)), nI_add]
            exact nx
          · simp only [ne 2 0 (by decide) (by decide) (by decide), ne 2 1 (by decide) (by decide) (by decide), ne 2 3 (by decide) (by decide) (by decide), if_true, if_false, Nat.add_zero] at nx
            have l0 := l3 p
            rw [f2, g2, if_neg (nI_nlt s4 (by omega)), nI_add]
            exact nx
          · simp only [ne 3 0 (by decide) (by decide) (by decide), ne 3 1 (by decide) (by decide) (by decide), ne 3 2 (by decide) (by decide) (by decide), if_true, if_false, Nat.add_zero] at nx
            have l0 := l3 p
            rw [f3, g3, if_neg (nI_nlt s4 (by omega)), nI_add]
            exact nx
  have w := walk n 0 (fun _ => false) (by omega) (fun q _ z => absurd z (by decide))
  have z0 : mj_sgm (fun q => if (fun _ : Nat => false) q = true then mj_lf s q else 0) n = 0 := mj_sgm_0 n (fun q _ => if_neg (by simp))
  have z1 : ∀ v, mj_ath σ (mj_lf s) (fun _ => false) n v = 0 := fun v => mj_sgm_0 n (fun q _ => if_neg (by simp))
  rw [z0, z1, z1, z1, z1] at w
  exact w
end
