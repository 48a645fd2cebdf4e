section
variable {σ τ π : mj_St} {D : Nat → Nat → Nat}
/-! a move of the class is a move told of the promises -/
def mj_Env (π : mj_St) (D : Nat → Nat → Nat) (mt rg : Nat → Bool) (gr o sg : Nat) (L : List Nat) (px : Nat → Nat → Bool) : Prop :=
  mj_Sch π D mt gr o sg L ∧ mj_Bt π D mt gr o L px ∧ (∀ p, p < L.length → π.1 48 p = mj_afv π (mj_ring π (D 14 14)) L.length p) ∧ π.1 46 8 = mj_sam π L.length 22 ∧
  (∀ p h, p < L.length → D 14 17 ≤ h → h < 12 → π.1 52 (p * 12 + h) = mj_lah π p h ∧ π.1 53 (p * 12 + h) = mj_laf π p h) ∧ ∀ i, i < D 14 14 → rg i = mj_b (mj_ring π (D 14 14)) i
theorem mj_L_lt {mt : Nat → Bool} {gr o sg p q : Nat} {L : List Nat} (h : mj_Sch π D mt gr o sg L) (hpq : p < q) (hq : q < L.length) : L.getD p 0 < L.getD q 0 := by
  have e := h.2.2.2.2.2.2.2.2.2.2
  have hp : List.Pairwise (fun a b => a < b) L := by
    rw [e]
    exact List.Pairwise.filter _ List.pairwise_lt_range
  rw [List.getD_eq_getElem?_getD, List.getD_eq_getElem?_getD, List.getElem?_eq_getElem hq, List.getElem?_eq_getElem (by omega : p < L.length)]
  exact List.pairwise_iff_getElem.mp hp p q (by omega) hq hpq
theorem mj_L_inj {mt : Nat → Bool} {gr o sg p q : Nat} {L : List Nat} (h : mj_Sch π D mt gr o sg L) (hp : p < L.length) (hq : q < L.length) (e : L.getD p 0 = L.getD q 0) : p = q := by
  rcases Nat.lt_trichotomy p q with z | z | z
  · have := mj_L_lt h z hq
    omega
  · exact z
  · have := mj_L_lt h z hp
    omega
theorem mj_L_mem {L : List Nat} {i : Nat} : i ∈ L → ∃ p, p < L.length ∧ L.getD p 0 = i := by
  intro h
  obtain ⟨p, hp, e⟩ := List.mem_iff_getElem.mp h
  refine ⟨p, hp, ?_⟩
  rw [List.getD_eq_getElem?_getD, List.getElem?_eq_getElem hp]
  exact e
theorem mj_L_in {mt : Nat → Bool} {gr o sg i : Nat} {L : List Nat} (h : mj_Sch π D mt gr o sg L) : i ∈ L ↔ i < D 14 14 ∧ mj_plD D mt gr o sg i = true := by
  have e := h.2.2.2.2.2.2.2.2.2.2
  rw [e, List.mem_filter, List.mem_range]
/-- the promises of a move -/
def mj_igm (L : List Nat) (k i : Nat) : Bool := mj_anyF (fun p => (mj_sK k).testBit p && decide (L.getD p 0 = i)) 0 L.length
theorem mj_igm_i {L : List Nat} {k i : Nat} : mj_igm L k i = true ↔ ∃ p, p < L.length ∧ (mj_sK k).testBit p = true ∧ L.getD p 0 = i := by
  unfold mj_igm
  rw [mj_anyF_iff]
  constructor
  · rintro ⟨p, -, hp, h⟩
    rw [Bool.and_eq_true, decide_eq_true_eq] at h
    exact ⟨p, by omega, h.1, h.2⟩
  · rintro ⟨p, hp, h1, h2⟩
    exact ⟨p, by omega, by omega, by rw [h1, decide_eq_true h2]; rfl⟩
theorem mj_igm_p {mt : Nat → Bool} {gr o sg k p : Nat} {L : List Nat} (h : mj_Sch π D mt gr o sg L) (hp : p < L.length) : mj_igm L k (L.getD p 0) = (mj_sK k).testBit p := by
  cases z : (mj_sK k).testBit p
  · cases y : mj_igm L k (L.getD p 0)
    · rfl
    · obtain ⟨q, hq, h1, h2⟩ := mj_igm_i.mp y
      rw [mj_L_inj h hq hp h2, z] at h1
      exact absurd h1 (by decide)
  · exact mj_igm_i.mpr ⟨p, hp, z, rfl⟩
theorem mj_pn64_eq : ∀ k, k < 22 → ∀ n, n < 7 → mj_sK k < 2 ^ n → mj_sgm (fun q => if (mj_sK k).testBit q = true then 1 else 0) n = mj_pn64 (mj_sK k) := by decide +kernel
theorem mj_sK_n {n k : Nat} (hk : k < 22) (h : ∀ p, p < 6 → (mj_sK k).testBit p = true → p < n) : mj_sK k < 2 ^ n := by
  apply Nat.lt_pow_two_of_testBit
  intro i hi
  by_cases c : i < 6
  · cases z : (mj_sK k).testBit i
    · rfl
    · have := h i c z
      omega
  · exact mj_sK_hi hk (by omega)
theorem mj_sgm_ex {P : Nat → Bool} : ∀ n, (∀ p q, p < n → q < n → P p = true → P q = true → p = q) → mj_sgm (fun p => if P p = true then 1 else 0) n = if mj_anyF P 0 n = true then 1 else 0 := by
  intro n
  induction n with
  | zero => intro _; rfl
  | succ n ih =>
    intro h
    simp only [mj_sgm]
    rw [ih (fun p q a b => h p q (by omega) (by omega)), mj_anyS, Nat.zero_add]
    cases c : P n
    · rw [Bool.or_false]
      simp
    · have : mj_anyF P 0 n = false := by
        cases z : mj_anyF P 0 n
        · rfl
        · obtain ⟨p, -, hp, hb⟩ := (mj_anyF_iff _ _).mp z
          have := h p n (by omega) (by omega) hb c
          omega
      rw [this]
      simp
theorem mj_igm_cnt {mt : Nat → Bool} {gr o sg k : Nat} {L : List Nat} (h : mj_Sch π D mt gr o sg L) (hk : k < 22) (hn : ∀ p, p < 6 → (mj_sK k).testBit p = true → p < L.length) : mj_sbt (mj_igm L k) = mj_pn64 (mj_sK k) := by
  have n6 := mj_Sch_len h
  have pl := fun p hp => mj_Sch_pl h (p := p) hp
  have N9 := h.2.1.1
  rw [← mj_pn64_eq k hk L.length (by omega) (mj_sK_n hk hn)]
  unfold mj_sbt
  have e1 : mj_sgm (fun i => if mj_igm L k i = true then 1 else 0) 9 = mj_sgm (fun i => mj_sgm (fun p => if ((mj_sK k).testBit p && decide (L.getD p 0 = i)) = true then 1 else 0) L.length) 9 := mj_sgm_congr 9 (fun i _ => by
    rw [mj_sgm_ex (P := fun p => (mj_sK k).testBit p && decide (L.getD p 0 = i)) L.length (fun p q hp hq a b => by
      simp only [Bool.and_eq_true, decide_eq_true_eq] at a b
      exact mj_L_inj h hp hq (a.2.trans b.2.symm))]
    rfl)
  rw [e1, mj_sgm_swap]
  refine mj_sgm_congr _ (fun p hp => ?_)
  have lp := (pl p hp).1
  cases z : (mj_sK k).testBit p
  · rw [if_neg (by decide)]
    exact mj_sgm_0 9 (fun i _ => by simp)
  · rw [if_pos rfl]
    have e2 := mj_sgm_put (f := fun _ => 0) (p := L.getD p 0) (v := 1) rfl 9 (by omega)
    rw [mj_sgm_0 9 (fun _ _ => rfl), Nat.zero_add] at e2
    refine Eq.trans (mj_sgm_congr 9 (fun i _ => ?_)) e2
    generalize L.getD p 0 = q
    by_cases c : i = q
    · subst c; simp
    · simp [c, Ne.symm c]
theorem mj_plc_of {n q i : Nat} (n6 : n ≤ 6) (hn : ∀ a b, a < n → b < n → π.1 47 a = π.1 47 b → a = b) (hq : q < n) (hi : π.1 47 q = nI i) : mj_plc π (nI i) n 0 = nI q := by
  rcases mj_plc_c (σ := π) (x := nI i) n 0 with z | ⟨p, a, b, c, d⟩
  · exfalso
    have key : ∀ j k, k + j = n → k ≤ q → mj_plc π (nI i) j k = -2 → False := by
      intro j
      induction j with
      | zero => intro k h1 h2 _; omega
      | succ j ih =>
        intro k h1 h2 h3
        simp only [mj_plc] at h3
        by_cases c : π.1 47 k = nI i
        · rw [if_pos c] at h3
          have := congrArg Int32.toInt h3
          rw [nI_toInt (by omega)] at this
          have e2 : (-2 : Int32).toInt = -2 := by decide
          omega
        · rw [if_neg c] at h3
          refine ih (k + 1) (by omega) ?_ h3
          by_cases e : k = q
          · rw [e] at c
            exact absurd hi c
          · omega
    exact key n 0 (by omega) (by omega) z
  · rw [c]
    congr 1
    exact hn p q (by omega) hq (d.trans hi.symm)
end
