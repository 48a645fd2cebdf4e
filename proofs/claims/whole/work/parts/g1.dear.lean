section
variable {σ τ : mj_St} {D : Nat → Nat → Nat}
/-- what breaking some that aren't works costs -/
def mk_pB (D : Nat → Nat → Nat) (pr : Nat → Nat) (o k : Nat) : Nat := mj_sgm (fun i => if k.testBit i = true ∧ ¬ D 15 i < 5 ∧ mj_asD D i o = true then pr i else 0) (D 14 14)
theorem mk_chi_D {o k : Nat} {pr : Nat → Nat} (hM : mk_isM σ D) (hk : mj_okD D) (ho : o < 8) (hk9 : k < 512) (hp : ∀ i, i < D 14 14 → mj_prc σ i = nI (pr i) ∧ pr i ≤ 99) : ((mj_chi σ (nI o) (nI k) (D 14 14)).1 = true ↔ ∀ i, i < D 14 14 → k.testBit i = true → ¬ D 15 i < 5) ∧ (mj_chi σ (nI o) (nI k) (D 14 14)).2 = nI (mk_pB D pr o k) := by
  have N9 := hk.1
  have key : ∀ n, n ≤ D 14 14 → ((mj_chi σ (nI o) (nI k) n).1 = true ↔ ∀ i, i < n → k.testBit i = true → ¬ D 15 i < 5) ∧ (mj_chi σ (nI o) (nI k) n).2 = nI (mj_sgm (fun i => if k.testBit i = true ∧ ¬ D 15 i < 5 ∧ mj_asD D i o = true then pr i else 0) n) := by
    intro n
    induction n with
    | zero => intro _; exact ⟨⟨fun _ i hi => absurd hi (Nat.not_lt_zero i), fun _ => rfl⟩, rfl⟩
    | succ n ih =>
      intro hn
      obtain ⟨i1, i2⟩ := ih (by omega)
      have hi : n < D 14 14 := by omega
      have s : mj_chi σ (nI o) (nI k) (n + 1) = if mj_b (nI k) n = true then ((mj_chi σ (nI o) (nI k) n).1 && decide (4 < σ.1 65 n), if 4 < σ.1 65 n ∧ mj_ask (σ.1 70 n) (σ.1 71 n) (nI o) = true then (mj_chi σ (nI o) (nI k) n).2 + mj_prc σ n else (mj_chi σ (nI o) (nI k) n).2) else mj_chi σ (nI o) (nI k) n := rfl
      rw [s, mj_b_nI (by omega), mk_ask_M hM hk hi (by omega)]
      have w := (mk_wk_M hM hk hi).1
      show _ ∧ _ = nI (mj_sgm _ n + (if k.testBit n = true ∧ ¬ D 15 n < 5 ∧ mj_asD D n o = true then pr n else 0))
      by_cases c : k.testBit n = true
      · rw [if_pos c]
        refine ⟨?_, ?_⟩
        · show ((mj_chi σ (nI o) (nI k) n).1 && decide (4 < σ.1 65 n)) = true ↔ _
          rw [Bool.and_eq_true, i1, decide_eq_true_eq, w]
          constructor
          · rintro ⟨a, b⟩ i h1 h2
            by_cases e : i = n
            · rw [e]; exact b
            · exact a i (by omega) h2
          · intro a
            exact ⟨fun i h1 h2 => a i (by omega) h2, a n (by omega) c⟩
        · show (if 4 < σ.1 65 n ∧ mj_asD D n o = true then (mj_chi σ (nI o) (nI k) n).2 + mj_prc σ n else (mj_chi σ (nI o) (nI k) n).2) = _
          by_cases d : ¬ D 15 n < 5 ∧ mj_asD D n o = true
          · rw [if_pos ⟨w.mpr d.1, d.2⟩, if_pos ⟨c, d⟩, i2, (hp n hi).1, nI_add]
          · rw [if_neg (fun z => d ⟨w.mp z.1, z.2⟩), if_neg (fun z => d z.2), i2, Nat.add_zero]
      · rw [if_neg c, if_neg (fun z => c z.1), Nat.add_zero]
        refine ⟨?_, i2⟩
        rw [i1]
        constructor
        · intro a i h1 h2
          by_cases e : i = n
          · rw [e] at h2; exact absurd h2 c
          · exact a i (by omega) h2
        · intro a i h1 h2
          exact a i (by omega) h2
  exact key _ (Nat.le_refl _)
/-- what is left of each now; 4: lost -/
def mk_y0 (D : Nat → Nat → Nat) (i : Nat) : Nat := if (D 14 16).testBit i = true then 4 else D 25 i
/-- a way to break and to go on, and what it costs -/
def mk_tot (D : Nat → Nat → Nat) (rg : Nat → Bool) (o : Nat) (pr : Nat → Nat) (c : Nat) : Prop := ∃ k, k < 2 ^ D 14 14 ∧ (∀ i, i < D 14 14 → k.testBit i = true → ¬ D 15 i < 5) ∧ ∃ c1, mk_play D (mk_mtB D (fun i => k.testBit i)) rg o pr (12 - D 14 17) (mk_y0 D) c1 ∧ c = mk_pB D pr o k + c1
theorem mk_y0_L {mt : Nat → Bool} (hM : mk_isM σ D) (hk : mj_okD D) : mk_Ly D mt (mj_lvn σ) (mk_y0 D) := fun i hi _ _ => by
  obtain ⟨-, -, -, -, -, -, -, -, e76, e77, -⟩ := hM.2.2.2.1 i hi
  have k25 := (hk.2.2.2.2.1 i hi).2.2.2.2.2.2.1
  unfold mj_lvn mk_y0
  rw [e77]
  by_cases c : (D 14 16).testBit i = true
  · rw [if_pos c, if_pos c, if_pos (show nI 1 = 1 from rfl)]
    exact ⟨rfl, Or.inl rfl⟩
  · rw [if_neg c, if_neg c, if_neg (by decide)]
    exact ⟨e76, Or.inr k25.2⟩
theorem mk_mtk_b {k : Nat} (hD : mj_isD σ D) (hM : mk_isM σ D) (hk : mj_okD D) (hk9 : k < 512) : mj_b (mj_evy σ &&& (nI k ^^^ -1)) = mk_mtB D (fun i => k.testBit i) := by
  have N9 := hk.1
  funext b
  unfold mk_mtB
  by_cases hb : b < 32
  · rw [mj_b_and, mj_b_not hb, mk_ev_eq hD hM, mk_ev_b hD hk hb, mj_b_nI (by omega)]
  · rw [mj_b_big (by omega), decide_eq_false (by omega), Bool.false_and]
/-- the least of all ways, by the reference -/
theorem mk_cho_D {o : Nat} {pr : Nat → Nat} (hD : mj_isD σ D) (hM : mk_isM σ D) (hk : mj_okD D) (ho : o < 8) (hp : ∀ i, i < D 14 14 → mj_prc σ i = nI (pr i) ∧ pr i ≤ 99) :
    ∃ m, m ≤ 2000 ∧ mj_cho σ (nI o) (D 14 14) (D 14 17) 0 (2 ^ D 14 14) (-1) = nI m ∧ mk_tot D (mj_b (mj_ring σ (D 14 14))) o pr m ∧ ∀ c, mk_tot D (mj_b (mj_ring σ (D 14 14))) o pr c → m ≤ c := by
  have N9 := hk.1
  have P9 : 2 ^ D 14 14 ≤ 512 := Nat.pow_le_pow_right (n := 2) (j := 9) (by decide) N9
  have hM' := mk_cnS_M (N := D 14 14) hM
  have hp' : ∀ i, i < D 14 14 → mj_prc (mj_cnS σ (D 14 14)) i = nI (pr i) ∧ pr i ≤ 99 := fun i hi => by
    have e : mj_prc (mj_cnS σ (D 14 14)) i = mj_prc σ i := by
      unfold mj_prc
      rw [mj_cnS_o (c := 72) (by decide) (by decide)]
      rfl
    rw [e]
    exact hp i hi
  have pBle : ∀ k, mk_pB D pr o k ≤ 891 := fun k => by
    have := mj_sgm_bnd (f := fun i => if k.testBit i = true ∧ ¬ D 15 i < 5 ∧ mj_asD D i o = true then pr i else 0) (m := 99) (D 14 14) (fun i hi => by
      show (if _ then pr i else 0) ≤ 99
      split
      · exact (hp i hi).2
      · omega)
    unfold mk_pB
    omega
  have one : ∀ k, k < 2 ^ D 14 14 → (mj_chi σ (nI o) (nI k) (D 14 14)).1 = true → ∃ c, c ≤ 1782 ∧ mj_cho1 σ (nI o) (D 14 14) (D 14 17) k = nI c ∧ mk_pB D pr o k ≤ c ∧ mk_tot D (mj_b (mj_ring σ (D 14 14))) o pr c ∧ ∀ c1, mk_play D (mk_mtB D (fun i => k.testBit i)) (mj_b (mj_ring σ (D 14 14))) o pr (12 - D 14 17) (mk_y0 D) c1 → c ≤ mk_pB D pr o k + c1 := fun k hk2 hch => by
    obtain ⟨q1, q2⟩ := mk_chi_D (k := k) hM hk ho (by omega) hp
    have hB := q1.mp hch
    obtain ⟨c, c1, c2, c3, c4⟩ := mk_Ch_D (mt := mj_evy σ &&& (nI k ^^^ -1)) hM' hk ho hp' (fun i hi h5 => by
      rw [mk_mtk_b hD hM hk (by omega)]
      refine mk_mtB_i.mpr ⟨hi, ?_⟩
      cases z : k.testBit i
      · rfl
      · exact absurd h5 (hB i hi z)) (12 - D 14 17) (mj_lvn σ) (mk_y0 D) (by omega) (mk_y0_L hM hk)
    rw [mk_mtk_b hD hM hk (by omega), mk_cnS_46, mk_ring_eq hD hM hk] at c3 c4
    have pb := pBle k
    refine ⟨mk_pB D pr o k + c, by omega, ?_, by omega, ⟨k, hk2, hB, c, c3, rfl⟩, fun c1 h => by have := c4 c1 h; omega⟩
    unfold mj_cho1
    rw [q2, c2, nI_add]
  have loop : ∀ (j k : Nat) (b : Int32), k + j = 2 ^ D 14 14 → (b = -1 ∨ ∃ c, c ≤ 2000 ∧ b = nI c ∧ mk_tot D (mj_b (mj_ring σ (D 14 14))) o pr c) → (b = -1 → k = 0) → (∀ k', k' < k → ∀ c1, (∀ i, i < D 14 14 → k'.testBit i = true → ¬ D 15 i < 5) → mk_play D (mk_mtB D (fun i => k'.testBit i)) (mj_b (mj_ring σ (D 14 14))) o pr (12 - D 14 17) (mk_y0 D) c1 → ∃ m, b = nI m ∧ m ≤ mk_pB D pr o k' + c1 ∧ m ≤ 2000) →
      ∃ m, m ≤ 2000 ∧ mj_cho σ (nI o) (D 14 14) (D 14 17) k j b = nI m ∧ mk_tot D (mj_b (mj_ring σ (D 14 14))) o pr m ∧ ∀ c, mk_tot D (mj_b (mj_ring σ (D 14 14))) o pr c → m ≤ c := by
    intro j
    induction j with
    | zero =>
      intro k b hkj hb h0 hl
      have p := Nat.two_pow_pos (D 14 14)
      rcases hb with z | ⟨c, c1, c2, c3⟩
      · have := h0 z
        omega
      · refine ⟨c, c1, c2, c3, fun e he => ?_⟩
        obtain ⟨k', a1, a2, c', a3, a4⟩ := he
        obtain ⟨m, m1, m2, m3⟩ := hl k' (by omega) c' a2 a3
        rw [c2] at m1
        have := mj_nI_inj (by omega) (by omega) m1
        omega
    | succ j ih =>
      intro k b hkj hb h0 hl
      show ∃ m, m ≤ 2000 ∧ mj_cho σ (nI o) (D 14 14) (D 14 17) (k + 1) j (if (mj_chi σ (nI o) (nI k) (D 14 14)).1 = false then b else if b = -1 then mj_cho1 σ (nI o) (D 14 14) (D 14 17) k else if (mj_chi σ (nI o) (nI k) (D 14 14)).2 < b then (if mj_cho1 σ (nI o) (D 14 14) (D 14 17) k < b then mj_cho1 σ (nI o) (D 14 14) (D 14 17) k else b) else b) = nI m ∧ _
      obtain ⟨q1, q2⟩ := mk_chi_D (k := k) hM hk ho (by omega) hp
      by_cases ch : (mj_chi σ (nI o) (nI k) (D 14 14)).1 = false
      · rw [if_pos ch]
        have nB : ¬ ∀ i, i < D 14 14 → k.testBit i = true → ¬ D 15 i < 5 := fun z => by
          rw [q1.mpr z] at ch
          exact absurd ch (by decide)
        refine ih (k + 1) b (by omega) hb (fun z => ?_) (fun k' h1 c1 h2 h3 => ?_)
        · have := h0 z
          rw [this] at nB
          exact absurd (fun i _ w => by rw [Nat.zero_testBit] at w; exact absurd w (by decide)) nB
        · by_cases e : k' = k
          · rw [e] at h2; exact absurd h2 nB
          · exact hl k' (by omega) c1 h2 h3
      · rw [if_neg ch]
        obtain ⟨c, c1, c2, c3, c4, c5⟩ := one k (by omega) (Bool.not_eq_false _ ▸ ch)
        -- the new best
        have step : ∀ b', (∃ e, e ≤ 2000 ∧ b' = nI e ∧ mk_tot D (mj_b (mj_ring σ (D 14 14))) o pr e ∧ e ≤ c ∧ (b = -1 ∨ ∃ m, b = nI m ∧ m ≤ 2000 ∧ e ≤ m)) → ∃ m, m ≤ 2000 ∧ mj_cho σ (nI o) (D 14 14) (D 14 17) (k + 1) j b' = nI m ∧ mk_tot D (mj_b (mj_ring σ (D 14 14))) o pr m ∧ ∀ c, mk_tot D (mj_b (mj_ring σ (D 14 14))) o pr c → m ≤ c := fun b' ⟨e, e1, e2, e3, e4, e5⟩ => by
          refine ih (k + 1) b' (by omega) (Or.inr ⟨e, e1, e2, e3⟩) (fun z => ?_) (fun k' h1 c' h2 h3 => ⟨e, e2, ?_, e1⟩)
          · rw [e2] at z
            exact absurd z (mj_nI_m1 (by omega))
          · by_cases ek : k' = k
            · rw [ek] at h3
              have := c5 c' h3
              rw [ek]
              omega
            · obtain ⟨m, m1, m2, m3⟩ := hl k' (by omega) c' h2 h3
              rcases e5 with z | ⟨m', z1, z2, z3⟩
              · rw [m1] at z
                exact absurd z (mj_nI_m1 (by omega))
              · rw [z1] at m1
                have := mj_nI_inj (by omega) (by omega) m1
                omega
        rcases hb with z | ⟨m, m1, m2, m3⟩
        · rw [if_pos z, c2]
          exact step _ ⟨c, by omega, rfl, c4, Nat.le_refl _, Or.inl z⟩
        · rw [if_neg (show ¬ b = -1 from fun z => by rw [m2] at z; exact mj_nI_m1 (by omega) z), q2, c2, m2]
          have pb := pBle k
          by_cases d : mk_pB D pr o k < m
          · rw [if_pos (nI_lt d (by omega))]
            by_cases d2 : c < m
            · rw [if_pos (nI_lt d2 (by omega))]
              exact step _ ⟨c, by omega, rfl, c4, Nat.le_refl _, Or.inr ⟨m, m2, m1, by omega⟩⟩
            · rw [if_neg (nI_nlt (by omega) (by omega))]
              exact step _ ⟨m, m1, rfl, m3, by omega, Or.inr ⟨m, m2, m1, Nat.le_refl _⟩⟩
          · rw [if_neg (nI_nlt (by omega) (by omega))]
            exact step _ ⟨m, m1, rfl, m3, by omega, Or.inr ⟨m, m2, m1, Nat.le_refl _⟩⟩
  exact loop (2 ^ D 14 14) 0 (-1) (by omega) (Or.inl rfl) (fun _ => rfl) (fun k' h => absurd h (Nat.not_lt_zero k'))
/-- what is owed already -/
def mk_base (D : Nat → Nat → Nat) (pr : Nat → Nat) (o : Nat) : Nat := mj_sgm (fun i => if mj_asD D i o = true ∧ (D 14 16).testBit i = true then pr i else 0) (D 14 14)
theorem mk_bbs_D {o : Nat} {e : Int32} {pr : Nat → Nat} (hD : mj_isD σ D) (hk : mj_okD D) (ho : o < 8) (hc : ∀ i, i < D 14 14 → mj_bcs σ e i = nI (pr i)) : mj_bbs σ (nI o) e (D 14 14) = nI (mk_base D pr o) := by
  have h16 := hk.2.1
  have key : ∀ n, n ≤ D 14 14 → mj_bbs σ (nI o) e n = nI (mj_sgm (fun i => if mj_asD D i o = true ∧ (D 14 16).testBit i = true then pr i else 0) n) := by
    intro n
    induction n with
    | zero => intro _; rfl
    | succ n ih =>
      intro hn
      have ih' := ih (by omega)
      have hi : n < D 14 14 := by omega
      unfold mj_bbs at ih' ⊢
      rw [mj_it_s, ih', mj_ask_D hD hk hi (by omega), hD.2.1, mj_b_nI (by omega)]
      show (if (mj_asD D n o && (D 14 16).testBit n) = true then nI _ + mj_bcs σ e n else nI _) = nI (mj_sgm _ n + (if mj_asD D n o = true ∧ (D 14 16).testBit n = true then pr n else 0))
      by_cases c : mj_asD D n o = true ∧ (D 14 16).testBit n = true
      · rw [if_pos c, if_pos (by rw [c.1, c.2]; rfl), hc n hi, nI_add]
      · rw [if_neg c, if_neg (fun z => c (by rw [Bool.and_eq_true] at z; exact z)), Nat.add_zero]
  exact key _ (Nat.le_refl _)
/-- each way that does costs no less than some way of the reference's -/
theorem mk_good_tot {rg T : Nat → Bool} {o : Nat} {pr : Nat → Nat} (hk : mj_okD D) (hlw : ∀ i, (D 14 16).testBit i = true → i < D 14 14 ∧ D 15 i < 5) (hT : ∀ i, T i = true → i < D 14 14 ∧ mk_li D o i) (hg : mk_good D rg o T) : ∃ c, mk_tot D rg o pr c ∧ c ≤ mk_base D pr o + mk_pT D pr T := by
  have kb := fun i => mj_nb_b (A := fun i => T i && !(decide (D 15 i < 5))) (i := i) (D 14 14)
  have k24 := fun i hi => (hk.2.2.2.2.1 i hi).2.2.2.2.2.2.1
  obtain ⟨c, c1, c2⟩ := mk_play_of (T := T) (pr := pr) (B := fun i => (mj_nb (fun i => T i && !(decide (D 15 i < 5))) (D 14 14)).testBit i) hk hlw (fun i hi => by
    show (mj_nb (fun i => T i && !(decide (D 15 i < 5))) (D 14 14)).testBit i = _
    rw [kb, decide_eq_true hi, Bool.true_and]) (12 - D 14 17) 0 (D 25) (mk_y0 D) (fun _ => Nat.le_refl _) (fun i hi _ hm => by
    unfold mk_y0
    rw [(mk_rst_i.mp hm).2.1, if_neg (by decide)]) (fun i hi _ => by
    have := k24 i hi
    unfold mk_y0
    by_cases z : (D 14 16).testBit i = true
    · rw [if_pos z]
      refine ⟨Nat.le_refl _, fun _ => ?_⟩
      cases w : mk_rst D T i
      · rfl
      · rw [(mk_rst_i.mp w).2.1] at z
        exact absurd z (by decide)
    · rw [if_neg z]
      exact ⟨by omega, fun e => by omega⟩) hg.2
  refine ⟨mk_pB D pr o (mj_nb (fun i => T i && !(decide (D 15 i < 5))) (D 14 14)) + c, ⟨_, mj_nb_lt, fun i hi h => ?_, c, c1, rfl⟩, ?_⟩
  · rw [kb, Bool.and_eq_true, Bool.and_eq_true, Bool.not_eq_true', decide_eq_false_iff_not] at h
    exact h.2.2
  · have : mk_pB D pr o (mj_nb (fun i => T i && !(decide (D 15 i < 5))) (D 14 14)) + mj_sgm (fun i => if D 15 i < 5 ∧ mj_asD D i o = true ∧ mk_rst D T i = false then pr i else 0) (D 14 14) ≤ mk_base D pr o + mk_pT D pr T := by
      unfold mk_pB mk_base mk_pT
      rw [← mj_sgm_add, ← mj_sgm_add]
      refine mj_sgm_le _ (fun i hi => ?_)
      have r := mk_rst_i (D := D) (T := T) (i := i)
      have t1 := hlw i
      by_cases w : D 15 i < 5
      · have n1 : ¬ ((mj_nb (fun i => T i && !(decide (D 15 i < 5))) (D 14 14)).testBit i = true ∧ ¬ D 15 i < 5 ∧ mj_asD D i o = true) := fun z => z.2.1 w
        rw [if_neg n1, Nat.zero_add]
        by_cases c : D 15 i < 5 ∧ mj_asD D i o = true ∧ mk_rst D T i = false
        · rw [if_pos c]
          by_cases l : (D 14 16).testBit i = true
          · rw [if_pos ⟨c.2.1, l⟩]
            exact Nat.le_add_right _ _
          · have : T i = true := by
              cases q : T i
              · have := r.mpr ⟨hi, by simpa using l, q⟩
                rw [c.2.2] at this
                exact absurd this (by decide)
              · rfl
            rw [if_pos this]
            exact Nat.le_add_left _ _
        · rw [if_neg c]
          exact Nat.zero_le _
      · have n2 : ¬ (D 15 i < 5 ∧ mj_asD D i o = true ∧ mk_rst D T i = false) := fun z => w z.1
        rw [if_neg n2, Nat.add_zero]
        by_cases c : (mj_nb (fun i => T i && !(decide (D 15 i < 5))) (D 14 14)).testBit i = true ∧ ¬ D 15 i < 5 ∧ mj_asD D i o = true
        · have h := c.1
          rw [kb, Bool.and_eq_true, Bool.and_eq_true] at h
          rw [if_pos c, if_pos h.2.1]
          exact Nat.le_add_left _ _
        · rw [if_neg c]
          exact Nat.zero_le _
    omega
/-- each way of the reference's costs no less than some way that does -/
theorem mk_tot_good {rg : Nat → Bool} {o c : Nat} {pr : Nat → Nat} (hk : mj_okD D) (hlw : ∀ i, (D 14 16).testBit i = true → i < D 14 14 ∧ D 15 i < 5) (haf : ∀ i, i < D 14 14 → ¬ D 15 i < 5 → D 19 i = 0) (h : mk_tot D rg o pr c) : ∃ T, (∀ i, T i = true → i < D 14 14 ∧ mk_li D o i) ∧ mk_good D rg o T ∧ mk_base D pr o + mk_pT D pr T ≤ c := by
  obtain ⟨k, k1, k2, c1, c2, c3⟩ := h
  have h17 := hk.2.2.1
  have e12 : 12 - (12 - D 14 17) = D 14 17 := by omega
  obtain ⟨z, z1, z2, z3⟩ := mk_play_to hk (fun i hi h5 => by
    show k.testBit i = false
    cases w : k.testBit i
    · rfl
    · exact absurd h5 (k2 i hi w)) (12 - D 14 17) (mk_y0 D) c1 (Nat.le_refl _) c2
  rw [e12] at z2
  have lostz : ∀ i, i < D 14 14 → D 15 i < 5 → (D 14 16).testBit i = true → z i = true := fun i hi h5 hl => (z2 i hi h5).1 (by unfold mk_y0; rw [if_pos hl])
  have y25 : ∀ i, (D 14 16).testBit i = false → mk_y0 D i = D 25 i := fun i hl => by
    unfold mk_y0
    rw [hl, if_neg (by decide)]
  -- one that gets lost might have been given up
  have zli : ∀ i, i < D 14 14 → D 15 i < 5 → (D 14 16).testBit i = false → z i = true → mk_li D o i := fun i hi h5 hl hz => by
    have k24 := (hk.2.2.2.2.1 i hi).2.2.2.2.2.2.1
    obtain ⟨q1, q2, q3, q4, -⟩ := z2 i hi h5
    rw [y25 i hl] at q1 q2 q3 q4
    have d0 : D 25 i ≠ 0 := fun e => by
      rw [q2 e] at hz
      exact absurd hz (by decide)
    refine ⟨?_, hl, ?_, Or.inr (by omega)⟩
    · cases w : mj_asD D i o
      · rw [q3 w (by omega)] at hz
        exact absurd hz (by decide)
      · rfl
    · apply Classical.byContradiction
      intro hn
      by_cases w : D 15 i = 2 ∧ D 25 i < D 24 i
      · rw [hk.2.2.2.2.2.2.2.2 i hi w.1 (by omega) w.2 (by omega)] at hl
        exact absurd hl (by decide)
      · rw [q4 (by omega) w (by omega)] at hz
        exact absurd hz (by decide)
  have Ti : ∀ i, mk_dc (i < D 14 14 ∧ mk_li D o i ∧ ((¬ D 15 i < 5 ∧ k.testBit i = true) ∨ (D 15 i < 5 ∧ z i = true))) = true ↔ i < D 14 14 ∧ mk_li D o i ∧ ((¬ D 15 i < 5 ∧ k.testBit i = true) ∨ (D 15 i < 5 ∧ z i = true)) := fun i => mk_dc_i
  revert Ti
  generalize (fun i => mk_dc (i < D 14 14 ∧ mk_li D o i ∧ ((¬ D 15 i < 5 ∧ k.testBit i = true) ∨ (D 15 i < 5 ∧ z i = true)))) = T0
  intro _
  have Ti : ∀ i, (fun i => mk_dc (i < D 14 14 ∧ mk_li D o i ∧ ((¬ D 15 i < 5 ∧ k.testBit i = true) ∨ (D 15 i < 5 ∧ z i = true)))) i = true ↔ i < D 14 14 ∧ mk_li D o i ∧ ((¬ D 15 i < 5 ∧ k.testBit i = true) ∨ (D 15 i < 5 ∧ z i = true)) := fun i => mk_dc_i
  revert Ti
  generalize (fun i => mk_dc (i < D 14 14 ∧ mk_li D o i ∧ ((¬ D 15 i < 5 ∧ k.testBit i = true) ∨ (D 15 i < 5 ∧ z i = true)))) = T
  intro Ti
  have Tf : ∀ i, T i = false ↔ ¬ (i < D 14 14 ∧ mk_li D o i ∧ ((¬ D 15 i < 5 ∧ k.testBit i = true) ∨ (D 15 i < 5 ∧ z i = true))) := fun i => by
    rw [← Ti]
    cases T i <;> decide
  refine ⟨T, fun i h => ⟨((Ti i).mp h).1, ((Ti i).mp h).2.1⟩, ⟨fun i hi hl hTi h19 => ?_, z3 (mk_rst D T) (D 25) 0 (fun i h => (mk_rst_i.mp h).1) (fun i hi hm h5 => ?_) (fun j hj hm h5 ha hd => ?_) (fun i hi hm h5 ha hd h19 hz => ?_)⟩, ?_⟩
  · -- whoever waits for one that gets lost gets lost
    have h5 : D 15 i < 5 := by
      apply Classical.byContradiction
      intro w
      exact h19 (haf i hi w)
    have k19 := (hk.2.2.2.2.1 i hi).2.2.2.1
    have w5 := k19.2 (by omega)
    cases w : T (D 19 i - 1)
    · rfl
    · have zw : z (D 19 i - 1) = true := by
        rcases ((Ti _).mp w).2.2 with q | q
        · exact absurd w5 q.1
        · exact q.2
      obtain ⟨l1, l2, l3, l4⟩ := hl
      have d0 : 0 < D 25 i := l4.resolve_left (fun q => q h5)
      have := (z2 i hi h5).2.2.2.2 l1 (by rw [y25 i l2]; omega) l3 h19 zw
      exact absurd ⟨hi, ⟨l1, l2, l3, l4⟩, Or.inr ⟨h5, this⟩⟩ ((Tf i).mp hTi)
  · obtain ⟨-, m2, m3⟩ := mk_rst_i.mp hm
    refine ⟨?_, (y25 i m2).symm⟩
    cases w : z i
    · rfl
    · exact absurd ⟨hi, zli i hi h5 m2 w, Or.inr ⟨h5, w⟩⟩ ((Tf i).mp m3)
  · obtain ⟨-, m2, m3⟩ := mk_rst_i.mp hm
    show k.testBit j = false
    cases w : k.testBit j
    · rfl
    · exact absurd ⟨hj, ⟨ha, m2, hd, Or.inl h5⟩, Or.inl ⟨h5, w⟩⟩ ((Tf j).mp m3)
  · have k19 := (hk.2.2.2.2.1 i hi).2.2.2.1
    have w5 := k19.2 (by omega)
    have hN : D 19 i - 1 < D 14 14 := by omega
    refine mk_rst_i.mpr ⟨hN, ?_, (Tf _).mpr (fun w => ?_)⟩
    · cases w : (D 14 16).testBit (D 19 i - 1)
      · rfl
      · rw [lostz _ hN w5 w] at hz
        exact absurd hz (by decide)
    · rcases w.2.2 with q | q
      · exact absurd w5 q.1
      · rw [q.2] at hz
        exact absurd hz (by decide)
  · rw [c3, z1]
    unfold mk_pB mk_base mk_pT
    rw [← mj_sgm_add, ← mj_sgm_add]
    refine mj_sgm_le _ (fun i hi => ?_)
    by_cases w : D 15 i < 5
    · by_cases l : (D 14 16).testBit i = true
      · have nT : ¬ T i = true := fun q => by
          rw [((Ti i).mp q).2.1.2.1] at l
          exact absurd l (by decide)
        rw [if_neg nT, Nat.add_zero]
        by_cases a : mj_asD D i o = true ∧ (D 14 16).testBit i = true
        · rw [if_pos a, if_pos (show D 15 i < 5 ∧ mj_asD D i o = true ∧ z i = true from ⟨w, a.1, lostz i hi w l⟩)]
          exact Nat.le_add_left _ _
        · rw [if_neg a]
          exact Nat.zero_le _
      · rw [if_neg (fun a => l a.2), Nat.zero_add]
        by_cases q : T i = true
        · obtain ⟨-, q2, q3⟩ := (Ti i).mp q
          have zi : z i = true := by
            rcases q3 with q3 | q3
            · exact absurd w q3.1
            · exact q3.2
          rw [if_pos q, if_pos (show D 15 i < 5 ∧ mj_asD D i o = true ∧ z i = true from ⟨w, q2.1, zi⟩)]
          exact Nat.le_add_left _ _
        · rw [if_neg q]
          exact Nat.zero_le _
    · have nl : ¬ (mj_asD D i o = true ∧ (D 14 16).testBit i = true) := fun a => w (hlw i a.2).2
      rw [if_neg nl, Nat.zero_add]
      by_cases q : T i = true
      · obtain ⟨-, q2, q3⟩ := (Ti i).mp q
        have ki : k.testBit i = true := by
          rcases q3 with q3 | q3
          · exact q3.2
          · exact absurd q3.1 w
        rw [if_pos q, if_pos (show k.testBit i = true ∧ ¬ D 15 i < 5 ∧ mj_asD D i o = true from ⟨ki, w, q2.1⟩)]
        exact Nat.le_add_right _ _
      · rw [if_neg q]
        exact Nat.zero_le _
/-- dear, fewest: both sides agree -/
theorem mk_least_eq {o : Nat} {e b : Int32} {pr : Nat → Nat} (hD : mj_isD σ D) (hk : mj_okD D) (ho : o < 8) (hlw : ∀ i, (D 14 16).testBit i = true → i < D 14 14 ∧ D 15 i < 5) (haf : ∀ i, i < D 14 14 → ¬ D 15 i < 5 → D 19 i = 0) (hc : ∀ i, i < D 14 14 → mj_bcs σ e i = nI (pr i)) (hp : ∀ i, i < D 14 14 → pr i ≤ 99)
    (hb : mj_bst' σ (mk_K σ D) (mj_bkl σ (nI o) (D 14 14)) (mj_bcs σ e) o 0 b) (hD' : mj_isD τ D) (hM' : mk_isM τ D) (hr : mj_ring τ = mj_ring σ) (hp' : ∀ i, i < D 14 14 → mj_prc τ i = nI (pr i)) :
    mj_bbs σ (nI o) e (D 14 14) + b = mj_cho τ (nI o) (D 14 14) (D 14 17) 0 (2 ^ D 14 14) (-1) := by
  obtain ⟨m, m0, m1, m2, m3⟩ := mk_cho_D (o := o) (pr := pr) hD' hM' hk ho (fun i hi => ⟨hp' i hi, hp i hi⟩)
  rw [hr] at m2 m3
  obtain ⟨⟨t, t1, t2, t3⟩, t4⟩ := hb
  have bp := fun {t} ht => mk_bpr_D (o := o) (t := t) (pr := pr) hD hk ho ht hc
  have hTl := fun {t i} h => mk_Tt_li (o := o) (t := t) (i := i) hD hk ho h
  rw [bp t1] at t3
  rw [mk_bbs_D hD hk ho hc, ← t3, nI_add, m1]
  congr 1
  have l1 := mk_pT_le (T := mk_Tt (mj_bkl σ (nI o) (D 14 14)) t) hk hp
  -- no less
  obtain ⟨c, c1, c2⟩ := mk_good_tot (T := mk_Tt (mj_bkl σ (nI o) (D 14 14)) t) (pr := pr) hk hlw (fun i h => hTl h) ((mk_gd_D hD hk ho t1).mp t2)
  have le1 := m3 c c1
  -- no more
  obtain ⟨T, T1, T2, T3⟩ := mk_tot_good hk hlw haf m2
  have tl := mj_nb_lt (A := fun j => T ((mj_bkl σ (nI o) (D 14 14)).getD j 0)) (n := (mj_bkl σ (nI o) (D 14 14)).length)
  have eT : mk_Tt (mj_bkl σ (nI o) (D 14 14)) (mj_nb (fun j => T ((mj_bkl σ (nI o) (D 14 14)).getD j 0)) (mj_bkl σ (nI o) (D 14 14)).length) = T := by
    funext i
    refine mk_beq ?_
    rw [mk_Tt_i]
    constructor
    · rintro ⟨k, a, q, e⟩
      rw [mj_nb_b, Bool.and_eq_true] at q
      have q2 : T ((mj_bkl σ (nI o) (D 14 14)).getD k 0) = true := q.2
      rw [e] at q2
      exact q2
    · intro q
      obtain ⟨k, a, e⟩ := mj_L_mem ((mk_bkl_mem hD hk ho).mpr (T1 i q))
      refine ⟨k, a, ?_, e⟩
      rw [mj_nb_b, decide_eq_true a, Bool.true_and]
      show T ((mj_bkl σ (nI o) (D 14 14)).getD k 0) = true
      rw [e]
      exact q
  have g2 := t4 _ (Nat.zero_le _) tl ((mk_gd_D hD hk ho tl).mpr (by rw [eT]; exact T2))
  rw [bp tl, eT, ← t3] at g2
  have le2 : mk_pT D pr (mk_Tt (mj_bkl σ (nI o) (D 14 14)) t) ≤ mk_pT D pr T := Nat.le_of_not_lt (fun z => g2 (nI_lt z (by omega)))
  omega
end
