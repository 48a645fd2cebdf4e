section
variable {σ τ : mj_St} {D : Nat → Nat → Nat}
theorem mk_bcd_D {o i : Nat} (hD : mj_isD σ D) (hk : mj_okD D) (ho : o < 8) (hi : i < D 14 14) : mj_bcd σ (nI o) i = true ↔ mk_li D o i := by
  obtain ⟨e15, e16, e17, e18, e19, e20, e21, e24, e25, e26⟩ := hD.2.2.2.2.1 i hi
  obtain ⟨k15, ⟨k16, k17⟩, k18, k19, k20, k21, ⟨k24, k25⟩, -⟩ := hk.2.2.2.2.1 i hi
  have h16 := hk.2.1
  have h17 := hk.2.2.1
  have h9 := hk.1
  have d1 : decide (0 < nI (D 25 i)) = decide (0 < D 25 i) := mj_dec ⟨fun z => Classical.byContradiction (fun y => nI_nlt (a := 0) (b := D 25 i) (by omega) (by omega) z), fun z => nI_lt (a := 0) z (by omega)⟩
  have d2 : decide (¬ nI (D 17 i) < nI (D 14 17)) = decide (D 14 17 ≤ D 17 i) := mj_dec ⟨fun z => Classical.byContradiction (fun y => z (nI_lt (by omega) (by omega))), fun z => nI_nlt z (by omega)⟩
  unfold mj_bcd mk_li
  rw [mj_ask_D hD hk hi (by omega), mj_wk_D hD hk hi, hD.2.1, hD.2.2.1, e25, e17, d1, d2, mj_b_nI (by omega)]
  simp only [Bool.and_eq_true, Bool.or_eq_true, Bool.not_eq_true', decide_eq_true_eq, decide_eq_false_iff_not]
theorem mk_flt_lt {p : Nat → Bool} {N a b : Nat} (hab : a < b) (hb : b < ((List.range N).filter p).length) : ((List.range N).filter p).getD a 0 < ((List.range N).filter p).getD b 0 := by
  have hp : List.Pairwise (fun a b => a < b) ((List.range N).filter p) := List.Pairwise.filter _ List.pairwise_lt_range
  rw [List.getD_eq_getElem?_getD, List.getD_eq_getElem?_getD, List.getElem?_eq_getElem hb, List.getElem?_eq_getElem (by omega : a < ((List.range N).filter p).length)]
  exact List.pairwise_iff_getElem.mp hp a b (by omega) hb hab
theorem mk_flt_inj {p : Nat → Bool} {N a b : Nat} (ha : a < ((List.range N).filter p).length) (hb : b < ((List.range N).filter p).length) (e : ((List.range N).filter p).getD a 0 = ((List.range N).filter p).getD b 0) : a = b := by
  rcases Nat.lt_trichotomy a b with z | z | z
  · have := mk_flt_lt z hb
    omega
  · exact z
  · have := mk_flt_lt z ha
    omega
theorem mk_bkl_mem {o i : Nat} (hD : mj_isD σ D) (hk : mj_okD D) (ho : o < 8) : i ∈ mj_bkl σ (nI o) (D 14 14) ↔ i < D 14 14 ∧ mk_li D o i := by
  unfold mj_bkl
  rw [List.mem_filter, List.mem_range]
  exact and_congr_right (fun hi => mk_bcd_D hD hk ho hi)
/-- the promises of a way -/
def mk_Tt (L : List Nat) (t i : Nat) : Bool := mj_anyF (fun k => t.testBit k && decide (L.getD k 0 = i)) 0 L.length
theorem mk_Tt_i {L : List Nat} {t i : Nat} : mk_Tt L t i = true ↔ ∃ k, k < L.length ∧ t.testBit k = true ∧ L.getD k 0 = i := by
  unfold mk_Tt
  rw [mj_anyF_iff]
  constructor
  · rintro ⟨k, -, a, b⟩
    rw [Bool.and_eq_true, decide_eq_true_eq] at b
    exact ⟨k, by omega, b.1, b.2⟩
  · rintro ⟨k, a, b, c⟩
    exact ⟨k, Nat.zero_le _, by omega, by rw [b, decide_eq_true c]; rfl⟩
theorem mk_Tt_L {o t k : Nat} (hk : k < (mj_bkl σ (nI o) (D 14 14)).length) : mk_Tt (mj_bkl σ (nI o) (D 14 14)) t ((mj_bkl σ (nI o) (D 14 14)).getD k 0) = t.testBit k := by
  refine mk_beq ?_
  rw [mk_Tt_i]
  constructor
  · rintro ⟨q, a, b, c⟩
    rw [← mk_flt_inj a hk c]
    exact b
  · intro z
    exact ⟨k, hk, z, rfl⟩
theorem mk_Tt_li {o t i : Nat} (hD : mj_isD σ D) (hk : mj_okD D) (ho : o < 8) (h : mk_Tt (mj_bkl σ (nI o) (D 14 14)) t i = true) : i < D 14 14 ∧ mk_li D o i := by
  obtain ⟨k, a, b, c⟩ := mk_Tt_i.mp h
  rw [← c]
  exact (mk_bkl_mem hD hk ho).mp (mj_getD_mem a)
theorem mk_bpo_b {L : List Nat} {t b : Nat} (hL : ∀ k, k < L.length → L.getD k 0 < 32) (hl : L.length ≤ 9) (ht : t < 512) (hb : b < 32) : mj_b (mj_bpo L (nI t) L.length) b = mk_Tt L t b := by
  have e : ∀ m, m ≤ L.length → mj_b (mj_bpo L (nI t) m) b = mj_anyF (fun k => t.testBit k && decide (L.getD k 0 = b)) 0 m := by
    intro m
    induction m with
    | zero => intro _; exact mj_b_0
    | succ m ih =>
      intro hm
      have ih' := ih (by omega)
      have lb := hL m (by omega)
      unfold mj_bpo at ih' ⊢
      rw [mj_it_s, mj_b_or, ih', mj_anyS, Nat.zero_add, mj_b_nI (by omega)]
      congr 1
      cases c : t.testBit m
      · rw [if_neg (by decide), mj_b_0, Bool.false_and]
      · rw [if_pos rfl, mj_b_sh1 lb hb, Bool.true_and]
        exact mj_dec ⟨fun z => z.symm, fun z => z.symm⟩
  exact e _ (Nat.le_refl _)
theorem mk_2n {o t : Nat} (hk : mj_okD D) (ht : t < 2 ^ (mj_bkl σ (nI o) (D 14 14)).length) : t < 512 := by
  have l9 := mj_bkl_len (σ := σ) (o := nI o) (n := D 14 14)
  have := hk.1
  have l : 2 ^ (mj_bkl σ (nI o) (D 14 14)).length ≤ 2 ^ 9 := Nat.pow_le_pow_right (by decide) (by omega)
  exact Nat.lt_of_lt_of_le ht l
theorem mk_bkl_32 {o : Nat} (hD : mj_isD σ D) (hk : mj_okD D) (ho : o < 8) : ∀ k, k < (mj_bkl σ (nI o) (D 14 14)).length → (mj_bkl σ (nI o) (D 14 14)).getD k 0 < D 14 14 := fun k h => ((mk_bkl_mem hD hk ho).mp (mj_getD_mem h)).1
theorem mk_bwh_D {o t : Nat} (hD : mj_isD σ D) (hk : mj_okD D) (ho : o < 8) (ht : t < 2 ^ (mj_bkl σ (nI o) (D 14 14)).length) : mj_bwh (σ.1 19) (mj_bkl σ (nI o) (D 14 14)) (nI t) = true ↔ mk_whl D o (mk_Tt (mj_bkl σ (nI o) (D 14 14)) t) := by
  have l9 := mj_bkl_len (σ := σ) (o := nI o) (n := D 14 14)
  have h9 := hk.1
  have t9 := mk_2n hk ht
  have L32 := mk_bkl_32 hD hk ho
  have bpo := fun {b} (hb : b < 32) => mk_bpo_b (L := mj_bkl σ (nI o) (D 14 14)) (t := t) (b := b) (fun k h => by have := L32 k h; omega) (by omega) t9 hb
  have b1 : ∀ k, k < (mj_bkl σ (nI o) (D 14 14)).length → (mj_bw1 (σ.1 19) (mj_bkl σ (nI o) (D 14 14)) (nI t) k = true ↔ t.testBit k = false ∧ D 19 ((mj_bkl σ (nI o) (D 14 14)).getD k 0) ≠ 0 ∧ mk_Tt (mj_bkl σ (nI o) (D 14 14)) t (D 19 ((mj_bkl σ (nI o) (D 14 14)).getD k 0) - 1) = true) := fun k h => by
    have hi := L32 k h
    have e19 := (hD.2.2.2.2.1 _ hi).2.2.2.2.1
    have k19 := (hk.2.2.2.2.1 _ hi).2.2.2.1.1
    unfold mj_bw1
    rw [Bool.and_eq_true, Bool.and_eq_true, Bool.not_eq_true', decide_eq_true_eq, decide_eq_true_eq, mj_b_nI (by omega), e19, mj_oi_m1 (by omega)]
    refine and_congr_right (fun _ => and_congr_right (fun z => ?_))
    rw [mj_oi_pos (by omega), mj_bt (by omega), bpo (by omega)]
    cases mk_Tt (mj_bkl σ (nI o) (D 14 14)) t (D 19 ((mj_bkl σ (nI o) (D 14 14)).getD k 0) - 1) <;> decide
  unfold mj_bwh
  rw [Bool.not_eq_true']
  constructor
  · intro z i hi hli hTi h19
    obtain ⟨k, a, b⟩ := mj_L_mem ((mk_bkl_mem hD hk ho).mpr ⟨hi, hli⟩)
    cases w : mk_Tt (mj_bkl σ (nI o) (D 14 14)) t (D 19 i - 1)
    · rfl
    · have : mj_anyF (mj_bw1 (σ.1 19) (mj_bkl σ (nI o) (D 14 14)) (nI t)) 0 (mj_bkl σ (nI o) (D 14 14)).length = true := (mj_anyF_iff _ _).mpr ⟨k, Nat.zero_le _, by omega, (b1 k a).mpr ⟨by rw [← mk_Tt_L a, b]; exact hTi, by rw [b]; exact h19, by rw [b]; exact w⟩⟩
      rw [this] at z
      exact absurd z (by decide)
  · intro z
    cases w : mj_anyF (mj_bw1 (σ.1 19) (mj_bkl σ (nI o) (D 14 14)) (nI t)) 0 (mj_bkl σ (nI o) (D 14 14)).length
    · rfl
    · obtain ⟨k, -, a, b⟩ := (mj_anyF_iff _ _).mp w
      have a' : k < (mj_bkl σ (nI o) (D 14 14)).length := by omega
      obtain ⟨q1, q2, q3⟩ := (b1 k a').mp b
      have hli := (mk_bkl_mem hD hk ho).mp (mj_getD_mem a')
      rw [z _ hli.1 hli.2 (by rw [mk_Tt_L a']; exact q1) q2] at q3
      exact absurd q3 (by decide)
theorem mk_brs_D {o t : Nat} (hD : mj_isD σ D) (hk : mj_okD D) (ho : o < 8) (ht : t < 2 ^ (mj_bkl σ (nI o) (D 14 14)).length) : mj_b (mj_brs σ (mj_bkl σ (nI o) (D 14 14)) (nI t)) = mk_rst D (mk_Tt (mj_bkl σ (nI o) (D 14 14)) t) := by
  have l9 := mj_bkl_len (σ := σ) (o := nI o) (n := D 14 14)
  have h9 := hk.1
  have h16 := hk.2.1
  have t9 := mk_2n hk ht
  have L32 := mk_bkl_32 hD hk ho
  funext b
  by_cases hb : b < 32
  · unfold mj_brs mk_rst
    rw [mj_b_and, mj_b_and, mj_b_not hb, mj_b_not hb, mk_bpo_b (fun k h => by have := L32 k h; omega) (by omega) t9 hb, mk_ev_b hD hk hb, hD.2.1, mj_b_nI (by omega), Bool.and_assoc]
  · unfold mk_rst
    rw [mj_b_big (by omega), decide_eq_false (by omega), Bool.false_and]
/-- a way that does -/
def mk_good (D : Nat → Nat → Nat) (rg : Nat → Bool) (o : Nat) (T : Nat → Bool) : Prop := mk_whl D o T ∧ mj_DW D (mk_rst D T) rg 1 o mj_Qno (12 - D 14 17) 0 (D 25)
theorem mk_gd_D {o t : Nat} (hD : mj_isD σ D) (hk : mj_okD D) (ho : o < 8) (ht : t < 2 ^ (mj_bkl σ (nI o) (D 14 14)).length) : mj_gd σ (mk_K σ D) (mj_bkl σ (nI o) (D 14 14)) o t = true ↔ mk_good D (mj_b (mj_ring σ (D 14 14))) o (mk_Tt (mj_bkl σ (nI o) (D 14 14)) t) := by
  unfold mj_gd mk_good mk_K
  rw [Bool.and_eq_true, mk_bwh_D hD hk ho ht, mk_dc_i, mk_brs_D hD hk ho ht]
  exact and_congr_right (fun _ => ⟨fun z => z.2, fun z => ⟨fun i hi hm => (mk_rst_i.mp hm).2.1, z⟩⟩)
/-- what a way costs -/
def mk_pT (D : Nat → Nat → Nat) (pr : Nat → Nat) (T : Nat → Bool) : Nat := mj_sgm (fun i => if T i = true then pr i else 0) (D 14 14)
theorem mk_flt_sum {p : Nat → Bool} {f : Nat → Nat} : ∀ n, mj_sgm (fun k => f (((List.range n).filter p).getD k 0)) ((List.range n).filter p).length = mj_sgm (fun i => if p i = true then f i else 0) n := by
  intro n
  induction n with
  | zero => rfl
  | succ n ih =>
    have e : (List.range (n + 1)).filter p = if p n = true then (List.range n).filter p ++ [n] else (List.range n).filter p := by
      rw [List.range_succ, List.filter_append]
      by_cases c : p n = true
      · rw [if_pos c, List.filter_cons_of_pos c, List.filter_nil]
      · rw [if_neg c, List.filter_cons_of_neg c, List.filter_nil, List.append_nil]
    show _ = mj_sgm _ n + (if p n = true then f n else 0)
    rw [e, ← ih]
    by_cases c : p n = true
    · rw [if_pos c, if_pos c]
      generalize (List.range n).filter p = L
      have ln : (L ++ [n]).length = L.length + 1 := by simp
      rw [ln]
      show mj_sgm (fun k => f ((L ++ [n]).getD k 0)) L.length + f ((L ++ [n]).getD L.length 0) = _
      have e1 : (L ++ [n]).getD L.length 0 = n := by simp
      rw [e1]
      congr 1
      refine mj_sgm_congr _ (fun k hk => ?_)
      have e2 : (L ++ [n]).getD k 0 = L.getD k 0 := by
        simp [List.getD, List.getElem?_append_left hk]
      rw [e2]
    · rw [if_neg c, if_neg c, Nat.add_zero]
theorem mk_bpr_D {o t : Nat} {pr : Nat → Nat} {c : Nat → Int32} (hD : mj_isD σ D) (hk : mj_okD D) (ho : o < 8) (ht : t < 2 ^ (mj_bkl σ (nI o) (D 14 14)).length) (hc : ∀ i, i < D 14 14 → c i = nI (pr i)) : mj_bpr (mj_bkl σ (nI o) (D 14 14)) c (nI t) (mj_bkl σ (nI o) (D 14 14)).length = nI (mk_pT D pr (mk_Tt (mj_bkl σ (nI o) (D 14 14)) t)) := by
  have l9 := mj_bkl_len (σ := σ) (o := nI o) (n := D 14 14)
  have h9 := hk.1
  have t9 := mk_2n hk ht
  have L32 := mk_bkl_32 hD hk ho
  have e1 : mj_bpr (mj_bkl σ (nI o) (D 14 14)) c (nI t) (mj_bkl σ (nI o) (D 14 14)).length = nI (mj_sgm (fun k => (fun i => if mk_Tt (mj_bkl σ (nI o) (D 14 14)) t i = true then pr i else 0) ((mj_bkl σ (nI o) (D 14 14)).getD k 0)) (mj_bkl σ (nI o) (D 14 14)).length) := by
    unfold mj_bpr
    refine mk_nI_sum _ (fun k hk2 => ?_)
    show (if mj_b (nI t) k = true then c ((mj_bkl σ (nI o) (D 14 14)).getD k 0) else 0) = nI (if mk_Tt (mj_bkl σ (nI o) (D 14 14)) t ((mj_bkl σ (nI o) (D 14 14)).getD k 0) = true then pr ((mj_bkl σ (nI o) (D 14 14)).getD k 0) else 0)
    rw [mk_Tt_L hk2, mj_b_nI (by omega), hc _ (L32 k hk2)]
    cases t.testBit k <;> rfl
  rw [e1]
  congr 1
  have e2 := mk_flt_sum (p := mj_bcd σ (nI o)) (f := fun i => if mk_Tt (mj_bkl σ (nI o) (D 14 14)) t i = true then pr i else 0) (D 14 14)
  refine Eq.trans e2 (mj_sgm_congr _ (fun i hi => ?_))
  by_cases z : mj_bcd σ (nI o) i = true
  · rw [if_pos z]
  · rw [if_neg z]
    by_cases y : mk_Tt (mj_bkl σ (nI o) (D 14 14)) t i = true
    · exact absurd ((mk_bcd_D hD hk ho hi).mpr (mk_Tt_li hD hk ho y).2) z
    · rw [if_neg y]
theorem mk_pT_le {pr : Nat → Nat} {T : Nat → Bool} (hk : mj_okD D) (hp : ∀ i, i < D 14 14 → pr i ≤ 99) : mk_pT D pr T ≤ 891 := by
  have := mj_sgm_bnd (f := fun i => if T i = true then pr i else 0) (m := 99) (D 14 14) (fun i hi => by
    show (if _ then pr i else 0) ≤ 99
    split
    · exact hp i hi
    · omega)
  have := hk.1
  unfold mk_pT
  omega
/-- what least wants to know -/
theorem mk_gd_mono {o : Nat} (hD : mj_isD σ D) (hk : mj_okD D) (ho : o < 8) : ∀ t u, t < 2 ^ (mj_bkl σ (nI o) (D 14 14)).length → mj_sub u t → mj_bwh (σ.1 19) (mj_bkl σ (nI o) (D 14 14)) (nI t) = true → mj_gd σ (mk_K σ D) (mj_bkl σ (nI o) (D 14 14)) o u = true → mj_gd σ (mk_K σ D) (mj_bkl σ (nI o) (D 14 14)) o t = true := by
  intro t u ht hsub hw hu
  have hut : u ≤ t := Nat.le_of_testBit hsub
  obtain ⟨-, gu⟩ := (mk_gd_D hD hk ho (Nat.lt_of_le_of_lt hut ht)).mp hu
  have wt := (mk_bwh_D hD hk ho ht).mp hw
  have TT : ∀ i, mk_Tt (mj_bkl σ (nI o) (D 14 14)) u i = true → mk_Tt (mj_bkl σ (nI o) (D 14 14)) t i = true := fun i h => by
    obtain ⟨k, a, b, c⟩ := mk_Tt_i.mp h
    exact mk_Tt_i.mpr ⟨k, a, hsub k b, c⟩
  refine (mk_gd_D hD hk ho ht).mpr ⟨wt, mk_DW_less hk (fun i h => ?_) (fun i hi hm h5 ha hd h0 h19 hm2 => ?_) _ 0 (D 25) (D 25) (Nat.le_refl _) (fun _ => Nat.le_refl _) (fun _ _ _ _ => rfl) gu⟩
  · obtain ⟨a, b, c⟩ := mk_rst_i.mp h
    refine mk_rst_i.mpr ⟨a, b, ?_⟩
    cases z : mk_Tt (mj_bkl σ (nI o) (D 14 14)) u i
    · rfl
    · rw [TT i z] at c
      exact absurd c (by decide)
  · obtain ⟨a, b, c⟩ := mk_rst_i.mp hm
    obtain ⟨a', b', -⟩ := mk_rst_i.mp hm2
    exact mk_rst_i.mpr ⟨a', b', wt i hi ⟨ha, b, hd, Or.inr h0⟩ c h19⟩
theorem mk_gd_full {o : Nat} (hD : mj_isD σ D) (hk : mj_okD D) (ho : o < 8) : mj_gd σ (mk_K σ D) (mj_bkl σ (nI o) (D 14 14)) o (2 ^ (mj_bkl σ (nI o) (D 14 14)).length - 1) = true := by
  have p := Nat.two_pow_pos (mj_bkl σ (nI o) (D 14 14)).length
  have all : ∀ i, i < D 14 14 → mk_li D o i → mk_Tt (mj_bkl σ (nI o) (D 14 14)) (2 ^ (mj_bkl σ (nI o) (D 14 14)).length - 1) i = true := fun i hi hl => by
    obtain ⟨k, a, b⟩ := mj_L_mem ((mk_bkl_mem hD hk ho).mpr ⟨hi, hl⟩)
    exact mk_Tt_i.mpr ⟨k, a, by rw [Nat.testBit_two_pow_sub_one]; exact decide_eq_true a, b⟩
  refine (mk_gd_D hD hk ho (by omega)).mpr ⟨fun i hi hl hT _ => ?_, mk_DW_full hk all _ 0 (Nat.le_refl _)⟩
  rw [all i hi hl] at hT
  exact absurd hT (by decide)
theorem mk_gd_price {o : Nat} {pr : Nat → Nat} {c : Nat → Int32} (hD : mj_isD σ D) (hk : mj_okD D) (ho : o < 8) (hc : ∀ i, i < D 14 14 → c i = nI (pr i)) (hp : ∀ i, i < D 14 14 → pr i ≤ 99) : ∀ t, t < 2 ^ (mj_bkl σ (nI o) (D 14 14)).length → ¬ mj_bpr (mj_bkl σ (nI o) (D 14 14)) c (nI (2 ^ (mj_bkl σ (nI o) (D 14 14)).length - 1)) (mj_bkl σ (nI o) (D 14 14)).length < mj_bpr (mj_bkl σ (nI o) (D 14 14)) c (nI t) (mj_bkl σ (nI o) (D 14 14)).length := by
  intro t ht
  have p := Nat.two_pow_pos (mj_bkl σ (nI o) (D 14 14)).length
  rw [mk_bpr_D hD hk ho ht hc, mk_bpr_D hD hk ho (show 2 ^ (mj_bkl σ (nI o) (D 14 14)).length - 1 < _ by omega) hc]
  have l1 := mk_pT_le (T := mk_Tt (mj_bkl σ (nI o) (D 14 14)) (2 ^ (mj_bkl σ (nI o) (D 14 14)).length - 1)) hk hp
  refine nI_nlt ?_ (by omega)
  refine mj_sgm_le _ (fun i hi => ?_)
  by_cases z : mk_Tt (mj_bkl σ (nI o) (D 14 14)) t i = true
  · obtain ⟨k, a, b, e⟩ := mk_Tt_i.mp z
    rw [if_pos z, if_pos (mk_Tt_i.mpr ⟨k, a, by rw [Nat.testBit_two_pow_sub_one]; exact decide_eq_true a, e⟩)]
    exact Nat.le_refl _
  · rw [if_neg z]
    exact Nat.zero_le _
end
