section
variable {σ τ : mj_St} {D : Nat → Nat → Nat} {L L' : Nat → Int32} {e : Nat}
-- a text is read by its letters alone
theorem mk_tk_c (h : ∀ i, i < e → L' i = L i) : ∀ (w : List Int32) (a : Nat), mj_tk L' e w a = mj_tk L e w a := by
  intro w
  induction w with
  | nil => intro a; rfl
  | cons c w ih =>
    intro a
    show (if a < e ∧ L' a = c then mj_tk L' e w (a + 1) else (false, a)) = (if a < e ∧ L a = c then mj_tk L e w (a + 1) else (false, a))
    by_cases q : a < e
    · rw [h a q, ih]
    · rw [if_neg (fun z => q z.1), if_neg (fun z => q z.1)]
theorem mk_dig_c (h : ∀ i, i < e → L' i = L i) {a : Nat} : mj_dig L' e a = mj_dig L e a := by
  unfold mj_dig
  by_cases q : a < e
  · rw [h a q]
  · rw [decide_eq_false q, Bool.false_and, Bool.false_and]
theorem mk_dig_lt {a : Nat} (h : mj_dig L e a = true) : a < e := by
  unfold mj_dig at h
  rw [Bool.and_eq_true, decide_eq_true_eq] at h
  exact h.1
theorem mk_dg_c (h : ∀ i, i < e → L' i = L i) {a : Nat} {lo hi : Int32} : mj_dg L' e lo hi a = mj_dg L e lo hi a := by
  unfold mj_dg
  rw [mk_dig_c h]
  by_cases q : a < e
  · rw [h a q]
  · have : mj_dig L e a = false := by
      cases z : mj_dig L e a
      · rfl
      · exact absurd (mk_dig_lt z) q
    rw [this, Bool.false_and, Bool.false_and]
theorem mk_ds_c (h : ∀ i, i < e → L' i = L i) {a : Nat} : (mj_ds L' e a).1 = (mj_ds L e a).1 ∧ (a < e → (mj_ds L' e a).2 = (mj_ds L e a).2) := by
  unfold mj_ds
  rw [mk_dig_c h]
  cases z : mj_dig L e (a + 1)
  · rw [if_neg (by decide), if_neg (by decide)]
    exact ⟨rfl, fun q => by rw [h a q]⟩
  · rw [if_pos rfl, if_pos rfl]
    have := mk_dig_lt z
    exact ⟨rfl, fun q => by rw [h a q, h (a + 1) this]⟩
theorem mk_dsok_c (h : ∀ i, i < e → L' i = L i) {a : Nat} {hi : Int32} : mj_dsok L' e hi a = mj_dsok L e hi a := by
  unfold mj_dsok
  rw [mk_dig_c h]
  cases z : mj_dig L e a
  · rw [Bool.false_and, Bool.false_and]
  · rw [(mk_ds_c h).2 (mk_dig_lt z)]
theorem mk_gw_c (h : ∀ i, i < e → L' i = L i) {a : Nat} {lo hi : Int32} {w : List Int32} : (mj_gw L' e w lo hi a).1 = (mj_gw L e w lo hi a).1 ∧ (mj_gw L' e w lo hi a).2.1 = (mj_gw L e w lo hi a).2.1 ∧ ((mj_gw L e w lo hi a).1 = true → (mj_gw L' e w lo hi a).2.2 = (mj_gw L e w lo hi a).2.2) := by
  unfold mj_gw
  rw [mk_tk_c h, mk_dg_c h]
  refine ⟨rfl, rfl, fun z => ?_⟩
  have z' : ((mj_tk L e w a).1 && mj_dg L e lo hi (mj_tk L e w a).2) = true := z
  rw [Bool.and_eq_true] at z'
  have z2 := z'.2
  unfold mj_dg at z2
  rw [Bool.and_eq_true] at z2
  show L' (mj_tk L e w a).2 - 48 = L (mj_tk L e w a).2 - 48
  rw [h _ (mk_dig_lt z2.1)]
theorem mk_gw2_c (h : ∀ i, i < e → L' i = L i) {a : Nat} {hi : Int32} {w : List Int32} : (mj_gw2 L' e w hi a).1 = (mj_gw2 L e w hi a).1 ∧ (mj_gw2 L' e w hi a).2.1 = (mj_gw2 L e w hi a).2.1 ∧ ((mj_gw2 L e w hi a).1 = true → (mj_gw2 L' e w hi a).2.2 = (mj_gw2 L e w hi a).2.2) := by
  unfold mj_gw2
  rw [mk_tk_c h, mk_dsok_c h, (mk_ds_c h).1]
  refine ⟨rfl, rfl, fun z => ?_⟩
  have z' : ((mj_tk L e w a).1 && mj_dsok L e hi (mj_tk L e w a).2) = true := z
  rw [Bool.and_eq_true] at z'
  have z2 := z'.2
  unfold mj_dsok at z2
  rw [Bool.and_eq_true] at z2
  exact (mk_ds_c h).2 (mk_dig_lt z2.1)
theorem mk_hd_c (h : ∀ i, i < e → L' i = L i) : (mj_hd L' e).1 = (mj_hd L e).1 ∧ (mj_hd L' e).2.1 = (mj_hd L e).2.1 ∧ (mj_hd L' e).2.2.1 = (mj_hd L e).2.2.1 ∧ ((mj_hd L e).1 = true → (mj_hd L' e).2.2.2 = (mj_hd L e).2.2.2) := by
  unfold mj_hd
  by_cases q : 0 < e
  · rw [h 0 q]
    split
    · obtain ⟨a, b, c⟩ := mk_gw_c h (a := 1) (lo := 1) (hi := 3) (w := [111, 32])
      exact ⟨a, b, rfl, c⟩
    · split
      · obtain ⟨a, b, c⟩ := mk_gw_c h (a := 1) (lo := 1) (hi := 3) (w := [104, 111, 108, 101, 32])
        exact ⟨a, b, rfl, c⟩
      · split
        · obtain ⟨a, b, c⟩ := mk_gw_c h (a := 1) (lo := 1) (hi := 3) (w := [110, 99, 101, 32])
          exact ⟨a, b, rfl, c⟩
        · split
          · obtain ⟨a, b, c⟩ := mk_gw_c h (a := 1) (lo := 1) (hi := 6) (w := [103, 97, 105, 110, 32])
            exact ⟨a, b, rfl, c⟩
          · split
            · obtain ⟨a, b, c⟩ := mk_gw_c h (a := 1) (lo := 0) (hi := 3) (w := [101, 118, 101, 114, 32])
              exact ⟨a, b, rfl, c⟩
            · split
              · rw [mk_tk_c h]
                exact ⟨rfl, rfl, rfl, fun _ => rfl⟩
              · exact ⟨rfl, rfl, rfl, fun _ => rfl⟩
  · have n : ∀ P : Prop, ¬ (0 < e ∧ P) := fun P z => q z.1
    simp [n]
theorem mk_sp_c (h : ∀ i, i < e → L' i = L i) {kd nb : Int32} {a : Nat} : mj_sp L' e kd nb a = mj_sp L e kd nb a := by
  obtain ⟨a1, a2, a3⟩ := mk_gw2_c h (a := a) (hi := 11) (w := mj_wfrom)
  obtain ⟨b1, b2, b3⟩ := mk_gw2_c h (a := (mj_gw2 L e mj_wfrom 11 a).2.1) (hi := 11) (w := mj_wto)
  unfold mj_sp
  rw [a1, a2]
  by_cases c : (mj_gw2 L e mj_wfrom 11 a).1 = true
  · rw [if_pos c, if_pos c, b1]
    by_cases d : (mj_gw2 L e mj_wto 11 (mj_gw2 L e mj_wfrom 11 a).2.1).1 = true
    · rw [if_pos d, if_pos d, b2, mk_tk_c h, a3 c, b3 d]
    · rw [if_neg d, if_neg d, b2]
  · rw [if_neg c, if_neg c]
def mk_Rr (x y : Bool × Nat × Nat × (Nat → Int32)) : Prop := x.1 = y.1 ∧ x.2.1 = y.2.1 ∧ x.2.2.1 = y.2.2.1 ∧ (y.1 = true → x.2.2.2 = y.2.2.2)
theorem mk_Rr_ite {c c' : Prop} [Decidable c] [Decidable c'] {x y x' y' : Bool × Nat × Nat × (Nat → Int32)} (hc : c ↔ c') (h1 : c' → mk_Rr x x') (h2 : ¬ c' → mk_Rr y y') : mk_Rr (if c then x else y) (if c' then x' else y') := by
  by_cases q : c'
  · rw [if_pos q, if_pos (hc.mpr q)]
    exact h1 q
  · rw [if_neg q, if_neg (fun z => q (hc.mp z))]
    exact h2 q
theorem mk_Rr_rf {x : Bool × Nat × Nat × (Nat → Int32)} : mk_Rr x x := ⟨rfl, rfl, rfl, fun _ => rfl⟩
theorem mk_ext_c (h : ∀ i, i < e → L' i = L i) {wk : Int32 → Bool} {a st : Nat} {f : Nat → Int32} : mk_Rr (mj_ext L' e wk a st f) (mj_ext L e wk a st f) := by
  have c1 : ∀ (b : Nat) (v : Int32) (P : Prop), (b < e ∧ L' b = v ∧ P) ↔ (b < e ∧ L b = v ∧ P) := fun b v P => and_congr_right (fun q => by rw [h b q])
  have c0 : (a < e ∧ L' a = 32) ↔ (a < e ∧ L a = 32) := and_congr_right (fun q => by rw [h a q])
  have g1 := mk_gw_c h (a := a + 2) (lo := 0) (hi := 3) (w := [105, 116, 104, 32])
  have g2 := mk_gw_c h (a := a + 2) (lo := 0) (hi := 9) (w := [102, 116, 101, 114, 32])
  have g3 := mk_gw_c h (a := a + 2) (lo := 0) (hi := 2) (w := [102, 32])
  have g4 := mk_gw2_c h (a := a + 2) (hi := 99) (w := [119, 101, 32])
  have g5 := mk_gw_c h (a := a + 2) (lo := 0) (hi := 5) (w := [111, 114, 32])
  unfold mj_ext
  refine mk_Rr_ite c0 (fun _ => ?_) (fun _ => mk_Rr_rf)
  refine mk_Rr_ite (c1 _ _ _) (fun _ => ⟨g1.1, g1.2.1, rfl, fun w => congrArg (mj_up f 36) (g1.2.2 w)⟩) (fun _ => ?_)
  refine mk_Rr_ite (c1 _ _ _) (fun _ => ?_) (fun _ => ?_)
  · rw [g2.1, g2.2.1]
    by_cases c : (mj_gw L e [102, 116, 101, 114, 32] 0 9 (a + 2)).1 = true
    · rw [g2.2.2 c, mk_tk_c h]
      exact mk_Rr_rf
    · rw [if_neg c, if_neg c]
      exact mk_Rr_rf
  refine mk_Rr_ite (c1 _ _ _) (fun _ => ?_) (fun _ => ?_)
  · rw [g3.1, g3.2.1]
    by_cases c : (mj_gw L e [102, 32] 0 2 (a + 2)).1 = true
    · rw [if_pos c, if_pos c, g3.2.2 c]
      have g6 := mk_gw_c h (a := (mj_gw L e [102, 32] 0 2 (a + 2)).2.1) (lo := 0) (hi := 1) (w := [61])
      exact ⟨g6.1, g6.2.1, rfl, fun w => congrArg (mj_up _ 39) (g6.2.2 w)⟩
    · rw [if_neg c, if_neg c]
      exact mk_Rr_rf
  have up : ∀ (X Y : Bool × Nat × Int32) (i st : Nat), (X.1 = Y.1 ∧ X.2.1 = Y.2.1 ∧ (Y.1 = true → X.2.2 = Y.2.2)) → mk_Rr (X.1, X.2.1, st, mj_up f i X.2.2) (Y.1, Y.2.1, st, mj_up f i Y.2.2) := fun X Y i st ⟨x, y, z⟩ => ⟨x, y, rfl, fun w => congrArg (mj_up f i) (z w)⟩
  refine mk_Rr_ite (c1 _ _ _) (fun _ => up _ _ 40 4 g4) (fun _ => ?_)
  exact mk_Rr_ite (c1 _ _ _) (fun _ => ⟨g5.1, g5.2.1, rfl, fun w => congrArg (mj_up f 41) (g5.2.2 w)⟩) (fun _ => mk_Rr_rf)
theorem mk_mr_c (h : ∀ i, i < e → L' i = L i) {wk : Int32 → Bool} : ∀ (n a st : Nat) (f : Nat → Int32), mj_mr L' e wk n a st f = mj_mr L e wk n a st f := by
  intro n
  induction n with
  | zero => intro a st f; rfl
  | succ n ih =>
    intro a st f
    obtain ⟨x, y, z, w⟩ := mk_ext_c h (wk := wk) (a := a) (st := st) (f := f)
    show (if a < e then (if st = 5 then (false, a, f) else if (mj_ext L' e wk a st f).1 = true then mj_mr L' e wk n (mj_ext L' e wk a st f).2.1 (mj_ext L' e wk a st f).2.2.1 (mj_ext L' e wk a st f).2.2.2 else (false, (mj_ext L' e wk a st f).2.1, f)) else if f 33 = 4 ∧ f 38 = -1 then (false, e, f) else (true, a, f)) = (if a < e then (if st = 5 then (false, a, f) else if (mj_ext L e wk a st f).1 = true then mj_mr L e wk n (mj_ext L e wk a st f).2.1 (mj_ext L e wk a st f).2.2.1 (mj_ext L e wk a st f).2.2.2 else (false, (mj_ext L e wk a st f).2.1, f)) else if f 33 = 4 ∧ f 38 = -1 then (false, e, f) else (true, a, f))
    rw [x, y, z]
    by_cases c : (mj_ext L e wk a st f).1 = true
    · rw [if_pos c, if_pos c, w c, ih]
    · rw [if_neg c, if_neg c]
theorem mk_rd_c (h : ∀ i, i < e → L' i = L i) {wk : Int32 → Bool} : mj_rd L' e wk = mj_rd L e wk := by
  obtain ⟨a, b, c, d⟩ := mk_hd_c h
  unfold mj_rd
  rw [a, b, c]
  by_cases z : (mj_hd L e).1 = true
  · rw [if_pos z, if_pos z, d z, mk_sp_c h, mk_mr_c h]
  · rw [if_neg z, if_neg z]
theorem mk_wk_eq (hD : mj_isD σ D) (hM : mk_isM σ D) (hk : mj_okD D) : mj_wkC σ = mj_wkM σ := by
  have N9 := hk.1
  funext v
  unfold mj_wkC mj_wkM
  rw [hD.1, hM.1]
  cases z : mj_lt0 v (nI (D 14 14))
  · rfl
  · obtain ⟨n, n1, n2⟩ := mj_nI_of (mj_lt0_inb z (Nat.le_refl _) (by omega)) (by omega)
    rw [n2, nI_clamp (by omega), mj_wk_D hD hk n1]
    congr 1
    exact mj_dec (mk_wk_M hM hk n1).2.symm
/-- both sides read the same -/
theorem mk_tx_eq {s : Nat} (hD : mj_isD σ D) (hM : mk_isM σ D) (hk : mj_okD D) (he : e ≤ 60) (hL : ∀ i, i < 60 → σ.2.1 (4 + s) i = σ.2.1 82 (60 * s + i)) : mj_ctx σ s e = mj_rtx σ s e := by
  unfold mj_ctx mj_rtx
  rw [mk_wk_eq hD hM hk]
  refine mk_rd_c (fun i hi => ?_)
  unfold mj_kl mj_lt
  rw [hL i (by omega)]
end
