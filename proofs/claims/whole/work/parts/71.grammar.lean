section
variable {X : mj_X} {d : Nat} {σ τ ρ : mj_St}
-- the texts of promises, as both sides read them: L the letters, e their end
/-- so far as the letters are the word, from a place on -/
def mj_tk (L : Nat → Int32) (e : Nat) : List Int32 → Nat → Bool × Nat
  | [], a => (true, a)
  | c :: w, a => if a < e ∧ L a = c then mj_tk L e w (a + 1) else (false, a)
def mj_dig (L : Nat → Int32) (e a : Nat) : Bool := decide (a < e) && (decide (¬ L a < 48) && decide (¬ 57 < L a))
def mj_dg (L : Nat → Int32) (e : Nat) (lo hi : Int32) (a : Nat) : Bool := mj_dig L e a && (decide (¬ L a - 48 < lo) && decide (¬ hi < L a - 48))
/-- one or two digits: how many, and the number -/
def mj_ds (L : Nat → Int32) (e a : Nat) : Nat × Int32 := if mj_dig L e (a + 1) = true then (2, 10 * (L a - 48) + L (a + 1) - 48) else (1, L a - 48)
def mj_dsok (L : Nat → Int32) (e : Nat) (hi : Int32) (a : Nat) : Bool := mj_dig L e a && decide (¬ hi < (mj_ds L e a).2)
/-- a word and a digit: whether they stand, the place after them (or of the fault), the number -/
def mj_gw (L : Nat → Int32) (e : Nat) (w : List Int32) (lo hi : Int32) (a : Nat) : Bool × Nat × Int32 :=
  ((mj_tk L e w a).1 && mj_dg L e lo hi (mj_tk L e w a).2, if ((mj_tk L e w a).1 && mj_dg L e lo hi (mj_tk L e w a).2) = true then (mj_tk L e w a).2 + 1 else (mj_tk L e w a).2, L (mj_tk L e w a).2 - 48)
def mj_gw2 (L : Nat → Int32) (e : Nat) (w : List Int32) (hi : Int32) (a : Nat) : Bool × Nat × Int32 :=
  ((mj_tk L e w a).1 && mj_dsok L e hi (mj_tk L e w a).2, if ((mj_tk L e w a).1 && mj_dsok L e hi (mj_tk L e w a).2) = true then (mj_tk L e w a).2 + (mj_ds L e (mj_tk L e w a).2).1 else (mj_tk L e w a).2, (mj_ds L e (mj_tk L e w a).2).2)
/-- the head: whether it stands, the place, the kind, the number -/
def mj_hd (L : Nat → Int32) (e : Nat) : Bool × Nat × Int32 × Int32 :=
  if 0 < e ∧ L 0 = 100 then ((mj_gw L e [111, 32] 1 3 1).1, (mj_gw L e [111, 32] 1 3 1).2.1, 1, (mj_gw L e [111, 32] 1 3 1).2.2)
  else if 0 < e ∧ L 0 = 119 then ((mj_gw L e [104, 111, 108, 101, 32] 1 3 1).1, (mj_gw L e [104, 111, 108, 101, 32] 1 3 1).2.1, 2, (mj_gw L e [104, 111, 108, 101, 32] 1 3 1).2.2)
  else if 0 < e ∧ L 0 = 111 then ((mj_gw L e [110, 99, 101, 32] 1 3 1).1, (mj_gw L e [110, 99, 101, 32] 1 3 1).2.1, 4, (mj_gw L e [110, 99, 101, 32] 1 3 1).2.2)
  else if 0 < e ∧ L 0 = 97 then ((mj_gw L e [103, 97, 105, 110, 32] 1 6 1).1, (mj_gw L e [103, 97, 105, 110, 32] 1 6 1).2.1, 3, (mj_gw L e [103, 97, 105, 110, 32] 1 6 1).2.2)
  else if 0 < e ∧ L 0 = 110 then ((mj_gw L e [101, 118, 101, 114, 32] 0 3 1).1, (mj_gw L e [101, 118, 101, 114, 32] 0 3 1).2.1, 5, (mj_gw L e [101, 118, 101, 114, 32] 0 3 1).2.2)
  else if 0 < e ∧ L 0 = 102 then ((mj_tk L e [114, 101, 101] 1).1, (mj_tk L e [114, 101, 101] 1).2, 6, 0)
  else (false, 0, 0, 0)
def mj_wfrom : List Int32 := [32, 102, 114, 111, 109, 32]
def mj_wto : List Int32 := [32, 116, 111, 32]
/-- what a work lasts, by its kind, its number and its hours -/
def mj_lasts (kd nb fr to : Int32) : Int32 := if kd = 3 then (to - fr) / nb + 1 else if kd < 5 then nb else 0
/-- the hours: whether they stand, the place, from, to -/
def mj_sp (L : Nat → Int32) (e : Nat) (kd nb : Int32) (a : Nat) : Bool × Nat × Int32 × Int32 :=
  if (mj_gw2 L e mj_wfrom 11 a).1 = true then
    if (mj_gw2 L e mj_wto 11 (mj_gw2 L e mj_wfrom 11 a).2.1).1 = true then
      let fr := (mj_gw2 L e mj_wfrom 11 a).2.2
      let to := (mj_gw2 L e mj_wto 11 (mj_gw2 L e mj_wfrom 11 a).2.1).2.2
      if ¬ to < fr ∧ (if kd = 3 then ¬ 3 < mj_lasts kd nb fr to else if kd < 5 then ¬ to - fr + 1 < nb else True) then (true, (mj_gw2 L e mj_wto 11 (mj_gw2 L e mj_wfrom 11 a).2.1).2.1, fr, to)
      else (false, (mj_tk L e mj_wto (mj_gw2 L e mj_wfrom 11 a).2.1).2, fr, to)
    else (false, (mj_gw2 L e mj_wto 11 (mj_gw2 L e mj_wfrom 11 a).2.1).2.1, 0, 0)
  else (false, (mj_gw2 L e mj_wfrom 11 a).2.1, 0, 0)
def mj_up (f : Nat → Int32) (i : Nat) (v : Int32) : Nat → Int32 := fun j => if j = i then v else f j
/-- one more: whether it stands, the place, the stage, the fields -/
def mj_ext (L : Nat → Int32) (e : Nat) (wk : Int32 → Bool) (a st : Nat) (f : Nat → Int32) : Bool × Nat × Nat × (Nat → Int32) :=
  if a < e ∧ L a = 32 then
    if a + 1 < e ∧ L (a + 1) = 119 ∧ st < 1 ∧ f 33 < 5 then
      ((mj_gw L e [105, 116, 104, 32] 0 3 (a + 2)).1, (mj_gw L e [105, 116, 104, 32] 0 3 (a + 2)).2.1, 1, mj_up f 36 (mj_gw L e [105, 116, 104, 32] 0 3 (a + 2)).2.2)
    else if a + 1 < e ∧ L (a + 1) = 97 ∧ st < 2 ∧ f 33 < 5 then
      if (mj_gw L e [102, 116, 101, 114, 32] 0 9 (a + 2)).1 = true then
        if wk (mj_gw L e [102, 116, 101, 114, 32] 0 9 (a + 2)).2.2 = true then (true, (mj_gw L e [102, 116, 101, 114, 32] 0 9 (a + 2)).2.1, 2, mj_up f 37 (mj_gw L e [102, 116, 101, 114, 32] 0 9 (a + 2)).2.2)
        else (false, (mj_tk L e [102, 116, 101, 114, 32] (a + 2)).2, 0, f)
      else (false, (mj_gw L e [102, 116, 101, 114, 32] 0 9 (a + 2)).2.1, 0, f)
    else if a + 1 < e ∧ L (a + 1) = 105 ∧ st < 3 then
      if (mj_gw L e [102, 32] 0 2 (a + 2)).1 = true then
        ((mj_gw L e [61] 0 1 (mj_gw L e [102, 32] 0 2 (a + 2)).2.1).1, (mj_gw L e [61] 0 1 (mj_gw L e [102, 32] 0 2 (a + 2)).2.1).2.1, 3, mj_up (mj_up f 38 (mj_gw L e [102, 32] 0 2 (a + 2)).2.2) 39 (mj_gw L e [61] 0 1 (mj_gw L e [102, 32] 0 2 (a + 2)).2.1).2.2)
      else (false, (mj_gw L e [102, 32] 0 2 (a + 2)).2.1, 0, f)
    else if a + 1 < e ∧ L (a + 1) = 111 ∧ st < 4 ∧ (¬ f 33 = 4 ∨ ¬ f 38 = -1) then
      ((mj_gw2 L e [119, 101, 32] 99 (a + 2)).1, (mj_gw2 L e [119, 101, 32] 99 (a + 2)).2.1, 4, mj_up f 40 (mj_gw2 L e [119, 101, 32] 99 (a + 2)).2.2)
    else if a + 1 < e ∧ L (a + 1) = 102 ∧ st < 5 ∧ (¬ f 33 = 4 ∨ ¬ f 38 = -1) then
      ((mj_gw L e [111, 114, 32] 0 5 (a + 2)).1, (mj_gw L e [111, 114, 32] 0 5 (a + 2)).2.1, 5, mj_up f 41 (mj_gw L e [111, 114, 32] 0 5 (a + 2)).2.2)
    else (false, a + 1, 0, f)
  else (false, a, 0, f)
/-- all that follows: whether it stands, the place of the fault, the fields -/
def mj_mr (L : Nat → Int32) (e : Nat) (wk : Int32 → Bool) : Nat → Nat → Nat → (Nat → Int32) → Bool × Nat × (Nat → Int32)
  | 0, a, _, f => (false, a, f)
  | n + 1, a, st, f =>
    if a < e then
      if st = 5 then (false, a, f)
      else if (mj_ext L e wk a st f).1 = true then mj_mr L e wk n (mj_ext L e wk a st f).2.1 (mj_ext L e wk a st f).2.2.1 (mj_ext L e wk a st f).2.2.2
      else (false, (mj_ext L e wk a st f).2.1, f)
    else if f 33 = 4 ∧ f 38 = -1 then (false, e, f)
    else (true, a, f)
def mj_f0 (kd nb fr to : Int32) : Nat → Int32 := fun i => if i = 33 then kd else if i = 34 then fr else if i = 35 then to else if i = 36 then (if kd = 5 then nb else -1) else if i = 37 then -1 else if i = 38 then -1 else if i = 42 then mj_lasts kd nb fr to else if i = 43 then (if kd = 3 then nb else 1) else 0
/-- a text: whether it is one, the place of the fault, the fields -/
def mj_rd (L : Nat → Int32) (e : Nat) (wk : Int32 → Bool) : Bool × Nat × (Nat → Int32) :=
  if (mj_hd L e).1 = true then
    if (mj_sp L e (mj_hd L e).2.2.1 (mj_hd L e).2.2.2 (mj_hd L e).2.1).1 = true then
      mj_mr L e wk 6 (mj_sp L e (mj_hd L e).2.2.1 (mj_hd L e).2.2.2 (mj_hd L e).2.1).2.1 0 (mj_f0 (mj_hd L e).2.2.1 (mj_hd L e).2.2.2 (mj_sp L e (mj_hd L e).2.2.1 (mj_hd L e).2.2.2 (mj_hd L e).2.1).2.2.1 (mj_sp L e (mj_hd L e).2.2.1 (mj_hd L e).2.2.2 (mj_hd L e).2.1).2.2.2)
    else (false, (mj_sp L e (mj_hd L e).2.2.1 (mj_hd L e).2.2.2 (mj_hd L e).2.1).2.1, fun _ => 0)
  else (false, (mj_hd L e).2.1, fun _ => 0)
theorem mj_tk_le {L : Nat → Int32} {e : Nat} : ∀ (w : List Int32) (a : Nat), a ≤ e → a ≤ (mj_tk L e w a).2 ∧ (mj_tk L e w a).2 ≤ e := by
  intro w
  induction w with
  | nil => intro a h; exact ⟨Nat.le_refl _, h⟩
  | cons c w ih =>
    intro a h
    simp only [mj_tk]
    by_cases q : a < e ∧ L a = c
    · rw [if_pos q]
      have := ih (a + 1) (by omega)
      omega
    · rw [if_neg q]
      exact ⟨Nat.le_refl _, h⟩
theorem mj_dig_lt {L : Nat → Int32} {e a : Nat} (h : mj_dig L e a = true) : a < e := by
  unfold mj_dig at h
  simp only [Bool.and_eq_true, decide_eq_true_eq] at h
  exact h.1
theorem mj_dg_lt {L : Nat → Int32} {e a : Nat} {lo hi : Int32} (h : mj_dg L e lo hi a = true) : a < e := by
  unfold mj_dg at h
  simp only [Bool.and_eq_true] at h
  exact mj_dig_lt h.1
theorem mj_dsok_le {L : Nat → Int32} {e a : Nat} {hi : Int32} (h : mj_dsok L e hi a = true) : a + (mj_ds L e a).1 ≤ e := by
  unfold mj_dsok at h
  simp only [Bool.and_eq_true] at h
  have h1 := mj_dig_lt h.1
  unfold mj_ds
  by_cases c : mj_dig L e (a + 1) = true
  · rw [if_pos c]
    have := mj_dig_lt c
    show a + 2 ≤ e
    omega
  · rw [if_neg c]
    show a + 1 ≤ e
    omega
theorem mj_gw_le {L : Nat → Int32} {e a : Nat} {lo hi : Int32} {w : List Int32} (h : a ≤ e) : (mj_gw L e w lo hi a).2.1 ≤ e := by
  have := mj_tk_le (L := L) w a h
  unfold mj_gw
  by_cases c : ((mj_tk L e w a).1 && mj_dg L e lo hi (mj_tk L e w a).2) = true
  · simp only [if_pos c]
    simp only [Bool.and_eq_true] at c
    have := mj_dg_lt c.2
    omega
  · simp only [if_neg c]
    omega
theorem mj_gw2_le {L : Nat → Int32} {e a : Nat} {hi : Int32} {w : List Int32} (h : a ≤ e) : (mj_gw2 L e w hi a).2.1 ≤ e := by
  have := mj_tk_le (L := L) w a h
  unfold mj_gw2
  by_cases c : ((mj_tk L e w a).1 && mj_dsok L e hi (mj_tk L e w a).2) = true
  · simp only [if_pos c]
    simp only [Bool.and_eq_true] at c
    exact mj_dsok_le c.2
  · simp only [if_neg c]
    omega
/-- the same but some fields of the reference's own -/
def mj_Fx (S : List Nat) (σ ρ : mj_St) : Prop := ρ.2 = σ.2 ∧ (∀ c, c ≠ 61 → ρ.1 c = σ.1 c) ∧ ∀ i, i ∉ S → ρ.1 61 i = σ.1 61 i
theorem mj_Fx_rf {S : List Nat} : mj_Fx S σ σ := ⟨rfl, fun _ _ => rfl, fun _ _ => rfl⟩
theorem mj_Fx_tr {S : List Nat} (h : mj_Fx S σ τ) (h' : mj_Fx S τ ρ) : mj_Fx S σ ρ := ⟨h'.1.trans h.1, fun c q => (h'.2.1 c q).trans (h.2.1 c q), fun i q => (h'.2.2 i q).trans (h.2.2 i q)⟩
theorem mj_Fx_sub {S S' : List Nat} (hS : ∀ i, i ∈ S → i ∈ S') (h : mj_Fx S σ τ) : mj_Fx S' σ τ := ⟨h.1, h.2.1, fun i q => h.2.2 i (fun r => q (hS i r))⟩
theorem mj_Fx_set {S : List Nat} {i : Nat} {v : Int32} (hi : i ∈ S) (h : mj_Fx S σ τ) : mj_Fx S σ (mj_setI τ 61 i v) := by
  refine ⟨h.1, fun c q => ?_, fun j q => ?_⟩
  · rw [mj_setI_ne τ i v q]
    exact h.2.1 c q
  · show (if 61 = 61 ∧ j = i then v else τ.1 61 j) = σ.1 61 j
    rw [if_neg (fun r => q (by rw [r.2]; exact hi))]
    exact h.2.2 j q
theorem mj_setI_self {c i : Nat} {v : Int32} (h : σ.1 c i = v) : mj_setI σ c i v = σ := by
  unfold mj_setI
  refine Prod.ext ?_ rfl
  funext c' i'
  show (if c' = c ∧ i' = i then v else σ.1 c' i') = σ.1 c' i'
  by_cases q : c' = c ∧ i' = i
  · rw [if_pos q, q.1, q.2, h]
  · rw [if_neg q]
theorem mj_setI_2 {c i : Nat} {v w : Int32} : mj_setI (mj_setI σ c i v) c i w = mj_setI σ c i w := by
  unfold mj_setI
  refine Prod.ext ?_ rfl
  funext c' i'
  show (if c' = c ∧ i' = i then w else if c' = c ∧ i' = i then v else σ.1 c' i') = if c' = c ∧ i' = i then w else σ.1 c' i'
  by_cases q : c' = c ∧ i' = i
  · rw [if_pos q, if_pos q]
  · rw [if_neg q, if_neg q, if_neg q]
theorem mj_setI_eq {c i : Nat} {v : Int32} : (mj_setI σ c i v).1 c i = v := by
  unfold mj_setI
  simp
theorem mj_setI_i {c i j : Nat} {v : Int32} (h : j ≠ i) : (mj_setI σ c i v).1 c j = σ.1 c j := by
  unfold mj_setI
  simp [h]
end
