section
variable {X : mj_X} {d : Nat} {σ : mj_St}
/-- the same but for the reference's own marks -/
def mj_Fr (σ τ : mj_St) : Prop := τ.2 = σ.2 ∧ (∀ c, c ≠ 61 → c ≠ 86 → c ≠ 87 → c ≠ 88 → τ.1 c = σ.1 c) ∧ ∀ i, i ≠ 47 → i ≠ 52 → τ.1 61 i = σ.1 61 i
theorem mj_Fr_rf : mj_Fr σ σ := ⟨rfl, fun _ _ _ _ _ => rfl, fun _ _ _ => rfl⟩
theorem mj_Fr_tr {τ ρ : mj_St} (h : mj_Fr σ τ) (g : mj_Fr τ ρ) : mj_Fr σ ρ :=
  ⟨g.1.trans h.1, fun c a b e f => (g.2.1 c a b e f).trans (h.2.1 c a b e f), fun i a b => (g.2.2 i a b).trans (h.2.2 i a b)⟩
theorem mj_Fr_47 {v : Int32} : mj_Fr σ (mj_setI σ 61 47 v) := by
  refine ⟨rfl, fun c h _ _ _ => mj_setI_ne σ 47 v h, fun i h _ => ?_⟩
  simp [mj_setI, h]
def mj_cq (f : Nat → Bool) (n : Nat) : Nat := mj_it (fun i c => if f i = true then c + 1 else c) 0 n
theorem mj_cq_s {f : Nat → Bool} {n : Nat} : mj_cq f (n + 1) = if f n = true then mj_cq f n + 1 else mj_cq f n := rfl
theorem mj_cq_full {f : Nat → Bool} : ∀ n, (∀ p, p < n → f p = true) → mj_cq f n = n := by
  intro n
  induction n with
  | zero => intro _; rfl
  | succ n ih =>
    intro h
    rw [mj_cq_s, h n (by omega), if_pos rfl, ih (fun p hp => h p (by omega))]
theorem mj_cq_eq {f g : Nat → Bool} : ∀ n, (∀ i, i < n → g i = f i) → mj_cq g n = mj_cq f n := by
  intro n
  induction n with
  | zero => intro _; rfl
  | succ n ih =>
    intro h
    rw [mj_cq_s, mj_cq_s, h n (by omega), ih (fun i hi => h i (by omega))]
theorem mj_cq_upd {f g : Nat → Bool} {p : Nat} (h : ∀ i, i ≠ p → g i = f i) : ∀ n, mj_cq g n ≤ mj_cq f n + 1 := by
  intro n
  induction n with
  | zero => exact Nat.zero_le _
  | succ n ih =>
    rw [mj_cq_s, mj_cq_s]
    by_cases e : n = p
    · subst e
      rw [mj_cq_eq n (fun i hi => h i (by omega))]
      split <;> split <;> omega
    · rw [h n e]
      split <;> omega
theorem mj_cq_free {f : Nat → Bool} {n m : Nat} (h : mj_cq f n ≤ m) (hm : m < n) : ∃ q, q < n ∧ f q = false := by
  apply Classical.byContradiction
  intro hc
  have := mj_cq_full (f := f) n (fun p hp => by
    cases hf : f p
    · exact absurd ⟨p, hp, hf⟩ hc
    · rfl)
  omega
/-- what stands in the table in this round is good -/
def mj_Tab (σ : mj_St) (G : Int32 → Int32 → Prop) : Prop := (∀ p, p < 16384 → σ.1 87 p = σ.1 61 51 → G (σ.1 86 p) (σ.1 88 p)) ∧ (∃ m : Nat, m ≤ 12000 ∧ σ.1 61 52 = nI m ∧ mj_cq (fun p => decide (σ.1 87 p = σ.1 61 51)) 16384 ≤ m) ∧ ∀ p, p < 16384 → (σ.1 87 p).toInt ≤ (σ.1 61 51).toInt
theorem mj_Tab_47 {G : Int32 → Int32 → Prop} {v : Int32} (h : mj_Tab σ G) : mj_Tab (mj_setI σ 61 47 v) G := h
theorem mj_Tab_free {G : Int32 → Int32 → Prop} (h : mj_Tab σ G) : ∃ q, q < 16384 ∧ ¬ σ.1 87 q = σ.1 61 51 := by
  obtain ⟨-, ⟨m, hm, -, hc⟩, -⟩ := h
  obtain ⟨q, hq, hf⟩ := mj_cq_free hc (by omega)
  exact ⟨q, hq, by simpa using hf⟩
theorem sp_M_isMarked {G : Int32 → Int32 → Prop} {key : Int32} (h : mj_Tab σ G) : ∃ b : Bool, (b = true → ∃ v, G key v) ∧ ∀ d, mj_ev X (d + 2) 200 [.ref 61, .int key] σ = some (some (.int (mj_z b)), σ) := by
  obtain ⟨p, ⟨hp, hk⟩, he⟩ := sp_M_placeOf (X := X) (key := key) (mj_Tab_free h)
  refine ⟨decide (σ.1 87 p = σ.1 61 51), fun hb => ?_, fun d => ?_⟩
  · have hr := of_decide_eq_true hb
    have := h.1 p hp hr
    rw [hk hr] at this
    exact ⟨_, this⟩
  · refine st200 ?_
    by_cases c : σ.1 87 p = σ.1 61 51
    · simp only [u200_0, u200_1, u200_4, u200_5, u200_6, u200_9, u200_10, u200_11, u200_14, u200_17, u200_18, u200_21, u200_22, he, mj_in_nI hp (by decide), mj_nz9 hp (by decide), c, mj_cc_v, mj_cc_n, List.all_cons, List.all_nil, mj_noMk_int, mj_noMk_long, mj_noMk_ref, mj_noMk_junk, List.length_nil, List.length_cons, Nat.zero_le, Nat.reduceLeDiff, Nat.reduceAdd, Bool.and_true, Bool.true_and, Bool.and_self, Nat.reduceBNe, true_or, or_true, true_and, and_true, mj_z0, mj_z1, mj_z01, decide_true, decide_false, Bool.true_and, Bool.false_and, Bool.and_true, Bool.and_false, Bool.true_or, Bool.false_or, Bool.or_false, Bool.or_true, Bool.not_true, Bool.not_false, Bool.and_self, Bool.or_self, if_true, if_false, Bool.true_eq_false, Bool.false_eq_true, not_true, not_false_eq_true]
      rfl
    · simp only [u200_0, u200_1, u200_4, u200_5, u200_6, u200_9, u200_10, u200_11, u200_14, u200_17, u200_18, u200_21, u200_22, he, mj_in_nI hp (by decide), mj_nz9 hp (by decide), c, mj_cc_v, mj_cc_n, List.all_cons, List.all_nil, mj_noMk_int, mj_noMk_long, mj_noMk_ref, mj_noMk_junk, List.length_nil, List.length_cons, Nat.zero_le, Nat.reduceLeDiff, Nat.reduceAdd, Bool.and_true, Bool.true_and, Bool.and_self, Nat.reduceBNe, true_or, or_true, true_and, and_true, mj_z0, mj_z1, mj_z01, decide_true, decide_false, Bool.true_and, Bool.false_and, Bool.and_true, Bool.and_false, Bool.true_or, Bool.false_or, Bool.or_false, Bool.or_true, Bool.not_true, Bool.not_false, Bool.and_self, Bool.or_self, if_true, if_false, Bool.true_eq_false, Bool.false_eq_true, not_true, not_false_eq_true]
      rfl
def mj_mkS (σ : mj_St) (p : Nat) (key v : Int32) : mj_St := mj_setI (mj_setI (mj_setI (mj_setI σ 86 p key) 87 p (σ.1 61 51)) 88 p v) 61 52 (σ.1 61 52 + 1)
theorem mj_mkS_86 {p i : Nat} {key v : Int32} : (mj_mkS σ p key v).1 86 i = if i = p then key else σ.1 86 i := by
  simp [mj_mkS, mj_setI]
theorem mj_mkS_87 {p i : Nat} {key v : Int32} : (mj_mkS σ p key v).1 87 i = if i = p then σ.1 61 51 else σ.1 87 i := by
  simp [mj_mkS, mj_setI]
theorem mj_mkS_88 {p i : Nat} {key v : Int32} : (mj_mkS σ p key v).1 88 i = if i = p then v else σ.1 88 i := by
  simp [mj_mkS, mj_setI]
theorem sp_M_marks {G : Int32 → Int32 → Prop} {key v : Int32} (h : mj_Tab σ G) (hG : G key v) : ∃ τ, mj_Fr σ τ ∧ mj_Tab τ G ∧ ∀ d, mj_ev X (d + 2) 211 [.ref 61, .int key, .int v] σ = some (none, τ) := by
  by_cases hm : σ.1 61 52 = 12000
  · refine ⟨σ, mj_Fr_rf, h, fun d => ?_⟩
    refine st211 ?_
    simp only [u211_0, u211_1, u211_4, u211_7, u211_10, u211_11, u211_12, u211_13, u211_16, u211_17, u211_18, u211_21, u211_22, u211_23, u211_24, u211_25, u211_28, u211_29, u211_30, u211_33, u211_34, u211_35, u211_38, u211_39, u211_40, u211_41, u211_42, u211_43, u211_46, u211_47, u211_48, u211_51, hm, if_true]
  · obtain ⟨p, ⟨hp, hk⟩, he⟩ := sp_M_placeOf (X := X) (key := key) (mj_Tab_free h)
    refine ⟨mj_mkS σ p key v, ⟨rfl, fun c h1 h2 h3 h4 => ?_, fun i h1 h2 => ?_⟩, ⟨fun q hq hr => ?_, ?_, fun q hq => ?_⟩, fun d => ?_⟩
    · unfold mj_mkS
      rw [mj_setI_ne _ _ _ h1, mj_setI_ne _ _ _ h4, mj_setI_ne _ _ _ h3, mj_setI_ne _ _ _ h2]
    · simp [mj_mkS, mj_setI, h2]
    · have e51 : (mj_mkS σ p key v).1 61 51 = σ.1 61 51 := rfl
      rw [e51, mj_mkS_87] at hr
      rw [mj_mkS_86, mj_mkS_88]
      by_cases c : q = p
      · rw [if_pos c, if_pos c]
        exact hG
      · rw [if_neg c] at hr ⊢
        rw [if_neg c]
        exact h.1 q hq hr
    · obtain ⟨-, ⟨m, hm1, hm2, hc⟩, -⟩ := h
      refine ⟨m + 1, ?_, ?_, ?_⟩
      · have : m ≠ 12000 := fun e => hm (by rw [hm2, e]; rfl)
        omega
      · show σ.1 61 52 + 1 = nI (m + 1)
        rw [hm2, nI_1]
      · have hle := mj_cq_upd (f := fun p => decide (σ.1 87 p = σ.1 61 51)) (g := fun q => decide ((mj_mkS σ p key v).1 87 q = σ.1 61 51)) (p := p) (fun i hi => by
          simp only [mj_mkS_87, if_neg hi]) 16384
        exact Nat.le_trans hle (Nat.succ_le_succ hc)
    · have e51 : (mj_mkS σ p key v).1 61 51 = σ.1 61 51 := rfl
      rw [e51, mj_mkS_87]
      split
      · exact Int.le_refl _
      · exact h.2.2 q hq
    · refine st211 ?_
      simp only [u211_0, u211_1, u211_4, u211_7, u211_10, u211_11, u211_12, u211_13, u211_16, u211_17, u211_18, u211_21, u211_22, u211_23, u211_24, u211_25, u211_28, u211_29, u211_30, u211_33, u211_34, u211_35, u211_38, u211_39, u211_40, u211_41, u211_42, u211_43, u211_46, u211_47, u211_48, u211_51, hm, he, mj_in_nI hp (by decide), mj_nz9 hp (by decide), mj_cc_v, mj_cc_n, List.all_cons, List.all_nil, mj_noMk_int, mj_noMk_long, mj_noMk_ref, mj_noMk_junk, List.length_nil, List.length_cons, Nat.zero_le, Nat.reduceLeDiff, Nat.reduceAdd, Bool.and_true, Bool.true_and, Bool.and_self, Nat.reduceBNe, true_or, or_true, true_and, and_true, mj_z0, mj_z1, mj_z01, decide_true, decide_false, Bool.true_and, Bool.false_and, Bool.and_true, Bool.and_false, Bool.true_or, Bool.false_or, Bool.or_false, Bool.or_true, Bool.not_true, Bool.not_false, Bool.and_self, Bool.or_self, if_true, if_false, Bool.true_eq_false, Bool.false_eq_true, not_true, not_false_eq_true]
      rfl
end
