section
variable {X : mj_X} {d : Nat} {σ τ ρ : mj_St}
-- more promises tried, and taken away again
/-- what adding writes into a column -/
def mj_adv (σ : mj_St) (c : Nat) : Int32 := (mj_adC σ 0).1 c 0
def mj_kz (σ : mj_St) : Nat → Int32
  | 0 => 0
  | k + 1 => mj_kz σ k + mj_z (mj_wk (σ.1 44 4))
theorem mj_lof_44 (h : τ.1 44 = σ.1 44) : mj_lof τ = mj_lof σ := by
  unfold mj_lof
  rw [h]
theorem mj_adC_c {N c i : Nat} (h1 : 15 ≤ c) (h2 : c ≤ 26) : (mj_adC σ N).1 c i = if i = N then mj_adv σ c else σ.1 c i := by
  have hc : c = 15 ∨ c = 16 ∨ c = 17 ∨ c = 18 ∨ c = 19 ∨ c = 20 ∨ c = 21 ∨ c = 22 ∨ c = 23 ∨ c = 24 ∨ c = 25 ∨ c = 26 := by omega
  by_cases q : i = N
  · rw [if_pos q]
    subst q
    unfold mj_adv mj_adC
    rcases hc with z | z | z | z | z | z | z | z | z | z | z | z <;> subst z <;> simp [mj_setI]
  · rw [if_neg q]
    unfold mj_adC
    rcases hc with z | z | z | z | z | z | z | z | z | z | z | z <;> subst z <;> simp [mj_setI, q]
theorem mj_adC_o {N c : Nat} (h1 : c ≠ 14) (h2 : ¬ (15 ≤ c ∧ c ≤ 26)) : (mj_adC σ N).1 c = σ.1 c := by
  unfold mj_adC
  rw [mj_setI_ne _ _ _ h1, mj_setI_ne _ _ _ h1, mj_setI_ne _ _ _ (by omega), mj_setI_ne _ _ _ (by omega), mj_setI_ne _ _ _ (by omega), mj_setI_ne _ _ _ (by omega), mj_setI_ne _ _ _ (by omega), mj_setI_ne _ _ _ (by omega), mj_setI_ne _ _ _ (by omega), mj_setI_ne _ _ _ (by omega), mj_setI_ne _ _ _ (by omega), mj_setI_ne _ _ _ (by omega), mj_setI_ne _ _ _ (by omega), mj_setI_ne _ _ _ (by omega)]
theorem mj_adv_44 (h : τ.1 44 = σ.1 44) {c : Nat} (h1 : 15 ≤ c) (h2 : c ≤ 26) : mj_adv τ c = mj_adv σ c := by
  have hc : c = 15 ∨ c = 16 ∨ c = 17 ∨ c = 18 ∨ c = 19 ∨ c = 20 ∨ c = 21 ∨ c = 22 ∨ c = 23 ∨ c = 24 ∨ c = 25 ∨ c = 26 := by omega
  have e := mj_lof_44 h
  unfold mj_adv mj_adC
  rcases hc with z | z | z | z | z | z | z | z | z | z | z | z <;> subst z <;> simp [mj_setI, h, e]
theorem mj_adv_15 : mj_adv σ 15 = σ.1 44 4 := by
  unfold mj_adv mj_adC
  simp [mj_setI]
/-- k more promises than there were -/
def mj_Fa (N k : Nat) (σ ρ : mj_St) : Prop := (∀ c, c < 46 ∨ 54 < c → c ≠ 14 → ¬ (15 ≤ c ∧ c ≤ 26) → ρ.1 c = σ.1 c) ∧ (∀ i, i ≠ 14 → i ≠ 15 → ρ.1 14 i = σ.1 14 i) ∧ ρ.1 14 14 = nI (N + k) ∧ ρ.1 14 15 = σ.1 14 15 + mj_kz σ k ∧
  (∀ c i, 15 ≤ c → c ≤ 26 → N ≤ i → i < N + k → ρ.1 c i = mj_adv σ c) ∧ (∀ c i, 15 ≤ c → c ≤ 26 → ρ.1 c i = σ.1 c i ∨ N ≤ i ∧ ρ.1 c i = mj_adv σ c) ∧
  (∀ c, c ≠ 999 → ρ.2.1 c = σ.2.1 c) ∧ (∀ c, c ≠ 46 → ρ.2.2.1 c = σ.2.2.1 c) ∧ (σ.2.2.2.1 ≤ 20000 → ρ.2.2.2.1 ≤ 20000) ∧ ∀ B, mj_Rb B σ → mj_Rb B ρ
theorem mj_Fa_0 {N : Nat} (h : σ.1 14 14 = nI N) : mj_Fa N 0 σ σ := by
  refine ⟨fun _ _ _ _ => rfl, fun _ _ _ => rfl, h, ?_, fun c i _ _ a b => absurd b (by omega), fun _ _ _ _ => Or.inl rfl, fun _ _ => rfl, fun _ _ => rfl, fun h => h, fun _ h => h⟩
  show σ.1 14 15 = σ.1 14 15 + 0
  grind
theorem mj_Fa_Fs {N k : Nat} (h : mj_Fa N k σ τ) (F : mj_Fs τ ρ) : mj_Fa N k σ ρ := by
  obtain ⟨a1, a2, a3, a4, a5, a6, a7, a8, a9, a10⟩ := h
  obtain ⟨f1, f2, f3, f4, f5⟩ := F
  have e14 : ρ.1 14 = τ.1 14 := f1 14 (Or.inl (by decide))
  have ec : ∀ c, c ≤ 26 → ρ.1 c = τ.1 c := fun c q => f1 c (Or.inl (by omega))
  refine ⟨fun c q q1 q2 => (f1 c q).trans (a1 c q q1 q2), fun i q1 q2 => by rw [e14]; exact a2 i q1 q2, by rw [e14]; exact a3, by rw [e14]; exact a4, fun c i q1 q2 q3 q4 => by rw [ec c q2]; exact a5 c i q1 q2 q3 q4, fun c i q1 q2 => by rw [ec c q2]; exact a6 c i q1 q2, fun c q => (f2 c q).trans (a7 c q), fun c q => (f3 c q).trans (a8 c q), fun q => f4 (a9 q), fun B q => f5 B (a10 B q)⟩
theorem mj_Fa_44 {N k : Nat} (h : mj_Fa N k σ τ) : τ.1 44 = σ.1 44 := h.1 44 (Or.inl (by decide)) (by decide) (by decide)
theorem mj_Fa_ad {N k : Nat} (h : mj_Fa N k σ τ) : mj_Fa N (k + 1) σ (mj_adC τ (N + k)) := by
  have e44 := mj_Fa_44 h
  obtain ⟨a1, a2, a3, a4, a5, a6, a7, a8, a9, a10⟩ := h
  refine ⟨fun c q q1 q2 => (mj_adC_o q1 q2).trans (a1 c q q1 q2), fun i q1 q2 => ?_, ?_, ?_, fun c i q1 q2 q3 q4 => ?_, fun c i q1 q2 => ?_, a7, a8, a9, a10⟩
  · have e : (mj_adC τ (N + k)).1 14 i = τ.1 14 i := by
      unfold mj_adC
      simp [mj_setI, q1, q2]
    rw [e]
    exact a2 i q1 q2
  · unfold mj_adC
    simp [mj_setI]
    rfl
  · have e : (mj_adC τ (N + k)).1 14 15 = τ.1 14 15 + mj_z (mj_wk (τ.1 44 4)) := by
      unfold mj_adC
      rw [mj_setI_eq]
    rw [e, a4, e44]
    show _ = σ.1 14 15 + (mj_kz σ k + mj_z (mj_wk (σ.1 44 4)))
    grind
  · rw [mj_adC_c q1 q2, mj_adv_44 e44 q1 q2]
    by_cases z : i = N + k
    · rw [if_pos z]
    · rw [if_neg z]
      exact a5 c i q1 q2 q3 (by omega)
  · rw [mj_adC_c q1 q2, mj_adv_44 e44 q1 q2]
    by_cases z : i = N + k
    · rw [if_pos z]
      exact Or.inr ⟨by omega, rfl⟩
    · rw [if_neg z]
      exact a6 c i q1 q2
theorem mj_Fa_dr {N k : Nat} (h : mj_Fa N (k + 1) σ τ) : mj_Fa N k σ (mj_drC τ (N + k)) := by
  obtain ⟨a1, a2, a3, a4, a5, a6, a7, a8, a9, a10⟩ := h
  have o : ∀ c, c ≠ 14 → (mj_drC τ (N + k)).1 c = τ.1 c := fun c q => by
    unfold mj_drC
    rw [mj_setI_ne _ _ _ q, mj_setI_ne _ _ _ q]
  refine ⟨fun c q q1 q2 => (o c q1).trans (a1 c q q1 q2), fun i q1 q2 => ?_, ?_, ?_, fun c i q1 q2 q3 q4 => ?_, fun c i q1 q2 => ?_, a7, a8, a9, a10⟩
  · have e : (mj_drC τ (N + k)).1 14 i = τ.1 14 i := by
      unfold mj_drC
      rw [mj_setI_i q2, mj_setI_i q1]
    rw [e]
    exact a2 i q1 q2
  · unfold mj_drC
    rw [mj_setI_i (by decide), mj_setI_eq]
  · have e : (mj_drC τ (N + k)).1 14 15 = τ.1 14 15 - mj_z (mj_wk (τ.1 15 (N + k))) := by
      unfold mj_drC
      rw [mj_setI_eq]
    rw [e, a4, a5 15 (N + k) (by decide) (by decide) (by omega) (by omega), mj_adv_15]
    show σ.1 14 15 + (mj_kz σ k + mj_z (mj_wk (σ.1 44 4))) - _ = _
    grind
  · rw [o c (by omega)]
    exact a5 c i q1 q2 q3 (by omega)
  · rw [o c (by omega)]
    exact a6 c i q1 q2
/-- whether there is room for one more, k having come -/
def mj_rmk (σ : mj_St) (N k : Nat) : Bool := decide (N + k < 9) && (if mj_wk (σ.1 44 4) = true then decide (σ.1 14 15 + mj_kz σ k < 6) else decide (nI (N + k) - (σ.1 14 15 + mj_kz σ k) < 3))
theorem mj_rmk_Fa {N k : Nat} (h : mj_Fa N k σ τ) : mj_rmC τ (τ.1 44 4) (N + k) = mj_rmk σ N k := by
  unfold mj_rmC mj_rmk
  rw [mj_Fa_44 h, h.2.2.2.1]
/-- what is borne with k more -/
def mj_GH (σ : mj_St) (N w : Nat) (B : Nat → Bool) : Prop := ∀ k τ, (∀ j, j < k + 1 → mj_rmk σ N j = true) → mj_Fa N (k + 1) σ τ → mj_pc τ (N + (k + 1)) w ∧ mj_pe τ ∧ ∃ K b, mj_KH τ (N + (k + 1)) w K ∧ mj_BH τ (N + (k + 1)) w b ∧ mj_bav τ (N + (k + 1)) K b = B k
theorem sp_addB {N w k : Nat} {B : Nat → Bool} (hX : mj_XS X) (hG : mj_GH σ N w B) (hr : ∀ j, j < k + 1 → mj_rmk σ N j = true) (F : mj_Fa N k σ τ) : ∃ ρ, mj_Fa N (k + 1) σ ρ ∧ (∀ d, mj_ev X (d + 3) 40 [.ref 14, .ref 44] τ = some (some (.int (nI (N + k))), mj_adC τ (N + k))) ∧ ∀ d, mj_ev X (d + 42) 100 [.ref 0] (mj_adC τ (N + k)) = some (some (.int (mj_z (B k))), ρ) := by
  have h9 : N + k < 9 := by
    have := hr k (by omega)
    unfold mj_rmk at this
    simp only [Bool.and_eq_true, decide_eq_true_eq] at this
    exact this.1
  have F2 := mj_Fa_ad F
  obtain ⟨hc, he, K, b, hK, hB, eb⟩ := hG k _ hr F2
  obtain ⟨ρ, G, -, h⟩ := sp_bearsC hX hc he hK hB
  rw [eb] at h
  exact ⟨ρ, mj_Fa_Fs F2 G, fun d => sp_add F.2.2.1 h9, h⟩
theorem sp_give_no {s : Int32} (hrr : ¬ mj_rr σ s = 0) : mj_ev X (d + 4) 121 [.ref 0, .int s] σ = some (some (.int (mj_rr σ s)), mj_rfC σ (mj_rr σ s)) := by
  have h := sp_readingRefusal_no (X := X) (d := d) hrr
  have hr : mj_ev X (d + 3) 3 [.ref 0, .int (mj_rr σ s)] σ = some (some (.int (mj_rr σ s)), mj_rfC σ (mj_rr σ s)) := sp_rfr (d := d + 2) hrr
  have e : (mj_rfC σ (mj_rr σ s)).2.2.2.2 = σ.2.2.2.2 := rfl
  refine st121 ?_
  simp only [u121_0, u121_1, u121_2, u121_5, u121_6, u121_7, u121_10, u121_11, u121_14, u121_15, u121_18, u121_21, u121_24, u121_27, u121_29, u121_30, u121_31, u121_34, u121_35, u121_36, u121_39, u121_40, u121_41, u121_44, u121_45, u121_48, u121_51, u121_52, u121_53, u121_56, u121_57, u121_58, u121_61, u121_64, u121_65, u121_68, u121_69, u121_72, u121_73, h, hrr, hr, e, mj_cc_v, mj_cc_n, List.all_cons, List.all_nil, mj_noMk_int, mj_noMk_long, mj_noMk_ref, mj_noMk_junk, List.length_nil, List.length_cons, Nat.zero_le, Nat.reduceLeDiff, Nat.reduceAdd, Bool.and_true, Bool.true_and, Bool.and_self, Nat.reduceBNe, true_or, or_true, true_and, and_true, mj_z0, mj_z1, mj_z01, decide_true, decide_false, Bool.true_and, Bool.false_and, Bool.and_true, Bool.and_false, Bool.true_or, Bool.false_or, Bool.or_false, Bool.or_true, Bool.not_true, Bool.not_false, Bool.and_self, Bool.or_self, if_true, if_false, Bool.true_eq_false, Bool.false_eq_true, not_true, not_false_eq_true]
theorem sp_many_no {s : Int32} (hrr : ¬ mj_rr σ s = 0) : mj_ev X (d + 4) 123 [.ref 0, .int s] σ = some (some (.int (mj_rr σ s)), mj_rfC σ (mj_rr σ s)) := by
  have h := sp_readingRefusal_no (X := X) (d := d) hrr
  have hr : mj_ev X (d + 3) 3 [.ref 0, .int (mj_rr σ s)] σ = some (some (.int (mj_rr σ s)), mj_rfC σ (mj_rr σ s)) := sp_rfr (d := d + 2) hrr
  have e : (mj_rfC σ (mj_rr σ s)).2.2.2.2 = σ.2.2.2.2 := rfl
  refine st123 ?_
  simp only [u123_0, u123_1, u123_2, u123_5, u123_6, u123_7, u123_10, u123_11, u123_12, u123_15, u123_16, u123_17, u123_18, u123_19, u123_23, u123_24, u123_27, u123_29, u123_31, u123_34, u123_35, u123_38, u123_39, u123_42, u123_45, u123_48, u123_51, u123_52, u123_55, u123_56, u123_59, u123_62, u123_63, u123_66, u123_67, u123_70, u123_73, u123_76, u123_79, u123_80, u123_84, u123_86, u123_89, u123_90, u123_93, u123_96, u123_99, u123_102, u123_103, h, hrr, hr, e, mj_cc_v, mj_cc_n, List.all_cons, List.all_nil, mj_noMk_int, mj_noMk_long, mj_noMk_ref, mj_noMk_junk, List.length_nil, List.length_cons, Nat.zero_le, Nat.reduceLeDiff, Nat.reduceAdd, Bool.and_true, Bool.true_and, Bool.and_self, Nat.reduceBNe, true_or, or_true, true_and, and_true, mj_z0, mj_z1, mj_z01, decide_true, decide_false, Bool.true_and, Bool.false_and, Bool.and_true, Bool.and_false, Bool.true_or, Bool.false_or, Bool.or_false, Bool.or_true, Bool.not_true, Bool.not_false, Bool.and_self, Bool.or_self, if_true, if_false, Bool.true_eq_false, Bool.false_eq_true, not_true, not_false_eq_true]
/-- give, once the text is read -/
theorem sp_giveC {s : Int32} {y : Int32} {N w : Nat} {B : Nat → Bool} (hX : mj_XS X) (hy : y = 0 ∨ y = -6) (hN : σ.1 14 14 = nI N) (h9 : N ≤ 9) (hG : y = 0 → mj_GH σ N w B) (hrd : ∀ d, mj_ev X (d + 7) 20 [.ref 0, .int s] ρ = some (some (.int y), σ)) :
    ∃ τ, mj_Fa N 0 σ τ ∧ ∀ d, mj_ev X (d + 43) 121 [.ref 0, .int s] ρ = some (if y = 0 then (if mj_rmk σ N 0 = true then (some (.int (mj_z (B 0))), τ) else (some (.int (-7)), mj_rfC σ (-7))) else (some (.int (-6)), mj_rfC σ (-6))) := by
  have F0 := mj_Fa_0 hN
  have n6 : ¬ (-6 : Int32) = 0 := by decide
  have n7 : ¬ (-7 : Int32) = 0 := by decide
  rcases hy with y0 | y0
  · subst y0
    simp only [if_true]
    have ek := mj_rmk_Fa F0
    cases g : mj_rmk σ N 0
    · rw [g] at ek
      refine ⟨σ, F0, fun d => ?_⟩
      have hrdd : mj_ev X (d + 42) 20 [.ref 0, .int s] ρ = _ := hrd (d + 35)
      have hrm : mj_ev X (d + 42) 39 [.ref 14, .int (σ.1 44 4)] σ = some (some (.int (mj_z (mj_rmC σ (σ.1 44 4) (N + 0)))), σ) := sp_hasRoomFor (d := d + 40) hN h9
      rw [ek] at hrm
      have h7 : mj_ev X (d + 42) 3 [.ref 0, .int (-7)] σ = _ := sp_rf7 (d := d + 41)
      have e : (mj_rfC σ (-7)).2.2.2.2 = σ.2.2.2.2 := rfl
      refine st121 ?_
      simp only [u121_0, u121_1, u121_2, u121_5, u121_6, u121_7, u121_10, u121_11, u121_14, u121_15, u121_18, u121_21, u121_24, u121_27, u121_29, u121_30, u121_31, u121_34, u121_35, u121_36, u121_39, u121_40, u121_41, u121_44, u121_45, u121_48, u121_51, u121_52, u121_53, u121_56, u121_57, u121_58, u121_61, u121_64, u121_65, u121_68, u121_69, u121_72, u121_73, hrdd, hrm, h7, e, n7, mj_zF, mj_cc_v, mj_cc_n, List.all_cons, List.all_nil, mj_noMk_int, mj_noMk_long, mj_noMk_ref, mj_noMk_junk, List.length_nil, List.length_cons, Nat.zero_le, Nat.reduceLeDiff, Nat.reduceAdd, Bool.and_true, Bool.true_and, Bool.and_self, Nat.reduceBNe, true_or, or_true, true_and, and_true, mj_z0, mj_z1, mj_z01, decide_true, decide_false, Bool.true_and, Bool.false_and, Bool.and_true, Bool.and_false, Bool.true_or, Bool.false_or, Bool.or_false, Bool.or_true, Bool.not_true, Bool.not_false, Bool.and_self, Bool.or_self, if_true, if_false, Bool.true_eq_false, Bool.false_eq_true, not_true, not_false_eq_true]
    · rw [g] at ek
      obtain ⟨τ, F1, ha, hb⟩ := sp_addB (k := 0) (B := B) hX (hG rfl) (fun j hj => by rw [show j = 0 by omega]; exact g) F0
      have F2 := mj_Fa_dr F1
      refine ⟨_, F2, fun d => ?_⟩
      have hN9 : N < 9 := by
        unfold mj_rmk at g
        simp only [Bool.and_eq_true, decide_eq_true_eq] at g
        exact g.1
      have hrdd : mj_ev X (d + 42) 20 [.ref 0, .int s] ρ = _ := hrd (d + 35)
      have hrm : mj_ev X (d + 42) 39 [.ref 14, .int (σ.1 44 4)] σ = some (some (.int (mj_z (mj_rmC σ (σ.1 44 4) (N + 0)))), σ) := sp_hasRoomFor (d := d + 40) hN h9
      rw [ek] at hrm
      have had := ha (d + 39)
      have hbd := hb d
      have hdr : mj_ev X (d + 42) 122 [.ref 14] τ = some (none, mj_drC τ (N + 0)) := sp_dropLast (d := d + 40) F1.2.2.1 hN9
      have ej : (mj_adC σ (N + 0)).2.2.2.2 = σ.2.2.2.2 := rfl
      refine st121 ?_
      cases b0 : B 0
      · rw [b0] at hbd
        simp only [u121_0, u121_1, u121_2, u121_5, u121_6, u121_7, u121_10, u121_11, u121_14, u121_15, u121_18, u121_21, u121_24, u121_27, u121_29, u121_30, u121_31, u121_34, u121_35, u121_36, u121_39, u121_40, u121_41, u121_44, u121_45, u121_48, u121_51, u121_52, u121_53, u121_56, u121_57, u121_58, u121_61, u121_64, u121_65, u121_68, u121_69, u121_72, u121_73, hrdd, hrm, had, hbd, hdr, mj_zF, mj_zT, mj_n10, mj_cc_v, mj_cc_n, List.all_cons, List.all_nil, mj_noMk_int, mj_noMk_long, mj_noMk_ref, mj_noMk_junk, List.length_nil, List.length_cons, Nat.zero_le, Nat.reduceLeDiff, Nat.reduceAdd, Bool.and_true, Bool.true_and, Bool.and_self, Nat.reduceBNe, true_or, or_true, true_and, and_true, mj_z0, mj_z1, mj_z01, decide_true, decide_false, Bool.true_and, Bool.false_and, Bool.and_true, Bool.and_false, Bool.true_or, Bool.false_or, Bool.or_false, Bool.or_true, Bool.not_true, Bool.not_false, Bool.and_self, Bool.or_self, if_true, if_false, Bool.true_eq_false, Bool.false_eq_true, not_true, not_false_eq_true]
      · rw [b0] at hbd
        simp only [u121_0, u121_1, u121_2, u121_5, u121_6, u121_7, u121_10, u121_11, u121_14, u121_15, u121_18, u121_21, u121_24, u121_27, u121_29, u121_30, u121_31, u121_34, u121_35, u121_36, u121_39, u121_40, u121_41, u121_44, u121_45, u121_48, u121_51, u121_52, u121_53, u121_56, u121_57, u121_58, u121_61, u121_64, u121_65, u121_68, u121_69, u121_72, u121_73, hrdd, hrm, had, hbd, hdr, mj_zT, mj_n10, mj_cc_v, mj_cc_n, List.all_cons, List.all_nil, mj_noMk_int, mj_noMk_long, mj_noMk_ref, mj_noMk_junk, List.length_nil, List.length_cons, Nat.zero_le, Nat.reduceLeDiff, Nat.reduceAdd, Bool.and_true, Bool.true_and, Bool.and_self, Nat.reduceBNe, true_or, or_true, true_and, and_true, mj_z0, mj_z1, mj_z01, decide_true, decide_false, Bool.true_and, Bool.false_and, Bool.and_true, Bool.and_false, Bool.true_or, Bool.false_or, Bool.or_false, Bool.or_true, Bool.not_true, Bool.not_false, Bool.and_self, Bool.or_self, if_true, if_false, Bool.true_eq_false, Bool.false_eq_true, not_true, not_false_eq_true]
  · subst y0
    simp only [n6, if_false]
    refine ⟨σ, F0, fun d => ?_⟩
    have hrdd : mj_ev X (d + 42) 20 [.ref 0, .int s] ρ = _ := hrd (d + 35)
    have h6 : mj_ev X (d + 42) 3 [.ref 0, .int (-6)] σ = _ := sp_rf6 (d := d + 41)
    have e : (mj_rfC σ (-6)).2.2.2.2 = σ.2.2.2.2 := rfl
    refine st121 ?_
    simp only [u121_0, u121_1, u121_2, u121_5, u121_6, u121_7, u121_10, u121_11, u121_14, u121_15, u121_18, u121_21, u121_24, u121_27, u121_29, u121_30, u121_31, u121_34, u121_35, u121_36, u121_39, u121_40, u121_41, u121_44, u121_45, u121_48, u121_51, u121_52, u121_53, u121_56, u121_57, u121_58, u121_61, u121_64, u121_65, u121_68, u121_69, u121_72, u121_73, hrdd, h6, e, n6, mj_cc_v, mj_cc_n, List.all_cons, List.all_nil, mj_noMk_int, mj_noMk_long, mj_noMk_ref, mj_noMk_junk, List.length_nil, List.length_cons, Nat.zero_le, Nat.reduceLeDiff, Nat.reduceAdd, Bool.and_true, Bool.true_and, Bool.and_self, Nat.reduceBNe, true_or, or_true, true_and, and_true, mj_z0, mj_z1, mj_z01, decide_true, decide_false, Bool.true_and, Bool.false_and, Bool.and_true, Bool.and_false, Bool.true_or, Bool.false_or, Bool.or_false, Bool.or_true, Bool.not_true, Bool.not_false, Bool.and_self, Bool.or_self, if_true, if_false, Bool.true_eq_false, Bool.false_eq_true, not_true, not_false_eq_true]
/-- how many more are borne -/
def mj_myv (R B : Nat → Bool) : Nat → Nat → Nat
  | 0, k => k
  | j + 1, k => if R k = true then (if B k = true then mj_myv R B j (k + 1) else k) else k
theorem sp_manyC {s : Int32} {y : Int32} {N w : Nat} {B : Nat → Bool} (hX : mj_XS X) (hy : y = 0 ∨ y = -6) (hN : σ.1 14 14 = nI N) (h9 : N ≤ 9) (hG : y = 0 → mj_GH σ N w B) (hrd : ∀ d, mj_ev X (d + 7) 20 [.ref 0, .int s] ρ = some (some (.int y), σ)) :
    ∃ τ, mj_Fa N 0 σ τ ∧ ∀ d, mj_ev X (d + 43) 123 [.ref 0, .int s] ρ = some (if y = 0 then (some (.int (nI (mj_myv (mj_rmk σ N) B 9 0))), τ) else (some (.int (-6)), mj_rfC σ (-6))) := by
  have F0 := mj_Fa_0 hN
  have n6 : ¬ (-6 : Int32) = 0 := by decide
  have drops : ∀ (x : Int32) (m j i : Nat) (τ : mj_St), i + j = m → N + m ≤ 9 → mj_Fa N j σ τ → ∃ ρ, mj_Fa N 0 σ ρ ∧ ∀ d, mj_Runs X (mj_ev X (d + 42)) 5 (some .int) prog_1_method_29_code (82, [.ref 0, .int s, .int 0, .int x, .int (nI m), .int (nI i)], [], τ) (some (.int x), ρ) := by
    intro x m j
    induction j with
    | zero =>
      intro i τ hi hm F
      have q : ¬ nI i < nI m := nI_nlt (by omega) (by omega)
      refine ⟨τ, F, fun d => ?_⟩
      refine u123_82.mpr ?_
      simp only [u123_0, u123_1, u123_2, u123_5, u123_6, u123_7, u123_10, u123_11, u123_12, u123_15, u123_16, u123_17, u123_18, u123_19, u123_23, u123_24, u123_27, u123_29, u123_31, u123_34, u123_35, u123_38, u123_39, u123_42, u123_45, u123_48, u123_51, u123_52, u123_55, u123_56, u123_59, u123_62, u123_63, u123_66, u123_67, u123_70, u123_73, u123_76, u123_79, u123_80, u123_84, u123_86, u123_89, u123_90, u123_93, u123_96, u123_99, u123_102, u123_103, q, mj_cc_v, mj_cc_n, List.all_cons, List.all_nil, mj_noMk_int, mj_noMk_long, mj_noMk_ref, mj_noMk_junk, List.length_nil, List.length_cons, Nat.zero_le, Nat.reduceLeDiff, Nat.reduceAdd, Bool.and_true, Bool.true_and, Bool.and_self, Nat.reduceBNe, true_or, or_true, true_and, and_true, mj_z0, mj_z1, mj_z01, decide_true, decide_false, Bool.true_and, Bool.false_and, Bool.and_true, Bool.and_false, Bool.true_or, Bool.false_or, Bool.or_false, Bool.or_true, Bool.not_true, Bool.not_false, Bool.and_self, Bool.or_self, if_true, if_false, Bool.true_eq_false, Bool.false_eq_true, not_true, not_false_eq_true]
    | succ j ih =>
      intro i τ hi hm F
      have q : nI i < nI m := nI_lt (by omega) (by omega)
      obtain ⟨ρ2, F2, h2⟩ := ih (i + 1) _ (by omega) hm (mj_Fa_dr F)
      refine ⟨ρ2, F2, fun d => ?_⟩
      have h2d := h2 d
      have hdr : mj_ev X (d + 42) 122 [.ref 14] τ = some (none, mj_drC τ (N + j)) := sp_dropLast (d := d + 40) F.2.2.1 (by omega)
      refine u123_82.mpr ?_
      simp only [u123_0, u123_1, u123_2, u123_5, u123_6, u123_7, u123_10, u123_11, u123_12, u123_15, u123_16, u123_17, u123_18, u123_19, u123_23, u123_24, u123_27, u123_29, u123_31, u123_34, u123_35, u123_38, u123_39, u123_42, u123_45, u123_48, u123_51, u123_52, u123_55, u123_56, u123_59, u123_62, u123_63, u123_66, u123_67, u123_70, u123_73, u123_76, u123_79, u123_80, u123_84, u123_86, u123_89, u123_90, u123_93, u123_96, u123_99, u123_102, u123_103, q, hdr, nI_1, mj_cc_v, mj_cc_n, List.all_cons, List.all_nil, mj_noMk_int, mj_noMk_long, mj_noMk_ref, mj_noMk_junk, List.length_nil, List.length_cons, Nat.zero_le, Nat.reduceLeDiff, Nat.reduceAdd, Bool.and_true, Bool.true_and, Bool.and_self, Nat.reduceBNe, true_or, or_true, true_and, and_true, mj_z0, mj_z1, mj_z01, decide_true, decide_false, Bool.true_and, Bool.false_and, Bool.and_true, Bool.and_false, Bool.true_or, Bool.false_or, Bool.or_false, Bool.or_true, Bool.not_true, Bool.not_false, Bool.and_self, Bool.or_self, if_true, if_false, Bool.true_eq_false, Bool.false_eq_true, not_true, not_false_eq_true]
      exact h2d
  rcases hy with y0 | y0
  · subst y0
    simp only [if_true]
    have loop : ∀ (j k : Nat) (τ : mj_St), k + j = 9 → (∀ i, i < k → mj_rmk σ N i = true) → mj_Fa N k σ τ → N + k ≤ 9 → ∃ ρ, mj_Fa N 0 σ ρ ∧ ∀ d, mj_Runs X (mj_ev X (d + 42)) 5 (some .int) prog_1_method_29_code (21, [.ref 0, .int s, .int 0, .int (nI k), .int (nI k), mj_junk], [], τ) (some (.int (nI (mj_myv (mj_rmk σ N) B j k))), ρ) := by
      intro j
      induction j with
      | zero =>
        intro k τ hk hr F hNk
        have q : ¬ nI k < 9 := nI_nlt (b := 9) (by omega) (by omega)
        obtain ⟨ρ, G, h⟩ := drops (nI k) k k 0 τ (by omega) hNk F
        refine ⟨ρ, G, fun d => ?_⟩
        have hd := h d
        simp only [mj_myv]
        refine u123_21.mpr ?_
        simp only [u123_0, u123_1, u123_2, u123_5, u123_6, u123_7, u123_10, u123_11, u123_12, u123_15, u123_16, u123_17, u123_18, u123_19, u123_23, u123_24, u123_27, u123_29, u123_31, u123_34, u123_35, u123_38, u123_39, u123_42, u123_45, u123_48, u123_51, u123_52, u123_55, u123_56, u123_59, u123_62, u123_63, u123_66, u123_67, u123_70, u123_73, u123_76, u123_79, u123_80, u123_84, u123_86, u123_89, u123_90, u123_93, u123_96, u123_99, u123_102, u123_103, q, mj_cc_v, mj_cc_n, List.all_cons, List.all_nil, mj_noMk_int, mj_noMk_long, mj_noMk_ref, mj_noMk_junk, List.length_nil, List.length_cons, Nat.zero_le, Nat.reduceLeDiff, Nat.reduceAdd, Bool.and_true, Bool.true_and, Bool.and_self, Nat.reduceBNe, true_or, or_true, true_and, and_true, mj_z0, mj_z1, mj_z01, decide_true, decide_false, Bool.true_and, Bool.false_and, Bool.and_true, Bool.and_false, Bool.true_or, Bool.false_or, Bool.or_false, Bool.or_true, Bool.not_true, Bool.not_false, Bool.and_self, Bool.or_self, if_true, if_false, Bool.true_eq_false, Bool.false_eq_true, not_true, not_false_eq_true]
        exact hd
      | succ j ih =>
        intro k τ hk hr F hNk
        have q : nI k < 9 := nI_lt (b := 9) (by omega) (by decide)
        have ek := mj_rmk_Fa F
        simp only [mj_myv]
        cases g : mj_rmk σ N k
        · rw [g] at ek
          obtain ⟨ρ, G, h⟩ := drops (nI k) k k 0 τ (by omega) hNk F
          refine ⟨ρ, G, fun d => ?_⟩
          have hd := h d
          have hrm : mj_ev X (d + 42) 39 [.ref 14, .int (τ.1 44 4)] τ = some (some (.int (mj_z (mj_rmC τ (τ.1 44 4) (N + k)))), τ) := sp_hasRoomFor (d := d + 40) F.2.2.1 hNk
          rw [ek] at hrm
          rw [if_neg (by decide)]
          refine u123_21.mpr ?_
          simp only [u123_0, u123_1, u123_2, u123_5, u123_6, u123_7, u123_10, u123_11, u123_12, u123_15, u123_16, u123_17, u123_18, u123_19, u123_23, u123_24, u123_27, u123_29, u123_31, u123_34, u123_35, u123_38, u123_39, u123_42, u123_45, u123_48, u123_51, u123_52, u123_55, u123_56, u123_59, u123_62, u123_63, u123_66, u123_67, u123_70, u123_73, u123_76, u123_79, u123_80, u123_84, u123_86, u123_89, u123_90, u123_93, u123_96, u123_99, u123_102, u123_103, q, hrm, mj_zF, mj_cc_v, mj_cc_n, List.all_cons, List.all_nil, mj_noMk_int, mj_noMk_long, mj_noMk_ref, mj_noMk_junk, List.length_nil, List.length_cons, Nat.zero_le, Nat.reduceLeDiff, Nat.reduceAdd, Bool.and_true, Bool.true_and, Bool.and_self, Nat.reduceBNe, true_or, or_true, true_and, and_true, mj_z0, mj_z1, mj_z01, decide_true, decide_false, Bool.true_and, Bool.false_and, Bool.and_true, Bool.and_false, Bool.true_or, Bool.false_or, Bool.or_false, Bool.or_true, Bool.not_true, Bool.not_false, Bool.and_self, Bool.or_self, if_true, if_false, Bool.true_eq_false, Bool.false_eq_true, not_true, not_false_eq_true]
          exact hd
        · rw [g] at ek
          have hr2 : ∀ i, i < k + 1 → mj_rmk σ N i = true := fun i hi => by
            by_cases z : i = k
            · rw [z]; exact g
            · exact hr i (by omega)
          have h9k : N + k < 9 := by
            have := g
            unfold mj_rmk at this
            simp only [Bool.and_eq_true, decide_eq_true_eq] at this
            exact this.1
          obtain ⟨ρ, F1, ha, hb⟩ := sp_addB (k := k) (B := B) hX (hG rfl) hr2 F
          rw [if_pos rfl]
          cases b0 : B k
          · rw [b0] at hb
            obtain ⟨ρ2, G, h⟩ := drops (nI k) (k + 1) (k + 1) 0 ρ (by omega) (by omega) F1
            refine ⟨ρ2, G, fun d => ?_⟩
            have hd := h d
            have had := ha (d + 39)
            have hbd := hb d
            have hrm : mj_ev X (d + 42) 39 [.ref 14, .int (τ.1 44 4)] τ = some (some (.int (mj_z (mj_rmC τ (τ.1 44 4) (N + k)))), τ) := sp_hasRoomFor (d := d + 40) F.2.2.1 hNk
            rw [ek] at hrm
            rw [if_neg (by decide)]
            have nk : ¬ nI (k + 1) = nI k := fun z => by
              have := mj_nI_inj (by omega) (by omega) z
              omega
            refine u123_21.mpr ?_
            simp only [u123_0, u123_1, u123_2, u123_5, u123_6, u123_7, u123_10, u123_11, u123_12, u123_15, u123_16, u123_17, u123_18, u123_19, u123_23, u123_24, u123_27, u123_29, u123_31, u123_34, u123_35, u123_38, u123_39, u123_42, u123_45, u123_48, u123_51, u123_52, u123_55, u123_56, u123_59, u123_62, u123_63, u123_66, u123_67, u123_70, u123_73, u123_76, u123_79, u123_80, u123_84, u123_86, u123_89, u123_90, u123_93, u123_96, u123_99, u123_102, u123_103, q, hrm, had, hbd, mj_zT, mj_zF, mj_n10, nI_1, mj_cc_v, mj_cc_n, List.all_cons, List.all_nil, mj_noMk_int, mj_noMk_long, mj_noMk_ref, mj_noMk_junk, List.length_nil, List.length_cons, Nat.zero_le, Nat.reduceLeDiff, Nat.reduceAdd, Bool.and_true, Bool.true_and, Bool.and_self, Nat.reduceBNe, true_or, or_true, true_and, and_true, mj_z0, mj_z1, mj_z01, decide_true, decide_false, Bool.true_and, Bool.false_and, Bool.and_true, Bool.and_false, Bool.true_or, Bool.false_or, Bool.or_false, Bool.or_true, Bool.not_true, Bool.not_false, Bool.and_self, Bool.or_self, if_true, if_false, Bool.true_eq_false, Bool.false_eq_true, not_true, not_false_eq_true]
            refine u123_21.mpr ?_
            simp only [u123_0, u123_1, u123_2, u123_5, u123_6, u123_7, u123_10, u123_11, u123_12, u123_15, u123_16, u123_17, u123_18, u123_19, u123_23, u123_24, u123_27, u123_29, u123_31, u123_34, u123_35, u123_38, u123_39, u123_42, u123_45, u123_48, u123_51, u123_52, u123_55, u123_56, u123_59, u123_62, u123_63, u123_66, u123_67, u123_70, u123_73, u123_76, u123_79, u123_80, u123_84, u123_86, u123_89, u123_90, u123_93, u123_96, u123_99, u123_102, u123_103, nk, mj_cc_v, mj_cc_n, List.all_cons, List.all_nil, mj_noMk_int, mj_noMk_long, mj_noMk_ref, mj_noMk_junk, List.length_nil, List.length_cons, Nat.zero_le, Nat.reduceLeDiff, Nat.reduceAdd, Bool.and_true, Bool.true_and, Bool.and_self, Nat.reduceBNe, true_or, or_true, true_and, and_true, mj_z0, mj_z1, mj_z01, decide_true, decide_false, Bool.true_and, Bool.false_and, Bool.and_true, Bool.and_false, Bool.true_or, Bool.false_or, Bool.or_false, Bool.or_true, Bool.not_true, Bool.not_false, Bool.and_self, Bool.or_self, if_true, if_false, Bool.true_eq_false, Bool.false_eq_true, not_true, not_false_eq_true]
            exact hd
          · rw [b0] at hb
            obtain ⟨ρ2, G, h⟩ := ih (k + 1) ρ (by omega) hr2 F1 (by omega)
            refine ⟨ρ2, G, fun d => ?_⟩
            have hd := h d
            have had := ha (d + 39)
            have hbd := hb d
            have hrm : mj_ev X (d + 42) 39 [.ref 14, .int (τ.1 44 4)] τ = some (some (.int (mj_z (mj_rmC τ (τ.1 44 4) (N + k)))), τ) := sp_hasRoomFor (d := d + 40) F.2.2.1 hNk
            rw [ek] at hrm
            rw [if_pos rfl]
            refine u123_21.mpr ?_
            simp only [u123_0, u123_1, u123_2, u123_5, u123_6, u123_7, u123_10, u123_11, u123_12, u123_15, u123_16, u123_17, u123_18, u123_19, u123_23, u123_24, u123_27, u123_29, u123_31, u123_34, u123_35, u123_38, u123_39, u123_42, u123_45, u123_48, u123_51, u123_52, u123_55, u123_56, u123_59, u123_62, u123_63, u123_66, u123_67, u123_70, u123_73, u123_76, u123_79, u123_80, u123_84, u123_86, u123_89, u123_90, u123_93, u123_96, u123_99, u123_102, u123_103, q, hrm, had, hbd, mj_zT, mj_n10, nI_1, mj_cc_v, mj_cc_n, List.all_cons, List.all_nil, mj_noMk_int, mj_noMk_long, mj_noMk_ref, mj_noMk_junk, List.length_nil, List.length_cons, Nat.zero_le, Nat.reduceLeDiff, Nat.reduceAdd, Bool.and_true, Bool.true_and, Bool.and_self, Nat.reduceBNe, true_or, or_true, true_and, and_true, mj_z0, mj_z1, mj_z01, decide_true, decide_false, Bool.true_and, Bool.false_and, Bool.and_true, Bool.and_false, Bool.true_or, Bool.false_or, Bool.or_false, Bool.or_true, Bool.not_true, Bool.not_false, Bool.and_self, Bool.or_self, if_true, if_false, Bool.true_eq_false, Bool.false_eq_true, not_true, not_false_eq_true]
            exact hd
    obtain ⟨τ, G, h⟩ := loop 9 0 σ (by omega) (fun i hi => absurd hi (by omega)) F0 h9
    refine ⟨τ, G, fun d => ?_⟩
    have hrdd : mj_ev X (d + 42) 20 [.ref 0, .int s] ρ = _ := hrd (d + 35)
    have hd := h d
    refine st123 ?_
    simp only [u123_0, u123_1, u123_2, u123_5, u123_6, u123_7, u123_10, u123_11, u123_12, u123_15, u123_16, u123_17, u123_18, u123_19, u123_23, u123_24, u123_27, u123_29, u123_31, u123_34, u123_35, u123_38, u123_39, u123_42, u123_45, u123_48, u123_51, u123_52, u123_55, u123_56, u123_59, u123_62, u123_63, u123_66, u123_67, u123_70, u123_73, u123_76, u123_79, u123_80, u123_84, u123_86, u123_89, u123_90, u123_93, u123_96, u123_99, u123_102, u123_103, hrdd, mj_cc_v, mj_cc_n, List.all_cons, List.all_nil, mj_noMk_int, mj_noMk_long, mj_noMk_ref, mj_noMk_junk, List.length_nil, List.length_cons, Nat.zero_le, Nat.reduceLeDiff, Nat.reduceAdd, Bool.and_true, Bool.true_and, Bool.and_self, Nat.reduceBNe, true_or, or_true, true_and, and_true, mj_z0, mj_z1, mj_z01, decide_true, decide_false, Bool.true_and, Bool.false_and, Bool.and_true, Bool.and_false, Bool.true_or, Bool.false_or, Bool.or_false, Bool.or_true, Bool.not_true, Bool.not_false, Bool.and_self, Bool.or_self, if_true, if_false, Bool.true_eq_false, Bool.false_eq_true, not_true, not_false_eq_true]
    exact hd
  · subst y0
    simp only [n6, if_false]
    refine ⟨σ, F0, fun d => ?_⟩
    have hrdd : mj_ev X (d + 42) 20 [.ref 0, .int s] ρ = _ := hrd (d + 35)
    have h6 : mj_ev X (d + 42) 3 [.ref 0, .int (-6)] σ = _ := sp_rf6 (d := d + 41)
    have e : (mj_rfC σ (-6)).2.2.2.2 = σ.2.2.2.2 := rfl
    refine st123 ?_
    simp only [u123_0, u123_1, u123_2, u123_5, u123_6, u123_7, u123_10, u123_11, u123_12, u123_15, u123_16, u123_17, u123_18, u123_19, u123_23, u123_24, u123_27, u123_29, u123_31, u123_34, u123_35, u123_38, u123_39, u123_42, u123_45, u123_48, u123_51, u123_52, u123_55, u123_56, u123_59, u123_62, u123_63, u123_66, u123_67, u123_70, u123_73, u123_76, u123_79, u123_80, u123_84, u123_86, u123_89, u123_90, u123_93, u123_96, u123_99, u123_102, u123_103, hrdd, h6, e, n6, mj_cc_v, mj_cc_n, List.all_cons, List.all_nil, mj_noMk_int, mj_noMk_long, mj_noMk_ref, mj_noMk_junk, List.length_nil, List.length_cons, Nat.zero_le, Nat.reduceLeDiff, Nat.reduceAdd, Bool.and_true, Bool.true_and, Bool.and_self, Nat.reduceBNe, true_or, or_true, true_and, and_true, mj_z0, mj_z1, mj_z01, decide_true, decide_false, Bool.true_and, Bool.false_and, Bool.and_true, Bool.and_false, Bool.true_or, Bool.false_or, Bool.or_false, Bool.or_true, Bool.not_true, Bool.not_false, Bool.and_self, Bool.or_self, if_true, if_false, Bool.true_eq_false, Bool.false_eq_true, not_true, not_false_eq_true]
theorem sp_ringC {N w : Nat} (hc : mj_pc σ N w) : mj_ev X (d + 4) 124 [.ref 0] σ = some (some (.int (mj_ring σ N)), σ) := by
  have h : mj_ev X (d + 3) 63 [.ref 14] σ = _ := sp_ringOnes hc.1 hc.2.1
  refine st124 ?_
  simp only [u124_0, u124_1, u124_4, u124_7, h, mj_cc_v, mj_cc_n, List.all_cons, List.all_nil, mj_noMk_int, mj_noMk_long, mj_noMk_ref, mj_noMk_junk, List.length_nil, List.length_cons, Nat.zero_le, Nat.reduceLeDiff, Nat.reduceAdd, Bool.and_true, Bool.true_and, Bool.and_self, Nat.reduceBNe, true_or, or_true, true_and, and_true, mj_z0, mj_z1, mj_z01, decide_true, decide_false, Bool.true_and, Bool.false_and, Bool.and_true, Bool.and_false, Bool.true_or, Bool.false_or, Bool.or_false, Bool.or_true, Bool.not_true, Bool.not_false, Bool.and_self, Bool.or_self, if_true, if_false, Bool.true_eq_false, Bool.false_eq_true, not_true, not_false_eq_true]
end
