section
variable {X : mj_X} {d : Nat} {σ τ : mj_St}
theorem mj_cq_dec {f g : Nat → Bool} {p : Nat} (h : ∀ i, i ≠ p → g i = f i) (fp : f p = true) (gp : g p = false) : ∀ n, p < n → mj_cq g n + 1 = mj_cq f n := by
  intro n
  induction n with
  | zero => intro q; omega
  | succ n ih =>
    intro hp
    rw [mj_cq_s, mj_cq_s]
    by_cases e : n = p
    · subst e
      rw [mj_cq_eq n (fun i hi => h i (by omega)), fp, gp]
      simp
    · have q := ih (by omega)
      rw [h n e]
      split <;> omega
/-- the works that one waits for, itself too -/
def mj_dm (af : Nat → Int32) : Nat → Int32 → Int32 → Int32
  | 0, _, s => s
  | j + 1, w, s => if w = -1 then s else if mj_b s w.toNatClampNeg = true then s else mj_dm af j (af w.toNatClampNeg) (s ||| 1 <<< (w &&& 31))
theorem sp_M_doomed {N R wN t : Nat} {i o : Int32} (hM : mj_Mst σ N R wN t) (hR : R + 1 < 2147483648) : ∃ ρ, mj_Fq σ ρ ∧ mj_Scr ρ (R + 1) ∧ ∀ d, mj_ev X (d + 29) 230 [.ref 61, .int i, .int o] σ = some (if (mj_lt0 i (σ.1 61 0) && decide (σ.1 65 i.toNatClampNeg < 5)) = true then (if mj_inb o 8 = true then (some (.int (mj_z (!(mj_Mkept σ o (mj_dm (σ.1 69) 10 i 0) N wN)))), ρ) else (some (.int (-6)), mj_rfM σ (-6))) else (some (.int (-1)), mj_rfM σ (-1))) := by
  obtain ⟨hW, hS, hw, hw12, -, -⟩ := hM
  have hN := hW.1
  have h9 := hW.2.1
  have haf := hW.2.2.2.2.2.1
  have h9' : (σ.1 61 0).toInt ≤ 9 := by rw [hN, nI_toInt (by omega)]; omega
  obtain ⟨ρ, F, S, hk⟩ := sp_M_isKept (X := X) (o := o) (mt := mj_dm (σ.1 69) 10 i 0) hW hS hR hw hw12
  refine ⟨ρ, F, S, fun d => ?_⟩
  have ho := sp_M_isOutcome (X := X) (d := d + 27) (x := o) (σ := σ)
  have h6 := sp_no6 (X := X) (d := d + 27) (σ := σ)
  have h1 := sp_no1 (X := X) (d := d + 27) (σ := σ)
  have hwk := sp_M_isWork (X := X) (d := d + 27) (x := i) h9'
  have hkd := hk d
  have loop : ∀ (j : Nat) (w s : Int32), mj_cq (fun k => !(mj_b s k)) 9 ≤ j → (w = -1 ∨ mj_inb w 9 = true) → mj_dm (σ.1 69) (j + 1) w s = mj_dm (σ.1 69) 10 i 0 → mj_Runs X (mj_ev X (d + 28)) 6 (some .int) prog_8_method_76_code (34, [.ref 61, .int i, .int o, .int s, .int w], [], σ) (some (.int (mj_z (!(mj_Mkept σ o (mj_dm (σ.1 69) 10 i 0) N wN)))), ρ) := by
    intro j
    have fin : ∀ (w s : Int32), s = mj_dm (σ.1 69) 10 i 0 → mj_Runs X (mj_ev X (d + 28)) 6 (some .int) prog_8_method_76_code (69, [.ref 61, .int i, .int o, .int s, .int w], [], σ) (some (.int (mj_z (!(mj_Mkept σ o (mj_dm (σ.1 69) 10 i 0) N wN)))), ρ) := by
      intro w s e
      subst e
      refine u230_69.mpr ?_
      cases c : mj_Mkept σ o (mj_dm (σ.1 69) 10 i 0) N wN
      · rw [c] at hkd
        simp only [u230_0, u230_1, u230_2, u230_5, u230_8, u230_9, u230_10, u230_13, u230_14, u230_15, u230_16, u230_19, u230_22, u230_23, u230_25, u230_28, u230_29, u230_30, u230_31, u230_32, u230_36, u230_37, u230_40, u230_41, u230_42, u230_44, u230_47, u230_50, u230_51, u230_52, u230_54, u230_55, u230_56, u230_57, u230_58, u230_61, u230_63, u230_64, u230_66, u230_70, u230_71, u230_72, u230_75, u230_78, u230_79, u230_82, u230_83, hkd, mj_cc_v, mj_cc_n, List.all_cons, List.all_nil, mj_noMk_int, mj_noMk_long, mj_noMk_ref, mj_noMk_junk, List.length_nil, List.length_cons, Nat.zero_le, Nat.reduceLeDiff, Nat.reduceAdd, Bool.and_true, Bool.true_and, Bool.and_self, Nat.reduceBNe, true_or, or_true, true_and, and_true, mj_z0, mj_z1, mj_z01, decide_true, decide_false, Bool.true_and, Bool.false_and, Bool.and_true, Bool.and_false, Bool.true_or, Bool.false_or, Bool.or_false, Bool.or_true, Bool.not_true, Bool.not_false, Bool.and_self, Bool.or_self, if_true, if_false, Bool.true_eq_false, Bool.false_eq_true, not_true, not_false_eq_true]
        rfl
      · rw [c] at hkd
        simp only [u230_0, u230_1, u230_2, u230_5, u230_8, u230_9, u230_10, u230_13, u230_14, u230_15, u230_16, u230_19, u230_22, u230_23, u230_25, u230_28, u230_29, u230_30, u230_31, u230_32, u230_36, u230_37, u230_40, u230_41, u230_42, u230_44, u230_47, u230_50, u230_51, u230_52, u230_54, u230_55, u230_56, u230_57, u230_58, u230_61, u230_63, u230_64, u230_66, u230_70, u230_71, u230_72, u230_75, u230_78, u230_79, u230_82, u230_83, hkd, mj_cc_v, mj_cc_n, List.all_cons, List.all_nil, mj_noMk_int, mj_noMk_long, mj_noMk_ref, mj_noMk_junk, List.length_nil, List.length_cons, Nat.zero_le, Nat.reduceLeDiff, Nat.reduceAdd, Bool.and_true, Bool.true_and, Bool.and_self, Nat.reduceBNe, true_or, or_true, true_and, and_true, mj_z0, mj_z1, mj_z01, decide_true, decide_false, Bool.true_and, Bool.false_and, Bool.and_true, Bool.and_false, Bool.true_or, Bool.false_or, Bool.or_false, Bool.or_true, Bool.not_true, Bool.not_false, Bool.and_self, Bool.or_self, if_true, if_false, Bool.true_eq_false, Bool.false_eq_true, not_true, not_false_eq_true]
        rfl
    induction j with
    | zero =>
      intro w s hc hw he
      refine u230_34.mpr ?_
      simp only [mj_dm] at he
      by_cases c1 : w = -1
      · simp only [c1, if_true] at he
        simp only [u230_0, u230_1, u230_2, u230_5, u230_8, u230_9, u230_10, u230_13, u230_14, u230_15, u230_16, u230_19, u230_22, u230_23, u230_25, u230_28, u230_29, u230_30, u230_31, u230_32, u230_36, u230_37, u230_40, u230_41, u230_42, u230_44, u230_47, u230_50, u230_51, u230_52, u230_54, u230_55, u230_56, u230_57, u230_58, u230_61, u230_63, u230_64, u230_66, u230_70, u230_71, u230_72, u230_75, u230_78, u230_79, u230_82, u230_83, c1, if_true]
        exact fin _ _ he
      · have hb := hw.resolve_left c1
        have hl := mj_in_lt hb
        have hin := sp_M_isIn (X := X) (d := d + 27) (σ := σ) (m := s) (show w.toNatClampNeg < 32 by omega)
        rw [← mj_in_eq hb (by decide)] at hin
        have hs : mj_b s w.toNatClampNeg = true := by
          cases q : mj_b s w.toNatClampNeg
          · have := mj_cq_dec (f := fun k => !(mj_b s k)) (g := fun k => if k = w.toNatClampNeg then false else !(mj_b s k)) (p := w.toNatClampNeg) (fun i hi => by simp [hi]) (by simp [q]) (by simp) 9 hl
            omega
          · rfl
        rw [hs] at hin
        simp only [c1, hs, if_true, if_false] at he
        simp only [u230_0, u230_1, u230_2, u230_5, u230_8, u230_9, u230_10, u230_13, u230_14, u230_15, u230_16, u230_19, u230_22, u230_23, u230_25, u230_28, u230_29, u230_30, u230_31, u230_32, u230_36, u230_37, u230_40, u230_41, u230_42, u230_44, u230_47, u230_50, u230_51, u230_52, u230_54, u230_55, u230_56, u230_57, u230_58, u230_61, u230_63, u230_64, u230_66, u230_70, u230_71, u230_72, u230_75, u230_78, u230_79, u230_82, u230_83, c1, hin, mj_cc_v, mj_cc_n, List.all_cons, List.all_nil, mj_noMk_int, mj_noMk_long, mj_noMk_ref, mj_noMk_junk, List.length_nil, List.length_cons, Nat.zero_le, Nat.reduceLeDiff, Nat.reduceAdd, Bool.and_true, Bool.true_and, Bool.and_self, Nat.reduceBNe, true_or, or_true, true_and, and_true, mj_z0, mj_z1, mj_z01, decide_true, decide_false, Bool.true_and, Bool.false_and, Bool.and_true, Bool.and_false, Bool.true_or, Bool.false_or, Bool.or_false, Bool.or_true, Bool.not_true, Bool.not_false, Bool.and_self, Bool.or_self, if_true, if_false, Bool.true_eq_false, Bool.false_eq_true, not_true, not_false_eq_true]
        exact fin _ _ he
    | succ j ih =>
      intro w s hc hw he
      refine u230_34.mpr ?_
      rw [show mj_dm (σ.1 69) (j + 1 + 1) w s = if w = -1 then s else if mj_b s w.toNatClampNeg = true then s else mj_dm (σ.1 69) (j + 1) (σ.1 69 w.toNatClampNeg) (s ||| 1 <<< (w &&& 31)) from rfl] at he
      by_cases c1 : w = -1
      · simp only [c1, if_true] at he
        simp only [u230_0, u230_1, u230_2, u230_5, u230_8, u230_9, u230_10, u230_13, u230_14, u230_15, u230_16, u230_19, u230_22, u230_23, u230_25, u230_28, u230_29, u230_30, u230_31, u230_32, u230_36, u230_37, u230_40, u230_41, u230_42, u230_44, u230_47, u230_50, u230_51, u230_52, u230_54, u230_55, u230_56, u230_57, u230_58, u230_61, u230_63, u230_64, u230_66, u230_70, u230_71, u230_72, u230_75, u230_78, u230_79, u230_82, u230_83, c1, if_true]
        exact fin _ _ he
      · have hb := hw.resolve_left c1
        have hl := mj_in_lt hb
        have hin := sp_M_isIn (X := X) (d := d + 27) (σ := σ) (m := s) (show w.toNatClampNeg < 32 by omega)
        have ew := mj_in_eq hb (by decide)
        rw [← ew] at hin
        rcases (Bool.eq_false_or_eq_true (mj_b s w.toNatClampNeg)).symm with q | q
        · rw [q] at hin
          simp only [c1, q, Bool.false_eq_true, if_false] at he
          simp only [u230_0, u230_1, u230_2, u230_5, u230_8, u230_9, u230_10, u230_13, u230_14, u230_15, u230_16, u230_19, u230_22, u230_23, u230_25, u230_28, u230_29, u230_30, u230_31, u230_32, u230_36, u230_37, u230_40, u230_41, u230_42, u230_44, u230_47, u230_50, u230_51, u230_52, u230_54, u230_55, u230_56, u230_57, u230_58, u230_61, u230_63, u230_64, u230_66, u230_70, u230_71, u230_72, u230_75, u230_78, u230_79, u230_82, u230_83, c1, hin, hb, mj_cc_v, mj_cc_n, List.all_cons, List.all_nil, mj_noMk_int, mj_noMk_long, mj_noMk_ref, mj_noMk_junk, List.length_nil, List.length_cons, Nat.zero_le, Nat.reduceLeDiff, Nat.reduceAdd, Bool.and_true, Bool.true_and, Bool.and_self, Nat.reduceBNe, true_or, or_true, true_and, and_true, mj_z0, mj_z1, mj_z01, decide_true, decide_false, Bool.true_and, Bool.false_and, Bool.and_true, Bool.and_false, Bool.true_or, Bool.false_or, Bool.or_false, Bool.or_true, Bool.not_true, Bool.not_false, Bool.and_self, Bool.or_self, if_true, if_false, Bool.true_eq_false, Bool.false_eq_true, not_true, not_false_eq_true]
          refine ih _ _ ?_ (haf _ hl) he
          have hd := mj_cq_dec (f := fun k => !(mj_b s k)) (g := fun k => !(mj_b s k) && !(decide (k = w.toNatClampNeg))) (p := w.toNatClampNeg) (fun i hi => by simp [hi]) (by simp [q]) (by simp) 9 hl
          have he2 : mj_cq (fun k => !(mj_b (s ||| 1 <<< (w &&& 31)) k)) 9 = mj_cq (fun k => !(mj_b s k) && !(decide (k = w.toNatClampNeg))) 9 := mj_cq_eq 9 (fun k hk => by
            rw [mj_b_or, ew, mj_nz9 hl (by decide), mj_b_sh1 (by omega) (by omega)]
            simp)
          omega
        · rw [q] at hin
          simp only [c1, q, if_true, if_false] at he
          simp only [u230_0, u230_1, u230_2, u230_5, u230_8, u230_9, u230_10, u230_13, u230_14, u230_15, u230_16, u230_19, u230_22, u230_23, u230_25, u230_28, u230_29, u230_30, u230_31, u230_32, u230_36, u230_37, u230_40, u230_41, u230_42, u230_44, u230_47, u230_50, u230_51, u230_52, u230_54, u230_55, u230_56, u230_57, u230_58, u230_61, u230_63, u230_64, u230_66, u230_70, u230_71, u230_72, u230_75, u230_78, u230_79, u230_82, u230_83, c1, hin, mj_cc_v, mj_cc_n, List.all_cons, List.all_nil, mj_noMk_int, mj_noMk_long, mj_noMk_ref, mj_noMk_junk, List.length_nil, List.length_cons, Nat.zero_le, Nat.reduceLeDiff, Nat.reduceAdd, Bool.and_true, Bool.true_and, Bool.and_self, Nat.reduceBNe, true_or, or_true, true_and, and_true, mj_z0, mj_z1, mj_z01, decide_true, decide_false, Bool.true_and, Bool.false_and, Bool.and_true, Bool.and_false, Bool.true_or, Bool.false_or, Bool.or_false, Bool.or_true, Bool.not_true, Bool.not_false, Bool.and_self, Bool.or_self, if_true, if_false, Bool.true_eq_false, Bool.false_eq_true, not_true, not_false_eq_true]
          exact fin _ _ he
  refine st230 ?_
  rcases (Bool.eq_false_or_eq_true (mj_lt0 i (σ.1 61 0) && decide (σ.1 65 i.toNatClampNeg < 5))).symm with c1 | c1
  · rw [c1] at hwk
    rw [c1]
    simp only [u230_0, u230_1, u230_2, u230_5, u230_8, u230_9, u230_10, u230_13, u230_14, u230_15, u230_16, u230_19, u230_22, u230_23, u230_25, u230_28, u230_29, u230_30, u230_31, u230_32, u230_36, u230_37, u230_40, u230_41, u230_42, u230_44, u230_47, u230_50, u230_51, u230_52, u230_54, u230_55, u230_56, u230_57, u230_58, u230_61, u230_63, u230_64, u230_66, u230_70, u230_71, u230_72, u230_75, u230_78, u230_79, u230_82, u230_83, hwk, h1, mj_cc_v, mj_cc_n, List.all_cons, List.all_nil, mj_noMk_int, mj_noMk_long, mj_noMk_ref, mj_noMk_junk, List.length_nil, List.length_cons, Nat.zero_le, Nat.reduceLeDiff, Nat.reduceAdd, Bool.and_true, Bool.true_and, Bool.and_self, Nat.reduceBNe, true_or, or_true, true_and, and_true, mj_z0, mj_z1, mj_z01, decide_true, decide_false, Bool.true_and, Bool.false_and, Bool.and_true, Bool.and_false, Bool.true_or, Bool.false_or, Bool.or_false, Bool.or_true, Bool.not_true, Bool.not_false, Bool.and_self, Bool.or_self, if_true, if_false, Bool.true_eq_false, Bool.false_eq_true, not_true, not_false_eq_true]
  · rw [c1] at hwk
    rw [c1]
    cases c2 : mj_inb o 8
    · rw [c2] at ho
      simp only [u230_0, u230_1, u230_2, u230_5, u230_8, u230_9, u230_10, u230_13, u230_14, u230_15, u230_16, u230_19, u230_22, u230_23, u230_25, u230_28, u230_29, u230_30, u230_31, u230_32, u230_36, u230_37, u230_40, u230_41, u230_42, u230_44, u230_47, u230_50, u230_51, u230_52, u230_54, u230_55, u230_56, u230_57, u230_58, u230_61, u230_63, u230_64, u230_66, u230_70, u230_71, u230_72, u230_75, u230_78, u230_79, u230_82, u230_83, hwk, ho, h6, mj_cc_v, mj_cc_n, List.all_cons, List.all_nil, mj_noMk_int, mj_noMk_long, mj_noMk_ref, mj_noMk_junk, List.length_nil, List.length_cons, Nat.zero_le, Nat.reduceLeDiff, Nat.reduceAdd, Bool.and_true, Bool.true_and, Bool.and_self, Nat.reduceBNe, true_or, or_true, true_and, and_true, mj_z0, mj_z1, mj_z01, decide_true, decide_false, Bool.true_and, Bool.false_and, Bool.and_true, Bool.and_false, Bool.true_or, Bool.false_or, Bool.or_false, Bool.or_true, Bool.not_true, Bool.not_false, Bool.and_self, Bool.or_self, if_true, if_false, Bool.true_eq_false, Bool.false_eq_true, not_true, not_false_eq_true]
    · rw [c2] at ho
      simp only [u230_0, u230_1, u230_2, u230_5, u230_8, u230_9, u230_10, u230_13, u230_14, u230_15, u230_16, u230_19, u230_22, u230_23, u230_25, u230_28, u230_29, u230_30, u230_31, u230_32, u230_36, u230_37, u230_40, u230_41, u230_42, u230_44, u230_47, u230_50, u230_51, u230_52, u230_54, u230_55, u230_56, u230_57, u230_58, u230_61, u230_63, u230_64, u230_66, u230_70, u230_71, u230_72, u230_75, u230_78, u230_79, u230_82, u230_83, hwk, ho, mj_cc_v, mj_cc_n, List.all_cons, List.all_nil, mj_noMk_int, mj_noMk_long, mj_noMk_ref, mj_noMk_junk, List.length_nil, List.length_cons, Nat.zero_le, Nat.reduceLeDiff, Nat.reduceAdd, Bool.and_true, Bool.true_and, Bool.and_self, Nat.reduceBNe, true_or, or_true, true_and, and_true, mj_z0, mj_z1, mj_z01, decide_true, decide_false, Bool.true_and, Bool.false_and, Bool.and_true, Bool.and_false, Bool.true_or, Bool.false_or, Bool.or_false, Bool.or_true, Bool.not_true, Bool.not_false, Bool.and_self, Bool.or_self, if_true, if_false, Bool.true_eq_false, Bool.false_eq_true, not_true, not_false_eq_true]
      have hl : mj_lt0 i (σ.1 61 0) = true := by
        simp only [Bool.and_eq_true] at c1
        exact c1.1
      refine loop 9 i 0 ?_ (Or.inr (mj_lt0_in hl h9')) rfl
      exact Nat.le_of_eq (mj_cq_full 9 (fun p _ => by rw [mj_b_0]; rfl))
end
