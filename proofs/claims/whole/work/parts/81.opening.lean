section
variable {X : mj_X} {d : Nat} {σ τ ρ : mj_St}
/-- how many places a set has in common with the first nine falls by one with each that goes -/
theorem mj_cq_del {f g : Nat → Bool} {p : Nat} (hp : f p = true) (gp : g p = false) (h : ∀ i, i ≠ p → g i = f i) : ∀ n, p < n → mj_cq g n + 1 = mj_cq f n := by
  intro n
  induction n with
  | zero => intro z; omega
  | succ n ih =>
    intro hn
    rw [mj_cq_s, mj_cq_s]
    by_cases c : n = p
    · subst c
      rw [hp, gp, if_pos rfl, if_neg mj_ft, mj_cq_eq n (fun i hi => h i (by omega))]
    · have := ih (by omega)
      rw [h n c]
      split <;> omega
def mj_opw (σ : mj_St) : Nat → Int32 → Int32 → Int32
  | 0, l, _ => l
  | n + 1, l, w => if (mj_inb w 9 && mj_b l w.toNatClampNeg) = true then mj_opw σ n (l &&& (1 <<< (w &&& 31) ^^^ -1)) (σ.1 69 w.toNatClampNeg) else l
def mj_op1 (σ : mj_St) (i : Nat) (p : Int32 × Nat) : Int32 × Nat := if mj_b p.1 i = true then (mj_opw σ 10 p.1 (nI i), p.2 + 1) else p
def mj_oprg (σ : mj_St) (l : Int32) (n : Nat) : Int32 × Nat := mj_it (mj_op1 σ) (l, 0) n
/-- only places below nine -/
def mj_b9 (l : Int32) : Prop := ∀ k, 9 ≤ k → k < 32 → mj_b l k = false
theorem mj_b9_and {l m : Int32} (h : mj_b9 l) : mj_b9 (l &&& m) := fun k h1 h2 => by rw [mj_b_and, h k h1 h2, Bool.false_and]
theorem mj_opw_b9 {n : Nat} {l w : Int32} (h : mj_b9 l) : mj_b9 (mj_opw σ n l w) := by
  induction n generalizing l w with
  | zero => exact h
  | succ n ih =>
    simp only [mj_opw]
    split
    · exact ih (mj_b9_and h)
    · exact h
theorem sp_M_isInA {l w : Int32} (h : mj_b9 l) (hw : w = -1 ∨ mj_inb w 9 = true) : mj_ev X (d + 1) 195 [.ref 61, .int l, .int w] σ = some (some (.int (mj_z (mj_inb w 9 && mj_b l w.toNatClampNeg))), σ) := by
  rcases hw with q | q
  · subst q
    have e : ((-1 : Int32) &&& 31) = nI 31 &&& 31 := by decide
    have e2 : (l >>> (nI 31 &&& 31)) &&& 1 = mj_z (mj_b l 31) := mj_bt (by decide)
    have e3 : mj_inb (-1) 9 = false := by decide
    rw [h 31 (by decide) (by decide)] at e2
    refine st195 ?_
    rw [e3, Bool.false_and]
    simp (config := {decide := true}) only [u195_0, u195_1, u195_2, u195_3, u195_4, u195_5, u195_6, u195_9, u195_10, u195_13, u195_14, e, e2, mj_zF, mj_cc_v, mj_cc_n, List.all_cons, List.all_nil, mj_noMk_int, mj_noMk_long, mj_noMk_ref, mj_noMk_junk, List.length_nil, List.length_cons, Nat.zero_le, Nat.reduceLeDiff, Nat.reduceAdd, Bool.and_true, Bool.true_and, Bool.and_self, Nat.reduceBNe, true_or, or_true, true_and, and_true, mj_z0, mj_z1, mj_z01, decide_true, decide_false, Bool.true_and, Bool.false_and, Bool.and_true, Bool.and_false, Bool.true_or, Bool.false_or, Bool.or_false, Bool.or_true, Bool.not_true, Bool.not_false, Bool.and_self, Bool.or_self, if_true, if_false, Bool.true_eq_false, Bool.false_eq_true, not_true, not_false_eq_true]
  · obtain ⟨k, hk, e⟩ := mj_nI_of q (by decide)
    subst e
    rw [q, Bool.true_and, mj_nz9 hk (by decide)]
    exact sp_M_isIn (by omega)
theorem sp_M_opening {N : Nat} (hN : σ.1 61 0 = nI N) (h9 : N ≤ 9) (haf : ∀ k, k < 9 → σ.1 69 k = -1 ∨ mj_inb (σ.1 69 k) 9 = true) : mj_ev X (d + 2) 233 [.ref 61] σ = some (some (.int (nI (mj_oprg σ (mj_Mring σ N N) N).2)), σ) := by
  have hring := sp_M_ring (X := X) (d := d) hN h9 haf
  have hb9 : mj_b9 (mj_Mring σ N N) := fun k h1 h2 => by
    have e : mj_Mring σ N N = mj_fb (mj_Mrg σ N) N := rfl
    rw [e, mj_fb_b h2 N (by omega), decide_eq_false (by omega), Bool.false_and]
  -- the walk along a ring
  have walk : ∀ (n : Nat) (l w m i : Int32) (r : mj_Rs), mj_b9 l → (w = -1 ∨ mj_inb w 9 = true) → mj_cq (mj_b l) 9 < n → (∀ w' : Int32, mj_Runs X (mj_ev X (d + 1)) 6 (some .int) prog_8_method_80_code (66, [.ref 61, .int (mj_opw σ n l w), .int m, .int i, .int w'], [], σ) r) → mj_Runs X (mj_ev X (d + 1)) 6 (some .int) prog_8_method_80_code (35, [.ref 61, .int l, .int m, .int i, .int w], [], σ) r := by
    intro n
    induction n with
    | zero => intro l w m i r _ _ h; omega
    | succ n ih =>
      intro l w m i r h9' hw hc hr
      have hin := sp_M_isInA (X := X) (d := d) (σ := σ) h9' hw
      rcases (Bool.eq_false_or_eq_true (mj_inb w 9 && mj_b l w.toNatClampNeg)).symm with c | c
      · rw [c] at hin
        have hrw := hr w
        simp only [mj_opw] at hrw
        rw [if_neg (by rw [c]; decide)] at hrw
        refine u233_35.mpr ?_
        simp only [u233_0, u233_1, u233_4, u233_5, u233_6, u233_7, u233_8, u233_10, u233_11, u233_14, u233_17, u233_18, u233_19, u233_20, u233_23, u233_26, u233_29, u233_32, u233_33, u233_36, u233_37, u233_39, u233_42, u233_45, u233_46, u233_47, u233_49, u233_50, u233_51, u233_52, u233_53, u233_54, u233_55, u233_58, u233_60, u233_61, u233_63, u233_69, u233_72, u233_73, hin, mj_zF, mj_cc_v, mj_cc_n, List.all_cons, List.all_nil, mj_noMk_int, mj_noMk_long, mj_noMk_ref, mj_noMk_junk, List.length_nil, List.length_cons, Nat.zero_le, Nat.reduceLeDiff, Nat.reduceAdd, Bool.and_true, Bool.true_and, Bool.and_self, Nat.reduceBNe, true_or, or_true, true_and, and_true, mj_z0, mj_z1, mj_z01, decide_true, decide_false, Bool.true_and, Bool.false_and, Bool.and_true, Bool.and_false, Bool.true_or, Bool.false_or, Bool.or_false, Bool.or_true, Bool.not_true, Bool.not_false, Bool.and_self, Bool.or_self, if_true, if_false, Bool.true_eq_false, Bool.false_eq_true, not_true, not_false_eq_true]
        exact hrw
      · rw [c] at hin
        have c' := c
        simp only [Bool.and_eq_true] at c'
        obtain ⟨wi, wb⟩ := c'
        obtain ⟨k, hk, e⟩ := mj_nI_of wi (by decide)
        subst e
        rw [mj_nz9 hk (by decide)] at wb
        have hn := ih (l &&& (1 <<< (nI k &&& 31) ^^^ -1)) (σ.1 69 k) m i r (mj_b9_and h9') (haf k hk) (by
          have := mj_cq_del (f := mj_b l) (g := mj_b (l &&& (1 <<< (nI k &&& 31) ^^^ -1))) (p := k) wb (by
            rw [mj_b_and, mj_b_not (by omega), mj_b_sh1 (by omega) (by omega), decide_eq_true rfl, wb]
            rfl) (fun j hj => by
            by_cases j32 : j < 32
            · rw [mj_b_and, mj_b_not j32, mj_b_sh1 (by omega) j32, decide_eq_false hj]
              simp
            · rw [mj_b_big (by omega), mj_b_big (by omega)]) 9 hk
          omega) (fun w' => by
          have := hr w'
          simp only [mj_opw] at this
          rw [if_pos c, mj_nz9 hk (by decide)] at this
          exact this)
        refine u233_35.mpr ?_
        simp only [u233_0, u233_1, u233_4, u233_5, u233_6, u233_7, u233_8, u233_10, u233_11, u233_14, u233_17, u233_18, u233_19, u233_20, u233_23, u233_26, u233_29, u233_32, u233_33, u233_36, u233_37, u233_39, u233_42, u233_45, u233_46, u233_47, u233_49, u233_50, u233_51, u233_52, u233_53, u233_54, u233_55, u233_58, u233_60, u233_61, u233_63, u233_69, u233_72, u233_73, hin, mj_in_nI hk (by decide), mj_nz9 hk (by decide), mj_zT, mj_n10, mj_cc_v, mj_cc_n, List.all_cons, List.all_nil, mj_noMk_int, mj_noMk_long, mj_noMk_ref, mj_noMk_junk, List.length_nil, List.length_cons, Nat.zero_le, Nat.reduceLeDiff, Nat.reduceAdd, Bool.and_true, Bool.true_and, Bool.and_self, Nat.reduceBNe, true_or, or_true, true_and, and_true, mj_z0, mj_z1, mj_z01, decide_true, decide_false, Bool.true_and, Bool.false_and, Bool.and_true, Bool.and_false, Bool.true_or, Bool.false_or, Bool.or_false, Bool.or_true, Bool.not_true, Bool.not_false, Bool.and_self, Bool.or_self, if_true, if_false, Bool.true_eq_false, Bool.false_eq_true, not_true, not_false_eq_true]
        exact hn
  have loop : ∀ (j k : Nat) (w : Value) (r : mj_Rs), k + j = N → mj_b9 (mj_oprg σ (mj_Mring σ N N) k).1 → r = (some (.int (nI (mj_oprg σ (mj_Mring σ N N) N).2)), σ) → mj_noMk w = true → mj_Runs X (mj_ev X (d + 1)) 6 (some .int) prog_8_method_80_code (9, [.ref 61, .int (mj_oprg σ (mj_Mring σ N N) k).1, .int (nI (mj_oprg σ (mj_Mring σ N N) k).2), .int (nI k), w], [], σ) r := by
    intro j
    induction j with
    | zero =>
      intro k w r hk hb hr hw
      have hk' : k = N := by omega
      subst hk'
      have q : ¬ nI k < nI k := nI_nlt (Nat.le_refl _) (by omega)
      refine u233_9.mpr ?_
      simp only [u233_0, u233_1, u233_4, u233_5, u233_6, u233_7, u233_8, u233_10, u233_11, u233_14, u233_17, u233_18, u233_19, u233_20, u233_23, u233_26, u233_29, u233_32, u233_33, u233_36, u233_37, u233_39, u233_42, u233_45, u233_46, u233_47, u233_49, u233_50, u233_51, u233_52, u233_53, u233_54, u233_55, u233_58, u233_60, u233_61, u233_63, u233_69, u233_72, u233_73, hN, q, hr, mj_cc_v, mj_cc_n, List.all_cons, List.all_nil, mj_noMk_int, mj_noMk_long, mj_noMk_ref, mj_noMk_junk, List.length_nil, List.length_cons, Nat.zero_le, Nat.reduceLeDiff, Nat.reduceAdd, Bool.and_true, Bool.true_and, Bool.and_self, Nat.reduceBNe, true_or, or_true, true_and, and_true, mj_z0, mj_z1, mj_z01, decide_true, decide_false, Bool.true_and, Bool.false_and, Bool.and_true, Bool.and_false, Bool.true_or, Bool.false_or, Bool.or_false, Bool.or_true, Bool.not_true, Bool.not_false, Bool.and_self, Bool.or_self, if_true, if_false, Bool.true_eq_false, Bool.false_eq_true, not_true, not_false_eq_true]
    | succ j ih =>
      intro k w r hk hb hr hw
      have q : nI k < nI N := nI_lt (by omega) (by omega)
      have hin := sp_M_isIn (X := X) (d := d) (σ := σ) (m := (mj_oprg σ (mj_Mring σ N N) k).1) (k := k) (by omega)
      have es : mj_oprg σ (mj_Mring σ N N) (k + 1) = mj_op1 σ k (mj_oprg σ (mj_Mring σ N N) k) := rfl
      generalize hp : mj_oprg σ (mj_Mring σ N N) k = p at *
      rcases (Bool.eq_false_or_eq_true (mj_b p.1 k)).symm with c | c
      · rw [c] at hin
        have e1 : mj_op1 σ k p = p := by
          unfold mj_op1
          rw [if_neg (by rw [c]; decide)]
        have hn := ih (k + 1) w r (by omega) (by rw [es, e1]; exact hb) hr hw
        rw [es, e1] at hn
        refine u233_9.mpr ?_
        simp only [u233_0, u233_1, u233_4, u233_5, u233_6, u233_7, u233_8, u233_10, u233_11, u233_14, u233_17, u233_18, u233_19, u233_20, u233_23, u233_26, u233_29, u233_32, u233_33, u233_36, u233_37, u233_39, u233_42, u233_45, u233_46, u233_47, u233_49, u233_50, u233_51, u233_52, u233_53, u233_54, u233_55, u233_58, u233_60, u233_61, u233_63, u233_69, u233_72, u233_73, hN, q, hin, hw, mj_zF, mj_cc_v, mj_cc_n, List.all_cons, List.all_nil, mj_noMk_int, mj_noMk_long, mj_noMk_ref, mj_noMk_junk, List.length_nil, List.length_cons, Nat.zero_le, Nat.reduceLeDiff, Nat.reduceAdd, Bool.and_true, Bool.true_and, Bool.and_self, Nat.reduceBNe, true_or, or_true, true_and, and_true, mj_z0, mj_z1, mj_z01, decide_true, decide_false, Bool.true_and, Bool.false_and, Bool.and_true, Bool.and_false, Bool.true_or, Bool.false_or, Bool.or_false, Bool.or_true, Bool.not_true, Bool.not_false, Bool.and_self, Bool.or_self, if_true, if_false, Bool.true_eq_false, Bool.false_eq_true, not_true, not_false_eq_true]
        refine u233_66.mpr ?_
        simp only [u233_0, u233_1, u233_4, u233_5, u233_6, u233_7, u233_8, u233_10, u233_11, u233_14, u233_17, u233_18, u233_19, u233_20, u233_23, u233_26, u233_29, u233_32, u233_33, u233_36, u233_37, u233_39, u233_42, u233_45, u233_46, u233_47, u233_49, u233_50, u233_51, u233_52, u233_53, u233_54, u233_55, u233_58, u233_60, u233_61, u233_63, u233_69, u233_72, u233_73, nI_1, mj_cc_v, mj_cc_n, List.all_cons, List.all_nil, mj_noMk_int, mj_noMk_long, mj_noMk_ref, mj_noMk_junk, List.length_nil, List.length_cons, Nat.zero_le, Nat.reduceLeDiff, Nat.reduceAdd, Bool.and_true, Bool.true_and, Bool.and_self, Nat.reduceBNe, true_or, or_true, true_and, and_true, mj_z0, mj_z1, mj_z01, decide_true, decide_false, Bool.true_and, Bool.false_and, Bool.and_true, Bool.and_false, Bool.true_or, Bool.false_or, Bool.or_false, Bool.or_true, Bool.not_true, Bool.not_false, Bool.and_self, Bool.or_self, if_true, if_false, Bool.true_eq_false, Bool.false_eq_true, not_true, not_false_eq_true]
        exact hn
      · rw [c] at hin
        have e1 : mj_op1 σ k p = (mj_opw σ 10 p.1 (nI k), p.2 + 1) := by
          unfold mj_op1
          rw [if_pos c]
        have hc9 : mj_cq (mj_b p.1) 9 ≤ 9 := by
          have hle : ∀ n, mj_cq (mj_b p.1) n ≤ n := by
            intro n
            induction n with
            | zero => exact Nat.le_refl _
            | succ n ih => rw [mj_cq_s]; split <;> omega
          exact hle 9
        have hn := walk 10 p.1 (nI k) (nI (p.2 + 1)) (nI k) r hb (Or.inr (mj_in_nI (by omega) (by decide))) (by omega) (fun w' => by
          have hn := ih (k + 1) (.int w') r (by omega) (by rw [es, e1]; exact mj_opw_b9 hb) hr rfl
          rw [es, e1] at hn
          refine u233_66.mpr ?_
          simp only [u233_0, u233_1, u233_4, u233_5, u233_6, u233_7, u233_8, u233_10, u233_11, u233_14, u233_17, u233_18, u233_19, u233_20, u233_23, u233_26, u233_29, u233_32, u233_33, u233_36, u233_37, u233_39, u233_42, u233_45, u233_46, u233_47, u233_49, u233_50, u233_51, u233_52, u233_53, u233_54, u233_55, u233_58, u233_60, u233_61, u233_63, u233_69, u233_72, u233_73, nI_1, mj_cc_v, mj_cc_n, List.all_cons, List.all_nil, mj_noMk_int, mj_noMk_long, mj_noMk_ref, mj_noMk_junk, List.length_nil, List.length_cons, Nat.zero_le, Nat.reduceLeDiff, Nat.reduceAdd, Bool.and_true, Bool.true_and, Bool.and_self, Nat.reduceBNe, true_or, or_true, true_and, and_true, mj_z0, mj_z1, mj_z01, decide_true, decide_false, Bool.true_and, Bool.false_and, Bool.and_true, Bool.and_false, Bool.true_or, Bool.false_or, Bool.or_false, Bool.or_true, Bool.not_true, Bool.not_false, Bool.and_self, Bool.or_self, if_true, if_false, Bool.true_eq_false, Bool.false_eq_true, not_true, not_false_eq_true]
          exact hn)
        refine u233_9.mpr ?_
        simp only [u233_0, u233_1, u233_4, u233_5, u233_6, u233_7, u233_8, u233_10, u233_11, u233_14, u233_17, u233_18, u233_19, u233_20, u233_23, u233_26, u233_29, u233_32, u233_33, u233_36, u233_37, u233_39, u233_42, u233_45, u233_46, u233_47, u233_49, u233_50, u233_51, u233_52, u233_53, u233_54, u233_55, u233_58, u233_60, u233_61, u233_63, u233_69, u233_72, u233_73, hN, q, hin, hw, mj_zT, mj_n10, nI_1, mj_cc_v, mj_cc_n, List.all_cons, List.all_nil, mj_noMk_int, mj_noMk_long, mj_noMk_ref, mj_noMk_junk, List.length_nil, List.length_cons, Nat.zero_le, Nat.reduceLeDiff, Nat.reduceAdd, Bool.and_true, Bool.true_and, Bool.and_self, Nat.reduceBNe, true_or, or_true, true_and, and_true, mj_z0, mj_z1, mj_z01, decide_true, decide_false, Bool.true_and, Bool.false_and, Bool.and_true, Bool.and_false, Bool.true_or, Bool.false_or, Bool.or_false, Bool.or_true, Bool.not_true, Bool.not_false, Bool.and_self, Bool.or_self, if_true, if_false, Bool.true_eq_false, Bool.false_eq_true, not_true, not_false_eq_true]
        exact hn
  have hl := loop N 0 mj_junk _ (by omega) hb9 rfl rfl
  refine st233 ?_
  simp only [u233_0, u233_1, u233_4, u233_5, u233_6, u233_7, u233_8, u233_10, u233_11, u233_14, u233_17, u233_18, u233_19, u233_20, u233_23, u233_26, u233_29, u233_32, u233_33, u233_36, u233_37, u233_39, u233_42, u233_45, u233_46, u233_47, u233_49, u233_50, u233_51, u233_52, u233_53, u233_54, u233_55, u233_58, u233_60, u233_61, u233_63, u233_69, u233_72, u233_73, hring, mj_cc_v, mj_cc_n, List.all_cons, List.all_nil, mj_noMk_int, mj_noMk_long, mj_noMk_ref, mj_noMk_junk, List.length_nil, List.length_cons, Nat.zero_le, Nat.reduceLeDiff, Nat.reduceAdd, Bool.and_true, Bool.true_and, Bool.and_self, Nat.reduceBNe, true_or, or_true, true_and, and_true, mj_z0, mj_z1, mj_z01, decide_true, decide_false, Bool.true_and, Bool.false_and, Bool.and_true, Bool.and_false, Bool.true_or, Bool.false_or, Bool.or_false, Bool.or_true, Bool.not_true, Bool.not_false, Bool.and_self, Bool.or_self, if_true, if_false, Bool.true_eq_false, Bool.false_eq_true, not_true, not_false_eq_true]
  exact hl
end
