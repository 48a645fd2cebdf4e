section
variable {X : mj_X} {d : Nat} {σ τ ρ : mj_St}
/-- the same but for a search and the lists of those to break -/
def mj_FB (σ ρ : mj_St) : Prop := (∀ c, c < 46 ∨ 58 < c → ρ.1 c = σ.1 c) ∧ (∀ c, c ≠ 999 → ρ.2.1 c = σ.2.1 c) ∧ (∀ c, c ≠ 46 → ρ.2.2.1 c = σ.2.2.1 c) ∧ (σ.2.2.2.1 ≤ 20000 → ρ.2.2.2.1 ≤ 20000) ∧ ∀ B, mj_Rb B σ → mj_Rb B ρ
theorem mj_FB_rf : mj_FB σ σ := ⟨fun _ _ => rfl, fun _ _ => rfl, fun _ _ => rfl, fun h => h, fun _ h => h⟩
theorem mj_FB_tr (h : mj_FB σ τ) (g : mj_FB τ ρ) : mj_FB σ ρ := ⟨fun c q => (g.1 c q).trans (h.1 c q), fun c q => (g.2.1 c q).trans (h.2.1 c q), fun c q => (g.2.2.1 c q).trans (h.2.2.1 c q), fun q => g.2.2.2.1 (h.2.2.2.1 q), fun B q => g.2.2.2.2 B (h.2.2.2.2 B q)⟩
theorem mj_FB_Fs (h : mj_Fs σ ρ) : mj_FB σ ρ := ⟨fun c q => h.1 c (by omega), h.2.1, h.2.2.1, h.2.2.2.1, h.2.2.2.2⟩
theorem mj_FB_I {c i : Nat} {v : Int32} (h : 54 < c) (h' : c < 59) : mj_FB σ (mj_setI σ c i v) := ⟨fun a q => mj_setI_ne _ _ _ (by omega), fun _ _ => rfl, fun _ _ => rfl, fun h => h, fun _ h => h⟩
theorem mj_FB_pc {N w : Nat} (h : mj_FB σ ρ) (hc : mj_pc σ N w) : mj_pc ρ N w := by
  obtain ⟨c1, c2, c3, c4, c5, c6, c7, c8⟩ := hc
  have e : ∀ c, c < 46 → ρ.1 c = σ.1 c := fun c q => h.1 c (Or.inl q)
  refine ⟨by rw [e 14 (by decide)]; exact c1, c2, by rw [e 14 (by decide)]; exact c3, c4, by rw [e 20 (by decide)]; exact c5, by rw [e 15 (by decide)]; exact c6, ?_, h.2.2.2.1 c8⟩
  rw [e 15 (by decide), e 25 (by decide)]
  exact c7
theorem mj_FB_pe (h : mj_FB σ ρ) (he : mj_pe σ) : mj_pe ρ := by
  unfold mj_pe at he ⊢
  rw [h.1 18 (Or.inl (by decide)), h.1 17 (Or.inl (by decide))]
  exact he
-- the list of those to break
def mj_bcd (σ : mj_St) (o : Int32) (i : Nat) : Bool := mj_ask (σ.1 20 i) (σ.1 21 i) o && (!(mj_b (σ.1 14 16) i) && (decide (¬ σ.1 17 i < σ.1 14 17) && (!(mj_wk (σ.1 15 i)) || decide (0 < σ.1 25 i))))
def mj_bkl (σ : mj_St) (o : Int32) (n : Nat) : List Nat := (List.range n).filter (mj_bcd σ o)
def mj_bcs (σ : mj_St) (e : Int32) (i : Nat) : Int32 := if e = 0 then σ.1 22 i else 1
def mj_bbs (σ : mj_St) (o e : Int32) (n : Nat) : Int32 := mj_it (fun i u => if (mj_ask (σ.1 20 i) (σ.1 21 i) o && mj_b (σ.1 14 16) i) = true then u + mj_bcs σ e i else u) 0 n
def mj_Lb (σ : mj_St) (l : List Nat) (c : Nat → Int32) : Prop := σ.1 55 3 = nI l.length ∧ l.length ≤ 9 ∧ ∀ k, k < l.length → l.getD k 0 < 9 ∧ σ.1 56 k = nI (l.getD k 0) ∧ σ.1 57 k = c (l.getD k 0)
theorem mj_Lb_Fs {l : List Nat} {c : Nat → Int32} (F : mj_Fs σ ρ) (h : mj_Lb σ l c) : mj_Lb ρ l c := by
  unfold mj_Lb at h ⊢
  rw [F.1 55 (Or.inr (by decide)), F.1 56 (Or.inr (by decide)), F.1 57 (Or.inr (by decide))]
  exact h
theorem mj_Lb_58 {l : List Nat} {c : Nat → Int32} {i : Nat} {v : Int32} (h : mj_Lb σ l c) : mj_Lb (mj_setI σ 58 i v) l c := h
theorem mj_bkl_len {o : Int32} {n : Nat} : (mj_bkl σ o n).length ≤ n := by
  unfold mj_bkl
  have := List.length_filter_le (mj_bcd σ o) (List.range n)
  rw [List.length_range] at this
  exact this
theorem mj_bkl_s {o : Int32} {n : Nat} : mj_bkl σ o (n + 1) = if mj_bcd σ o n = true then mj_bkl σ o n ++ [n] else mj_bkl σ o n := by
  unfold mj_bkl
  rw [List.range_succ, List.filter_append]
  by_cases c : mj_bcd σ o n = true
  · rw [if_pos c, List.filter_cons_of_pos c, List.filter_nil]
  · rw [if_neg c, List.filter_cons_of_neg c, List.filter_nil, List.append_nil]
theorem mj_Lb_add {l : List Nat} {c : Nat → Int32} {i : Nat} {v : Int32} (h : mj_Lb σ l c) (hl : l.length < 9) (hi : i < 9) (hv : v = c i) : mj_Lb (mj_setI (mj_setI (mj_setI σ 56 l.length (nI i)) 57 l.length v) 55 3 (nI (l.length + 1))) (l ++ [i]) c := by
  obtain ⟨h1, h2, h3⟩ := h
  have ln : (l ++ [i]).length = l.length + 1 := by simp
  refine ⟨?_, by omega, fun k hk => ?_⟩
  · rw [mj_setI_eq, ln]
  · rw [mj_setI_ne _ _ _ (show 56 ≠ 55 by decide), mj_setI_ne _ _ _ (show 56 ≠ 57 by decide), mj_setI_ne _ _ _ (show 57 ≠ 55 by decide)]
    rw [ln] at hk
    by_cases q : k = l.length
    · subst q
      have e : (l ++ [i]).getD l.length 0 = i := by simp
      rw [e, mj_setI_eq, mj_setI_eq]
      exact ⟨hi, rfl, hv⟩
    · have e : (l ++ [i]).getD k 0 = l.getD k 0 := by
        simp [List.getD, List.getElem?_append_left (show k < l.length by omega)]
      rw [e, mj_setI_i q, mj_setI_i q, mj_setI_ne _ _ _ (show 57 ≠ 56 by decide)]
      exact h3 k (by omega)
theorem sp_findThose {N w : Nat} {o e : Int32} (hc : mj_pc σ N w) : ∃ ρ, mj_FB σ ρ ∧ mj_Lb ρ (mj_bkl σ o N) (mj_bcs σ e) ∧ ∀ d, mj_ev X (d + 3) 106 [.ref 55, .ref 14, .int o, .int e] σ = some (some (.int (mj_bbs σ o e N)), ρ) := by
  obtain ⟨c1, c2, c3, c4, -⟩ := hc
  have loop : ∀ (j i : Nat) (τ : mj_St) (v : Value), mj_noMk v = true → i + j = N → mj_FB σ τ → mj_Lb τ (mj_bkl σ o i) (mj_bcs σ e) → ∃ ρ, mj_FB σ ρ ∧ mj_Lb ρ (mj_bkl σ o N) (mj_bcs σ e) ∧ ∀ d, mj_Runs X (mj_ev X (d + 2)) 0 (some .int) prog_2_method_4_code (11, [.ref 55, .ref 14, .int o, .int e, .int (mj_bbs σ o e i), .int (nI i), v], [], τ) (some (.int (mj_bbs σ o e N)), ρ) := by
    intro j
    induction j with
    | zero =>
      intro i τ v hv hi F L
      have e14 : τ.1 14 14 = nI N := by rw [F.1 14 (Or.inl (by decide))]; exact c1
      have q : ¬ nI i < nI N := nI_nlt (by omega) (by omega)
      have ei : i = N := by omega
      subst ei
      refine ⟨τ, F, L, fun d => ?_⟩
      refine u106_11.mpr ?_
      simp only [u106_0, u106_1, u106_3, u106_4, u106_5, u106_8, u106_9, u106_13, u106_14, u106_17, u106_20, u106_21, u106_23, u106_24, u106_27, u106_30, u106_33, u106_34, u106_37, u106_38, u106_41, u106_42, u106_45, u106_47, u106_48, u106_50, u106_51, u106_53, u106_56, u106_59, u106_61, u106_63, u106_64, u106_66, u106_69, u106_70, u106_73, u106_75, u106_76, u106_77, u106_80, u106_83, u106_84, u106_86, u106_89, u106_92, u106_93, u106_96, u106_98, u106_99, u106_102, u106_103, u106_106, u106_107, u106_110, u106_112, u106_113, u106_114, u106_117, u106_118, u106_121, u106_123, u106_124, u106_125, u106_126, u106_129, u106_130, u106_131, u106_134, u106_137, u106_140, u106_142, e14, q, mj_cc_v, mj_cc_n, List.all_cons, List.all_nil, mj_noMk_int, mj_noMk_long, mj_noMk_ref, mj_noMk_junk, List.length_nil, List.length_cons, Nat.zero_le, Nat.reduceLeDiff, Nat.reduceAdd, Bool.and_true, Bool.true_and, Bool.and_self, Nat.reduceBNe, true_or, or_true, true_and, and_true, mj_z0, mj_z1, mj_z01, decide_true, decide_false, Bool.true_and, Bool.false_and, Bool.and_true, Bool.and_false, Bool.true_or, Bool.false_or, Bool.or_false, Bool.or_true, Bool.not_true, Bool.not_false, Bool.and_self, Bool.or_self, if_true, if_false, Bool.true_eq_false, Bool.false_eq_true, not_true, not_false_eq_true]
    | succ j ih =>
      intro i τ v hv hi F L
      have hi9 : i < 9 := by omega
      have E : ∀ c, c < 46 → τ.1 c = σ.1 c := fun c q => F.1 c (Or.inl q)
      have e14 : τ.1 14 14 = nI N := by rw [E 14 (by decide)]; exact c1
      have q : nI i < nI N := nI_lt (by omega) (by omega)
      have ln := mj_bkl_len (σ := σ) (o := o) (n := i)
      have ha : ∀ d, mj_ev X (d + 2) 62 [.ref 14, .int (nI i), .int o] τ = some (some (.int (mj_z (mj_ask (σ.1 20 i) (σ.1 21 i) o))), τ) := fun d => by
        rw [← E 20 (by decide), ← E 21 (by decide)]
        exact sp_isAsked (d := d + 1) hi9
      have hlo : ∀ d, mj_ev X (d + 2) 107 [.ref 14, .int (nI i)] τ = some (some (.int (mj_z (mj_b (σ.1 14 16) i))), τ) := fun d => by
        rw [← E 14 (by decide)]
        exact sp_isLost (d := d + 1) hi9
      have hw : ∀ d, mj_ev X (d + 2) 37 [.ref 14, .int (nI i)] τ = some (some (.int (mj_z (mj_wk (σ.1 15 i)))), τ) := fun d => by
        rw [← E 15 (by decide)]
        exact mj_isw e14 c2 (by omega)
      have e17 := E 17 (by decide)
      have e25 := E 25 (by decide)
      have e22 := E 22 (by decide)
      have e14' := E 14 (by decide)
      have eb : mj_bbs σ o e (i + 1) = if (mj_ask (σ.1 20 i) (σ.1 21 i) o && mj_b (σ.1 14 16) i) = true then mj_bbs σ o e i + mj_bcs σ e i else mj_bbs σ o e i := rfl
      have el := mj_bkl_s (σ := σ) (o := o) (n := i)
      -- on with the next, nothing added
      have skip : mj_bcd σ o i = false → ∀ v2, mj_noMk v2 = true → ∃ ρ, mj_FB σ ρ ∧ mj_Lb ρ (mj_bkl σ o N) (mj_bcs σ e) ∧ ∀ d, mj_Runs X (mj_ev X (d + 2)) 0 (some .int) prog_2_method_4_code (11, [.ref 55, .ref 14, .int o, .int e, .int (mj_bbs σ o e (i + 1)), .int (nI (i + 1)), v2], [], τ) (some (.int (mj_bbs σ o e N)), ρ) := fun z v2 hv2 => by
        rw [if_neg (by rw [z]; decide)] at el
        exact ih (i + 1) τ v2 hv2 (by omega) F (by rw [el]; exact L)
      generalize hbn : mj_bbs σ o e (i + 1) = bn at *
      generalize mj_bbs σ o e N = bN at *
      generalize mj_bbs σ o e i = bi at *
      have hcost : ∀ (d : Nat) r, mj_Runs X (mj_ev X (d + 2)) 0 (some .int) prog_2_method_4_code (48, [.ref 55, .ref 14, .int o, .int e, .int bi, .int (nI i), v], [.int (mj_bcs σ e i)], τ) r → mj_Runs X (mj_ev X (d + 2)) 0 (some .int) prog_2_method_4_code (33, [.ref 55, .ref 14, .int o, .int e, .int bi, .int (nI i), v], [], τ) r := by
        intro d r h
        unfold mj_bcs at h
        refine u106_33.mpr ?_
        by_cases ce : e = 0
        · rw [if_pos ce] at h
          simp only [u106_0, u106_1, u106_3, u106_4, u106_5, u106_8, u106_9, u106_13, u106_14, u106_17, u106_20, u106_21, u106_23, u106_24, u106_27, u106_30, u106_34, u106_37, u106_38, u106_41, u106_42, u106_45, u106_47, u106_50, u106_51, u106_53, u106_56, u106_59, u106_61, u106_63, u106_64, u106_66, u106_69, u106_70, u106_73, u106_75, u106_76, u106_77, u106_80, u106_83, u106_84, u106_86, u106_89, u106_92, u106_93, u106_96, u106_98, u106_99, u106_102, u106_103, u106_106, u106_107, u106_110, u106_112, u106_113, u106_114, u106_117, u106_118, u106_121, u106_123, u106_124, u106_125, u106_126, u106_129, u106_130, u106_131, u106_134, u106_137, u106_140, u106_142, eq_true ce, e22, mj_in_nI hi9 (by decide), mj_nz9 hi9 (by decide), mj_cc_v, mj_cc_n, List.all_cons, List.all_nil, mj_noMk_int, mj_noMk_long, mj_noMk_ref, mj_noMk_junk, List.length_nil, List.length_cons, Nat.zero_le, Nat.reduceLeDiff, Nat.reduceAdd, Bool.and_true, Bool.true_and, Bool.and_self, Nat.reduceBNe, true_or, or_true, true_and, and_true, mj_z0, mj_z1, mj_z01, decide_true, decide_false, Bool.true_and, Bool.false_and, Bool.and_true, Bool.and_false, Bool.true_or, Bool.false_or, Bool.or_false, Bool.or_true, Bool.not_true, Bool.not_false, Bool.and_self, Bool.or_self, if_true, if_false, Bool.true_eq_false, Bool.false_eq_true, not_true, not_false_eq_true]
          exact h
        · rw [if_neg ce] at h
          simp only [u106_0, u106_1, u106_3, u106_4, u106_5, u106_8, u106_9, u106_13, u106_14, u106_17, u106_20, u106_21, u106_23, u106_24, u106_27, u106_30, u106_34, u106_37, u106_38, u106_41, u106_42, u106_45, u106_47, u106_50, u106_51, u106_53, u106_56, u106_59, u106_61, u106_63, u106_64, u106_66, u106_69, u106_70, u106_73, u106_75, u106_76, u106_77, u106_80, u106_83, u106_84, u106_86, u106_89, u106_92, u106_93, u106_96, u106_98, u106_99, u106_102, u106_103, u106_106, u106_107, u106_110, u106_112, u106_113, u106_114, u106_117, u106_118, u106_121, u106_123, u106_124, u106_125, u106_126, u106_129, u106_130, u106_131, u106_134, u106_137, u106_140, u106_142, eq_false ce, mj_cc_v, mj_cc_n, List.all_cons, List.all_nil, mj_noMk_int, mj_noMk_long, mj_noMk_ref, mj_noMk_junk, List.length_nil, List.length_cons, Nat.zero_le, Nat.reduceLeDiff, Nat.reduceAdd, Bool.and_true, Bool.true_and, Bool.and_self, Nat.reduceBNe, true_or, or_true, true_and, and_true, mj_z0, mj_z1, mj_z01, decide_true, decide_false, Bool.true_and, Bool.false_and, Bool.and_true, Bool.and_false, Bool.true_or, Bool.false_or, Bool.or_false, Bool.or_true, Bool.not_true, Bool.not_false, Bool.and_self, Bool.or_self, if_true, if_false, Bool.true_eq_false, Bool.false_eq_true, not_true, not_false_eq_true]
          exact h
      generalize hcc : mj_bcs σ e i = cc at *
      cases b1 : mj_ask (σ.1 20 i) (σ.1 21 i) o
      · have z : mj_bcd σ o i = false := by unfold mj_bcd; rw [b1]; rfl
        rw [b1, Bool.false_and, if_neg (by decide)] at eb
        obtain ⟨ρ, G1, G2, h⟩ := skip z v hv
        refine ⟨ρ, G1, G2, fun d => ?_⟩
        have hd := h d
        have had := ha d
        rw [b1] at had
        rw [eb] at hd
        refine u106_11.mpr ?_
        simp only [u106_0, u106_1, u106_3, u106_4, u106_5, u106_8, u106_9, u106_13, u106_14, u106_17, u106_20, u106_21, u106_23, u106_24, u106_27, u106_30, u106_34, u106_37, u106_38, u106_41, u106_42, u106_45, u106_47, u106_50, u106_51, u106_53, u106_56, u106_59, u106_61, u106_63, u106_64, u106_66, u106_69, u106_70, u106_73, u106_75, u106_76, u106_77, u106_80, u106_83, u106_84, u106_86, u106_89, u106_92, u106_93, u106_96, u106_98, u106_99, u106_102, u106_103, u106_106, u106_107, u106_110, u106_112, u106_113, u106_114, u106_117, u106_118, u106_121, u106_123, u106_124, u106_125, u106_126, u106_129, u106_130, u106_131, u106_134, u106_137, u106_140, u106_142, e14, q, had, hv, mj_zF, nI_1, mj_cc_v, mj_cc_n, List.all_cons, List.all_nil, mj_noMk_int, mj_noMk_long, mj_noMk_ref, mj_noMk_junk, List.length_nil, List.length_cons, Nat.zero_le, Nat.reduceLeDiff, Nat.reduceAdd, Bool.and_true, Bool.true_and, Bool.and_self, Nat.reduceBNe, true_or, or_true, true_and, and_true, mj_z0, mj_z1, mj_z01, decide_true, decide_false, Bool.true_and, Bool.false_and, Bool.and_true, Bool.and_false, Bool.true_or, Bool.false_or, Bool.or_false, Bool.or_true, Bool.not_true, Bool.not_false, Bool.and_self, Bool.or_self, if_true, if_false, Bool.true_eq_false, Bool.false_eq_true, not_true, not_false_eq_true]
        exact hd
      · cases b2 : mj_b (σ.1 14 16) i
        · rw [b1, b2, Bool.and_false, if_neg (by decide)] at eb
          -- from the cost on
          have on : ∀ (P : mj_St → Prop) ρ, (∀ d, mj_Runs X (mj_ev X (d + 2)) 0 (some .int) prog_2_method_4_code (69, [.ref 55, .ref 14, .int o, .int e, .int bi, .int (nI i), .int cc], [], τ) (some (.int bN), ρ)) → ∀ d, mj_Runs X (mj_ev X (d + 2)) 0 (some .int) prog_2_method_4_code (11, [.ref 55, .ref 14, .int o, .int e, .int bi, .int (nI i), v], [], τ) (some (.int bN), ρ) := by
            intro _ ρ h d
            have hd := h d
            have had := ha d
            have hld := hlo d
            rw [b1] at had
            rw [b2] at hld
            have h48 : mj_Runs X (mj_ev X (d + 2)) 0 (some .int) prog_2_method_4_code (48, [.ref 55, .ref 14, .int o, .int e, .int bi, .int (nI i), v], [.int cc], τ) (some (.int bN), ρ) := by
              refine u106_48.mpr ?_
              simp only [u106_0, u106_1, u106_3, u106_4, u106_5, u106_8, u106_9, u106_13, u106_14, u106_17, u106_20, u106_21, u106_23, u106_24, u106_27, u106_30, u106_34, u106_37, u106_38, u106_41, u106_42, u106_45, u106_47, u106_50, u106_51, u106_53, u106_56, u106_59, u106_61, u106_63, u106_64, u106_66, u106_70, u106_73, u106_75, u106_76, u106_77, u106_80, u106_83, u106_84, u106_86, u106_89, u106_92, u106_93, u106_96, u106_98, u106_99, u106_102, u106_103, u106_106, u106_107, u106_110, u106_112, u106_113, u106_114, u106_117, u106_118, u106_121, u106_123, u106_124, u106_125, u106_126, u106_129, u106_130, u106_131, u106_134, u106_137, u106_140, u106_142, hld, hv, mj_zF, mj_cc_v, mj_cc_n, List.all_cons, List.all_nil, mj_noMk_int, mj_noMk_long, mj_noMk_ref, mj_noMk_junk, List.length_nil, List.length_cons, Nat.zero_le, Nat.reduceLeDiff, Nat.reduceAdd, Bool.and_true, Bool.true_and, Bool.and_self, Nat.reduceBNe, true_or, or_true, true_and, and_true, mj_z0, mj_z1, mj_z01, decide_true, decide_false, Bool.true_and, Bool.false_and, Bool.and_true, Bool.and_false, Bool.true_or, Bool.false_or, Bool.or_false, Bool.or_true, Bool.not_true, Bool.not_false, Bool.and_self, Bool.or_self, if_true, if_false, Bool.true_eq_false, Bool.false_eq_true, not_true, not_false_eq_true]
              exact hd
            have h33 := hcost d _ h48
            refine u106_11.mpr ?_
            simp only [u106_0, u106_1, u106_3, u106_4, u106_5, u106_8, u106_9, u106_13, u106_14, u106_17, u106_20, u106_21, u106_23, u106_24, u106_27, u106_30, u106_34, u106_37, u106_38, u106_41, u106_42, u106_45, u106_47, u106_50, u106_51, u106_53, u106_56, u106_59, u106_61, u106_63, u106_64, u106_66, u106_70, u106_73, u106_75, u106_76, u106_77, u106_80, u106_83, u106_84, u106_86, u106_89, u106_92, u106_93, u106_96, u106_98, u106_99, u106_102, u106_103, u106_106, u106_107, u106_110, u106_112, u106_113, u106_114, u106_117, u106_118, u106_121, u106_123, u106_124, u106_125, u106_126, u106_129, u106_130, u106_131, u106_134, u106_137, u106_140, u106_142, e14, q, had, hv, mj_zT, mj_n10, mj_cc_v, mj_cc_n, List.all_cons, List.all_nil, mj_noMk_int, mj_noMk_long, mj_noMk_ref, mj_noMk_junk, List.length_nil, List.length_cons, Nat.zero_le, Nat.reduceLeDiff, Nat.reduceAdd, Bool.and_true, Bool.true_and, Bool.and_self, Nat.reduceBNe, true_or, or_true, true_and, and_true, mj_z0, mj_z1, mj_z01, decide_true, decide_false, Bool.true_and, Bool.false_and, Bool.and_true, Bool.and_false, Bool.true_or, Bool.false_or, Bool.or_false, Bool.or_true, Bool.not_true, Bool.not_false, Bool.and_self, Bool.or_self, if_true, if_false, Bool.true_eq_false, Bool.false_eq_true, not_true, not_false_eq_true]
            exact h33
          have n134 : ∀ ρ, (∀ d, mj_Runs X (mj_ev X (d + 2)) 0 (some .int) prog_2_method_4_code (11, [.ref 55, .ref 14, .int o, .int e, .int bi, .int (nI (i + 1)), .int cc], [], τ) (some (.int bN), ρ)) → ∀ d, mj_Runs X (mj_ev X (d + 2)) 0 (some .int) prog_2_method_4_code (134, [.ref 55, .ref 14, .int o, .int e, .int bi, .int (nI i), .int cc], [], τ) (some (.int bN), ρ) := by
            intro ρ h d
            have hd := h d
            refine u106_134.mpr ?_
            simp only [u106_0, u106_1, u106_3, u106_4, u106_5, u106_8, u106_9, u106_13, u106_14, u106_17, u106_20, u106_21, u106_23, u106_24, u106_27, u106_30, u106_33, u106_34, u106_37, u106_38, u106_41, u106_42, u106_45, u106_47, u106_48, u106_50, u106_51, u106_53, u106_56, u106_59, u106_61, u106_63, u106_64, u106_66, u106_69, u106_70, u106_73, u106_75, u106_76, u106_77, u106_80, u106_83, u106_84, u106_86, u106_89, u106_92, u106_93, u106_96, u106_98, u106_99, u106_102, u106_103, u106_106, u106_107, u106_110, u106_112, u106_113, u106_114, u106_117, u106_118, u106_121, u106_123, u106_124, u106_125, u106_126, u106_129, u106_130, u106_131, u106_137, u106_140, u106_142, nI_1, mj_cc_v, mj_cc_n, List.all_cons, List.all_nil, mj_noMk_int, mj_noMk_long, mj_noMk_ref, mj_noMk_junk, List.length_nil, List.length_cons, Nat.zero_le, Nat.reduceLeDiff, Nat.reduceAdd, Bool.and_true, Bool.true_and, Bool.and_self, Nat.reduceBNe, true_or, or_true, true_and, and_true, mj_z0, mj_z1, mj_z01, decide_true, decide_false, Bool.true_and, Bool.false_and, Bool.and_true, Bool.and_false, Bool.true_or, Bool.false_or, Bool.or_false, Bool.or_true, Bool.not_true, Bool.not_false, Bool.and_self, Bool.or_self, if_true, if_false, Bool.true_eq_false, Bool.false_eq_true, not_true, not_false_eq_true]
            exact hd
          cases b3 : mj_bcd σ o i
          · obtain ⟨ρ, G1, G2, h⟩ := skip b3 (.int cc) rfl
            refine ⟨ρ, G1, G2, on (fun _ => True) ρ fun d => ?_⟩
            rw [eb] at h
            have h134 := n134 ρ h d
            have hwd := hw d
            unfold mj_bcd at b3
            rw [b1, b2, Bool.not_false, Bool.true_and, Bool.true_and] at b3
            refine u106_69.mpr ?_
            by_cases t : σ.1 17 i < σ.1 14 17
            · simp only [u106_0, u106_1, u106_3, u106_4, u106_5, u106_8, u106_9, u106_13, u106_14, u106_17, u106_20, u106_21, u106_23, u106_24, u106_27, u106_30, u106_33, u106_34, u106_37, u106_38, u106_41, u106_42, u106_45, u106_47, u106_48, u106_50, u106_51, u106_53, u106_56, u106_59, u106_61, u106_63, u106_64, u106_66, u106_70, u106_73, u106_75, u106_76, u106_77, u106_80, u106_83, u106_84, u106_86, u106_89, u106_92, u106_93, u106_96, u106_98, u106_99, u106_102, u106_103, u106_106, u106_107, u106_110, u106_112, u106_113, u106_114, u106_117, u106_118, u106_121, u106_123, u106_124, u106_125, u106_126, u106_129, u106_130, u106_131, u106_137, u106_140, u106_142, e17, e14', eq_true t, mj_in_nI hi9 (by decide), mj_nz9 hi9 (by decide), mj_cc_v, mj_cc_n, List.all_cons, List.all_nil, mj_noMk_int, mj_noMk_long, mj_noMk_ref, mj_noMk_junk, List.length_nil, List.length_cons, Nat.zero_le, Nat.reduceLeDiff, Nat.reduceAdd, Bool.and_true, Bool.true_and, Bool.and_self, Nat.reduceBNe, true_or, or_true, true_and, and_true, mj_z0, mj_z1, mj_z01, decide_true, decide_false, Bool.true_and, Bool.false_and, Bool.and_true, Bool.and_false, Bool.true_or, Bool.false_or, Bool.or_false, Bool.or_true, Bool.not_true, Bool.not_false, Bool.and_self, Bool.or_self, if_true, if_false, Bool.true_eq_false, Bool.false_eq_true, not_true, not_false_eq_true]
              exact h134
            · rw [decide_eq_true t, Bool.true_and] at b3
              cases b4 : mj_wk (σ.1 15 i)
              · rw [b4, Bool.not_false, Bool.true_or] at b3
                exact absurd b3 (by decide)
              · rw [b4] at b3 hwd
                rw [Bool.not_true, Bool.false_or] at b3
                have lf : ¬ 0 < σ.1 25 i := of_decide_eq_false b3
                simp only [u106_0, u106_1, u106_3, u106_4, u106_5, u106_8, u106_9, u106_13, u106_14, u106_17, u106_20, u106_21, u106_23, u106_24, u106_27, u106_30, u106_33, u106_34, u106_37, u106_38, u106_41, u106_42, u106_45, u106_47, u106_48, u106_50, u106_51, u106_53, u106_56, u106_59, u106_61, u106_63, u106_64, u106_66, u106_70, u106_73, u106_75, u106_76, u106_77, u106_80, u106_83, u106_84, u106_86, u106_89, u106_92, u106_93, u106_96, u106_98, u106_99, u106_102, u106_103, u106_106, u106_107, u106_110, u106_112, u106_113, u106_114, u106_117, u106_118, u106_121, u106_123, u106_124, u106_125, u106_126, u106_129, u106_130, u106_131, u106_137, u106_140, u106_142, e17, e14', e25, eq_false t, hwd, eq_false lf, mj_zT, mj_n10, mj_in_nI hi9 (by decide), mj_nz9 hi9 (by decide), mj_cc_v, mj_cc_n, List.all_cons, List.all_nil, mj_noMk_int, mj_noMk_long, mj_noMk_ref, mj_noMk_junk, List.length_nil, List.length_cons, Nat.zero_le, Nat.reduceLeDiff, Nat.reduceAdd, Bool.and_true, Bool.true_and, Bool.and_self, Nat.reduceBNe, true_or, or_true, true_and, and_true, mj_z0, mj_z1, mj_z01, decide_true, decide_false, Bool.true_and, Bool.false_and, Bool.and_true, Bool.and_false, Bool.true_or, Bool.false_or, Bool.or_false, Bool.or_true, Bool.not_true, Bool.not_false, Bool.and_self, Bool.or_self, if_true, if_false, Bool.true_eq_false, Bool.false_eq_true, not_true, not_false_eq_true]
                exact h134
          · rw [b3, if_pos rfl] at el
            have L2 := mj_Lb_add L (by omega) hi9 hcc.symm
            obtain ⟨ρ, G1, G2, h⟩ := ih (i + 1) _ (.int cc) rfl (by omega) (mj_FB_tr (mj_FB_tr (mj_FB_tr F (mj_FB_I (c := 56) (i := (mj_bkl σ o i).length) (v := nI i) (by decide) (by decide))) (mj_FB_I (c := 57) (i := (mj_bkl σ o i).length) (v := cc) (by decide) (by decide))) (mj_FB_I (c := 55) (i := 3) (v := nI ((mj_bkl σ o i).length + 1)) (by decide) (by decide))) (by rw [el]; exact L2)
            refine ⟨ρ, G1, G2, on (fun _ => True) ρ fun d => ?_⟩
            have hd := h d
            have hwd := hw d
            have l1 := L.1
            rw [hbn] at hd
            rw [eb] at hd
            generalize (mj_bkl σ o i).length = m at *
            have hm9 : m < 9 := by omega
            have h102 : mj_Runs X (mj_ev X (d + 2)) 0 (some .int) prog_2_method_4_code (102, [.ref 55, .ref 14, .int o, .int e, .int bi, .int (nI i), .int cc], [], τ) (some (.int bN), ρ) := by
              have r1 : (mj_setI τ 56 m (nI i)).1 55 3 = nI m := l1
              have r2 : (mj_setI (mj_setI τ 56 m (nI i)) 57 m cc).1 55 3 = nI m := l1
              refine u106_102.mpr ?_
              simp only [u106_0, u106_1, u106_3, u106_4, u106_5, u106_8, u106_9, u106_13, u106_14, u106_17, u106_20, u106_21, u106_23, u106_24, u106_27, u106_30, u106_33, u106_34, u106_37, u106_38, u106_41, u106_42, u106_45, u106_47, u106_48, u106_50, u106_51, u106_53, u106_56, u106_59, u106_61, u106_63, u106_64, u106_66, u106_69, u106_70, u106_73, u106_75, u106_76, u106_77, u106_80, u106_83, u106_84, u106_86, u106_89, u106_92, u106_93, u106_96, u106_98, u106_99, u106_103, u106_106, u106_107, u106_110, u106_112, u106_113, u106_114, u106_117, u106_118, u106_121, u106_123, u106_124, u106_125, u106_126, u106_129, u106_130, u106_131, u106_134, u106_137, u106_140, u106_142, l1, r1, r2, mj_in_nI hm9 (by decide), mj_nz9 hm9 (by decide), nI_1, mj_cc_v, mj_cc_n, List.all_cons, List.all_nil, mj_noMk_int, mj_noMk_long, mj_noMk_ref, mj_noMk_junk, List.length_nil, List.length_cons, Nat.zero_le, Nat.reduceLeDiff, Nat.reduceAdd, Bool.and_true, Bool.true_and, Bool.and_self, Nat.reduceBNe, true_or, or_true, true_and, and_true, mj_z0, mj_z1, mj_z01, decide_true, decide_false, Bool.true_and, Bool.false_and, Bool.and_true, Bool.and_false, Bool.true_or, Bool.false_or, Bool.or_false, Bool.or_true, Bool.not_true, Bool.not_false, Bool.and_self, Bool.or_self, if_true, if_false, Bool.true_eq_false, Bool.false_eq_true, not_true, not_false_eq_true]
              exact hd
            unfold mj_bcd at b3
            rw [b1, b2, Bool.not_false, Bool.true_and, Bool.true_and, Bool.and_eq_true, decide_eq_true_eq] at b3
            obtain ⟨t, b3⟩ := b3
            refine u106_69.mpr ?_
            cases b4 : mj_wk (σ.1 15 i)
            · rw [b4] at hwd
              simp only [u106_0, u106_1, u106_3, u106_4, u106_5, u106_8, u106_9, u106_13, u106_14, u106_17, u106_20, u106_21, u106_23, u106_24, u106_27, u106_30, u106_33, u106_34, u106_37, u106_38, u106_41, u106_42, u106_45, u106_47, u106_48, u106_50, u106_51, u106_53, u106_56, u106_59, u106_61, u106_63, u106_64, u106_66, u106_70, u106_73, u106_75, u106_76, u106_77, u106_80, u106_83, u106_84, u106_86, u106_89, u106_92, u106_93, u106_96, u106_98, u106_99, u106_103, u106_106, u106_107, u106_110, u106_112, u106_113, u106_114, u106_117, u106_118, u106_121, u106_123, u106_124, u106_125, u106_126, u106_129, u106_130, u106_131, u106_134, u106_137, u106_140, u106_142, e17, e14', eq_false t, hwd, mj_zF, mj_in_nI hi9 (by decide), mj_nz9 hi9 (by decide), mj_cc_v, mj_cc_n, List.all_cons, List.all_nil, mj_noMk_int, mj_noMk_long, mj_noMk_ref, mj_noMk_junk, List.length_nil, List.length_cons, Nat.zero_le, Nat.reduceLeDiff, Nat.reduceAdd, Bool.and_true, Bool.true_and, Bool.and_self, Nat.reduceBNe, true_or, or_true, true_and, and_true, mj_z0, mj_z1, mj_z01, decide_true, decide_false, Bool.true_and, Bool.false_and, Bool.and_true, Bool.and_false, Bool.true_or, Bool.false_or, Bool.or_false, Bool.or_true, Bool.not_true, Bool.not_false, Bool.and_self, Bool.or_self, if_true, if_false, Bool.true_eq_false, Bool.false_eq_true, not_true, not_false_eq_true]
              exact h102
            · rw [b4] at b3 hwd
              rw [Bool.not_true, Bool.false_or] at b3
              have lf : 0 < σ.1 25 i := of_decide_eq_true b3
              simp only [u106_0, u106_1, u106_3, u106_4, u106_5, u106_8, u106_9, u106_13, u106_14, u106_17, u106_20, u106_21, u106_23, u106_24, u106_27, u106_30, u106_33, u106_34, u106_37, u106_38, u106_41, u106_42, u106_45, u106_47, u106_48, u106_50, u106_51, u106_53, u106_56, u106_59, u106_61, u106_63, u106_64, u106_66, u106_70, u106_73, u106_75, u106_76, u106_77, u106_80, u106_83, u106_84, u106_86, u106_89, u106_92, u106_93, u106_96, u106_98, u106_99, u106_103, u106_106, u106_107, u106_110, u106_112, u106_113, u106_114, u106_117, u106_118, u106_121, u106_123, u106_124, u106_125, u106_126, u106_129, u106_130, u106_131, u106_134, u106_137, u106_140, u106_142, e17, e14', e25, eq_false t, hwd, eq_true lf, mj_zT, mj_n10, mj_in_nI hi9 (by decide), mj_nz9 hi9 (by decide), mj_cc_v, mj_cc_n, List.all_cons, List.all_nil, mj_noMk_int, mj_noMk_long, mj_noMk_ref, mj_noMk_junk, List.length_nil, List.length_cons, Nat.zero_le, Nat.reduceLeDiff, Nat.reduceAdd, Bool.and_true, Bool.true_and, Bool.and_self, Nat.reduceBNe, true_or, or_true, true_and, and_true, mj_z0, mj_z1, mj_z01, decide_true, decide_false, Bool.true_and, Bool.false_and, Bool.and_true, Bool.and_false, Bool.true_or, Bool.false_or, Bool.or_false, Bool.or_true, Bool.not_true, Bool.not_false, Bool.and_self, Bool.or_self, if_true, if_false, Bool.true_eq_false, Bool.false_eq_true, not_true, not_false_eq_true]
              exact h102
        · have z : mj_bcd σ o i = false := by unfold mj_bcd; rw [b1, b2]; rfl
          rw [b1, b2, Bool.and_self, if_pos rfl] at eb
          obtain ⟨ρ, G1, G2, h⟩ := skip z (.int cc) rfl
          refine ⟨ρ, G1, G2, fun d => ?_⟩
          have hd := h d
          have had := ha d
          have hld := hlo d
          rw [b1] at had
          rw [b2] at hld
          rw [eb] at hd
          have h48 : mj_Runs X (mj_ev X (d + 2)) 0 (some .int) prog_2_method_4_code (48, [.ref 55, .ref 14, .int o, .int e, .int bi, .int (nI i), v], [.int cc], τ) (some (.int bN), ρ) := by
            refine u106_48.mpr ?_
            simp only [u106_0, u106_1, u106_3, u106_4, u106_5, u106_8, u106_9, u106_13, u106_14, u106_17, u106_20, u106_21, u106_23, u106_24, u106_27, u106_30, u106_34, u106_37, u106_38, u106_41, u106_42, u106_45, u106_47, u106_50, u106_51, u106_53, u106_56, u106_59, u106_61, u106_63, u106_64, u106_66, u106_69, u106_70, u106_73, u106_75, u106_76, u106_77, u106_80, u106_83, u106_84, u106_86, u106_89, u106_92, u106_93, u106_96, u106_98, u106_99, u106_102, u106_103, u106_106, u106_107, u106_110, u106_112, u106_113, u106_114, u106_117, u106_118, u106_121, u106_123, u106_124, u106_125, u106_126, u106_129, u106_130, u106_131, u106_134, u106_137, u106_140, u106_142, hld, hv, mj_zT, mj_n10, nI_1, mj_cc_v, mj_cc_n, List.all_cons, List.all_nil, mj_noMk_int, mj_noMk_long, mj_noMk_ref, mj_noMk_junk, List.length_nil, List.length_cons, Nat.zero_le, Nat.reduceLeDiff, Nat.reduceAdd, Bool.and_true, Bool.true_and, Bool.and_self, Nat.reduceBNe, true_or, or_true, true_and, and_true, mj_z0, mj_z1, mj_z01, decide_true, decide_false, Bool.true_and, Bool.false_and, Bool.and_true, Bool.and_false, Bool.true_or, Bool.false_or, Bool.or_false, Bool.or_true, Bool.not_true, Bool.not_false, Bool.and_self, Bool.or_self, if_true, if_false, Bool.true_eq_false, Bool.false_eq_true, not_true, not_false_eq_true]
            exact hd
          have h33 := hcost d _ h48
          refine u106_11.mpr ?_
          simp only [u106_0, u106_1, u106_3, u106_4, u106_5, u106_8, u106_9, u106_13, u106_14, u106_17, u106_20, u106_21, u106_23, u106_24, u106_27, u106_30, u106_34, u106_37, u106_38, u106_41, u106_42, u106_45, u106_47, u106_50, u106_51, u106_53, u106_56, u106_59, u106_61, u106_63, u106_64, u106_66, u106_69, u106_70, u106_73, u106_75, u106_76, u106_77, u106_80, u106_83, u106_84, u106_86, u106_89, u106_92, u106_93, u106_96, u106_98, u106_99, u106_102, u106_103, u106_106, u106_107, u106_110, u106_112, u106_113, u106_114, u106_117, u106_118, u106_121, u106_123, u106_124, u106_125, u106_126, u106_129, u106_130, u106_131, u106_134, u106_137, u106_140, u106_142, e14, q, had, hv, mj_zT, mj_n10, mj_cc_v, mj_cc_n, List.all_cons, List.all_nil, mj_noMk_int, mj_noMk_long, mj_noMk_ref, mj_noMk_junk, List.length_nil, List.length_cons, Nat.zero_le, Nat.reduceLeDiff, Nat.reduceAdd, Bool.and_true, Bool.true_and, Bool.and_self, Nat.reduceBNe, true_or, or_true, true_and, and_true, mj_z0, mj_z1, mj_z01, decide_true, decide_false, Bool.true_and, Bool.false_and, Bool.and_true, Bool.and_false, Bool.true_or, Bool.false_or, Bool.or_false, Bool.or_true, Bool.not_true, Bool.not_false, Bool.and_self, Bool.or_self, if_true, if_false, Bool.true_eq_false, Bool.false_eq_true, not_true, not_false_eq_true]
          exact h33
  have L0 : mj_Lb (mj_setI σ 55 3 0) (mj_bkl σ o 0) (mj_bcs σ e) := ⟨mj_setI_eq, by simp [mj_bkl], fun k hk => absurd hk (by simp [mj_bkl])⟩
  obtain ⟨ρ, F, L, h⟩ := loop N 0 (mj_setI σ 55 3 0) mj_junk rfl (by omega) (mj_FB_I (by decide) (by decide)) L0
  refine ⟨ρ, F, L, fun d => ?_⟩
  have hd := h d
  refine st106 ?_
  simp only [u106_0, u106_1, u106_3, u106_4, u106_5, u106_8, u106_9, u106_13, u106_14, u106_17, u106_20, u106_21, u106_23, u106_24, u106_27, u106_30, u106_33, u106_34, u106_37, u106_38, u106_41, u106_42, u106_45, u106_47, u106_48, u106_50, u106_51, u106_53, u106_56, u106_59, u106_61, u106_63, u106_64, u106_66, u106_69, u106_70, u106_73, u106_75, u106_76, u106_77, u106_80, u106_83, u106_84, u106_86, u106_89, u106_92, u106_93, u106_96, u106_98, u106_99, u106_102, u106_103, u106_106, u106_107, u106_110, u106_112, u106_113, u106_114, u106_117, u106_118, u106_121, u106_123, u106_124, u106_125, u106_126, u106_129, u106_130, u106_131, u106_134, u106_137, u106_140, u106_142, mj_cc_v, mj_cc_n, List.all_cons, List.all_nil, mj_noMk_int, mj_noMk_long, mj_noMk_ref, mj_noMk_junk, List.length_nil, List.length_cons, Nat.zero_le, Nat.reduceLeDiff, Nat.reduceAdd, Bool.and_true, Bool.true_and, Bool.and_self, Nat.reduceBNe, true_or, or_true, true_and, and_true, mj_z0, mj_z1, mj_z01, decide_true, decide_false, Bool.true_and, Bool.false_and, Bool.and_true, Bool.and_false, Bool.true_or, Bool.false_or, Bool.or_false, Bool.or_true, Bool.not_true, Bool.not_false, Bool.and_self, Bool.or_self, if_true, if_false, Bool.true_eq_false, Bool.false_eq_true, not_true, not_false_eq_true]
  exact hd
end
