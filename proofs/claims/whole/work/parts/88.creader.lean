section
variable {X : mj_X} {d : Nat} {σ τ ρ : mj_St}
/-- the same but some fields of one object -/
def mj_Fc (k : Nat) (S : List Nat) (σ ρ : mj_St) : Prop := ρ.2 = σ.2 ∧ (∀ c, c ≠ k → ρ.1 c = σ.1 c) ∧ ∀ i, i ∉ S → ρ.1 k i = σ.1 k i
theorem mj_Fc_rf {k : Nat} {S : List Nat} : mj_Fc k S σ σ := ⟨rfl, fun _ _ => rfl, fun _ _ => rfl⟩
theorem mj_Fc_tr {k : Nat} {S : List Nat} (h : mj_Fc k S σ τ) (h' : mj_Fc k S τ ρ) : mj_Fc k S σ ρ := ⟨h'.1.trans h.1, fun c q => (h'.2.1 c q).trans (h.2.1 c q), fun i q => (h'.2.2 i q).trans (h.2.2 i q)⟩
theorem mj_Fc_sub {k : Nat} {S S' : List Nat} (hS : ∀ i, i ∈ S → i ∈ S') (h : mj_Fc k S σ τ) : mj_Fc k S' σ τ := ⟨h.1, h.2.1, fun i q => h.2.2 i (fun r => q (hS i r))⟩
theorem mj_Fc_set {k : Nat} {S : List Nat} {i : Nat} {v : Int32} (hi : i ∈ S) (h : mj_Fc k S σ τ) : mj_Fc k S σ (mj_setI τ k i v) := by
  refine ⟨h.1, fun c q => ?_, fun j q => ?_⟩
  · rw [mj_setI_ne τ i v q]
    exact h.2.1 c q
  · rw [mj_setI_i (fun r => q (by rw [r]; exact hi))]
    exact h.2.2 j q
/-- the letters of a row of the class -/
def mj_kl (σ : mj_St) (c a : Nat) : Int32 := (σ.2.1 c a).toInt32
/-- the class reads row c, is at a, up to e -/
def mj_kat (σ : mj_St) (c a e : Nat) : Prop := σ.2.2.1 44 0 = some c ∧ 4 ≤ c ∧ c < 12 ∧ σ.1 44 1 = nI e ∧ σ.1 44 2 = nI a ∧ a ≤ e ∧ e ≤ 60
theorem mj_kat_at {c a a' e : Nat} (h : mj_kat σ c a e) (h' : a' ≤ e) : mj_kat (mj_setI σ 44 2 (nI a')) c a' e := ⟨h.1, h.2.1, h.2.2.1, h.2.2.2.1, mj_setI_eq, h', h.2.2.2.2.2.2⟩
theorem mj_kat_set {c a e i : Nat} {v : Int32} (h : mj_kat σ c a e) (hi : i ≠ 1 ∧ i ≠ 2) : mj_kat (mj_setI σ 44 i v) c a e := by
  refine ⟨h.1, h.2.1, h.2.2.1, ?_, ?_, h.2.2.2.2.2⟩
  · rw [mj_setI_i (Ne.symm hi.1)]
    exact h.2.2.2.1
  · rw [mj_setI_i (Ne.symm hi.2)]
    exact h.2.2.2.2.1
theorem mj_kat_Fc {S : List Nat} {c a a' e : Nat} (F : mj_Fc 44 S σ ρ) (hS : 1 ∉ S) (h : mj_kat σ c a e) (h' : a' ≤ e) (ha : ρ.1 44 2 = nI a') : mj_kat ρ c a' e := ⟨by rw [F.1]; exact h.1, h.2.1, h.2.2.1, by rw [F.2.2 1 hS]; exact h.2.2.2.1, ha, h', h.2.2.2.2.2.2⟩
theorem mj_kl_Fc {k : Nat} {S : List Nat} {c : Nat} (F : mj_Fc k S σ ρ) : mj_kl ρ c = mj_kl σ c := by
  unfold mj_kl
  rw [F.1]
theorem mj_kL_row {c a : Nat} {P : Int64 → Prop} (h1 : 4 ≤ c) (h2 : c < 12) (ha : a < 60) : mj_kL σ c (nI a) P = P (σ.2.1 c a) := by
  have hl : mj_lenL σ c = some 60 := by
    have : c = 4 ∨ c = 5 ∨ c = 6 ∨ c = 7 ∨ c = 8 ∨ c = 9 ∨ c = 10 ∨ c = 11 := by omega
    rcases this with q | q | q | q | q | q | q | q <;> subst q <;> rfl
  unfold mj_kL
  rw [hl]
  show (mj_inb (nI a) 60 = true ∧ P (σ.2.1 c (nI a).toNatClampNeg)) = P (σ.2.1 c a)
  rw [mj_in_nI ha (by decide), mj_nz9 ha (by decide)]
  simp
theorem mj_noMk_row {c : Nat} (h : c < 12) : (c != 999) = true := by
  simp
  omega
theorem mj_rf_some {c : Nat} : va_rf (some c) = .ref c := rfl
theorem sp_isBadAt {x : Int32} : mj_ev X (d + 1) 26 [.ref 44, .int x] σ = some (some (.int 0), mj_setI σ 44 3 x) := by
  refine st26 ?_
  simp only [u26_0, u26_1, u26_2, u26_5, u26_6, mj_cc_v, mj_cc_n, List.all_cons, List.all_nil, mj_noMk_int, mj_noMk_long, mj_noMk_ref, mj_noMk_junk, List.length_nil, List.length_cons, Nat.zero_le, Nat.reduceLeDiff, Nat.reduceAdd, Bool.and_true, Bool.true_and, Bool.and_self, Nat.reduceBNe, true_or, or_true, true_and, and_true, mj_z0, mj_z1, mj_z01, decide_true, decide_false, Bool.true_and, Bool.false_and, Bool.and_true, Bool.and_false, Bool.true_or, Bool.false_or, Bool.or_false, Bool.or_true, Bool.not_true, Bool.not_false, Bool.and_self, Bool.or_self, if_true, if_false, Bool.true_eq_false, Bool.false_eq_true, not_true, not_false_eq_true]
theorem mj_tchr_eq {x i k : Nat} {s : String} {w : List Int32} (h : mj_strL[x]? = some (k, s, w)) (hi : i < 2147483648) : mj_tchr (1100 + x) (nI i) = w[i]? := by
  unfold mj_tchr
  rw [if_pos ⟨by omega, nI_nlt (b := 0) (Nat.zero_le _) (by omega)⟩, show 1100 + x - 1100 = x by omega, h, nI_clamp (by omega)]
  rfl
theorem mj_tlen_eq {x k : Nat} {s : String} {w : List Int32} (h : mj_strL[x]? = some (k, s, w)) : mj_tlen (1100 + x) = some (nI w.length) := by
  unfold mj_tlen
  rw [if_pos (by omega), show 1100 + x - 1100 = x by omega, h]
  rfl
theorem sp_reads {c a e x k : Nat} {s : String} {w : List Int32} (hx : mj_strL[x]? = some (k, s, w)) (hw : w.length < 100) (h : mj_kat σ c a e) : mj_ev X (d + 2) 25 [.ref 44, .ref (1100 + x)] σ = some (some (.int (mj_z (mj_tk (mj_kl σ c) e w a).1)), if (mj_tk (mj_kl σ c) e w a).1 = true then mj_setI σ 44 2 (nI (mj_tk (mj_kl σ c) e w a).2) else mj_setI (mj_setI σ 44 2 (nI (mj_tk (mj_kl σ c) e w a).2)) 44 3 (nI (mj_tk (mj_kl σ c) e w a).2)) := by
  have hlen := mj_tlen_eq hx
  have xn : ((1100 + x) != 999) = true := by
    simp
    omega
  have loop : ∀ (v u : List Int32) (a : Nat) (τ : mj_St), w = u ++ v → mj_kat τ c a e → mj_kl τ c = mj_kl σ c → mj_Runs X (mj_ev X (d + 1)) 2 (some .boolean) prog_4_method_7_code (2, [.ref 44, .ref (1100 + x), .int (nI u.length)], [], τ) (some (.int (mj_z (mj_tk (mj_kl σ c) e v a).1)), if (mj_tk (mj_kl σ c) e v a).1 = true then mj_setI τ 44 2 (nI (mj_tk (mj_kl σ c) e v a).2) else mj_setI (mj_setI τ 44 2 (nI (mj_tk (mj_kl σ c) e v a).2)) 44 3 (nI (mj_tk (mj_kl σ c) e v a).2)) := by
    intro v
    induction v with
    | nil =>
      intro u a τ hu h hL
      have e1 : w.length = u.length := by rw [hu, List.append_nil]
      have q : ¬ nI u.length < nI w.length := nI_nlt (by omega) (by omega)
      have es : mj_setI τ 44 2 (nI a) = τ := mj_setI_self h.2.2.2.2.1
      refine u25_2.mpr ?_
      simp only [u25_0, u25_1, u25_3, u25_4, u25_7, u25_10, u25_11, u25_14, u25_15, u25_18, u25_21, u25_22, u25_25, u25_26, u25_29, u25_30, u25_31, u25_32, u25_33, u25_36, u25_39, u25_40, u25_41, u25_44, u25_47, u25_48, u25_49, u25_50, u25_53, u25_54, u25_55, u25_58, u25_61, u25_64, u25_65, hlen, mj_kO, q, mj_tk, es, mj_zT, mj_cc_v, mj_cc_n, List.all_cons, List.all_nil, mj_noMk_int, mj_noMk_long, mj_noMk_ref, mj_noMk_junk, List.length_nil, List.length_cons, Nat.zero_le, Nat.reduceLeDiff, Nat.reduceAdd, Bool.and_true, Bool.true_and, Bool.and_self, Nat.reduceBNe, true_or, or_true, true_and, and_true, mj_z0, mj_z1, mj_z01, decide_true, decide_false, Bool.true_and, Bool.false_and, Bool.and_true, Bool.and_false, Bool.true_or, Bool.false_or, Bool.or_false, Bool.or_true, Bool.not_true, Bool.not_false, Bool.and_self, Bool.or_self, if_true, if_false, Bool.true_eq_false, Bool.false_eq_true, not_true, not_false_eq_true]
    | cons ch v ih =>
      intro u a τ hu h hL
      obtain ⟨h1, h2, h3, h4, h5, h6, h7⟩ := h
      have hul : w.length = u.length + (v.length + 1) := by rw [hu, List.length_append, List.length_cons]
      have q : nI u.length < nI w.length := nI_lt (by omega) (by omega)
      have hch : mj_tchr (1100 + x) (nI u.length) = some ch := by
        rw [mj_tchr_eq hx (by omega), hu]
        simp
      by_cases ca : a < e
      · have qa : nI a < nI e := nI_lt ca (by omega)
        have el : (τ.2.1 c a).toInt32 = mj_kl σ c a := by
          rw [← hL]
          rfl
        by_cases cl : mj_kl σ c a = ch
        · have ek : mj_tk (mj_kl σ c) e (ch :: v) a = mj_tk (mj_kl σ c) e v (a + 1) := by
            simp only [mj_tk]
            rw [if_pos ⟨ca, cl⟩]
          rw [ek]
          have hn := ih (u ++ [ch]) (a + 1) (mj_setI τ 44 2 (nI (a + 1))) (by rw [hu]; simp) (mj_kat_at ⟨h1, h2, h3, h4, h5, h6, h7⟩ (by omega)) hL
          rw [mj_setI_2, List.length_append] at hn
          have e1 : [ch].length = 1 := rfl
          rw [e1] at hn
          refine u25_2.mpr ?_
          simp only [u25_0, u25_1, u25_3, u25_4, u25_7, u25_10, u25_11, u25_14, u25_15, u25_18, u25_21, u25_22, u25_25, u25_26, u25_29, u25_30, u25_31, u25_32, u25_33, u25_36, u25_39, u25_40, u25_41, u25_44, u25_47, u25_48, u25_49, u25_50, u25_53, u25_54, u25_55, u25_58, u25_61, u25_64, u25_65, hlen, mj_kO, q, h5, h4, qa, h1, mj_rf_some, mj_noMk_ref, mj_noMk_row h3, mj_kL_row h2 h3 (show a < 60 by omega), el, hch, eq_true cl, nI_1, xn, mj_cc_v, mj_cc_n, List.all_cons, List.all_nil, mj_noMk_int, mj_noMk_long, mj_noMk_ref, mj_noMk_junk, List.length_nil, List.length_cons, Nat.zero_le, Nat.reduceLeDiff, Nat.reduceAdd, Bool.and_true, Bool.true_and, Bool.and_self, Nat.reduceBNe, true_or, or_true, true_and, and_true, mj_z0, mj_z1, mj_z01, decide_true, decide_false, Bool.true_and, Bool.false_and, Bool.and_true, Bool.and_false, Bool.true_or, Bool.false_or, Bool.or_false, Bool.or_true, Bool.not_true, Bool.not_false, Bool.and_self, Bool.or_self, if_true, if_false, Bool.true_eq_false, Bool.false_eq_true, not_true, not_false_eq_true]
          exact hn
        · have ek : mj_tk (mj_kl σ c) e (ch :: v) a = (false, a) := by
            simp only [mj_tk]
            rw [if_neg (fun z => cl z.2)]
          rw [ek]
          have hb : mj_ev X (d + 1) 26 [.ref 44, .int (nI a)] τ = some (some (.int 0), mj_setI τ 44 3 (nI a)) := sp_isBadAt
          have es : mj_setI τ 44 2 (nI a) = τ := mj_setI_self h5
          refine u25_2.mpr ?_
          simp only [u25_0, u25_1, u25_3, u25_4, u25_7, u25_10, u25_11, u25_14, u25_15, u25_18, u25_21, u25_22, u25_25, u25_26, u25_29, u25_30, u25_31, u25_32, u25_33, u25_36, u25_39, u25_40, u25_41, u25_44, u25_47, u25_48, u25_49, u25_50, u25_53, u25_54, u25_55, u25_58, u25_61, u25_64, u25_65, hlen, mj_kO, q, h5, h4, qa, h1, mj_rf_some, mj_noMk_ref, mj_noMk_row h3, mj_kL_row h2 h3 (show a < 60 by omega), el, hch, eq_false cl, hb, es, xn, mj_zF, mj_cc_v, mj_cc_n, List.all_cons, List.all_nil, mj_noMk_int, mj_noMk_long, mj_noMk_ref, mj_noMk_junk, List.length_nil, List.length_cons, Nat.zero_le, Nat.reduceLeDiff, Nat.reduceAdd, Bool.and_true, Bool.true_and, Bool.and_self, Nat.reduceBNe, true_or, or_true, true_and, and_true, mj_z0, mj_z1, mj_z01, decide_true, decide_false, Bool.true_and, Bool.false_and, Bool.and_true, Bool.and_false, Bool.true_or, Bool.false_or, Bool.or_false, Bool.or_true, Bool.not_true, Bool.not_false, Bool.and_self, Bool.or_self, if_true, if_false, Bool.true_eq_false, Bool.false_eq_true, not_true, not_false_eq_true]
      · have qa : ¬ nI a < nI e := nI_nlt (by omega) (by omega)
        have ek : mj_tk (mj_kl σ c) e (ch :: v) a = (false, a) := by
          simp only [mj_tk]
          rw [if_neg (fun z => ca z.1)]
        rw [ek]
        have hb : mj_ev X (d + 1) 26 [.ref 44, .int (nI a)] τ = some (some (.int 0), mj_setI τ 44 3 (nI a)) := sp_isBadAt
        have es : mj_setI τ 44 2 (nI a) = τ := mj_setI_self h5
        refine u25_2.mpr ?_
        simp only [u25_0, u25_1, u25_3, u25_4, u25_7, u25_10, u25_11, u25_14, u25_15, u25_18, u25_21, u25_22, u25_25, u25_26, u25_29, u25_30, u25_31, u25_32, u25_33, u25_36, u25_39, u25_40, u25_41, u25_44, u25_47, u25_48, u25_49, u25_50, u25_53, u25_54, u25_55, u25_58, u25_61, u25_64, u25_65, hlen, mj_kO, q, h5, h4, qa, hb, es, xn, mj_noMk_ref, mj_zF, mj_cc_v, mj_cc_n, List.all_cons, List.all_nil, mj_noMk_int, mj_noMk_long, mj_noMk_ref, mj_noMk_junk, List.length_nil, List.length_cons, Nat.zero_le, Nat.reduceLeDiff, Nat.reduceAdd, Bool.and_true, Bool.true_and, Bool.and_self, Nat.reduceBNe, true_or, or_true, true_and, and_true, mj_z0, mj_z1, mj_z01, decide_true, decide_false, Bool.true_and, Bool.false_and, Bool.and_true, Bool.and_false, Bool.true_or, Bool.false_or, Bool.or_false, Bool.or_true, Bool.not_true, Bool.not_false, Bool.and_self, Bool.or_self, if_true, if_false, Bool.true_eq_false, Bool.false_eq_true, not_true, not_false_eq_true]
  have hl := loop w [] a σ rfl h rfl
  have e0 : nI ([] : List Int32).length = 0 := rfl
  rw [e0] at hl
  refine st25 ?_
  simp only [u25_0, u25_1, u25_3, u25_4, u25_7, u25_10, u25_11, u25_14, u25_15, u25_18, u25_21, u25_22, u25_25, u25_26, u25_29, u25_30, u25_31, u25_32, u25_33, u25_36, u25_39, u25_40, u25_41, u25_44, u25_47, u25_48, u25_49, u25_50, u25_53, u25_54, u25_55, u25_58, u25_61, u25_64, u25_65]
  exact hl
theorem sp_isDigitHere {c a e : Nat} (h : mj_kat σ c a e) : mj_ev X (d + 1) 28 [.ref 44] σ = some (some (.int (mj_z (mj_dig (mj_kl σ c) e a))), σ) := by
  obtain ⟨h1, h2, h3, h4, h5, h6, h7⟩ := h
  refine st28 ?_
  unfold mj_dig
  by_cases ca : a < e
  · have qa : nI a < nI e := nI_lt ca (by omega)
    have el : (σ.2.1 c a).toInt32 = mj_kl σ c a := rfl
    by_cases c1 : mj_kl σ c a < 48
    · simp only [u28_0, u28_1, u28_4, u28_5, u28_8, u28_11, u28_12, u28_15, u28_16, u28_19, u28_20, u28_21, u28_23, u28_26, u28_27, u28_30, u28_31, u28_34, u28_35, u28_36, u28_38, u28_41, u28_42, u28_45, u28_46, h5, h4, qa, h1, mj_rf_some, mj_noMk_ref, mj_noMk_row h3, mj_kL_row h2 h3 (show a < 60 by omega), el, c1, ca, mj_zF, mj_cc_v, mj_cc_n, List.all_cons, List.all_nil, mj_noMk_int, mj_noMk_long, mj_noMk_ref, mj_noMk_junk, List.length_nil, List.length_cons, Nat.zero_le, Nat.reduceLeDiff, Nat.reduceAdd, Bool.and_true, Bool.true_and, Bool.and_self, Nat.reduceBNe, true_or, or_true, true_and, and_true, mj_z0, mj_z1, mj_z01, decide_true, decide_false, Bool.true_and, Bool.false_and, Bool.and_true, Bool.and_false, Bool.true_or, Bool.false_or, Bool.or_false, Bool.or_true, Bool.not_true, Bool.not_false, Bool.and_self, Bool.or_self, if_true, if_false, Bool.true_eq_false, Bool.false_eq_true, not_true, not_false_eq_true]
    · by_cases c2 : 57 < mj_kl σ c a
      · simp only [u28_0, u28_1, u28_4, u28_5, u28_8, u28_11, u28_12, u28_15, u28_16, u28_19, u28_20, u28_21, u28_23, u28_26, u28_27, u28_30, u28_31, u28_34, u28_35, u28_36, u28_38, u28_41, u28_42, u28_45, u28_46, h5, h4, qa, h1, mj_rf_some, mj_noMk_ref, mj_noMk_row h3, mj_kL_row h2 h3 (show a < 60 by omega), el, c1, c2, ca, mj_zF, mj_cc_v, mj_cc_n, List.all_cons, List.all_nil, mj_noMk_int, mj_noMk_long, mj_noMk_ref, mj_noMk_junk, List.length_nil, List.length_cons, Nat.zero_le, Nat.reduceLeDiff, Nat.reduceAdd, Bool.and_true, Bool.true_and, Bool.and_self, Nat.reduceBNe, true_or, or_true, true_and, and_true, mj_z0, mj_z1, mj_z01, decide_true, decide_false, Bool.true_and, Bool.false_and, Bool.and_true, Bool.and_false, Bool.true_or, Bool.false_or, Bool.or_false, Bool.or_true, Bool.not_true, Bool.not_false, Bool.and_self, Bool.or_self, if_true, if_false, Bool.true_eq_false, Bool.false_eq_true, not_true, not_false_eq_true]
      · simp only [u28_0, u28_1, u28_4, u28_5, u28_8, u28_11, u28_12, u28_15, u28_16, u28_19, u28_20, u28_21, u28_23, u28_26, u28_27, u28_30, u28_31, u28_34, u28_35, u28_36, u28_38, u28_41, u28_42, u28_45, u28_46, h5, h4, qa, h1, mj_rf_some, mj_noMk_ref, mj_noMk_row h3, mj_kL_row h2 h3 (show a < 60 by omega), el, c1, c2, ca, mj_zT, mj_cc_v, mj_cc_n, List.all_cons, List.all_nil, mj_noMk_int, mj_noMk_long, mj_noMk_ref, mj_noMk_junk, List.length_nil, List.length_cons, Nat.zero_le, Nat.reduceLeDiff, Nat.reduceAdd, Bool.and_true, Bool.true_and, Bool.and_self, Nat.reduceBNe, true_or, or_true, true_and, and_true, mj_z0, mj_z1, mj_z01, decide_true, decide_false, Bool.true_and, Bool.false_and, Bool.and_true, Bool.and_false, Bool.true_or, Bool.false_or, Bool.or_false, Bool.or_true, Bool.not_true, Bool.not_false, Bool.and_self, Bool.or_self, if_true, if_false, Bool.true_eq_false, Bool.false_eq_true, not_true, not_false_eq_true]
  · have qa : ¬ nI a < nI e := nI_nlt (by omega) (by omega)
    simp only [u28_0, u28_1, u28_4, u28_5, u28_8, u28_11, u28_12, u28_15, u28_16, u28_19, u28_20, u28_21, u28_23, u28_26, u28_27, u28_30, u28_31, u28_34, u28_35, u28_36, u28_38, u28_41, u28_42, u28_45, u28_46, h5, h4, qa, ca, mj_zF, mj_cc_v, mj_cc_n, List.all_cons, List.all_nil, mj_noMk_int, mj_noMk_long, mj_noMk_ref, mj_noMk_junk, List.length_nil, List.length_cons, Nat.zero_le, Nat.reduceLeDiff, Nat.reduceAdd, Bool.and_true, Bool.true_and, Bool.and_self, Nat.reduceBNe, true_or, or_true, true_and, and_true, mj_z0, mj_z1, mj_z01, decide_true, decide_false, Bool.true_and, Bool.false_and, Bool.and_true, Bool.and_false, Bool.true_or, Bool.false_or, Bool.or_false, Bool.or_true, Bool.not_true, Bool.not_false, Bool.and_self, Bool.or_self, if_true, if_false, Bool.true_eq_false, Bool.false_eq_true, not_true, not_false_eq_true]
/-- where a number ends, the number: at most so many digits -/
def mj_dnum (L : Nat → Int32) (e a : Nat) : Nat → Int32 → Nat × Int32
  | 0, v => (a, v)
  | n + 1, v => if mj_dig L e a = true then mj_dnum L e (a + 1) n (v * 10 + L a - 48) else (a, v)
theorem mj_dnum_le {L : Nat → Int32} {e : Nat} : ∀ (n a : Nat) (v : Int32), a ≤ e → a ≤ (mj_dnum L e a n v).1 ∧ (mj_dnum L e a n v).1 ≤ e := by
  intro n
  induction n with
  | zero => intro a v h; exact ⟨Nat.le_refl _, h⟩
  | succ n ih =>
    intro a v h
    simp only [mj_dnum]
    by_cases c : mj_dig L e a = true
    · rw [if_pos c]
      have := mj_dig_lt c
      have := ih (a + 1) (v * 10 + L a - 48) (by omega)
      omega
    · rw [if_neg c]
      exact ⟨Nat.le_refl _, h⟩
/-- whether a number of the class's stands -/
def mj_nok (L : Nat → Int32) (e a n : Nat) (lo hi : Int32) : Bool := decide (¬ (mj_dnum L e a n 0).1 = a) && (decide (¬ (mj_dnum L e a n 0).2 < lo) && decide (¬ hi < (mj_dnum L e a n 0).2))
theorem sp_numberOf {c a e n : Nat} {lo hi : Int32} (hn : n < 10) (h : mj_kat σ c a e) : mj_ev X (d + 2) 27 [.ref 44, .int (nI n), .int lo, .int hi] σ = some (if mj_nok (mj_kl σ c) e a n lo hi = true then (some (.int (mj_dnum (mj_kl σ c) e a n 0).2), mj_setI σ 44 2 (nI (mj_dnum (mj_kl σ c) e a n 0).1)) else (some (.int (-1)), mj_setI (mj_setI σ 44 2 (nI (mj_dnum (mj_kl σ c) e a n 0).1)) 44 3 (nI a))) := by
  have fin : ∀ (p : Nat) (v : Int32) (i : Int32), (mj_dnum (mj_kl σ c) e a n 0) = (p, v) → p < 100 → mj_Runs X (mj_ev X (d + 1)) 2 (some .int) prog_4_method_9_code (62, [.ref 44, .int (nI n), .int lo, .int hi, .int (nI a), .int v, .int i], [], mj_setI σ 44 2 (nI p)) (if mj_nok (mj_kl σ c) e a n lo hi = true then (some (.int (mj_dnum (mj_kl σ c) e a n 0).2), mj_setI σ 44 2 (nI (mj_dnum (mj_kl σ c) e a n 0).1)) else (some (.int (-1)), mj_setI (mj_setI σ 44 2 (nI (mj_dnum (mj_kl σ c) e a n 0).1)) 44 3 (nI a))) := by
    intro p v i hp h100
    unfold mj_nok
    rw [hp]
    have ha100 : a < 100 := by
      have := h.2.2.2.2.2
      omega
    have x2 : (mj_setI σ 44 2 (nI p)).1 44 2 = nI p := mj_setI_eq
    have hb : mj_ev X (d + 1) 26 [.ref 44, .int (nI a)] (mj_setI σ 44 2 (nI p)) = some (some (.int 0), mj_setI (mj_setI σ 44 2 (nI p)) 44 3 (nI a)) := sp_isBadAt
    refine u27_62.mpr ?_
    by_cases c1 : p = a
    · have c1i : (nI p = nI a) = True := by rw [c1]; simp
      simp only [u27_0, u27_1, u27_4, u27_6, u27_7, u27_9, u27_10, u27_14, u27_15, u27_18, u27_19, u27_22, u27_25, u27_27, u27_29, u27_30, u27_31, u27_34, u27_35, u27_38, u27_39, u27_40, u27_41, u27_43, u27_44, u27_46, u27_47, u27_48, u27_51, u27_52, u27_53, u27_56, u27_59, u27_63, u27_66, u27_68, u27_71, u27_73, u27_74, u27_77, u27_79, u27_80, u27_83, u27_84, u27_86, u27_89, u27_90, u27_91, u27_92, u27_94, x2, c1i, hb, eq_true c1, mj_cc_v, mj_cc_n, List.all_cons, List.all_nil, mj_noMk_int, mj_noMk_long, mj_noMk_ref, mj_noMk_junk, List.length_nil, List.length_cons, Nat.zero_le, Nat.reduceLeDiff, Nat.reduceAdd, Bool.and_true, Bool.true_and, Bool.and_self, Nat.reduceBNe, true_or, or_true, true_and, and_true, mj_z0, mj_z1, mj_z01, decide_true, decide_false, Bool.true_and, Bool.false_and, Bool.and_true, Bool.and_false, Bool.true_or, Bool.false_or, Bool.or_false, Bool.or_true, Bool.not_true, Bool.not_false, Bool.and_self, Bool.or_self, if_true, if_false, Bool.true_eq_false, Bool.false_eq_true, not_true, not_false_eq_true]
    · have c1i : ¬ nI p = nI a := fun z => c1 ((nI_eq (by omega) (by omega)).mp z)
      by_cases c2 : v < lo
      · simp only [u27_0, u27_1, u27_4, u27_6, u27_7, u27_9, u27_10, u27_14, u27_15, u27_18, u27_19, u27_22, u27_25, u27_27, u27_29, u27_30, u27_31, u27_34, u27_35, u27_38, u27_39, u27_40, u27_41, u27_43, u27_44, u27_46, u27_47, u27_48, u27_51, u27_52, u27_53, u27_56, u27_59, u27_63, u27_66, u27_68, u27_71, u27_73, u27_74, u27_77, u27_79, u27_80, u27_83, u27_84, u27_86, u27_89, u27_90, u27_91, u27_92, u27_94, x2, c1i, hb, c1, c2, mj_cc_v, mj_cc_n, List.all_cons, List.all_nil, mj_noMk_int, mj_noMk_long, mj_noMk_ref, mj_noMk_junk, List.length_nil, List.length_cons, Nat.zero_le, Nat.reduceLeDiff, Nat.reduceAdd, Bool.and_true, Bool.true_and, Bool.and_self, Nat.reduceBNe, true_or, or_true, true_and, and_true, mj_z0, mj_z1, mj_z01, decide_true, decide_false, Bool.true_and, Bool.false_and, Bool.and_true, Bool.and_false, Bool.true_or, Bool.false_or, Bool.or_false, Bool.or_true, Bool.not_true, Bool.not_false, Bool.and_self, Bool.or_self, if_true, if_false, Bool.true_eq_false, Bool.false_eq_true, not_true, not_false_eq_true]
      · by_cases c3 : hi < v
        · simp only [u27_0, u27_1, u27_4, u27_6, u27_7, u27_9, u27_10, u27_14, u27_15, u27_18, u27_19, u27_22, u27_25, u27_27, u27_29, u27_30, u27_31, u27_34, u27_35, u27_38, u27_39, u27_40, u27_41, u27_43, u27_44, u27_46, u27_47, u27_48, u27_51, u27_52, u27_53, u27_56, u27_59, u27_63, u27_66, u27_68, u27_71, u27_73, u27_74, u27_77, u27_79, u27_80, u27_83, u27_84, u27_86, u27_89, u27_90, u27_91, u27_92, u27_94, x2, c1i, hb, c1, c2, c3, mj_cc_v, mj_cc_n, List.all_cons, List.all_nil, mj_noMk_int, mj_noMk_long, mj_noMk_ref, mj_noMk_junk, List.length_nil, List.length_cons, Nat.zero_le, Nat.reduceLeDiff, Nat.reduceAdd, Bool.and_true, Bool.true_and, Bool.and_self, Nat.reduceBNe, true_or, or_true, true_and, and_true, mj_z0, mj_z1, mj_z01, decide_true, decide_false, Bool.true_and, Bool.false_and, Bool.and_true, Bool.and_false, Bool.true_or, Bool.false_or, Bool.or_false, Bool.or_true, Bool.not_true, Bool.not_false, Bool.and_self, Bool.or_self, if_true, if_false, Bool.true_eq_false, Bool.false_eq_true, not_true, not_false_eq_true]
        · simp only [u27_0, u27_1, u27_4, u27_6, u27_7, u27_9, u27_10, u27_14, u27_15, u27_18, u27_19, u27_22, u27_25, u27_27, u27_29, u27_30, u27_31, u27_34, u27_35, u27_38, u27_39, u27_40, u27_41, u27_43, u27_44, u27_46, u27_47, u27_48, u27_51, u27_52, u27_53, u27_56, u27_59, u27_63, u27_66, u27_68, u27_71, u27_73, u27_74, u27_77, u27_79, u27_80, u27_83, u27_84, u27_86, u27_89, u27_90, u27_91, u27_92, u27_94, x2, c1i, c1, c2, c3, mj_cc_v, mj_cc_n, List.all_cons, List.all_nil, mj_noMk_int, mj_noMk_long, mj_noMk_ref, mj_noMk_junk, List.length_nil, List.length_cons, Nat.zero_le, Nat.reduceLeDiff, Nat.reduceAdd, Bool.and_true, Bool.true_and, Bool.and_self, Nat.reduceBNe, true_or, or_true, true_and, and_true, mj_z0, mj_z1, mj_z01, decide_true, decide_false, Bool.true_and, Bool.false_and, Bool.and_true, Bool.and_false, Bool.true_or, Bool.false_or, Bool.or_false, Bool.or_true, Bool.not_true, Bool.not_false, Bool.and_self, Bool.or_self, if_true, if_false, Bool.true_eq_false, Bool.false_eq_true, not_true, not_false_eq_true]
  have loop : ∀ (j k p : Nat) (v : Int32), k + j = n → p ≤ e → mj_dnum (mj_kl σ c) e p j v = mj_dnum (mj_kl σ c) e a n 0 → mj_Runs X (mj_ev X (d + 1)) 2 (some .int) prog_4_method_9_code (12, [.ref 44, .int (nI n), .int lo, .int hi, .int (nI a), .int v, .int (nI k)], [], mj_setI σ 44 2 (nI p)) (if mj_nok (mj_kl σ c) e a n lo hi = true then (some (.int (mj_dnum (mj_kl σ c) e a n 0).2), mj_setI σ 44 2 (nI (mj_dnum (mj_kl σ c) e a n 0).1)) else (some (.int (-1)), mj_setI (mj_setI σ 44 2 (nI (mj_dnum (mj_kl σ c) e a n 0).1)) 44 3 (nI a))) := by
    intro j
    induction j with
    | zero =>
      intro k p v hk hp hd
      have q : ¬ nI k < nI n := nI_nlt (by omega) (by omega)
      have hf := fin p v (nI k) hd.symm (by have := h.2.2.2.2.2.2; omega)
      refine u27_12.mpr ?_
      simp only [u27_0, u27_1, u27_4, u27_6, u27_7, u27_9, u27_10, u27_14, u27_15, u27_18, u27_19, u27_22, u27_25, u27_27, u27_29, u27_30, u27_31, u27_34, u27_35, u27_38, u27_39, u27_40, u27_41, u27_43, u27_44, u27_46, u27_47, u27_48, u27_51, u27_52, u27_53, u27_56, u27_59, u27_63, u27_66, u27_68, u27_71, u27_73, u27_74, u27_77, u27_79, u27_80, u27_83, u27_84, u27_86, u27_89, u27_90, u27_91, u27_92, u27_94, q, mj_cc_v, mj_cc_n, List.all_cons, List.all_nil, mj_noMk_int, mj_noMk_long, mj_noMk_ref, mj_noMk_junk, List.length_nil, List.length_cons, Nat.zero_le, Nat.reduceLeDiff, Nat.reduceAdd, Bool.and_true, Bool.true_and, Bool.and_self, Nat.reduceBNe, true_or, or_true, true_and, and_true, mj_z0, mj_z1, mj_z01, decide_true, decide_false, Bool.true_and, Bool.false_and, Bool.and_true, Bool.and_false, Bool.true_or, Bool.false_or, Bool.or_false, Bool.or_true, Bool.not_true, Bool.not_false, Bool.and_self, Bool.or_self, if_true, if_false, Bool.true_eq_false, Bool.false_eq_true, not_true, not_false_eq_true]
      exact hf
    | succ j ih =>
      intro k p v hk hp hd
      have q : nI k < nI n := nI_lt (by omega) (by omega)
      have hat := mj_kat_at h hp
      have hdg : mj_ev X (d + 1) 28 [.ref 44] (mj_setI σ 44 2 (nI p)) = some (some (.int (mj_z (mj_dig (mj_kl σ c) e p))), mj_setI σ 44 2 (nI p)) := sp_isDigitHere hat
      simp only [mj_dnum] at hd
      rcases (Bool.eq_false_or_eq_true (mj_dig (mj_kl σ c) e p)).symm with c1 | c1
      · rw [c1] at hdg
        rw [if_neg (by rw [c1]; decide)] at hd
        have hf := fin p v (nI k) hd.symm (by have := h.2.2.2.2.2.2; omega)
        refine u27_12.mpr ?_
        simp only [u27_0, u27_1, u27_4, u27_6, u27_7, u27_9, u27_10, u27_14, u27_15, u27_18, u27_19, u27_22, u27_25, u27_27, u27_29, u27_30, u27_31, u27_34, u27_35, u27_38, u27_39, u27_40, u27_41, u27_43, u27_44, u27_46, u27_47, u27_48, u27_51, u27_52, u27_53, u27_56, u27_59, u27_63, u27_66, u27_68, u27_71, u27_73, u27_74, u27_77, u27_79, u27_80, u27_83, u27_84, u27_86, u27_89, u27_90, u27_91, u27_92, u27_94, q, hdg, mj_zF, mj_cc_v, mj_cc_n, List.all_cons, List.all_nil, mj_noMk_int, mj_noMk_long, mj_noMk_ref, mj_noMk_junk, List.length_nil, List.length_cons, Nat.zero_le, Nat.reduceLeDiff, Nat.reduceAdd, Bool.and_true, Bool.true_and, Bool.and_self, Nat.reduceBNe, true_or, or_true, true_and, and_true, mj_z0, mj_z1, mj_z01, decide_true, decide_false, Bool.true_and, Bool.false_and, Bool.and_true, Bool.and_false, Bool.true_or, Bool.false_or, Bool.or_false, Bool.or_true, Bool.not_true, Bool.not_false, Bool.and_self, Bool.or_self, if_true, if_false, Bool.true_eq_false, Bool.false_eq_true, not_true, not_false_eq_true]
        exact hf
      · rw [c1] at hdg
        rw [if_pos c1] at hd
        have hpe := mj_dig_lt c1
        have hnx := ih (k + 1) (p + 1) _ (by omega) (by omega) hd
        obtain ⟨h1, h2, h3, h4, h5, h6, h7⟩ := hat
        have el : ((mj_setI σ 44 2 (nI p)).2.1 c p).toInt32 = mj_kl σ c p := rfl
        refine u27_12.mpr ?_
        simp only [u27_0, u27_1, u27_4, u27_6, u27_7, u27_9, u27_10, u27_14, u27_15, u27_18, u27_19, u27_22, u27_25, u27_27, u27_29, u27_30, u27_31, u27_34, u27_35, u27_38, u27_39, u27_40, u27_41, u27_43, u27_44, u27_46, u27_47, u27_48, u27_51, u27_52, u27_53, u27_56, u27_59, u27_63, u27_66, u27_68, u27_71, u27_73, u27_74, u27_77, u27_79, u27_80, u27_83, u27_84, u27_86, u27_89, u27_90, u27_91, u27_92, u27_94, q, hdg, h1, h5, mj_rf_some, mj_noMk_ref, mj_noMk_row h3, mj_kL_row h2 h3 (show p < 60 by omega), el, mj_setI_2, mj_zT, mj_n10, nI_1, mj_cc_v, mj_cc_n, List.all_cons, List.all_nil, mj_noMk_int, mj_noMk_long, mj_noMk_ref, mj_noMk_junk, List.length_nil, List.length_cons, Nat.zero_le, Nat.reduceLeDiff, Nat.reduceAdd, Bool.and_true, Bool.true_and, Bool.and_self, Nat.reduceBNe, true_or, or_true, true_and, and_true, mj_z0, mj_z1, mj_z01, decide_true, decide_false, Bool.true_and, Bool.false_and, Bool.and_true, Bool.and_false, Bool.true_or, Bool.false_or, Bool.or_false, Bool.or_true, Bool.not_true, Bool.not_false, Bool.and_self, Bool.or_self, if_true, if_false, Bool.true_eq_false, Bool.false_eq_true, not_true, not_false_eq_true]
        exact hnx
  have hl := loop n 0 a 0 (by omega) h.2.2.2.2.2.1 rfl
  have e0 : nI 0 = 0 := rfl
  have es : mj_setI σ 44 2 (nI a) = σ := mj_setI_self h.2.2.2.2.1
  rw [e0, es] at hl
  have h5 := h.2.2.2.2.1
  refine st27 ?_
  simp only [u27_0, u27_1, u27_4, u27_6, u27_7, u27_9, u27_10, u27_14, u27_15, u27_18, u27_19, u27_22, u27_25, u27_27, u27_29, u27_30, u27_31, u27_34, u27_35, u27_38, u27_39, u27_40, u27_41, u27_43, u27_44, u27_46, u27_47, u27_48, u27_51, u27_52, u27_53, u27_56, u27_59, u27_63, u27_66, u27_68, u27_71, u27_73, u27_74, u27_77, u27_79, u27_80, u27_83, u27_84, u27_86, u27_89, u27_90, u27_91, u27_92, u27_94, h5]
  exact hl
/-- the class's numbers of one digit are the reference's -/
theorem mj_nok_1 {L : Nat → Int32} {e a : Nat} {lo hi : Int32} : mj_nok L e a 1 lo hi = mj_dg L e lo hi a ∧ (mj_dg L e lo hi a = true → mj_dnum L e a 1 0 = (a + 1, L a - 48)) := by
  have e1 : (0 : Int32) * 10 + L a - 48 = L a - 48 := by grind
  unfold mj_nok mj_dg
  rcases (Bool.eq_false_or_eq_true (mj_dig L e a)).symm with c | c
  · have k0 : mj_dnum L e a 1 0 = (a, 0) := by
      simp only [mj_dnum]
      rw [if_neg (by rw [c]; decide)]
    rw [c, k0]
    simp
  · have k0 : mj_dnum L e a 1 0 = (a + 1, L a - 48) := by
      simp only [mj_dnum]
      rw [if_pos c, e1]
    rw [c, k0]
    simp
theorem mj_nok_2 {L : Nat → Int32} {e a : Nat} {lo hi : Int32} : mj_nok L e a 2 lo hi = (mj_dig L e a && (decide (¬ (mj_ds L e a).2 < lo) && decide (¬ hi < (mj_ds L e a).2))) ∧ (mj_dig L e a = true → mj_dnum L e a 2 0 = (a + (mj_ds L e a).1, (mj_ds L e a).2)) := by
  have e1 : (0 : Int32) * 10 + L a - 48 = L a - 48 := by grind
  have e2 : (L a - 48) * 10 + L (a + 1) - 48 = 10 * (L a - 48) + L (a + 1) - 48 := by grind
  have key : mj_dig L e a = true → mj_dnum L e a 2 0 = (a + (mj_ds L e a).1, (mj_ds L e a).2) := by
    intro c
    unfold mj_ds
    simp only [mj_dnum]
    rw [if_pos c, e1]
    by_cases c2 : mj_dig L e (a + 1) = true
    · rw [if_pos c2, if_pos c2, e2]
      rfl
    · rw [if_neg c2, if_neg c2]
  refine ⟨?_, key⟩
  unfold mj_nok
  rcases (Bool.eq_false_or_eq_true (mj_dig L e a)).symm with c | c
  · have k0 : mj_dnum L e a 2 0 = (a, 0) := by
      simp only [mj_dnum]
      rw [if_neg (by rw [c]; decide)]
    rw [c, k0]
    simp
  · rw [c, key c]
    have h1 : ¬ a + (mj_ds L e a).1 = a := by
      unfold mj_ds
      split
      · show ¬ a + 2 = a
        omega
      · show ¬ a + 1 = a
        omega
    rw [decide_eq_true h1]
end
