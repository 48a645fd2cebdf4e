section
variable {X : mj_X} {d : Nat} {σ τ ρ : mj_St}
theorem mj_nIm1 {p : Nat} (h : p < 100) : ¬ nI p = -1 := by
  intro z
  have := congrArg Int32.toInt z
  rw [nI_toInt (by omega)] at this
  have e1 : (-1 : Int32).toInt = -1 := by decide
  omega
theorem sp_letterAt {c a e p : Nat} (h : mj_kat σ c a e) : mj_ev X (d + 1) 23 [.ref 44, .int (nI p)] σ = some (some (.int (if p < e then mj_kl σ c p else -1)), σ) ∨ 2147483647 < p := by
  by_cases hp : 2147483647 < p
  · exact Or.inr hp
  left
  obtain ⟨h1, h2, h3, h4, h5, h6, h7⟩ := h
  have q0 : ¬ nI p < 0 := nI_nlt (b := 0) (Nat.zero_le _) (by omega)
  refine st23 ?_
  by_cases cp : p < e
  · have q : nI p < nI e := nI_lt cp (by omega)
    have el : (σ.2.1 c p).toInt32 = mj_kl σ c p := rfl
    simp only [u23_0, u23_1, u23_4, u23_5, u23_6, u23_9, u23_12, u23_13, u23_16, u23_17, u23_18, u23_19, u23_22, u23_23, q0, h4, q, h1, mj_rf_some, mj_noMk_ref, mj_noMk_row h3, mj_kL_row h2 h3 (show p < 60 by omega), el, cp, mj_cc_v, mj_cc_n, List.all_cons, List.all_nil, mj_noMk_int, mj_noMk_long, mj_noMk_ref, mj_noMk_junk, List.length_nil, List.length_cons, Nat.zero_le, Nat.reduceLeDiff, Nat.reduceAdd, Bool.and_true, Bool.true_and, Bool.and_self, Nat.reduceBNe, true_or, or_true, true_and, and_true, mj_z0, mj_z1, mj_z01, decide_true, decide_false, Bool.true_and, Bool.false_and, Bool.and_true, Bool.and_false, Bool.true_or, Bool.false_or, Bool.or_false, Bool.or_true, Bool.not_true, Bool.not_false, Bool.and_self, Bool.or_self, if_true, if_false, Bool.true_eq_false, Bool.false_eq_true, not_true, not_false_eq_true]
  · have q : ¬ nI p < nI e := nI_nlt (by omega) (by omega)
    simp only [u23_0, u23_1, u23_4, u23_5, u23_6, u23_9, u23_12, u23_13, u23_16, u23_17, u23_18, u23_19, u23_22, u23_23, q0, h4, q, cp, mj_cc_v, mj_cc_n, List.all_cons, List.all_nil, mj_noMk_int, mj_noMk_long, mj_noMk_ref, mj_noMk_junk, List.length_nil, List.length_cons, Nat.zero_le, Nat.reduceLeDiff, Nat.reduceAdd, Bool.and_true, Bool.true_and, Bool.and_self, Nat.reduceBNe, true_or, or_true, true_and, and_true, mj_z0, mj_z1, mj_z01, decide_true, decide_false, Bool.true_and, Bool.false_and, Bool.and_true, Bool.and_false, Bool.true_or, Bool.false_or, Bool.or_false, Bool.or_true, Bool.not_true, Bool.not_false, Bool.and_self, Bool.or_self, if_true, if_false, Bool.true_eq_false, Bool.false_eq_true, not_true, not_false_eq_true]
theorem mj_gw_cons {L : Nat → Int32} {e : Nat} {ch lo hi : Int32} {w : List Int32} (h : 0 < e ∧ L 0 = ch) : mj_gw L e (ch :: w) lo hi 0 = mj_gw L e w lo hi 1 := by
  have e1 : mj_tk L e (ch :: w) 0 = mj_tk L e w 1 := by
    simp only [mj_tk]
    rw [if_pos h]
  unfold mj_gw
  rw [e1]
theorem sp_numberOf1 {c a e : Nat} {lo hi : Int32} (h : mj_kat σ c a e) : ∃ ρ, mj_Fc 44 [2, 3] σ ρ ∧ (mj_dg (mj_kl σ c) e lo hi a = true → ρ.1 44 2 = nI (a + 1) ∧ ρ.1 44 3 = σ.1 44 3) ∧ (mj_dg (mj_kl σ c) e lo hi a = false → ρ.1 44 3 = nI a) ∧ ∀ d, mj_ev X (d + 2) 27 [.ref 44, .int 1, .int lo, .int hi] σ = some (some (.int (if mj_dg (mj_kl σ c) e lo hi a = true then mj_kl σ c a - 48 else -1)), ρ) := by
  have key : ∀ d, mj_ev X (d + 2) 27 [.ref 44, .int 1, .int lo, .int hi] σ = _ := fun d => sp_numberOf (X := X) (d := d) (n := 1) (lo := lo) (hi := hi) (by decide) h
  obtain ⟨k1, k2⟩ := mj_nok_1 (L := mj_kl σ c) (e := e) (a := a) (lo := lo) (hi := hi)
  rw [k1] at key
  rcases (Bool.eq_false_or_eq_true (mj_dg (mj_kl σ c) e lo hi a)).symm with q | q
  · rw [q] at key ⊢
    simp only [decide_true, decide_false, Bool.true_and, Bool.false_and, Bool.and_true, Bool.and_false, Bool.true_or, Bool.false_or, Bool.or_false, Bool.or_true, Bool.not_true, Bool.not_false, Bool.and_self, Bool.or_self, if_true, if_false, Bool.true_eq_false, Bool.false_eq_true, not_true, not_false_eq_true] at key ⊢
    exact ⟨_, mj_Fc_set (by decide) (mj_Fc_set (by decide) mj_Fc_rf), fun z => z.elim, fun _ => mj_setI_eq, key⟩
  · rw [k2 q, q] at key
    rw [q]
    simp only [decide_true, decide_false, Bool.true_and, Bool.false_and, Bool.and_true, Bool.and_false, Bool.true_or, Bool.false_or, Bool.or_false, Bool.or_true, Bool.not_true, Bool.not_false, Bool.and_self, Bool.or_self, if_true, if_false, Bool.true_eq_false, Bool.false_eq_true, not_true, not_false_eq_true] at key ⊢
    exact ⟨_, mj_Fc_set (by decide) mj_Fc_rf, fun _ => ⟨mj_setI_eq, mj_setI_i (by decide)⟩, fun z => z.elim, key⟩
theorem sp_numberOf2 {c a e : Nat} {lo hi : Int32} (h : mj_kat σ c a e) : ∃ ρ, mj_Fc 44 [2, 3] σ ρ ∧ ((mj_dig (mj_kl σ c) e a && (decide (¬ (mj_ds (mj_kl σ c) e a).2 < lo) && decide (¬ hi < (mj_ds (mj_kl σ c) e a).2))) = true → ρ.1 44 2 = nI (a + (mj_ds (mj_kl σ c) e a).1) ∧ ρ.1 44 3 = σ.1 44 3) ∧ ((mj_dig (mj_kl σ c) e a && (decide (¬ (mj_ds (mj_kl σ c) e a).2 < lo) && decide (¬ hi < (mj_ds (mj_kl σ c) e a).2))) = false → ρ.1 44 3 = nI a) ∧ ∀ d, mj_ev X (d + 2) 27 [.ref 44, .int 2, .int lo, .int hi] σ = some (some (.int (if (mj_dig (mj_kl σ c) e a && (decide (¬ (mj_ds (mj_kl σ c) e a).2 < lo) && decide (¬ hi < (mj_ds (mj_kl σ c) e a).2))) = true then (mj_ds (mj_kl σ c) e a).2 else -1)), ρ) := by
  have key : ∀ d, mj_ev X (d + 2) 27 [.ref 44, .int 2, .int lo, .int hi] σ = _ := fun d => sp_numberOf (X := X) (d := d) (n := 2) (lo := lo) (hi := hi) (by decide) h
  obtain ⟨k1, k2⟩ := mj_nok_2 (L := mj_kl σ c) (e := e) (a := a) (lo := lo) (hi := hi)
  rw [k1] at key
  generalize hb : (mj_dig (mj_kl σ c) e a && (decide (¬ (mj_ds (mj_kl σ c) e a).2 < lo) && decide (¬ hi < (mj_ds (mj_kl σ c) e a).2))) = b at *
  cases b
  · simp only [decide_true, decide_false, Bool.true_and, Bool.false_and, Bool.and_true, Bool.and_false, Bool.true_or, Bool.false_or, Bool.or_false, Bool.or_true, Bool.not_true, Bool.not_false, Bool.and_self, Bool.or_self, if_true, if_false, Bool.true_eq_false, Bool.false_eq_true, not_true, not_false_eq_true] at key ⊢
    exact ⟨_, mj_Fc_set (by decide) (mj_Fc_set (by decide) mj_Fc_rf), fun z => z.elim, fun _ => mj_setI_eq, key⟩
  · simp only [Bool.and_eq_true] at hb
    rw [k2 hb.1] at key
    simp only [decide_true, decide_false, Bool.true_and, Bool.false_and, Bool.and_true, Bool.and_false, Bool.true_or, Bool.false_or, Bool.or_false, Bool.or_true, Bool.not_true, Bool.not_false, Bool.and_self, Bool.or_self, if_true, if_false, Bool.true_eq_false, Bool.false_eq_true, not_true, not_false_eq_true] at key ⊢
    exact ⟨_, mj_Fc_set (by decide) mj_Fc_rf, fun _ => ⟨mj_setI_eq, mj_setI_i (by decide)⟩, fun z => z.elim, key⟩
theorem sp_readHeadAs {c e x k : Nat} {s : String} {w : List Int32} {kd lo hi : Int32} (hx : mj_strL[x]? = some (k, s, w)) (hw : w.length < 100) (h : mj_kat σ c 0 e) (hb : σ.1 44 3 = -1) : ∃ ρ, mj_Fc 44 [2, 3, 4, 5, 8] σ ρ ∧ ((mj_gw (mj_kl σ c) e w lo hi 0).1 = true → ρ.1 44 2 = nI (mj_gw (mj_kl σ c) e w lo hi 0).2.1 ∧ ρ.1 44 3 = -1 ∧ ρ.1 44 4 = kd ∧ ρ.1 44 5 = (mj_gw (mj_kl σ c) e w lo hi 0).2.2 ∧ ρ.1 44 8 = if kd = 5 then (mj_gw (mj_kl σ c) e w lo hi 0).2.2 else σ.1 44 8) ∧ ((mj_gw (mj_kl σ c) e w lo hi 0).1 = false → ρ.1 44 3 = nI (mj_gw (mj_kl σ c) e w lo hi 0).2.1) ∧ ∀ d, mj_ev X (d + 3) 24 [.ref 44, .int kd, .ref (1100 + x), .int lo, .int hi] σ = some (some (.int (mj_z (mj_gw (mj_kl σ c) e w lo hi 0).1)), ρ) := by
  have h1 : mj_kat (mj_setI σ 44 4 kd) c 0 e := mj_kat_set h (by decide)
  have xn : ((1100 + x) != 999) = true := by
    simp
    omega
  have hrd : ∀ d, mj_ev X (d + 2) 25 [.ref 44, .ref (1100 + x)] (mj_setI σ 44 4 kd) = _ := fun d => sp_reads (X := X) (d := d) hx hw h1
  have eL : mj_kl (mj_setI σ 44 4 kd) c = mj_kl σ c := rfl
  rw [eL] at hrd
  have hle := mj_tk_le (L := mj_kl σ c) w 0 (Nat.zero_le e)
  have he60 := h.2.2.2.2.2.2
  rcases (Bool.eq_false_or_eq_true (mj_tk (mj_kl σ c) e w 0).1).symm with q | q
  · have eg : mj_gw (mj_kl σ c) e w lo hi 0 = (false, (mj_tk (mj_kl σ c) e w 0).2, mj_kl σ c (mj_tk (mj_kl σ c) e w 0).2 - 48) := by
      unfold mj_gw
      rw [q, Bool.false_and, if_neg mj_ft]
    rw [eg]
    refine ⟨mj_setI (mj_setI (mj_setI σ 44 4 kd) 44 2 (nI (mj_tk (mj_kl σ c) e w 0).2)) 44 3 (nI (mj_tk (mj_kl σ c) e w 0).2), mj_Fc_set (by decide) (mj_Fc_set (by decide) (mj_Fc_set (by decide) mj_Fc_rf)), fun z => absurd z mj_ft, fun _ => mj_setI_eq, fun d => ?_⟩
    have hd := hrd d
    rw [q] at hd
    simp only [decide_true, decide_false, Bool.true_and, Bool.false_and, Bool.and_true, Bool.and_false, Bool.true_or, Bool.false_or, Bool.or_false, Bool.or_true, Bool.not_true, Bool.not_false, Bool.and_self, Bool.or_self, if_true, if_false, Bool.true_eq_false, Bool.false_eq_true, not_true, not_false_eq_true, mj_zF] at hd
    refine st24 ?_
    simp only [u24_0, u24_1, u24_2, u24_5, u24_6, u24_7, u24_10, u24_13, u24_14, u24_15, u24_16, u24_17, u24_18, u24_19, u24_21, u24_24, u24_27, u24_28, u24_31, u24_32, u24_35, u24_36, u24_37, u24_40, u24_43, u24_44, u24_47, u24_48, u24_51, u24_52, u24_55, u24_56, hd, xn, mj_noMk_ref, mj_zF, mj_cc_v, mj_cc_n, List.all_cons, List.all_nil, mj_noMk_int, mj_noMk_long, mj_noMk_ref, mj_noMk_junk, List.length_nil, List.length_cons, Nat.zero_le, Nat.reduceLeDiff, Nat.reduceAdd, Bool.and_true, Bool.true_and, Bool.and_self, Nat.reduceBNe, true_or, or_true, true_and, and_true, mj_z0, mj_z1, mj_z01, decide_true, decide_false, Bool.true_and, Bool.false_and, Bool.and_true, Bool.and_false, Bool.true_or, Bool.false_or, Bool.or_false, Bool.or_true, Bool.not_true, Bool.not_false, Bool.and_self, Bool.or_self, if_true, if_false, Bool.true_eq_false, Bool.false_eq_true, not_true, not_false_eq_true]
  · have h2 : mj_kat (mj_setI (mj_setI σ 44 4 kd) 44 2 (nI (mj_tk (mj_kl σ c) e w 0).2)) c (mj_tk (mj_kl σ c) e w 0).2 e := mj_kat_at h1 hle.2
    obtain ⟨ρ, F, ny, nn, hnum⟩ := sp_numberOf1 (X := X) (lo := lo) (hi := hi) h2
    have eL2 : mj_kl (mj_setI (mj_setI σ 44 4 kd) 44 2 (nI (mj_tk (mj_kl σ c) e w 0).2)) c = mj_kl σ c := rfl
    rw [eL2] at ny nn hnum
    have x3 : (mj_setI (mj_setI σ 44 4 kd) 44 2 (nI (mj_tk (mj_kl σ c) e w 0).2)).1 44 3 = -1 := hb
    rw [x3] at ny
    have r4 : ρ.1 44 4 = kd := by
      rw [F.2.2 4 (by decide)]
      rfl
    have r8 : ρ.1 44 8 = σ.1 44 8 := by
      rw [F.2.2 8 (by decide)]
      rfl
    have F0 : mj_Fc 44 [2, 3, 4, 5, 8] σ ρ := mj_Fc_tr (mj_Fc_set (by decide) (mj_Fc_set (by decide) mj_Fc_rf)) (mj_Fc_sub (by decide) F)
    rcases (Bool.eq_false_or_eq_true (mj_dg (mj_kl σ c) e lo hi (mj_tk (mj_kl σ c) e w 0).2)).symm with q2 | q2
    · have eg : mj_gw (mj_kl σ c) e w lo hi 0 = (false, (mj_tk (mj_kl σ c) e w 0).2, mj_kl σ c (mj_tk (mj_kl σ c) e w 0).2 - 48) := by
        unfold mj_gw
        rw [q, q2, Bool.and_false, if_neg mj_ft]
      rw [eg]
      have b3 := nn q2
      have nb := mj_nIm1 (p := (mj_tk (mj_kl σ c) e w 0).2) (by omega)
      by_cases k5 : kd = 5
      · refine ⟨mj_setI (mj_setI ρ 44 5 (-1)) 44 8 (-1), mj_Fc_set (by decide) (mj_Fc_set (by decide) F0), fun z => absurd z mj_ft, fun _ => b3, fun d => ?_⟩
        have hd := hrd d
        have hnd := hnum d
        rw [q] at hd
        rw [q2] at hnd
        simp only [decide_true, decide_false, Bool.true_and, Bool.false_and, Bool.and_true, Bool.and_false, Bool.true_or, Bool.false_or, Bool.or_false, Bool.or_true, Bool.not_true, Bool.not_false, Bool.and_self, Bool.or_self, if_true, if_false, Bool.true_eq_false, Bool.false_eq_true, not_true, not_false_eq_true, mj_zT] at hd hnd
        have y4 : (mj_setI ρ 44 5 (-1)).1 44 4 = kd := r4
        have y5 : (mj_setI ρ 44 5 (-1)).1 44 5 = -1 := mj_setI_eq
        have y3 : (mj_setI (mj_setI ρ 44 5 (-1)) 44 8 (-1)).1 44 3 = nI (mj_tk (mj_kl σ c) e w 0).2 := b3
        refine st24 ?_
        simp only [u24_0, u24_1, u24_2, u24_5, u24_6, u24_7, u24_10, u24_13, u24_14, u24_15, u24_16, u24_17, u24_18, u24_19, u24_21, u24_24, u24_27, u24_28, u24_31, u24_32, u24_35, u24_36, u24_37, u24_40, u24_43, u24_44, u24_47, u24_48, u24_51, u24_52, u24_55, u24_56, hd, hnd, xn, mj_noMk_ref, y4, y5, y3, eq_true k5, nb, mj_n10, mj_zF, mj_cc_v, mj_cc_n, List.all_cons, List.all_nil, mj_noMk_int, mj_noMk_long, mj_noMk_ref, mj_noMk_junk, List.length_nil, List.length_cons, Nat.zero_le, Nat.reduceLeDiff, Nat.reduceAdd, Bool.and_true, Bool.true_and, Bool.and_self, Nat.reduceBNe, true_or, or_true, true_and, and_true, mj_z0, mj_z1, mj_z01, decide_true, decide_false, Bool.true_and, Bool.false_and, Bool.and_true, Bool.and_false, Bool.true_or, Bool.false_or, Bool.or_false, Bool.or_true, Bool.not_true, Bool.not_false, Bool.and_self, Bool.or_self, if_true, if_false, Bool.true_eq_false, Bool.false_eq_true, not_true, not_false_eq_true]
      · refine ⟨mj_setI ρ 44 5 (-1), mj_Fc_set (by decide) F0, fun z => absurd z mj_ft, fun _ => b3, fun d => ?_⟩
        have hd := hrd d
        have hnd := hnum d
        rw [q] at hd
        rw [q2] at hnd
        simp only [decide_true, decide_false, Bool.true_and, Bool.false_and, Bool.and_true, Bool.and_false, Bool.true_or, Bool.false_or, Bool.or_false, Bool.or_true, Bool.not_true, Bool.not_false, Bool.and_self, Bool.or_self, if_true, if_false, Bool.true_eq_false, Bool.false_eq_true, not_true, not_false_eq_true, mj_zT] at hd hnd
        have y4 : (mj_setI ρ 44 5 (-1)).1 44 4 = kd := r4
        have y3 : (mj_setI ρ 44 5 (-1)).1 44 3 = nI (mj_tk (mj_kl σ c) e w 0).2 := b3
        refine st24 ?_
        simp only [u24_0, u24_1, u24_2, u24_5, u24_6, u24_7, u24_10, u24_13, u24_14, u24_15, u24_16, u24_17, u24_18, u24_19, u24_21, u24_24, u24_27, u24_28, u24_31, u24_32, u24_35, u24_36, u24_37, u24_40, u24_43, u24_44, u24_47, u24_48, u24_51, u24_52, u24_55, u24_56, hd, hnd, xn, mj_noMk_ref, y4, y3, eq_false k5, nb, mj_n10, mj_zF, mj_cc_v, mj_cc_n, List.all_cons, List.all_nil, mj_noMk_int, mj_noMk_long, mj_noMk_ref, mj_noMk_junk, List.length_nil, List.length_cons, Nat.zero_le, Nat.reduceLeDiff, Nat.reduceAdd, Bool.and_true, Bool.true_and, Bool.and_self, Nat.reduceBNe, true_or, or_true, true_and, and_true, mj_z0, mj_z1, mj_z01, decide_true, decide_false, Bool.true_and, Bool.false_and, Bool.and_true, Bool.and_false, Bool.true_or, Bool.false_or, Bool.or_false, Bool.or_true, Bool.not_true, Bool.not_false, Bool.and_self, Bool.or_self, if_true, if_false, Bool.true_eq_false, Bool.false_eq_true, not_true, not_false_eq_true]
    · have eg : mj_gw (mj_kl σ c) e w lo hi 0 = (true, (mj_tk (mj_kl σ c) e w 0).2 + 1, mj_kl σ c (mj_tk (mj_kl σ c) e w 0).2 - 48) := by
        unfold mj_gw
        rw [q, q2, Bool.and_self, if_pos rfl]
      rw [eg]
      obtain ⟨b2, b3⟩ := ny q2
      generalize mj_kl σ c (mj_tk (mj_kl σ c) e w 0).2 - 48 = v at *
      by_cases k5 : kd = 5
      · refine ⟨mj_setI (mj_setI ρ 44 5 v) 44 8 v, mj_Fc_set (by decide) (mj_Fc_set (by decide) F0), fun _ => ⟨b2, b3, r4, ?_, ?_⟩, fun z => absurd z mj_tf, fun d => ?_⟩
        · exact (mj_setI_eq : (mj_setI ρ 44 5 v).1 44 5 = v)
        · rw [if_pos k5]
          exact mj_setI_eq
        · have hd := hrd d
          have hnd := hnum d
          rw [q] at hd
          rw [q2] at hnd
          simp only [decide_true, decide_false, Bool.true_and, Bool.false_and, Bool.and_true, Bool.and_false, Bool.true_or, Bool.false_or, Bool.or_false, Bool.or_true, Bool.not_true, Bool.not_false, Bool.and_self, Bool.or_self, if_true, if_false, Bool.true_eq_false, Bool.false_eq_true, not_true, not_false_eq_true, mj_zT] at hd hnd
          have y4 : (mj_setI ρ 44 5 v).1 44 4 = kd := r4
          have y5 : (mj_setI ρ 44 5 v).1 44 5 = v := mj_setI_eq
          have y3 : (mj_setI (mj_setI ρ 44 5 v) 44 8 v).1 44 3 = -1 := b3
          refine st24 ?_
          simp only [u24_0, u24_1, u24_2, u24_5, u24_6, u24_7, u24_10, u24_13, u24_14, u24_15, u24_16, u24_17, u24_18, u24_19, u24_21, u24_24, u24_27, u24_28, u24_31, u24_32, u24_35, u24_36, u24_37, u24_40, u24_43, u24_44, u24_47, u24_48, u24_51, u24_52, u24_55, u24_56, hd, hnd, xn, mj_noMk_ref, y4, y5, y3, eq_true k5, mj_n10, mj_zT, mj_cc_v, mj_cc_n, List.all_cons, List.all_nil, mj_noMk_int, mj_noMk_long, mj_noMk_ref, mj_noMk_junk, List.length_nil, List.length_cons, Nat.zero_le, Nat.reduceLeDiff, Nat.reduceAdd, Bool.and_true, Bool.true_and, Bool.and_self, Nat.reduceBNe, true_or, or_true, true_and, and_true, mj_z0, mj_z1, mj_z01, decide_true, decide_false, Bool.true_and, Bool.false_and, Bool.and_true, Bool.and_false, Bool.true_or, Bool.false_or, Bool.or_false, Bool.or_true, Bool.not_true, Bool.not_false, Bool.and_self, Bool.or_self, if_true, if_false, Bool.true_eq_false, Bool.false_eq_true, not_true, not_false_eq_true]
      · refine ⟨mj_setI ρ 44 5 v, mj_Fc_set (by decide) F0, fun _ => ⟨b2, b3, r4, mj_setI_eq, ?_⟩, fun z => absurd z mj_tf, fun d => ?_⟩
        · rw [if_neg k5]
          exact r8
        · have hd := hrd d
          have hnd := hnum d
          rw [q] at hd
          rw [q2] at hnd
          simp only [decide_true, decide_false, Bool.true_and, Bool.false_and, Bool.and_true, Bool.and_false, Bool.true_or, Bool.false_or, Bool.or_false, Bool.or_true, Bool.not_true, Bool.not_false, Bool.and_self, Bool.or_self, if_true, if_false, Bool.true_eq_false, Bool.false_eq_true, not_true, not_false_eq_true, mj_zT] at hd hnd
          have y4 : (mj_setI ρ 44 5 v).1 44 4 = kd := r4
          have y3 : (mj_setI ρ 44 5 v).1 44 3 = -1 := b3
          refine st24 ?_
          simp only [u24_0, u24_1, u24_2, u24_5, u24_6, u24_7, u24_10, u24_13, u24_14, u24_15, u24_16, u24_17, u24_18, u24_19, u24_21, u24_24, u24_27, u24_28, u24_31, u24_32, u24_35, u24_36, u24_37, u24_40, u24_43, u24_44, u24_47, u24_48, u24_51, u24_52, u24_55, u24_56, hd, hnd, xn, mj_noMk_ref, y4, y3, eq_false k5, mj_n10, mj_zT, mj_cc_v, mj_cc_n, List.all_cons, List.all_nil, mj_noMk_int, mj_noMk_long, mj_noMk_ref, mj_noMk_junk, List.length_nil, List.length_cons, Nat.zero_le, Nat.reduceLeDiff, Nat.reduceAdd, Bool.and_true, Bool.true_and, Bool.and_self, Nat.reduceBNe, true_or, or_true, true_and, and_true, mj_z0, mj_z1, mj_z01, decide_true, decide_false, Bool.true_and, Bool.false_and, Bool.and_true, Bool.and_false, Bool.true_or, Bool.false_or, Bool.or_false, Bool.or_true, Bool.not_true, Bool.not_false, Bool.and_self, Bool.or_self, if_true, if_false, Bool.true_eq_false, Bool.false_eq_true, not_true, not_false_eq_true]
theorem sp_readHead {c e : Nat} (h : mj_kat σ c 0 e) (hb : σ.1 44 3 = -1) (h8 : σ.1 44 8 = -1) : ∃ ρ, mj_Fc 44 [2, 3, 4, 5, 8] σ ρ ∧ ((mj_hd (mj_kl σ c) e).1 = true → ρ.1 44 2 = nI (mj_hd (mj_kl σ c) e).2.1 ∧ ρ.1 44 3 = -1 ∧ ρ.1 44 4 = (mj_hd (mj_kl σ c) e).2.2.1 ∧ ρ.1 44 5 = (mj_hd (mj_kl σ c) e).2.2.2 ∧ ρ.1 44 8 = if (mj_hd (mj_kl σ c) e).2.2.1 = 5 then (mj_hd (mj_kl σ c) e).2.2.2 else -1) ∧ ((mj_hd (mj_kl σ c) e).1 = false → ρ.1 44 3 = nI (mj_hd (mj_kl σ c) e).2.1) ∧ ∀ d, mj_ev X (d + 4) 22 [.ref 44] σ = some (some (.int (mj_z (mj_hd (mj_kl σ c) e).1)), ρ) := by
  have hla : ∀ d, mj_ev X (d + 3) 23 [.ref 44, .int 0] σ = some (some (.int (if 0 < e then mj_kl σ c 0 else -1)), σ) := fun d => (sp_letterAt (d := d + 2) (p := 0) h).resolve_right (by decide)
  have hbad : ∀ d, mj_ev X (d + 3) 26 [.ref 44, .int 0] σ = some (some (.int 0), mj_setI σ 44 3 0) := fun d => sp_isBadAt (d := d + 2)
  by_cases h0 : 0 < e
  · simp only [h0, if_true] at hla
    by_cases c0 : mj_kl σ c 0 = 100
    · obtain ⟨ρ, F, hy, hn, hr⟩ := sp_readHeadAs (X := X) (x := 0) (w := [100, 111, 32]) (kd := 1) (lo := 1) (hi := 3) rfl (by decide) h hb
      rw [mj_gw_cons ⟨h0, c0⟩, h8] at hy
      rw [mj_gw_cons ⟨h0, c0⟩] at hn hr
      have ehd : mj_hd (mj_kl σ c) e = ((mj_gw (mj_kl σ c) e [111, 32] 1 3 1).1, (mj_gw (mj_kl σ c) e [111, 32] 1 3 1).2.1, 1, (mj_gw (mj_kl σ c) e [111, 32] 1 3 1).2.2) := by
        unfold mj_hd
        rw [if_pos ⟨h0, c0⟩]
      rw [ehd]
      refine ⟨ρ, F, hy, hn, fun d => ?_⟩
      have hrd := hr d
      have hl := hla d
      rw [c0] at hl
      have hrd' : mj_ev X (d + 3) 24 [.ref 44, .int 1, .ref 1100, .int 1, .int 3] σ = _ := hrd
      refine st22 ?_
      simp (config := {decide := true}) only [u22_0, u22_1, u22_2, u22_5, u22_64, u22_65, u22_66, u22_68, u22_69, u22_70, u22_73, u22_74, u22_75, u22_76, u22_78, u22_79, u22_80, u22_83, u22_84, u22_85, u22_86, u22_88, u22_89, u22_90, u22_93, u22_94, u22_95, u22_96, u22_98, u22_99, u22_101, u22_104, u22_105, u22_106, u22_107, u22_109, u22_110, u22_111, u22_114, u22_115, u22_116, u22_118, u22_121, u22_122, u22_123, u22_126, u22_127, u22_129, u22_132, u22_133, u22_134, u22_135, u22_138, hl, hrd', mj_cc_v, mj_cc_n, List.all_cons, List.all_nil, mj_noMk_int, mj_noMk_long, mj_noMk_ref, mj_noMk_junk, List.length_nil, List.length_cons, Nat.zero_le, Nat.reduceLeDiff, Nat.reduceAdd, Bool.and_true, Bool.true_and, Bool.and_self, Nat.reduceBNe, true_or, or_true, true_and, and_true, mj_z0, mj_z1, mj_z01, decide_true, decide_false, Bool.true_and, Bool.false_and, Bool.and_true, Bool.and_false, Bool.true_or, Bool.false_or, Bool.or_false, Bool.or_true, Bool.not_true, Bool.not_false, Bool.and_self, Bool.or_self, if_true, if_false, Bool.true_eq_false, Bool.false_eq_true, not_true, not_false_eq_true]
      exact (Bool.eq_false_or_eq_true _).symm
    · skip
      by_cases c1 : mj_kl σ c 0 = 119
      · obtain ⟨ρ, F, hy, hn, hr⟩ := sp_readHeadAs (X := X) (x := 1) (w := [119, 104, 111, 108, 101, 32]) (kd := 2) (lo := 1) (hi := 3) rfl (by decide) h hb
        rw [mj_gw_cons ⟨h0, c1⟩, h8] at hy
        rw [mj_gw_cons ⟨h0, c1⟩] at hn hr
        have ehd : mj_hd (mj_kl σ c) e = ((mj_gw (mj_kl σ c) e [104, 111, 108, 101, 32] 1 3 1).1, (mj_gw (mj_kl σ c) e [104, 111, 108, 101, 32] 1 3 1).2.1, 2, (mj_gw (mj_kl σ c) e [104, 111, 108, 101, 32] 1 3 1).2.2) := by
          unfold mj_hd
          rw [if_neg (fun z => c0 z.2), if_pos ⟨h0, c1⟩]
        rw [ehd]
        refine ⟨ρ, F, hy, hn, fun d => ?_⟩
        have hrd := hr d
        have hl := hla d
        rw [c1] at hl
        have hrd' : mj_ev X (d + 3) 24 [.ref 44, .int 2, .ref 1101, .int 1, .int 3] σ = _ := hrd
        refine st22 ?_
        simp (config := {decide := true}) only [u22_0, u22_1, u22_2, u22_5, u22_64, u22_65, u22_66, u22_68, u22_69, u22_70, u22_73, u22_74, u22_75, u22_76, u22_78, u22_79, u22_80, u22_83, u22_84, u22_85, u22_86, u22_88, u22_89, u22_90, u22_93, u22_94, u22_95, u22_96, u22_98, u22_99, u22_101, u22_104, u22_105, u22_106, u22_107, u22_109, u22_110, u22_111, u22_114, u22_115, u22_116, u22_118, u22_121, u22_122, u22_123, u22_126, u22_127, u22_129, u22_132, u22_133, u22_134, u22_135, u22_138, hl, hrd', mj_cc_v, mj_cc_n, List.all_cons, List.all_nil, mj_noMk_int, mj_noMk_long, mj_noMk_ref, mj_noMk_junk, List.length_nil, List.length_cons, Nat.zero_le, Nat.reduceLeDiff, Nat.reduceAdd, Bool.and_true, Bool.true_and, Bool.and_self, Nat.reduceBNe, true_or, or_true, true_and, and_true, mj_z0, mj_z1, mj_z01, decide_true, decide_false, Bool.true_and, Bool.false_and, Bool.and_true, Bool.and_false, Bool.true_or, Bool.false_or, Bool.or_false, Bool.or_true, Bool.not_true, Bool.not_false, Bool.and_self, Bool.or_self, if_true, if_false, Bool.true_eq_false, Bool.false_eq_true, not_true, not_false_eq_true]
        exact (Bool.eq_false_or_eq_true _).symm
      · skip
        by_cases c2 : mj_kl σ c 0 = 111
        · obtain ⟨ρ, F, hy, hn, hr⟩ := sp_readHeadAs (X := X) (x := 2) (w := [111, 110, 99, 101, 32]) (kd := 4) (lo := 1) (hi := 3) rfl (by decide) h hb
          rw [mj_gw_cons ⟨h0, c2⟩, h8] at hy
          rw [mj_gw_cons ⟨h0, c2⟩] at hn hr
          have ehd : mj_hd (mj_kl σ c) e = ((mj_gw (mj_kl σ c) e [110, 99, 101, 32] 1 3 1).1, (mj_gw (mj_kl σ c) e [110, 99, 101, 32] 1 3 1).2.1, 4, (mj_gw (mj_kl σ c) e [110, 99, 101, 32] 1 3 1).2.2) := by
            unfold mj_hd
            rw [if_neg (fun z => c0 z.2), if_neg (fun z => c1 z.2), if_pos ⟨h0, c2⟩]
          rw [ehd]
          refine ⟨ρ, F, hy, hn, fun d => ?_⟩
          have hrd := hr d
          have hl := hla d
          rw [c2] at hl
          have hrd' : mj_ev X (d + 3) 24 [.ref 44, .int 4, .ref 1102, .int 1, .int 3] σ = _ := hrd
          refine st22 ?_
          simp (config := {decide := true}) only [u22_0, u22_1, u22_2, u22_5, u22_64, u22_65, u22_66, u22_68, u22_69, u22_70, u22_73, u22_74, u22_75, u22_76, u22_78, u22_79, u22_80, u22_83, u22_84, u22_85, u22_86, u22_88, u22_89, u22_90, u22_93, u22_94, u22_95, u22_96, u22_98, u22_99, u22_101, u22_104, u22_105, u22_106, u22_107, u22_109, u22_110, u22_111, u22_114, u22_115, u22_116, u22_118, u22_121, u22_122, u22_123, u22_126, u22_127, u22_129, u22_132, u22_133, u22_134, u22_135, u22_138, hl, hrd', mj_cc_v, mj_cc_n, List.all_cons, List.all_nil, mj_noMk_int, mj_noMk_long, mj_noMk_ref, mj_noMk_junk, List.length_nil, List.length_cons, Nat.zero_le, Nat.reduceLeDiff, Nat.reduceAdd, Bool.and_true, Bool.true_and, Bool.and_self, Nat.reduceBNe, true_or, or_true, true_and, and_true, mj_z0, mj_z1, mj_z01, decide_true, decide_false, Bool.true_and, Bool.false_and, Bool.and_true, Bool.and_false, Bool.true_or, Bool.false_or, Bool.or_false, Bool.or_true, Bool.not_true, Bool.not_false, Bool.and_self, Bool.or_self, if_true, if_false, Bool.true_eq_false, Bool.false_eq_true, not_true, not_false_eq_true]
          exact (Bool.eq_false_or_eq_true _).symm
        · skip
          by_cases c3 : mj_kl σ c 0 = 97
          · obtain ⟨ρ, F, hy, hn, hr⟩ := sp_readHeadAs (X := X) (x := 3) (w := [97, 103, 97, 105, 110, 32]) (kd := 3) (lo := 1) (hi := 6) rfl (by decide) h hb
            rw [mj_gw_cons ⟨h0, c3⟩, h8] at hy
            rw [mj_gw_cons ⟨h0, c3⟩] at hn hr
            have ehd : mj_hd (mj_kl σ c) e = ((mj_gw (mj_kl σ c) e [103, 97, 105, 110, 32] 1 6 1).1, (mj_gw (mj_kl σ c) e [103, 97, 105, 110, 32] 1 6 1).2.1, 3, (mj_gw (mj_kl σ c) e [103, 97, 105, 110, 32] 1 6 1).2.2) := by
              unfold mj_hd
              rw [if_neg (fun z => c0 z.2), if_neg (fun z => c1 z.2), if_neg (fun z => c2 z.2), if_pos ⟨h0, c3⟩]
            rw [ehd]
            refine ⟨ρ, F, hy, hn, fun d => ?_⟩
            have hrd := hr d
            have hl := hla d
            rw [c3] at hl
            have hrd' : mj_ev X (d + 3) 24 [.ref 44, .int 3, .ref 1103, .int 1, .int 6] σ = _ := hrd
            refine st22 ?_
            simp (config := {decide := true}) only [u22_0, u22_1, u22_2, u22_5, u22_64, u22_65, u22_66, u22_68, u22_69, u22_70, u22_73, u22_74, u22_75, u22_76, u22_78, u22_79, u22_80, u22_83, u22_84, u22_85, u22_86, u22_88, u22_89, u22_90, u22_93, u22_94, u22_95, u22_96, u22_98, u22_99, u22_101, u22_104, u22_105, u22_106, u22_107, u22_109, u22_110, u22_111, u22_114, u22_115, u22_116, u22_118, u22_121, u22_122, u22_123, u22_126, u22_127, u22_129, u22_132, u22_133, u22_134, u22_135, u22_138, hl, hrd', mj_cc_v, mj_cc_n, List.all_cons, List.all_nil, mj_noMk_int, mj_noMk_long, mj_noMk_ref, mj_noMk_junk, List.length_nil, List.length_cons, Nat.zero_le, Nat.reduceLeDiff, Nat.reduceAdd, Bool.and_true, Bool.true_and, Bool.and_self, Nat.reduceBNe, true_or, or_true, true_and, and_true, mj_z0, mj_z1, mj_z01, decide_true, decide_false, Bool.true_and, Bool.false_and, Bool.and_true, Bool.and_false, Bool.true_or, Bool.false_or, Bool.or_false, Bool.or_true, Bool.not_true, Bool.not_false, Bool.and_self, Bool.or_self, if_true, if_false, Bool.true_eq_false, Bool.false_eq_true, not_true, not_false_eq_true]
            exact (Bool.eq_false_or_eq_true _).symm
          · skip
            by_cases c4 : mj_kl σ c 0 = 110
            · obtain ⟨ρ, F, hy, hn, hr⟩ := sp_readHeadAs (X := X) (x := 4) (w := [110, 101, 118, 101, 114, 32]) (kd := 5) (lo := 0) (hi := 3) rfl (by decide) h hb
              rw [mj_gw_cons ⟨h0, c4⟩, h8] at hy
              rw [mj_gw_cons ⟨h0, c4⟩] at hn hr
              have ehd : mj_hd (mj_kl σ c) e = ((mj_gw (mj_kl σ c) e [101, 118, 101, 114, 32] 0 3 1).1, (mj_gw (mj_kl σ c) e [101, 118, 101, 114, 32] 0 3 1).2.1, 5, (mj_gw (mj_kl σ c) e [101, 118, 101, 114, 32] 0 3 1).2.2) := by
                unfold mj_hd
                rw [if_neg (fun z => c0 z.2), if_neg (fun z => c1 z.2), if_neg (fun z => c2 z.2), if_neg (fun z => c3 z.2), if_pos ⟨h0, c4⟩]
              rw [ehd]
              refine ⟨ρ, F, hy, hn, fun d => ?_⟩
              have hrd := hr d
              have hl := hla d
              rw [c4] at hl
              have hrd' : mj_ev X (d + 3) 24 [.ref 44, .int 5, .ref 1104, .int 0, .int 3] σ = _ := hrd
              refine st22 ?_
              simp (config := {decide := true}) only [u22_0, u22_1, u22_2, u22_5, u22_64, u22_65, u22_66, u22_68, u22_69, u22_70, u22_73, u22_74, u22_75, u22_76, u22_78, u22_79, u22_80, u22_83, u22_84, u22_85, u22_86, u22_88, u22_89, u22_90, u22_93, u22_94, u22_95, u22_96, u22_98, u22_99, u22_101, u22_104, u22_105, u22_106, u22_107, u22_109, u22_110, u22_111, u22_114, u22_115, u22_116, u22_118, u22_121, u22_122, u22_123, u22_126, u22_127, u22_129, u22_132, u22_133, u22_134, u22_135, u22_138, hl, hrd', mj_cc_v, mj_cc_n, List.all_cons, List.all_nil, mj_noMk_int, mj_noMk_long, mj_noMk_ref, mj_noMk_junk, List.length_nil, List.length_cons, Nat.zero_le, Nat.reduceLeDiff, Nat.reduceAdd, Bool.and_true, Bool.true_and, Bool.and_self, Nat.reduceBNe, true_or, or_true, true_and, and_true, mj_z0, mj_z1, mj_z01, decide_true, decide_false, Bool.true_and, Bool.false_and, Bool.and_true, Bool.and_false, Bool.true_or, Bool.false_or, Bool.or_false, Bool.or_true, Bool.not_true, Bool.not_false, Bool.and_self, Bool.or_self, if_true, if_false, Bool.true_eq_false, Bool.false_eq_true, not_true, not_false_eq_true]
              exact (Bool.eq_false_or_eq_true _).symm
            · skip
              by_cases c5 : mj_kl σ c 0 = 102
              · have hat : mj_kat (mj_setI (mj_setI σ 44 4 6) 44 5 0) c 0 e := mj_kat_set (mj_kat_set h (by decide)) (by decide)
                have hr : ∀ d, mj_ev X (d + 3) 25 [.ref 44, .ref 1105] (mj_setI (mj_setI σ 44 4 6) 44 5 0) = _ := fun d => sp_reads (X := X) (d := d + 1) (x := 5) (w := [102, 114, 101, 101]) rfl (by decide) hat
                have eL : mj_kl (mj_setI (mj_setI σ 44 4 6) 44 5 0) c = mj_kl σ c := rfl
                have et : mj_tk (mj_kl σ c) e [102, 114, 101, 101] 0 = mj_tk (mj_kl σ c) e [114, 101, 101] 1 := by
                  conv => lhs; unfold mj_tk
                  rw [if_pos ⟨h0, c5⟩]
                rw [eL, et] at hr
                have ehd : mj_hd (mj_kl σ c) e = ((mj_tk (mj_kl σ c) e [114, 101, 101] 1).1, (mj_tk (mj_kl σ c) e [114, 101, 101] 1).2, 6, 0) := by
                  unfold mj_hd
                  rw [if_neg (fun z => c0 z.2), if_neg (fun z => c1 z.2), if_neg (fun z => c2 z.2), if_neg (fun z => c3 z.2), if_neg (fun z => c4 z.2), if_pos ⟨h0, c5⟩]
                rw [ehd]
                generalize mj_tk (mj_kl σ c) e [114, 101, 101] 1 = t at *
                rcases (Bool.eq_false_or_eq_true t.1).symm with q | q
                · rw [q] at hr ⊢
                  simp only [decide_true, decide_false, Bool.true_and, Bool.false_and, Bool.and_true, Bool.and_false, Bool.true_or, Bool.false_or, Bool.or_false, Bool.or_true, Bool.not_true, Bool.not_false, Bool.and_self, Bool.or_self, if_true, if_false, Bool.true_eq_false, Bool.false_eq_true, not_true, not_false_eq_true] at hr
                  refine ⟨mj_setI (mj_setI (mj_setI (mj_setI σ 44 4 6) 44 5 0) 44 2 (nI t.2)) 44 3 (nI t.2), mj_Fc_set (by decide) (mj_Fc_set (by decide) (mj_Fc_set (by decide) (mj_Fc_set (by decide) mj_Fc_rf))), fun z => absurd z mj_ft, fun _ => mj_setI_eq, fun d => ?_⟩
                  have hrd := hr d
                  have hl := hla d
                  rw [c5] at hl
                  refine st22 ?_
                  simp (config := {decide := true}) only [u22_0, u22_1, u22_2, u22_5, u22_64, u22_65, u22_66, u22_68, u22_69, u22_70, u22_73, u22_74, u22_75, u22_76, u22_78, u22_79, u22_80, u22_83, u22_84, u22_85, u22_86, u22_88, u22_89, u22_90, u22_93, u22_94, u22_95, u22_96, u22_98, u22_99, u22_101, u22_104, u22_105, u22_106, u22_107, u22_109, u22_110, u22_111, u22_114, u22_115, u22_116, u22_118, u22_121, u22_122, u22_123, u22_126, u22_127, u22_129, u22_132, u22_133, u22_134, u22_135, u22_138, hl, hrd, mj_cc_v, mj_cc_n, List.all_cons, List.all_nil, mj_noMk_int, mj_noMk_long, mj_noMk_ref, mj_noMk_junk, List.length_nil, List.length_cons, Nat.zero_le, Nat.reduceLeDiff, Nat.reduceAdd, Bool.and_true, Bool.true_and, Bool.and_self, Nat.reduceBNe, true_or, or_true, true_and, and_true, mj_z0, mj_z1, mj_z01, decide_true, decide_false, Bool.true_and, Bool.false_and, Bool.and_true, Bool.and_false, Bool.true_or, Bool.false_or, Bool.or_false, Bool.or_true, Bool.not_true, Bool.not_false, Bool.and_self, Bool.or_self, if_true, if_false, Bool.true_eq_false, Bool.false_eq_true, not_true, not_false_eq_true]
                · rw [q] at hr ⊢
                  simp only [decide_true, decide_false, Bool.true_and, Bool.false_and, Bool.and_true, Bool.and_false, Bool.true_or, Bool.false_or, Bool.or_false, Bool.or_true, Bool.not_true, Bool.not_false, Bool.and_self, Bool.or_self, if_true, if_false, Bool.true_eq_false, Bool.false_eq_true, not_true, not_false_eq_true] at hr
                  refine ⟨mj_setI (mj_setI (mj_setI σ 44 4 6) 44 5 0) 44 2 (nI t.2), mj_Fc_set (by decide) (mj_Fc_set (by decide) (mj_Fc_set (by decide) mj_Fc_rf)), fun _ => ⟨mj_setI_eq, hb, rfl, rfl, ?_⟩, fun z => absurd z mj_tf, fun d => ?_⟩
                  · rw [if_neg (show ¬ (6 : Int32) = 5 by decide)]
                    exact h8
                  · have hrd := hr d
                    have hl := hla d
                    rw [c5] at hl
                    refine st22 ?_
                    simp (config := {decide := true}) only [u22_0, u22_1, u22_2, u22_5, u22_64, u22_65, u22_66, u22_68, u22_69, u22_70, u22_73, u22_74, u22_75, u22_76, u22_78, u22_79, u22_80, u22_83, u22_84, u22_85, u22_86, u22_88, u22_89, u22_90, u22_93, u22_94, u22_95, u22_96, u22_98, u22_99, u22_101, u22_104, u22_105, u22_106, u22_107, u22_109, u22_110, u22_111, u22_114, u22_115, u22_116, u22_118, u22_121, u22_122, u22_123, u22_126, u22_127, u22_129, u22_132, u22_133, u22_134, u22_135, u22_138, hl, hrd, mj_cc_v, mj_cc_n, List.all_cons, List.all_nil, mj_noMk_int, mj_noMk_long, mj_noMk_ref, mj_noMk_junk, List.length_nil, List.length_cons, Nat.zero_le, Nat.reduceLeDiff, Nat.reduceAdd, Bool.and_true, Bool.true_and, Bool.and_self, Nat.reduceBNe, true_or, or_true, true_and, and_true, mj_z0, mj_z1, mj_z01, decide_true, decide_false, Bool.true_and, Bool.false_and, Bool.and_true, Bool.and_false, Bool.true_or, Bool.false_or, Bool.or_false, Bool.or_true, Bool.not_true, Bool.not_false, Bool.and_self, Bool.or_self, if_true, if_false, Bool.true_eq_false, Bool.false_eq_true, not_true, not_false_eq_true]
              · have ehd : mj_hd (mj_kl σ c) e = (false, 0, 0, 0) := by
                  unfold mj_hd
                  rw [if_neg (fun z => c0 z.2), if_neg (fun z => c1 z.2), if_neg (fun z => c2 z.2), if_neg (fun z => c3 z.2), if_neg (fun z => c4 z.2), if_neg (fun z => c5 z.2)]
                rw [ehd]
                refine ⟨mj_setI σ 44 3 0, mj_Fc_set (by decide) mj_Fc_rf, fun z => absurd z mj_ft, fun _ => mj_setI_eq, fun d => ?_⟩
                refine st22 ?_
                simp only [u22_0, u22_1, u22_2, u22_5, u22_64, u22_65, u22_66, u22_68, u22_69, u22_70, u22_73, u22_74, u22_75, u22_76, u22_78, u22_79, u22_80, u22_83, u22_84, u22_85, u22_86, u22_88, u22_89, u22_90, u22_93, u22_94, u22_95, u22_96, u22_98, u22_99, u22_101, u22_104, u22_105, u22_106, u22_107, u22_109, u22_110, u22_111, u22_114, u22_115, u22_116, u22_118, u22_121, u22_122, u22_123, u22_126, u22_127, u22_129, u22_132, u22_133, u22_134, u22_135, u22_138, hla d, hbad d, c0, c1, c2, c3, c4, c5, mj_zF, mj_cc_v, mj_cc_n, List.all_cons, List.all_nil, mj_noMk_int, mj_noMk_long, mj_noMk_ref, mj_noMk_junk, List.length_nil, List.length_cons, Nat.zero_le, Nat.reduceLeDiff, Nat.reduceAdd, Bool.and_true, Bool.true_and, Bool.and_self, Nat.reduceBNe, true_or, or_true, true_and, and_true, mj_z0, mj_z1, mj_z01, decide_true, decide_false, Bool.true_and, Bool.false_and, Bool.and_true, Bool.and_false, Bool.true_or, Bool.false_or, Bool.or_false, Bool.or_true, Bool.not_true, Bool.not_false, Bool.and_self, Bool.or_self, if_true, if_false, Bool.true_eq_false, Bool.false_eq_true, not_true, not_false_eq_true]
  · simp only [h0, if_false] at hla
    have ehd : mj_hd (mj_kl σ c) e = (false, 0, 0, 0) := by
      unfold mj_hd
      simp only [h0, false_and, if_false]
    rw [ehd]
    refine ⟨mj_setI σ 44 3 0, mj_Fc_set (by decide) mj_Fc_rf, fun z => absurd z mj_ft, fun _ => mj_setI_eq, fun d => ?_⟩
    refine st22 ?_
    simp (config := {decide := true}) only [u22_0, u22_1, u22_2, u22_5, u22_64, u22_65, u22_66, u22_68, u22_69, u22_70, u22_73, u22_74, u22_75, u22_76, u22_78, u22_79, u22_80, u22_83, u22_84, u22_85, u22_86, u22_88, u22_89, u22_90, u22_93, u22_94, u22_95, u22_96, u22_98, u22_99, u22_101, u22_104, u22_105, u22_106, u22_107, u22_109, u22_110, u22_111, u22_114, u22_115, u22_116, u22_118, u22_121, u22_122, u22_123, u22_126, u22_127, u22_129, u22_132, u22_133, u22_134, u22_135, u22_138, hla d, hbad d, mj_zF, mj_cc_v, mj_cc_n, List.all_cons, List.all_nil, mj_noMk_int, mj_noMk_long, mj_noMk_ref, mj_noMk_junk, List.length_nil, List.length_cons, Nat.zero_le, Nat.reduceLeDiff, Nat.reduceAdd, Bool.and_true, Bool.true_and, Bool.and_self, Nat.reduceBNe, true_or, or_true, true_and, and_true, mj_z0, mj_z1, mj_z01, decide_true, decide_false, Bool.true_and, Bool.false_and, Bool.and_true, Bool.and_false, Bool.true_or, Bool.false_or, Bool.or_false, Bool.or_true, Bool.not_true, Bool.not_false, Bool.and_self, Bool.or_self, if_true, if_false, Bool.true_eq_false, Bool.false_eq_true, not_true, not_false_eq_true]
end