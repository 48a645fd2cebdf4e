section
variable {X : mj_X} {d : Nat} {σ τ ρ : mj_St}
theorem mj_ext_oth {L : Nat → Int32} {e a st i : Nat} {wk : Int32 → Bool} {f : Nat → Int32} (hi : i < 36 ∨ 41 < i) : (mj_ext L e wk a st f).2.2.2 i = f i := by
  have up : ∀ (g : Nat → Int32) (j : Nat) (v : Int32), 36 ≤ j → j ≤ 41 → mj_up g j v i = g i := by
    intro g j v h1 h2
    unfold mj_up
    rw [if_neg (by omega)]
  unfold mj_ext
  by_cases c0 : a < e ∧ L a = 32
  · rw [if_pos c0]
    by_cases c1 : a + 1 < e ∧ L (a + 1) = 119 ∧ st < 1 ∧ f 33 < 5
    · rw [if_pos c1]
      exact up _ _ _ (by decide) (by decide)
    · rw [if_neg c1]
      by_cases c2 : a + 1 < e ∧ L (a + 1) = 97 ∧ st < 2 ∧ f 33 < 5
      · rw [if_pos c2]
        by_cases d1 : (mj_gw L e [102, 116, 101, 114, 32] 0 9 (a + 2)).1 = true
        · rw [if_pos d1]
          by_cases d2 : wk (mj_gw L e [102, 116, 101, 114, 32] 0 9 (a + 2)).2.2 = true
          · rw [if_pos d2]
            exact up _ _ _ (by decide) (by decide)
          · rw [if_neg d2]
        · rw [if_neg d1]
      · rw [if_neg c2]
        by_cases c3 : a + 1 < e ∧ L (a + 1) = 105 ∧ st < 3
        · rw [if_pos c3]
          by_cases d1 : (mj_gw L e [102, 32] 0 2 (a + 2)).1 = true
          · rw [if_pos d1]
            exact (up _ _ _ (by decide) (by decide)).trans (up _ _ _ (by decide) (by decide))
          · rw [if_neg d1]
        · rw [if_neg c3]
          by_cases c4 : a + 1 < e ∧ L (a + 1) = 111 ∧ st < 4 ∧ (¬ f 33 = 4 ∨ ¬ f 38 = -1)
          · rw [if_pos c4]
            exact up _ _ _ (by decide) (by decide)
          · rw [if_neg c4]
            by_cases c5 : a + 1 < e ∧ L (a + 1) = 102 ∧ st < 5 ∧ (¬ f 33 = 4 ∨ ¬ f 38 = -1)
            · rw [if_pos c5]
              exact up _ _ _ (by decide) (by decide)
            · rw [if_neg c5]
  · rw [if_neg c0]
theorem mj_mr_oth {L : Nat → Int32} {e i : Nat} {wk : Int32 → Bool} (hi : i < 36 ∨ 41 < i) : ∀ (n a st : Nat) (f : Nat → Int32), (mj_mr L e wk n a st f).2.2 i = f i := by
  intro n
  induction n with
  | zero => intro a st f; rfl
  | succ n ih =>
    intro a st f
    simp only [mj_mr]
    by_cases c1 : a < e
    · rw [if_pos c1]
      by_cases c2 : st = 5
      · rw [if_pos c2]
      · rw [if_neg c2]
        by_cases c3 : (mj_ext L e wk a st f).1 = true
        · rw [if_pos c3, ih]
          exact mj_ext_oth hi
        · rw [if_neg c3]
    · rw [if_neg c1]
      by_cases c2 : f 33 = 4 ∧ f 38 = -1
      · rw [if_pos c2]
      · rw [if_neg c2]
theorem mj_rd_le {L : Nat → Int32} {e : Nat} {wk : Int32 → Bool} : (mj_rd L e wk).2.1 ≤ e := by
  have key : ∀ (n a st : Nat) (f : Nat → Int32), a ≤ e → (mj_mr L e wk n a st f).2.1 ≤ e := by
    intro n
    induction n with
    | zero => intro a st f h; exact h
    | succ n ih =>
      intro a st f h
      simp only [mj_mr]
      by_cases c1 : a < e
      · rw [if_pos c1]
        by_cases c2 : st = 5
        · rw [if_pos c2]
          exact h
        · rw [if_neg c2]
          by_cases c3 : (mj_ext L e wk a st f).1 = true
          · rw [if_pos c3]
            exact ih _ _ _ (mj_ext_le h)
          · rw [if_neg c3]
            exact mj_ext_le h
      · rw [if_neg c1]
        by_cases c2 : f 33 = 4 ∧ f 38 = -1
        · rw [if_pos c2]
          exact Nat.le_refl _
        · rw [if_neg c2]
          exact h
  unfold mj_rd
  by_cases c1 : (mj_hd L e).1 = true
  · rw [if_pos c1]
    by_cases c2 : (mj_sp L e (mj_hd L e).2.2.1 (mj_hd L e).2.2.2 (mj_hd L e).2.1).1 = true
    · rw [if_pos c2]
      exact key _ _ _ _ (mj_sp_le mj_hd_le)
    · rw [if_neg c2]
      exact mj_sp_le mj_hd_le
  · rw [if_neg c1]
    exact mj_hd_le
def mj_AF : List Nat := [1, 2, 3, 4, 5, 6, 7, 8, 9, 10, 11, 12, 13]
/-- what the class's reader holds after a text that stands -/
def mj_crd (ρ : mj_St) (f : Nat → Int32) : Prop := mj_cfl ρ f ∧ f 42 = mj_lasts (f 33) (ρ.1 44 5) (f 34) (f 35) ∧ f 43 = (if f 33 = 3 then ρ.1 44 5 else 1) ∧ (f 33 = 3 → 0 < ρ.1 44 5)
theorem sp_readPromise {c e N : Nat} (hN : σ.1 14 14 = nI N) (h9 : N ≤ 9) (hc4 : 4 ≤ c) (hc12 : c < 12) (he : e ≤ 60) : ∃ ρ, mj_Fc 44 mj_AF (mj_setR σ 44 0 (some c)) ρ ∧ ((mj_rd (mj_kl σ c) e (mj_wkC σ)).1 = true → mj_crd ρ (mj_rd (mj_kl σ c) e (mj_wkC σ)).2.2) ∧ ∀ d, mj_ev X (d + 6) 21 [.ref 44, .ref 14, .ref c, .int (nI e)] σ = some (some (.int (if (mj_rd (mj_kl σ c) e (mj_wkC σ)).1 = true then -1 else nI (mj_rd (mj_kl σ c) e (mj_wkC σ)).2.1)), ρ) := by
  have hlen : mj_lenA X (mj_setR σ 44 0 (some c)) c = some 60 := by
    have : c = 4 ∨ c = 5 ∨ c = 6 ∨ c = 7 ∨ c = 8 ∨ c = 9 ∨ c = 10 ∨ c = 11 := by omega
    rcases this with q | q | q | q | q | q | q | q <;> subst q <;> rfl
  have hmin : (if (60 : Int32) < nI e then 60 else nI e) = nI e := by
    rw [if_neg (nI_nlt (a := e) (b := 60) |> fun f => by
      intro z
      rw [Int32.lt_iff_toInt_lt, nI_toInt (by omega)] at z
      have e60 : (60 : Int32).toInt = 60 := by decide
      omega)]
  generalize hσ0 : mj_setI (mj_setI (mj_setI (mj_setI (mj_setI (mj_setI (mj_setI (mj_setI (mj_setI (mj_setR σ 44 0 (some c)) 44 1 (nI e)) 44 2 0) 44 3 (-1)) 44 8 (-1)) 44 9 (-1)) 44 10 (-1)) 44 11 0) 44 12 0) 44 13 0 = σ0
  have F0 : mj_Fc 44 mj_AF (mj_setR σ 44 0 (some c)) σ0 := by
    rw [← hσ0]
    exact mj_Fc_set (by decide) (mj_Fc_set (by decide) (mj_Fc_set (by decide) (mj_Fc_set (by decide) (mj_Fc_set (by decide) (mj_Fc_set (by decide) (mj_Fc_set (by decide) (mj_Fc_set (by decide) (mj_Fc_set (by decide) mj_Fc_rf))))))))
  have hr1 : σ0.2.2.1 44 0 = some c := by
    rw [← hσ0]
    show (if 44 = 44 ∧ 0 = 0 then some c else σ.2.2.1 44 0) = some c
    rw [if_pos ⟨rfl, rfl⟩]
  have hat : mj_kat σ0 c 0 e := ⟨hr1, hc4, hc12, by rw [← hσ0]; rfl, by rw [← hσ0]; rfl, Nat.zero_le _, he⟩
  have i3 : σ0.1 44 3 = -1 := by rw [← hσ0]; rfl
  have i8 : σ0.1 44 8 = -1 := by rw [← hσ0]; rfl
  have i9 : σ0.1 44 9 = -1 := by rw [← hσ0]; rfl
  have i10 : σ0.1 44 10 = -1 := by rw [← hσ0]; rfl
  have i11 : σ0.1 44 11 = 0 := by rw [← hσ0]; rfl
  have i12 : σ0.1 44 12 = 0 := by rw [← hσ0]; rfl
  have i13 : σ0.1 44 13 = 0 := by rw [← hσ0]; rfl
  have eL0 : mj_kl σ0 c = mj_kl σ c := by rw [← hσ0]; rfl
  have ew0 : mj_wkC σ0 = mj_wkC σ := by rw [← hσ0]; rfl
  have hN0 : σ0.1 14 14 = nI N := by rw [← hσ0]; exact hN
  obtain ⟨ρ1, F1, hy, hn, hhd⟩ := sp_readHead (X := X) hat i3 i8
  rw [eL0] at hy hn hhd
  have hle := mj_hd_le (L := mj_kl σ c) (e := e)
  have start : ∀ d R, mj_Runs X (mj_ev X (d + 5)) 2 (some .int) prog_4_method_2_code (59, [.ref 44, .ref 14, .ref c, .int (nI e)], [.int (mj_z (mj_hd (mj_kl σ c) e).1)], ρ1) R → mj_ev X (d + 6) 21 [.ref 44, .ref 14, .ref c, .int (nI e)] σ = some R := by
    intro d R hR
    have hd : mj_ev X (d + 5) 22 [.ref 44] σ0 = _ := hhd (d + 1)
    have cne : ¬ c = 999 := by omega
    refine st21 ?_
    simp only [u21_0, u21_1, u21_2, u21_5, u21_6, u21_7, u21_8, u21_9, u21_12, u21_15, u21_16, u21_17, u21_20, u21_21, u21_22, u21_25, u21_26, u21_27, u21_30, u21_31, u21_32, u21_35, u21_36, u21_37, u21_40, u21_41, u21_42, u21_45, u21_46, u21_47, u21_50, u21_51, u21_52, u21_55, u21_56, u21_62, u21_63, u21_66, u21_69, u21_70, u21_71, u21_75, u21_78, hlen, mj_kN, hmin, hσ0, hd, cne, mj_noMk_row hc12, mj_cc_v, mj_cc_n, List.all_cons, List.all_nil, mj_noMk_int, mj_noMk_long, mj_noMk_ref, mj_noMk_junk, List.length_nil, List.length_cons, Nat.zero_le, Nat.reduceLeDiff, Nat.reduceAdd, Bool.and_true, Bool.true_and, Bool.and_self, Nat.reduceBNe, true_or, or_true, true_and, and_true, mj_z0, mj_z1, mj_z01, decide_true, decide_false, Bool.true_and, Bool.false_and, Bool.and_true, Bool.and_false, Bool.true_or, Bool.false_or, Bool.or_false, Bool.or_true, Bool.not_true, Bool.not_false, Bool.and_self, Bool.or_self, if_true, if_false, Bool.true_eq_false, Bool.false_eq_true, not_true, not_false_eq_true]
    exact hR
  have F1' : mj_Fc 44 mj_AF (mj_setR σ 44 0 (some c)) ρ1 := mj_Fc_tr F0 (mj_Fc_sub (by decide) F1)
  rcases (Bool.eq_false_or_eq_true (mj_hd (mj_kl σ c) e).1).symm with q1 | q1
  · have eX : mj_rd (mj_kl σ c) e (mj_wkC σ) = (false, (mj_hd (mj_kl σ c) e).2.1, fun _ => 0) := by
      unfold mj_rd
      rw [if_neg (by rw [q1]; decide)]
    rw [eX]
    refine ⟨ρ1, F1', fun z => absurd z mj_ft, fun d => start d _ ?_⟩
    have hn' := hn q1
    rw [q1, mj_zF]
    refine u21_59.mpr ?_
    simp only [u21_0, u21_1, u21_2, u21_5, u21_6, u21_7, u21_8, u21_9, u21_12, u21_15, u21_16, u21_17, u21_20, u21_21, u21_22, u21_25, u21_26, u21_27, u21_30, u21_31, u21_32, u21_35, u21_36, u21_37, u21_40, u21_41, u21_42, u21_45, u21_46, u21_47, u21_50, u21_51, u21_52, u21_55, u21_56, u21_62, u21_63, u21_66, u21_69, u21_70, u21_71, u21_74, u21_75, u21_78, hn', mj_cc_v, mj_cc_n, List.all_cons, List.all_nil, mj_noMk_int, mj_noMk_long, mj_noMk_ref, mj_noMk_junk, List.length_nil, List.length_cons, Nat.zero_le, Nat.reduceLeDiff, Nat.reduceAdd, Bool.and_true, Bool.true_and, Bool.and_self, Nat.reduceBNe, true_or, or_true, true_and, and_true, mj_z0, mj_z1, mj_z01, decide_true, decide_false, Bool.true_and, Bool.false_and, Bool.and_true, Bool.and_false, Bool.true_or, Bool.false_or, Bool.or_false, Bool.or_true, Bool.not_true, Bool.not_false, Bool.and_self, Bool.or_self, if_true, if_false, Bool.true_eq_false, Bool.false_eq_true, not_true, not_false_eq_true]
  · obtain ⟨b2, b3, b4, b5, b8⟩ := hy q1
    obtain ⟨k, nb, k1, k6, nb6, ek, en, z1, z2, z3⟩ := mj_hd_in q1
    have hnb : (mj_hd (mj_kl σ c) e).2.2.1 = 3 → 0 < (mj_hd (mj_kl σ c) e).2.2.2 := by
      intro g
      rw [ek] at g
      have : k = 3 := (nI_eq (b := 3) (by omega) (by decide)).mp g
      rw [en]
      exact nI_lt (a := 0) (by omega) (by omega)
    generalize hkd : (mj_hd (mj_kl σ c) e).2.2.1 = kd at *
    generalize hnbn : (mj_hd (mj_kl σ c) e).2.2.2 = nbv at *
    have hat1 : mj_kat ρ1 c (mj_hd (mj_kl σ c) e).2.1 e := mj_kat_Fc F1 (by decide) hat hle b2
    have eL1 : mj_kl ρ1 c = mj_kl σ c := by rw [mj_kl_Fc F1]; exact eL0
    obtain ⟨ρ2, F2, sy, sn, hsp⟩ := sp_readHours (X := X) hat1 b3 b4 b5 ek k1 k6 hnb
    rw [eL1] at sy sn hsp
    have F2' : mj_Fc 44 mj_AF (mj_setR σ 44 0 (some c)) ρ2 := mj_Fc_tr F1' (mj_Fc_sub (by decide) F2)
    have hle2 := mj_sp_le (L := mj_kl σ c) (e := e) (kd := kd) (nb := nbv) hle
    rcases (Bool.eq_false_or_eq_true (mj_sp (mj_kl σ c) e kd nbv (mj_hd (mj_kl σ c) e).2.1).1).symm with q2 | q2
    · have eX : mj_rd (mj_kl σ c) e (mj_wkC σ) = (false, (mj_sp (mj_kl σ c) e kd nbv (mj_hd (mj_kl σ c) e).2.1).2.1, fun _ => 0) := by
        unfold mj_rd
        rw [if_pos q1, hkd, hnbn, if_neg (by rw [q2]; decide)]
      rw [eX]
      refine ⟨ρ2, F2', fun z => absurd z mj_ft, fun d => start d _ ?_⟩
      have hd : mj_ev X (d + 5) 29 [.ref 44] ρ1 = _ := hsp (d + 1)
      have sn' := sn q2
      rw [q2] at hd
      rw [q1, mj_zT]
      refine u21_59.mpr ?_
      simp only [u21_0, u21_1, u21_2, u21_5, u21_6, u21_7, u21_8, u21_9, u21_12, u21_15, u21_16, u21_17, u21_20, u21_21, u21_22, u21_25, u21_26, u21_27, u21_30, u21_31, u21_32, u21_35, u21_36, u21_37, u21_40, u21_41, u21_42, u21_45, u21_46, u21_47, u21_50, u21_51, u21_52, u21_55, u21_56, u21_62, u21_63, u21_66, u21_69, u21_70, u21_71, u21_74, u21_75, u21_78, hd, sn', mj_noMk_row hc12, mj_noMk_ref, mj_zF, mj_n10, mj_cc_v, mj_cc_n, List.all_cons, List.all_nil, mj_noMk_int, mj_noMk_long, mj_noMk_ref, mj_noMk_junk, List.length_nil, List.length_cons, Nat.zero_le, Nat.reduceLeDiff, Nat.reduceAdd, Bool.and_true, Bool.true_and, Bool.and_self, Nat.reduceBNe, true_or, or_true, true_and, and_true, mj_z0, mj_z1, mj_z01, decide_true, decide_false, Bool.true_and, Bool.false_and, Bool.and_true, Bool.and_false, Bool.true_or, Bool.false_or, Bool.or_false, Bool.or_true, Bool.not_true, Bool.not_false, Bool.and_self, Bool.or_self, if_true, if_false, Bool.true_eq_false, Bool.false_eq_true, not_true, not_false_eq_true]
    · obtain ⟨a2, a3, a6, a7⟩ := sy q2
      have eX : mj_rd (mj_kl σ c) e (mj_wkC σ) = mj_mr (mj_kl σ c) e (mj_wkC σ) 6 (mj_sp (mj_kl σ c) e kd nbv (mj_hd (mj_kl σ c) e).2.1).2.1 0 (mj_f0 kd nbv (mj_sp (mj_kl σ c) e kd nbv (mj_hd (mj_kl σ c) e).2.1).2.2.1 (mj_sp (mj_kl σ c) e kd nbv (mj_hd (mj_kl σ c) e).2.1).2.2.2) := by
        unfold mj_rd
        rw [if_pos q1, hkd, hnbn, if_pos q2]
      have hat2 : mj_kat ρ2 c (mj_sp (mj_kl σ c) e kd nbv (mj_hd (mj_kl σ c) e).2.1).2.1 e := mj_kat_Fc F2 (by decide) hat1 hle2 a2
      generalize hfr : (mj_sp (mj_kl σ c) e kd nbv (mj_hd (mj_kl σ c) e).2.1).2.2.1 = fr at *
      generalize hto : (mj_sp (mj_kl σ c) e kd nbv (mj_hd (mj_kl σ c) e).2.1).2.2.2 = to at *
      have y4 : ρ2.1 44 4 = kd := by rw [F2.2.2 4 (by decide)]; exact b4
      have y8 : ρ2.1 44 8 = (if kd = 5 then nbv else -1) := by rw [F2.2.2 8 (by decide)]; exact b8
      have y9 : ρ2.1 44 9 = -1 := by rw [F2.2.2 9 (by decide), F1.2.2 9 (by decide)]; exact i9
      have y10 : ρ2.1 44 10 = -1 := by rw [F2.2.2 10 (by decide), F1.2.2 10 (by decide)]; exact i10
      have y11 : ρ2.1 44 11 = 0 := by rw [F2.2.2 11 (by decide), F1.2.2 11 (by decide)]; exact i11
      have y12 : ρ2.1 44 12 = 0 := by rw [F2.2.2 12 (by decide), F1.2.2 12 (by decide)]; exact i12
      have y13 : ρ2.1 44 13 = 0 := by rw [F2.2.2 13 (by decide), F1.2.2 13 (by decide)]; exact i13
      have hcf : mj_cfl ρ2 (mj_f0 kd nbv fr to) := by
        refine ⟨y4, fun i h1 h2 => ?_⟩
        have : i = 34 ∨ i = 35 ∨ i = 36 ∨ i = 37 ∨ i = 38 ∨ i = 39 ∨ i = 40 ∨ i = 41 := by omega
        rcases this with q | q | q | q | q | q | q | q <;> subst q
        · exact a6
        · exact a7
        · exact y8
        · exact y9
        · exact y10
        · exact y11
        · exact y12
        · exact y13
      have hN2 : ρ2.1 14 14 = nI N := by rw [F2.2.1 14 (by decide), F1.2.1 14 (by decide)]; exact hN0
      obtain ⟨ρ3, F3, my, mn, hl⟩ := sp_extras_loop (X := X) (c := c) (e := e) (k := k) (N := N) 6 _ 0 0 (mj_f0 kd nbv fr to) ρ2 hN2 h9 hat2 a3 (by decide) (by decide) (by decide) hcf ek k1 k6 (fun _ => by
        show ¬ (-1 : Int32) = -1 ↔ 3 ≤ 0
        exact ⟨fun z => absurd rfl z, fun z => absurd z (by decide)⟩)
      have eL2 : mj_kl ρ2 c = mj_kl σ c := by rw [mj_kl_Fc F2]; exact eL1
      have ew2 : mj_wkC ρ2 = mj_wkC σ := by rw [mj_wkC_Fc F2, mj_wkC_Fc F1]; exact ew0
      rw [eL2, ew2, ← eX] at my mn
      have oth := fun i hi => mj_mr_oth (L := mj_kl σ c) (e := e) (i := i) (wk := mj_wkC σ) hi 6 (mj_sp (mj_kl σ c) e kd nbv (mj_hd (mj_kl σ c) e).2.1).2.1 0 (mj_f0 kd nbv fr to)
      rw [← eX] at oth
      have y5 : ρ3.1 44 5 = nbv := by
        rw [F3.2.2 5 (by decide), F2.2.2 5 (by decide)]
        exact b5
      refine ⟨ρ3, mj_Fc_tr F2' (mj_Fc_sub (by decide) F3), fun z => ⟨(my z).2, ?_, ?_, ?_⟩, fun d => start d _ ?_⟩
      · rw [oth 42 (by decide), oth 33 (by decide), oth 34 (by decide), oth 35 (by decide), y5]
        rfl
      · rw [oth 43 (by decide), oth 33 (by decide), y5]
        rfl
      · rw [oth 33 (by decide), y5]
        exact hnb
      · have hd : mj_ev X (d + 5) 29 [.ref 44] ρ1 = _ := hsp (d + 1)
        rw [q2] at hd
        have hx : mj_ev X (d + 5) 32 [.ref 44, .ref 14] ρ2 = some (none, ρ3) := by
          refine st32 ?_
          simp only [u32_0, u32_1, u32_2, u32_3, u32_5, u32_6, u32_9, u32_10, u32_11, u32_14, u32_15, u32_18, u32_19, u32_22, u32_25, u32_26, u32_28, u32_31, u32_34, u32_35, u32_36, u32_39, u32_42, u32_44, u32_46, u32_47, u32_50, u32_51, u32_52, u32_54, u32_57, u32_60, u32_61, u32_62, u32_65, u32_68, u32_69, u32_70, u32_71, u32_73, u32_76, u32_77, u32_80, u32_81, u32_84, u32_86, u32_89, u32_90, u32_91, u32_94, u32_98, u32_101, u32_102, u32_105, u32_106, u32_109, u32_110, u32_113, u32_116, u32_117, u32_120, u32_121, u32_124, u32_125, u32_128, u32_129, u32_132, u32_133, u32_134, u32_137, u32_140]
          exact hl mj_junk rfl d
        have y3 : ρ3.1 44 3 = if (mj_rd (mj_kl σ c) e (mj_wkC σ)).1 = true then -1 else nI (mj_rd (mj_kl σ c) e (mj_wkC σ)).2.1 := by
          by_cases g : (mj_rd (mj_kl σ c) e (mj_wkC σ)).1 = true
          · rw [if_pos g]
            exact (my g).1
          · rw [if_neg g]
            exact mn (eq_false_of_ne_true g)
        rw [q1, mj_zT]
        refine u21_59.mpr ?_
        simp only [u21_0, u21_1, u21_2, u21_5, u21_6, u21_7, u21_8, u21_9, u21_12, u21_15, u21_16, u21_17, u21_20, u21_21, u21_22, u21_25, u21_26, u21_27, u21_30, u21_31, u21_32, u21_35, u21_36, u21_37, u21_40, u21_41, u21_42, u21_45, u21_46, u21_47, u21_50, u21_51, u21_52, u21_55, u21_56, u21_62, u21_63, u21_66, u21_69, u21_70, u21_71, u21_74, u21_75, u21_78, hd, hx, y3, mj_noMk_row hc12, mj_noMk_ref, mj_zT, mj_n10, mj_cc_v, mj_cc_n, List.all_cons, List.all_nil, mj_noMk_int, mj_noMk_long, mj_noMk_ref, mj_noMk_junk, List.length_nil, List.length_cons, Nat.zero_le, Nat.reduceLeDiff, Nat.reduceAdd, Bool.and_true, Bool.true_and, Bool.and_self, Nat.reduceBNe, true_or, or_true, true_and, and_true, mj_z0, mj_z1, mj_z01, decide_true, decide_false, Bool.true_and, Bool.false_and, Bool.and_true, Bool.and_false, Bool.true_or, Bool.false_or, Bool.or_false, Bool.or_true, Bool.not_true, Bool.not_false, Bool.and_self, Bool.or_self, if_true, if_false, Bool.true_eq_false, Bool.false_eq_true, not_true, not_false_eq_true]
def mj_ctx (σ : mj_St) (s e : Nat) : Bool × Nat × (Nat → Int32) := mj_rd (mj_kl σ (4 + s)) e (mj_wkC σ)
def mj_cby (σ : mj_St) (s e : Nat) : Int32 := if (mj_ctx σ s e).1 = true ∧ ¬ (mj_ctx σ s e).2.2 34 < σ.1 14 17 then 0 else -6
def mj_cft (σ : mj_St) (s e : Nat) : Int32 := if (mj_ctx σ s e).1 = true then -1 else nI (mj_ctx σ s e).2.1
theorem sp_readingRefusal {s e N : Nat} (hs : s < 8) (hrr : mj_rr σ (nI s) = 0) (hsz : σ.1 2 s = nI e) (he : e ≤ 60) (hN : σ.1 14 14 = nI N) (h9 : N ≤ 9) : ∃ ρ, mj_Fc 44 mj_AF (mj_setR σ 44 0 (some (4 + s))) ρ ∧ ((mj_ctx σ s e).1 = true → mj_crd ρ (mj_ctx σ s e).2.2) ∧ ∀ d, mj_ev X (d + 7) 20 [.ref 0, .int (nI s)] σ = some (some (.int (mj_cby σ s e)), mj_setI ρ 0 12 (mj_cft σ s e)) := by
  obtain ⟨ρ, F, hc, hr⟩ := sp_readPromise (X := X) (c := 4 + s) hN h9 (by omega) (by omega) he
  have eT : mj_rd (mj_kl σ (4 + s)) e (mj_wkC σ) = mj_ctx σ s e := rfl
  rw [eT] at hc hr
  refine ⟨ρ, F, hc, fun d => ?_⟩
  have hrf : mj_ev X (d + 6) 6 [.ref 0, .int (nI s)] σ = some (some (.int 0), σ) := by
    rw [← hrr]
    exact sp_rowRefusal (d := d + 4)
  have hrd := hr d
  have n9 : ((4 + s) != 999) = true := mj_noMk_row (by omega)
  have e12 : (mj_setI ρ 0 12 (if (mj_ctx σ s e).1 = true then -1 else nI (mj_ctx σ s e).2.1)).1 0 12 = if (mj_ctx σ s e).1 = true then -1 else nI (mj_ctx σ s e).2.1 := mj_setI_eq
  have e17 : (mj_setI ρ 0 12 (if (mj_ctx σ s e).1 = true then -1 else nI (mj_ctx σ s e).2.1)).1 14 17 = σ.1 14 17 := by
    rw [mj_setI_ne _ _ _ (by decide), F.2.1 14 (by decide)]
    rfl
  have hle : (mj_ctx σ s e).2.1 ≤ e := mj_rd_le
  unfold mj_cby mj_cft
  refine st20 ?_
  rcases (Bool.eq_false_or_eq_true (mj_ctx σ s e).1).symm with q | q
  · have nb := mj_nIm1 (p := (mj_ctx σ s e).2.1) (by omega)
    rw [q] at hrd e12 e17
    simp only [decide_true, decide_false, Bool.true_and, Bool.false_and, Bool.and_true, Bool.and_false, Bool.true_or, Bool.false_or, Bool.or_false, Bool.or_true, Bool.not_true, Bool.not_false, Bool.and_self, Bool.or_self, if_true, if_false, Bool.true_eq_false, Bool.false_eq_true, not_true, not_false_eq_true] at hrd e12 e17
    simp only [u20_0, u20_1, u20_2, u20_5, u20_6, u20_7, u20_10, u20_11, u20_12, u20_13, u20_14, u20_17, u20_18, u20_21, u20_22, u20_25, u20_26, u20_27, u20_28, u20_31, u20_32, u20_33, u20_36, u20_39, u20_40, u20_43, u20_44, u20_47, u20_48, u20_51, u20_54, u20_55, u20_58, u20_61, u20_64, u20_66, u20_69, u20_70, hrf, hsz, hrd, e12, nb, q, n9, mj_in_nI hs (by decide), mj_nz9 hs (by decide), mj_noMk_ref, false_and, mj_cc_v, mj_cc_n, List.all_cons, List.all_nil, mj_noMk_int, mj_noMk_long, mj_noMk_ref, mj_noMk_junk, List.length_nil, List.length_cons, Nat.zero_le, Nat.reduceLeDiff, Nat.reduceAdd, Bool.and_true, Bool.true_and, Bool.and_self, Nat.reduceBNe, true_or, or_true, true_and, and_true, mj_z0, mj_z1, mj_z01, decide_true, decide_false, Bool.true_and, Bool.false_and, Bool.and_true, Bool.and_false, Bool.true_or, Bool.false_or, Bool.or_false, Bool.or_true, Bool.not_true, Bool.not_false, Bool.and_self, Bool.or_self, if_true, if_false, Bool.true_eq_false, Bool.false_eq_true, not_true, not_false_eq_true]
  · have e6 : ∀ v, (mj_setI ρ 0 12 v).1 44 6 = (mj_ctx σ s e).2.2 34 := fun v => by
      rw [mj_setI_ne _ _ _ (by decide)]
      exact (hc q).1.2 34 (by decide) (by decide)
    rw [q] at hrd e12 e17
    simp only [decide_true, decide_false, Bool.true_and, Bool.false_and, Bool.and_true, Bool.and_false, Bool.true_or, Bool.false_or, Bool.or_false, Bool.or_true, Bool.not_true, Bool.not_false, Bool.and_self, Bool.or_self, if_true, if_false, Bool.true_eq_false, Bool.false_eq_true, not_true, not_false_eq_true] at hrd e12 e17
    by_cases g : (mj_ctx σ s e).2.2 34 < σ.1 14 17
    · simp only [u20_0, u20_1, u20_2, u20_5, u20_6, u20_7, u20_10, u20_11, u20_12, u20_13, u20_14, u20_17, u20_18, u20_21, u20_22, u20_25, u20_26, u20_27, u20_28, u20_31, u20_32, u20_33, u20_36, u20_39, u20_40, u20_43, u20_44, u20_47, u20_48, u20_51, u20_54, u20_55, u20_58, u20_61, u20_64, u20_66, u20_69, u20_70, hrf, hsz, hrd, e12, e17, e6, g, q, n9, mj_in_nI hs (by decide), mj_nz9 hs (by decide), mj_noMk_ref, and_false, mj_cc_v, mj_cc_n, List.all_cons, List.all_nil, mj_noMk_int, mj_noMk_long, mj_noMk_ref, mj_noMk_junk, List.length_nil, List.length_cons, Nat.zero_le, Nat.reduceLeDiff, Nat.reduceAdd, Bool.and_true, Bool.true_and, Bool.and_self, Nat.reduceBNe, true_or, or_true, true_and, and_true, mj_z0, mj_z1, mj_z01, decide_true, decide_false, Bool.true_and, Bool.false_and, Bool.and_true, Bool.and_false, Bool.true_or, Bool.false_or, Bool.or_false, Bool.or_true, Bool.not_true, Bool.not_false, Bool.and_self, Bool.or_self, if_true, if_false, Bool.true_eq_false, Bool.false_eq_true, not_true, not_false_eq_true]
    · simp only [u20_0, u20_1, u20_2, u20_5, u20_6, u20_7, u20_10, u20_11, u20_12, u20_13, u20_14, u20_17, u20_18, u20_21, u20_22, u20_25, u20_26, u20_27, u20_28, u20_31, u20_32, u20_33, u20_36, u20_39, u20_40, u20_43, u20_44, u20_47, u20_48, u20_51, u20_54, u20_55, u20_58, u20_61, u20_64, u20_66, u20_69, u20_70, hrf, hsz, hrd, e12, e17, e6, g, q, n9, mj_in_nI hs (by decide), mj_nz9 hs (by decide), mj_noMk_ref, mj_cc_v, mj_cc_n, List.all_cons, List.all_nil, mj_noMk_int, mj_noMk_long, mj_noMk_ref, mj_noMk_junk, List.length_nil, List.length_cons, Nat.zero_le, Nat.reduceLeDiff, Nat.reduceAdd, Bool.and_true, Bool.true_and, Bool.and_self, Nat.reduceBNe, true_or, or_true, true_and, and_true, mj_z0, mj_z1, mj_z01, decide_true, decide_false, Bool.true_and, Bool.false_and, Bool.and_true, Bool.and_false, Bool.true_or, Bool.false_or, Bool.or_false, Bool.or_true, Bool.not_true, Bool.not_false, Bool.and_self, Bool.or_self, if_true, if_false, Bool.true_eq_false, Bool.false_eq_true, not_true, not_false_eq_true]
theorem sp_readingRefusal_no {s : Int32} (hrr : ¬ mj_rr σ s = 0) : mj_ev X (d + 3) 20 [.ref 0, .int s] σ = some (some (.int (mj_rr σ s)), σ) := by
  have h := sp_rowRefusal (X := X) (d := d) (s := s) (σ := σ)
  refine st20 ?_
  simp only [u20_0, u20_1, u20_2, u20_5, u20_6, u20_7, u20_10, u20_11, u20_12, u20_13, u20_14, u20_17, u20_18, u20_21, u20_22, u20_25, u20_26, u20_27, u20_28, u20_31, u20_32, u20_33, u20_36, u20_39, u20_40, u20_43, u20_44, u20_47, u20_48, u20_51, u20_54, u20_55, u20_58, u20_61, u20_64, u20_66, u20_69, u20_70, h, hrr, mj_cc_v, mj_cc_n, List.all_cons, List.all_nil, mj_noMk_int, mj_noMk_long, mj_noMk_ref, mj_noMk_junk, List.length_nil, List.length_cons, Nat.zero_le, Nat.reduceLeDiff, Nat.reduceAdd, Bool.and_true, Bool.true_and, Bool.and_self, Nat.reduceBNe, true_or, or_true, true_and, and_true, mj_z0, mj_z1, mj_z01, decide_true, decide_false, Bool.true_and, Bool.false_and, Bool.and_true, Bool.and_false, Bool.true_or, Bool.false_or, Bool.or_false, Bool.or_true, Bool.not_true, Bool.not_false, Bool.and_self, Bool.or_self, if_true, if_false, Bool.true_eq_false, Bool.false_eq_true, not_true, not_false_eq_true]
end
