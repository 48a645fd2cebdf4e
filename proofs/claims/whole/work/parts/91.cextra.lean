section
variable {X : mj_X} {d : Nat} {σ τ ρ : mj_St}
theorem mj_gw_cons2 {L : Nat → Int32} {e a : Nat} {ch lo hi : Int32} {w : List Int32} (h : a < e ∧ L a = ch) : mj_gw L e (ch :: w) lo hi a = mj_gw L e w lo hi (a + 1) ∧ mj_tk L e (ch :: w) a = mj_tk L e w (a + 1) := by
  have e1 : mj_tk L e (ch :: w) a = mj_tk L e w (a + 1) := by
    conv => lhs; unfold mj_tk
    rw [if_pos h]
  refine ⟨?_, e1⟩
  unfold mj_gw
  rw [e1]
theorem mj_gw2_cons2 {L : Nat → Int32} {e a : Nat} {ch hi : Int32} {w : List Int32} (h : a < e ∧ L a = ch) : mj_gw2 L e (ch :: w) hi a = mj_gw2 L e w hi (a + 1) := by
  have e1 : mj_tk L e (ch :: w) a = mj_tk L e w (a + 1) := by
    conv => lhs; unfold mj_tk
    rw [if_pos h]
  unfold mj_gw2
  rw [e1]
/-- a word, and a digit if it stands -/
theorem sp_rn1 {c a e x k : Nat} {s : String} {w : List Int32} {lo hi : Int32} (hx : mj_strL[x]? = some (k, s, w)) (hw : w.length < 100) (h : mj_kat σ c a e) (hb : σ.1 44 3 = -1) : ∃ (r : Bool) (σ1 ρ : mj_St) (v : Int32), (∀ d, mj_ev X (d + 2) 25 [.ref 44, .ref (1100 + x)] σ = some (some (.int (mj_z r)), σ1)) ∧ (r = true → ∀ d, mj_ev X (d + 2) 27 [.ref 44, .int 1, .int lo, .int hi] σ1 = some (some (.int v), ρ)) ∧ (r = false → ρ = σ1) ∧ mj_Fc 44 [2, 3] σ ρ ∧ (r = true → σ1.1 44 2 = nI (mj_tk (mj_kl σ c) e w a).2) ∧ ((mj_gw (mj_kl σ c) e w lo hi a).1 = true → r = true ∧ v = (mj_gw (mj_kl σ c) e w lo hi a).2.2 ∧ ρ.1 44 2 = nI (mj_gw (mj_kl σ c) e w lo hi a).2.1 ∧ ρ.1 44 3 = -1) ∧ ((mj_gw (mj_kl σ c) e w lo hi a).1 = false → ρ.1 44 3 = nI (mj_gw (mj_kl σ c) e w lo hi a).2.1) := by
  have hrd : ∀ d, mj_ev X (d + 2) 25 [.ref 44, .ref (1100 + x)] σ = _ := fun d => sp_reads (X := X) (d := d) hx hw h
  have hle := mj_tk_le (L := mj_kl σ c) w a h.2.2.2.2.2.1
  rcases (Bool.eq_false_or_eq_true (mj_tk (mj_kl σ c) e w a).1).symm with q | q
  · have eg : mj_gw (mj_kl σ c) e w lo hi a = (false, (mj_tk (mj_kl σ c) e w a).2, mj_kl σ c (mj_tk (mj_kl σ c) e w a).2 - 48) := by
      unfold mj_gw
      rw [q, Bool.false_and, if_neg mj_ft]
    rw [q] at hrd
    simp only [decide_true, decide_false, Bool.true_and, Bool.false_and, Bool.and_true, Bool.and_false, Bool.true_or, Bool.false_or, Bool.or_false, Bool.or_true, Bool.not_true, Bool.not_false, Bool.and_self, Bool.or_self, if_true, if_false, Bool.true_eq_false, Bool.false_eq_true, not_true, not_false_eq_true] at hrd
    rw [eg]
    exact ⟨false, _, _, 0, hrd, fun z => absurd z mj_ft, fun _ => rfl, mj_Fc_set (by decide) (mj_Fc_set (by decide) mj_Fc_rf), fun z => absurd z mj_ft, fun z => absurd z mj_ft, fun _ => mj_setI_eq⟩
  · rw [q] at hrd
    simp only [decide_true, decide_false, Bool.true_and, Bool.false_and, Bool.and_true, Bool.and_false, Bool.true_or, Bool.false_or, Bool.or_false, Bool.or_true, Bool.not_true, Bool.not_false, Bool.and_self, Bool.or_self, if_true, if_false, Bool.true_eq_false, Bool.false_eq_true, not_true, not_false_eq_true] at hrd
    have h2 := mj_kat_at h hle.2
    obtain ⟨ρ, F, ny, nn, hnum⟩ := sp_numberOf1 (X := X) (lo := lo) (hi := hi) h2
    have eL2 : mj_kl (mj_setI σ 44 2 (nI (mj_tk (mj_kl σ c) e w a).2)) c = mj_kl σ c := rfl
    rw [eL2] at ny nn hnum
    have FS : mj_Fc 44 [2, 3] σ ρ := mj_Fc_tr (mj_Fc_set (by decide) mj_Fc_rf) F
    rcases (Bool.eq_false_or_eq_true (mj_dg (mj_kl σ c) e lo hi (mj_tk (mj_kl σ c) e w a).2)).symm with q2 | q2
    · have eg : mj_gw (mj_kl σ c) e w lo hi a = (false, (mj_tk (mj_kl σ c) e w a).2, mj_kl σ c (mj_tk (mj_kl σ c) e w a).2 - 48) := by
        unfold mj_gw
        rw [q, q2, Bool.and_false, if_neg mj_ft]
      rw [eg]
      exact ⟨true, _, ρ, _, hrd, fun _ => hnum, fun z => absurd z mj_tf, FS, fun _ => mj_setI_eq, fun z => absurd z mj_ft, fun _ => nn q2⟩
    · have eg : mj_gw (mj_kl σ c) e w lo hi a = (true, (mj_tk (mj_kl σ c) e w a).2 + 1, mj_kl σ c (mj_tk (mj_kl σ c) e w a).2 - 48) := by
        unfold mj_gw
        rw [q, q2, Bool.and_self, if_pos rfl]
      rw [eg]
      rw [q2] at hnum
      simp only [decide_true, decide_false, Bool.true_and, Bool.false_and, Bool.and_true, Bool.and_false, Bool.true_or, Bool.false_or, Bool.or_false, Bool.or_true, Bool.not_true, Bool.not_false, Bool.and_self, Bool.or_self, if_true, if_false, Bool.true_eq_false, Bool.false_eq_true, not_true, not_false_eq_true] at hnum
      obtain ⟨b2, b3⟩ := ny q2
      exact ⟨true, _, ρ, _, hrd, fun _ => hnum, fun z => absurd z mj_tf, FS, fun _ => mj_setI_eq, fun _ => ⟨rfl, rfl, b2, b3.trans hb⟩, fun z => absurd z mj_tf⟩
/-- a word, and a number of up to two digits if it stands -/
theorem sp_rn2 {c a e x k : Nat} {s : String} {w : List Int32} {hi : Int32} (hx : mj_strL[x]? = some (k, s, w)) (hw : w.length < 100) (h : mj_kat σ c a e) (hb : σ.1 44 3 = -1) : ∃ (r : Bool) (σ1 ρ : mj_St) (v : Int32), (∀ d, mj_ev X (d + 2) 25 [.ref 44, .ref (1100 + x)] σ = some (some (.int (mj_z r)), σ1)) ∧ (r = true → ∀ d, mj_ev X (d + 2) 27 [.ref 44, .int 2, .int 0, .int hi] σ1 = some (some (.int v), ρ)) ∧ (r = false → ρ = σ1) ∧ mj_Fc 44 [2, 3] σ ρ ∧ ((mj_gw2 (mj_kl σ c) e w hi a).1 = true → r = true ∧ v = (mj_gw2 (mj_kl σ c) e w hi a).2.2 ∧ ρ.1 44 2 = nI (mj_gw2 (mj_kl σ c) e w hi a).2.1 ∧ ρ.1 44 3 = -1) ∧ ((mj_gw2 (mj_kl σ c) e w hi a).1 = false → ρ.1 44 3 = nI (mj_gw2 (mj_kl σ c) e w hi a).2.1) := by
  have hrd : ∀ d, mj_ev X (d + 2) 25 [.ref 44, .ref (1100 + x)] σ = _ := fun d => sp_reads (X := X) (d := d) hx hw h
  have hle := mj_tk_le (L := mj_kl σ c) w a h.2.2.2.2.2.1
  rcases (Bool.eq_false_or_eq_true (mj_tk (mj_kl σ c) e w a).1).symm with q | q
  · have eg : mj_gw2 (mj_kl σ c) e w hi a = (false, (mj_tk (mj_kl σ c) e w a).2, (mj_ds (mj_kl σ c) e (mj_tk (mj_kl σ c) e w a).2).2) := by
      unfold mj_gw2
      rw [q, Bool.false_and, if_neg mj_ft]
    rw [q] at hrd
    simp only [decide_true, decide_false, Bool.true_and, Bool.false_and, Bool.and_true, Bool.and_false, Bool.true_or, Bool.false_or, Bool.or_false, Bool.or_true, Bool.not_true, Bool.not_false, Bool.and_self, Bool.or_self, if_true, if_false, Bool.true_eq_false, Bool.false_eq_true, not_true, not_false_eq_true] at hrd
    rw [eg]
    exact ⟨false, _, _, 0, hrd, fun z => absurd z mj_ft, fun _ => rfl, mj_Fc_set (by decide) (mj_Fc_set (by decide) mj_Fc_rf), fun z => absurd z mj_ft, fun _ => mj_setI_eq⟩
  · rw [q] at hrd
    simp only [decide_true, decide_false, Bool.true_and, Bool.false_and, Bool.and_true, Bool.and_false, Bool.true_or, Bool.false_or, Bool.or_false, Bool.or_true, Bool.not_true, Bool.not_false, Bool.and_self, Bool.or_self, if_true, if_false, Bool.true_eq_false, Bool.false_eq_true, not_true, not_false_eq_true] at hrd
    have h2 := mj_kat_at h hle.2
    obtain ⟨ρ, F, ny, nn, hnum⟩ := sp_numberOf2 (X := X) (lo := 0) (hi := hi) h2
    have eL2 : mj_kl (mj_setI σ 44 2 (nI (mj_tk (mj_kl σ c) e w a).2)) c = mj_kl σ c := rfl
    rw [eL2, mj_nok_ds] at ny nn hnum
    have FS : mj_Fc 44 [2, 3] σ ρ := mj_Fc_tr (mj_Fc_set (by decide) mj_Fc_rf) F
    rcases (Bool.eq_false_or_eq_true (mj_dsok (mj_kl σ c) e hi (mj_tk (mj_kl σ c) e w a).2)).symm with q2 | q2
    · have eg : mj_gw2 (mj_kl σ c) e w hi a = (false, (mj_tk (mj_kl σ c) e w a).2, (mj_ds (mj_kl σ c) e (mj_tk (mj_kl σ c) e w a).2).2) := by
        unfold mj_gw2
        rw [q, q2, Bool.and_false, if_neg mj_ft]
      rw [eg]
      exact ⟨true, _, ρ, _, hrd, fun _ => hnum, fun z => absurd z mj_tf, FS, fun z => absurd z mj_ft, fun _ => nn q2⟩
    · have eg : mj_gw2 (mj_kl σ c) e w hi a = (true, (mj_tk (mj_kl σ c) e w a).2 + (mj_ds (mj_kl σ c) e (mj_tk (mj_kl σ c) e w a).2).1, (mj_ds (mj_kl σ c) e (mj_tk (mj_kl σ c) e w a).2).2) := by
        unfold mj_gw2
        rw [q, q2, Bool.and_self, if_pos rfl]
      rw [eg]
      rw [q2] at hnum
      simp only [decide_true, decide_false, Bool.true_and, Bool.false_and, Bool.and_true, Bool.and_false, Bool.true_or, Bool.false_or, Bool.or_false, Bool.or_true, Bool.not_true, Bool.not_false, Bool.and_self, Bool.or_self, if_true, if_false, Bool.true_eq_false, Bool.false_eq_true, not_true, not_false_eq_true] at hnum
      obtain ⟨b2, b3⟩ := ny q2
      exact ⟨true, _, ρ, _, hrd, fun _ => hnum, fun z => absurd z mj_tf, FS, fun _ => ⟨rfl, rfl, b2, b3.trans hb⟩, fun z => absurd z mj_tf⟩
/-- the fields read so far are the grammar's -/
def mj_cfl (σ : mj_St) (f : Nat → Int32) : Prop := σ.1 44 4 = f 33 ∧ ∀ i, 34 ≤ i → i ≤ 41 → σ.1 44 (i - 28) = f i
theorem mj_cfl_Fc {f : Nat → Int32} (F : mj_Fc 44 [2, 3] σ ρ) (h : mj_cfl σ f) : mj_cfl ρ f := ⟨(F.2.2 4 (by decide)).trans h.1, fun i h1 h2 => (F.2.2 (i - 28) (by simp; omega)).trans (h.2 i h1 h2)⟩
theorem mj_cfl_set {f : Nat → Int32} {i : Nat} {v : Int32} (hi : 36 ≤ i) (h41 : i ≤ 41) (h : mj_cfl σ f) : mj_cfl (mj_setI σ 44 (i - 28) v) (mj_up f i v) := by
  refine ⟨?_, fun j h1 h2 => ?_⟩
  · rw [mj_setI_i (by omega)]
    unfold mj_up
    rw [if_neg (by omega)]
    exact h.1
  · unfold mj_up
    by_cases c : j = i
    · subst c
      rw [if_pos rfl]
      exact mj_setI_eq
    · rw [if_neg c, mj_setI_i (by omega)]
      exact h.2 j h1 h2
/-- what is a work for the class -/
def mj_wkC (σ : mj_St) (v : Int32) : Bool := mj_lt0 v (σ.1 14 14) && mj_wk (σ.1 15 v.toNatClampNeg)
theorem mj_wkC_Fc {S : List Nat} (F : mj_Fc 44 S σ ρ) : mj_wkC ρ = mj_wkC σ := by
  funext v
  unfold mj_wkC
  rw [F.2.1 14 (by decide), F.2.1 15 (by decide)]
def mj_EF : List Nat := [2, 3, 8, 9, 10, 11, 12, 13]
/-- what one more leaves -/
def mj_exS (σ ρ : mj_St) (x : Bool × Nat × Nat × (Nat → Int32)) : Prop := mj_Fc 44 mj_EF σ ρ ∧ (x.1 = true → ρ.1 44 2 = nI x.2.1 ∧ ρ.1 44 3 = -1 ∧ mj_cfl ρ x.2.2.2) ∧ (x.1 = false → ρ.1 44 3 = nI x.2.1)
theorem sp_readWith {c a e : Nat} {f : Nat → Int32} (h : mj_kat σ c a e) (hb : σ.1 44 3 = -1) (hf : mj_cfl σ f) : ∃ ρ, mj_exS σ ρ ((mj_gw (mj_kl σ c) e [119, 105, 116, 104, 32] 0 3 a).1, (mj_gw (mj_kl σ c) e [119, 105, 116, 104, 32] 0 3 a).2.1, 1, mj_up f 36 (mj_gw (mj_kl σ c) e [119, 105, 116, 104, 32] 0 3 a).2.2) ∧ ∀ d, mj_ev X (d + 3) 35 [.ref 44, .ref 14, .int 1] σ = some (none, ρ) := by
  obtain ⟨r, σ1, ρ, v, hr, hn, hno, F, -, hy, hnn⟩ := sp_rn1 (X := X) (x := 9) (w := [119, 105, 116, 104, 32]) (lo := 0) (hi := 3) rfl (by decide) h hb
  have hr' : ∀ d, mj_ev X (d + 2) 25 [.ref 44, .ref 1109] σ = some (some (.int (mj_z r)), σ1) := hr
  generalize mj_gw (mj_kl σ c) e [119, 105, 116, 104, 32] 0 3 a = g at *
  refine ⟨mj_setI ρ 44 8 (if r = true then v else -1), ⟨mj_Fc_set (by decide) (mj_Fc_sub (by decide) F), fun z => ?_, fun z => hnn z⟩, fun d => ?_⟩
  · obtain ⟨y1, y2, y3, y4⟩ := hy z
    rw [if_pos y1, y2]
    exact ⟨y3, y4, mj_cfl_set (i := 36) (by decide) (by decide) (mj_cfl_Fc F hf)⟩
  · have hrd := hr' d
    refine st35 ?_
    cases r
    · rw [hno rfl]
      rw [mj_zF] at hrd
      simp (config := {decide := true}) only [u35_0, u35_1, u35_32, u35_33, u35_34, u35_36, u35_39, u35_42, u35_43, u35_44, u35_45, u35_46, u35_49, u35_52, u35_53, u35_56, u35_59, u35_60, u35_61, u35_64, u35_67, u35_68, u35_69, u35_71, u35_74, u35_77, u35_78, u35_79, u35_80, u35_81, u35_84, u35_87, u35_88, u35_91, u35_92, u35_93, u35_96, u35_97, u35_100, u35_101, u35_103, u35_106, u35_109, u35_110, u35_111, u35_112, u35_113, u35_116, u35_119, u35_120, u35_123, u35_126, u35_127, u35_128, u35_130, u35_133, u35_136, u35_137, u35_138, u35_139, u35_141, u35_144, u35_147, u35_148, u35_151, u35_154, u35_155, u35_156, u35_158, u35_161, u35_164, u35_165, u35_166, u35_167, u35_168, u35_171, u35_174, u35_175, u35_178, hrd, mj_cc_v, mj_cc_n, List.all_cons, List.all_nil, mj_noMk_int, mj_noMk_long, mj_noMk_ref, mj_noMk_junk, List.length_nil, List.length_cons, Nat.zero_le, Nat.reduceLeDiff, Nat.reduceAdd, Bool.and_true, Bool.true_and, Bool.and_self, Nat.reduceBNe, true_or, or_true, true_and, and_true, mj_z0, mj_z1, mj_z01, decide_true, decide_false, Bool.true_and, Bool.false_and, Bool.and_true, Bool.and_false, Bool.true_or, Bool.false_or, Bool.or_false, Bool.or_true, Bool.not_true, Bool.not_false, Bool.and_self, Bool.or_self, if_true, if_false, Bool.true_eq_false, Bool.false_eq_true, not_true, not_false_eq_true]
    · have hnd := hn rfl d
      rw [mj_zT] at hrd
      simp (config := {decide := true}) only [u35_0, u35_1, u35_32, u35_33, u35_34, u35_36, u35_39, u35_42, u35_43, u35_44, u35_45, u35_46, u35_49, u35_52, u35_53, u35_56, u35_59, u35_60, u35_61, u35_64, u35_67, u35_68, u35_69, u35_71, u35_74, u35_77, u35_78, u35_79, u35_80, u35_81, u35_84, u35_87, u35_88, u35_91, u35_92, u35_93, u35_96, u35_97, u35_100, u35_101, u35_103, u35_106, u35_109, u35_110, u35_111, u35_112, u35_113, u35_116, u35_119, u35_120, u35_123, u35_126, u35_127, u35_128, u35_130, u35_133, u35_136, u35_137, u35_138, u35_139, u35_141, u35_144, u35_147, u35_148, u35_151, u35_154, u35_155, u35_156, u35_158, u35_161, u35_164, u35_165, u35_166, u35_167, u35_168, u35_171, u35_174, u35_175, u35_178, hrd, hnd, mj_cc_v, mj_cc_n, List.all_cons, List.all_nil, mj_noMk_int, mj_noMk_long, mj_noMk_ref, mj_noMk_junk, List.length_nil, List.length_cons, Nat.zero_le, Nat.reduceLeDiff, Nat.reduceAdd, Bool.and_true, Bool.true_and, Bool.and_self, Nat.reduceBNe, true_or, or_true, true_and, and_true, mj_z0, mj_z1, mj_z01, decide_true, decide_false, Bool.true_and, Bool.false_and, Bool.and_true, Bool.and_false, Bool.true_or, Bool.false_or, Bool.or_false, Bool.or_true, Bool.not_true, Bool.not_false, Bool.and_self, Bool.or_self, if_true, if_false, Bool.true_eq_false, Bool.false_eq_true, not_true, not_false_eq_true]
theorem sp_readFor {c a e : Nat} {f : Nat → Int32} (h : mj_kat σ c a e) (hb : σ.1 44 3 = -1) (hf : mj_cfl σ f) : ∃ ρ, mj_exS σ ρ ((mj_gw (mj_kl σ c) e [102, 111, 114, 32] 0 5 a).1, (mj_gw (mj_kl σ c) e [102, 111, 114, 32] 0 5 a).2.1, 5, mj_up f 41 (mj_gw (mj_kl σ c) e [102, 111, 114, 32] 0 5 a).2.2) ∧ ∀ d, mj_ev X (d + 3) 35 [.ref 44, .ref 14, .int 5] σ = some (none, ρ) := by
  obtain ⟨r, σ1, ρ, v, hr, hn, hno, F, -, hy, hnn⟩ := sp_rn1 (X := X) (x := 14) (w := [102, 111, 114, 32]) (lo := 0) (hi := 5) rfl (by decide) h hb
  have hr' : ∀ d, mj_ev X (d + 2) 25 [.ref 44, .ref 1114] σ = some (some (.int (mj_z r)), σ1) := hr
  generalize mj_gw (mj_kl σ c) e [102, 111, 114, 32] 0 5 a = g at *
  refine ⟨mj_setI ρ 44 13 (if r = true then v else 0), ⟨mj_Fc_set (by decide) (mj_Fc_sub (by decide) F), fun z => ?_, fun z => hnn z⟩, fun d => ?_⟩
  · obtain ⟨y1, y2, y3, y4⟩ := hy z
    rw [if_pos y1, y2]
    exact ⟨y3, y4, mj_cfl_set (i := 41) (by decide) (by decide) (mj_cfl_Fc F hf)⟩
  · have hrd := hr' d
    refine st35 ?_
    cases r
    · rw [hno rfl]
      rw [mj_zF] at hrd
      simp (config := {decide := true}) only [u35_0, u35_1, u35_32, u35_33, u35_34, u35_36, u35_39, u35_42, u35_43, u35_44, u35_45, u35_46, u35_49, u35_52, u35_53, u35_56, u35_59, u35_60, u35_61, u35_64, u35_67, u35_68, u35_69, u35_71, u35_74, u35_77, u35_78, u35_79, u35_80, u35_81, u35_84, u35_87, u35_88, u35_91, u35_92, u35_93, u35_96, u35_97, u35_100, u35_101, u35_103, u35_106, u35_109, u35_110, u35_111, u35_112, u35_113, u35_116, u35_119, u35_120, u35_123, u35_126, u35_127, u35_128, u35_130, u35_133, u35_136, u35_137, u35_138, u35_139, u35_141, u35_144, u35_147, u35_148, u35_151, u35_154, u35_155, u35_156, u35_158, u35_161, u35_164, u35_165, u35_166, u35_167, u35_168, u35_171, u35_174, u35_175, u35_178, hrd, mj_cc_v, mj_cc_n, List.all_cons, List.all_nil, mj_noMk_int, mj_noMk_long, mj_noMk_ref, mj_noMk_junk, List.length_nil, List.length_cons, Nat.zero_le, Nat.reduceLeDiff, Nat.reduceAdd, Bool.and_true, Bool.true_and, Bool.and_self, Nat.reduceBNe, true_or, or_true, true_and, and_true, mj_z0, mj_z1, mj_z01, decide_true, decide_false, Bool.true_and, Bool.false_and, Bool.and_true, Bool.and_false, Bool.true_or, Bool.false_or, Bool.or_false, Bool.or_true, Bool.not_true, Bool.not_false, Bool.and_self, Bool.or_self, if_true, if_false, Bool.true_eq_false, Bool.false_eq_true, not_true, not_false_eq_true]
    · have hnd := hn rfl d
      rw [mj_zT] at hrd
      simp (config := {decide := true}) only [u35_0, u35_1, u35_32, u35_33, u35_34, u35_36, u35_39, u35_42, u35_43, u35_44, u35_45, u35_46, u35_49, u35_52, u35_53, u35_56, u35_59, u35_60, u35_61, u35_64, u35_67, u35_68, u35_69, u35_71, u35_74, u35_77, u35_78, u35_79, u35_80, u35_81, u35_84, u35_87, u35_88, u35_91, u35_92, u35_93, u35_96, u35_97, u35_100, u35_101, u35_103, u35_106, u35_109, u35_110, u35_111, u35_112, u35_113, u35_116, u35_119, u35_120, u35_123, u35_126, u35_127, u35_128, u35_130, u35_133, u35_136, u35_137, u35_138, u35_139, u35_141, u35_144, u35_147, u35_148, u35_151, u35_154, u35_155, u35_156, u35_158, u35_161, u35_164, u35_165, u35_166, u35_167, u35_168, u35_171, u35_174, u35_175, u35_178, hrd, hnd, mj_cc_v, mj_cc_n, List.all_cons, List.all_nil, mj_noMk_int, mj_noMk_long, mj_noMk_ref, mj_noMk_junk, List.length_nil, List.length_cons, Nat.zero_le, Nat.reduceLeDiff, Nat.reduceAdd, Bool.and_true, Bool.true_and, Bool.and_self, Nat.reduceBNe, true_or, or_true, true_and, and_true, mj_z0, mj_z1, mj_z01, decide_true, decide_false, Bool.true_and, Bool.false_and, Bool.and_true, Bool.and_false, Bool.true_or, Bool.false_or, Bool.or_false, Bool.or_true, Bool.not_true, Bool.not_false, Bool.and_self, Bool.or_self, if_true, if_false, Bool.true_eq_false, Bool.false_eq_true, not_true, not_false_eq_true]
theorem sp_readOwe {c a e : Nat} {f : Nat → Int32} (h : mj_kat σ c a e) (hb : σ.1 44 3 = -1) (hf : mj_cfl σ f) : ∃ ρ, mj_exS σ ρ ((mj_gw2 (mj_kl σ c) e [111, 119, 101, 32] 99 a).1, (mj_gw2 (mj_kl σ c) e [111, 119, 101, 32] 99 a).2.1, 4, mj_up f 40 (mj_gw2 (mj_kl σ c) e [111, 119, 101, 32] 99 a).2.2) ∧ ∀ d, mj_ev X (d + 3) 35 [.ref 44, .ref 14, .int 4] σ = some (none, ρ) := by
  obtain ⟨r, σ1, ρ, v, hr, hn, hno, F, hy, hnn⟩ := sp_rn2 (X := X) (x := 13) (w := [111, 119, 101, 32]) (hi := 99) rfl (by decide) h hb
  have hr' : ∀ d, mj_ev X (d + 2) 25 [.ref 44, .ref 1113] σ = some (some (.int (mj_z r)), σ1) := hr
  generalize mj_gw2 (mj_kl σ c) e [111, 119, 101, 32] 99 a = g at *
  refine ⟨mj_setI ρ 44 12 (if r = true then v else 0), ⟨mj_Fc_set (by decide) (mj_Fc_sub (by decide) F), fun z => ?_, fun z => hnn z⟩, fun d => ?_⟩
  · obtain ⟨y1, y2, y3, y4⟩ := hy z
    rw [if_pos y1, y2]
    exact ⟨y3, y4, mj_cfl_set (i := 40) (by decide) (by decide) (mj_cfl_Fc F hf)⟩
  · have hrd := hr' d
    refine st35 ?_
    cases r
    · rw [hno rfl]
      rw [mj_zF] at hrd
      simp (config := {decide := true}) only [u35_0, u35_1, u35_32, u35_33, u35_34, u35_36, u35_39, u35_42, u35_43, u35_44, u35_45, u35_46, u35_49, u35_52, u35_53, u35_56, u35_59, u35_60, u35_61, u35_64, u35_67, u35_68, u35_69, u35_71, u35_74, u35_77, u35_78, u35_79, u35_80, u35_81, u35_84, u35_87, u35_88, u35_91, u35_92, u35_93, u35_96, u35_97, u35_100, u35_101, u35_103, u35_106, u35_109, u35_110, u35_111, u35_112, u35_113, u35_116, u35_119, u35_120, u35_123, u35_126, u35_127, u35_128, u35_130, u35_133, u35_136, u35_137, u35_138, u35_139, u35_141, u35_144, u35_147, u35_148, u35_151, u35_154, u35_155, u35_156, u35_158, u35_161, u35_164, u35_165, u35_166, u35_167, u35_168, u35_171, u35_174, u35_175, u35_178, hrd, mj_cc_v, mj_cc_n, List.all_cons, List.all_nil, mj_noMk_int, mj_noMk_long, mj_noMk_ref, mj_noMk_junk, List.length_nil, List.length_cons, Nat.zero_le, Nat.reduceLeDiff, Nat.reduceAdd, Bool.and_true, Bool.true_and, Bool.and_self, Nat.reduceBNe, true_or, or_true, true_and, and_true, mj_z0, mj_z1, mj_z01, decide_true, decide_false, Bool.true_and, Bool.false_and, Bool.and_true, Bool.and_false, Bool.true_or, Bool.false_or, Bool.or_false, Bool.or_true, Bool.not_true, Bool.not_false, Bool.and_self, Bool.or_self, if_true, if_false, Bool.true_eq_false, Bool.false_eq_true, not_true, not_false_eq_true]
    · have hnd := hn rfl d
      rw [mj_zT] at hrd
      simp (config := {decide := true}) only [u35_0, u35_1, u35_32, u35_33, u35_34, u35_36, u35_39, u35_42, u35_43, u35_44, u35_45, u35_46, u35_49, u35_52, u35_53, u35_56, u35_59, u35_60, u35_61, u35_64, u35_67, u35_68, u35_69, u35_71, u35_74, u35_77, u35_78, u35_79, u35_80, u35_81, u35_84, u35_87, u35_88, u35_91, u35_92, u35_93, u35_96, u35_97, u35_100, u35_101, u35_103, u35_106, u35_109, u35_110, u35_111, u35_112, u35_113, u35_116, u35_119, u35_120, u35_123, u35_126, u35_127, u35_128, u35_130, u35_133, u35_136, u35_137, u35_138, u35_139, u35_141, u35_144, u35_147, u35_148, u35_151, u35_154, u35_155, u35_156, u35_158, u35_161, u35_164, u35_165, u35_166, u35_167, u35_168, u35_171, u35_174, u35_175, u35_178, hrd, hnd, mj_cc_v, mj_cc_n, List.all_cons, List.all_nil, mj_noMk_int, mj_noMk_long, mj_noMk_ref, mj_noMk_junk, List.length_nil, List.length_cons, Nat.zero_le, Nat.reduceLeDiff, Nat.reduceAdd, Bool.and_true, Bool.true_and, Bool.and_self, Nat.reduceBNe, true_or, or_true, true_and, and_true, mj_z0, mj_z1, mj_z01, decide_true, decide_false, Bool.true_and, Bool.false_and, Bool.and_true, Bool.and_false, Bool.true_or, Bool.false_or, Bool.or_false, Bool.or_true, Bool.not_true, Bool.not_false, Bool.and_self, Bool.or_self, if_true, if_false, Bool.true_eq_false, Bool.false_eq_true, not_true, not_false_eq_true]
theorem sp_readAfter {c a e : Nat} {f : Nat → Int32} {N : Nat} (hN : σ.1 14 14 = nI N) (h9 : N ≤ 9) (h : mj_kat σ c a e) (hb : σ.1 44 3 = -1) (hf : mj_cfl σ f) : ∃ ρ, mj_exS σ ρ (if (mj_gw (mj_kl σ c) e [97, 102, 116, 101, 114, 32] 0 9 a).1 = true then (if mj_wkC σ (mj_gw (mj_kl σ c) e [97, 102, 116, 101, 114, 32] 0 9 a).2.2 = true then (true, (mj_gw (mj_kl σ c) e [97, 102, 116, 101, 114, 32] 0 9 a).2.1, 2, mj_up f 37 (mj_gw (mj_kl σ c) e [97, 102, 116, 101, 114, 32] 0 9 a).2.2) else (false, (mj_tk (mj_kl σ c) e [97, 102, 116, 101, 114, 32] a).2, 0, f)) else (false, (mj_gw (mj_kl σ c) e [97, 102, 116, 101, 114, 32] 0 9 a).2.1, 0, f)) ∧ ∀ d, mj_ev X (d + 4) 35 [.ref 44, .ref 14, .int 2] σ = some (none, ρ) := by
  obtain ⟨r, σ1, ρ, v, hr, hn, hno, F, hat, hy, hnn⟩ := sp_rn1 (X := X) (x := 10) (w := [97, 102, 116, 101, 114, 32]) (lo := 0) (hi := 9) rfl (by decide) h hb
  have hr' : ∀ d, mj_ev X (d + 2) 25 [.ref 44, .ref 1110] σ = some (some (.int (mj_z r)), σ1) := hr
  have hle := (mj_tk_le (L := mj_kl σ c) [97, 102, 116, 101, 114, 32] a h.2.2.2.2.2.1).2
  have hgle := mj_gw_le (L := mj_kl σ c) (e := e) (lo := 0) (hi := 9) (w := [97, 102, 116, 101, 114, 32]) h.2.2.2.2.2.1
  have he60 := h.2.2.2.2.2.2
  have go : ∀ ρ', (∀ d, mj_ev X (d + 3) 36 [.ref 44, .ref 14] σ = some (none, ρ')) → ∀ d, mj_ev X (d + 4) 35 [.ref 44, .ref 14, .int 2] σ = some (none, ρ') := by
    intro ρ' hh d
    refine st35 ?_
    simp (config := {decide := true}) only [u35_0, u35_1, u35_32, u35_33, u35_34, u35_36, u35_39, u35_42, u35_43, u35_44, u35_45, u35_46, u35_49, u35_52, u35_53, u35_56, u35_59, u35_60, u35_61, u35_64, u35_67, u35_68, u35_69, u35_71, u35_74, u35_77, u35_78, u35_79, u35_80, u35_81, u35_84, u35_87, u35_88, u35_91, u35_92, u35_93, u35_96, u35_97, u35_100, u35_101, u35_103, u35_106, u35_109, u35_110, u35_111, u35_112, u35_113, u35_116, u35_119, u35_120, u35_123, u35_126, u35_127, u35_128, u35_130, u35_133, u35_136, u35_137, u35_138, u35_139, u35_141, u35_144, u35_147, u35_148, u35_151, u35_154, u35_155, u35_156, u35_158, u35_161, u35_164, u35_165, u35_166, u35_167, u35_168, u35_171, u35_174, u35_175, u35_178, hh d, mj_cc_v, mj_cc_n, List.all_cons, List.all_nil, mj_noMk_int, mj_noMk_long, mj_noMk_ref, mj_noMk_junk, List.length_nil, List.length_cons, Nat.zero_le, Nat.reduceLeDiff, Nat.reduceAdd, Bool.and_true, Bool.true_and, Bool.and_self, Nat.reduceBNe, true_or, or_true, true_and, and_true, mj_z0, mj_z1, mj_z01, decide_true, decide_false, Bool.true_and, Bool.false_and, Bool.and_true, Bool.and_false, Bool.true_or, Bool.false_or, Bool.or_false, Bool.or_true, Bool.not_true, Bool.not_false, Bool.and_self, Bool.or_self, if_true, if_false, Bool.true_eq_false, Bool.false_eq_true, not_true, not_false_eq_true]
  generalize mj_gw (mj_kl σ c) e [97, 102, 116, 101, 114, 32] 0 9 a = g at *
  generalize (mj_tk (mj_kl σ c) e [97, 102, 116, 101, 114, 32] a).2 = t at *
  cases r
  · -- no word
    have g0 : g.1 = false := by
      rcases (Bool.eq_false_or_eq_true g.1).symm with q | q
      · exact q
      · exact absurd (hy q).1 mj_ft
    rw [if_neg (by rw [g0]; decide)]
    refine ⟨ρ, ⟨mj_Fc_sub (by decide) F, fun z => absurd z mj_ft, fun _ => hnn g0⟩, go ρ (fun d => ?_)⟩
    have hrd := hr' d
    rw [mj_zF] at hrd
    rw [hno rfl]
    refine st36 ?_
    simp only [u36_0, u36_1, u36_3, u36_6, u36_9, u36_10, u36_11, u36_14, u36_15, u36_16, u36_17, u36_18, u36_19, u36_21, u36_24, u36_27, u36_28, u36_31, u36_32, u36_35, u36_36, u36_37, u36_40, u36_43, u36_46, u36_47, u36_48, u36_51, u36_52, hrd, mj_cc_v, mj_cc_n, List.all_cons, List.all_nil, mj_noMk_int, mj_noMk_long, mj_noMk_ref, mj_noMk_junk, List.length_nil, List.length_cons, Nat.zero_le, Nat.reduceLeDiff, Nat.reduceAdd, Bool.and_true, Bool.true_and, Bool.and_self, Nat.reduceBNe, true_or, or_true, true_and, and_true, mj_z0, mj_z1, mj_z01, decide_true, decide_false, Bool.true_and, Bool.false_and, Bool.and_true, Bool.and_false, Bool.true_or, Bool.false_or, Bool.or_false, Bool.or_true, Bool.not_true, Bool.not_false, Bool.and_self, Bool.or_self, if_true, if_false, Bool.true_eq_false, Bool.false_eq_true, not_true, not_false_eq_true]
  · have hat' := hat rfl
    have hN' : ∀ w, (mj_setI ρ 44 9 w).1 14 14 = nI N := fun w => by
      rw [mj_setI_ne _ _ _ (by decide), F.2.1 14 (by decide)]
      exact hN
    have hiw : ∀ d w, mj_ev X (d + 2) 37 [.ref 14, .int w] (mj_setI ρ 44 9 w) = some (some (.int (mj_z (mj_wkC σ w))), mj_setI ρ 44 9 w) := fun d w => by
      have := sp_isWork (X := X) (d := d) (x := w) (σ := mj_setI ρ 44 9 w) (by rw [hN', nI_toInt (by omega)]; omega)
      have ew : mj_wkC (mj_setI ρ 44 9 w) = mj_wkC σ := by
        have := mj_wkC_Fc (mj_Fc_set (k := 44) (S := [2, 3, 9]) (i := 9) (v := w) (by decide) (mj_Fc_sub (by decide) F))
        exact this
      rw [← ew]
      exact this
    rcases (Bool.eq_false_or_eq_true g.1).symm with q | q
    · rw [if_neg (by rw [q]; decide)]
      have hn3 := hnn q
      have nb := mj_nIm1 (p := g.2.1) (by omega)
      refine ⟨mj_setI ρ 44 9 v, ⟨mj_Fc_set (by decide) (mj_Fc_sub (by decide) F), fun z => absurd z mj_ft, fun _ => hn3⟩, go _ (fun d => ?_)⟩
      have hrd := hr' d
      have hnd := hn rfl d
      rw [mj_zT] at hrd
      have y3 : (mj_setI ρ 44 9 v).1 44 3 = nI g.2.1 := hn3
      refine st36 ?_
      simp only [u36_0, u36_1, u36_3, u36_6, u36_9, u36_10, u36_11, u36_14, u36_15, u36_16, u36_17, u36_18, u36_19, u36_21, u36_24, u36_27, u36_28, u36_31, u36_32, u36_35, u36_36, u36_37, u36_40, u36_43, u36_46, u36_47, u36_48, u36_51, u36_52, hrd, hat', hnd, y3, nb, mj_n10, mj_cc_v, mj_cc_n, List.all_cons, List.all_nil, mj_noMk_int, mj_noMk_long, mj_noMk_ref, mj_noMk_junk, List.length_nil, List.length_cons, Nat.zero_le, Nat.reduceLeDiff, Nat.reduceAdd, Bool.and_true, Bool.true_and, Bool.and_self, Nat.reduceBNe, true_or, or_true, true_and, and_true, mj_z0, mj_z1, mj_z01, decide_true, decide_false, Bool.true_and, Bool.false_and, Bool.and_true, Bool.and_false, Bool.true_or, Bool.false_or, Bool.or_false, Bool.or_true, Bool.not_true, Bool.not_false, Bool.and_self, Bool.or_self, if_true, if_false, Bool.true_eq_false, Bool.false_eq_true, not_true, not_false_eq_true]
    · rw [if_pos q]
      obtain ⟨-, y2, y3, y4⟩ := hy q
      have y4' : (mj_setI ρ 44 9 v).1 44 3 = -1 := y4
      have y9 : (mj_setI ρ 44 9 v).1 44 9 = v := mj_setI_eq
      rcases (Bool.eq_false_or_eq_true (mj_wkC σ g.2.2)).symm with q2 | q2
      · rw [if_neg (by rw [q2]; decide)]
        refine ⟨mj_setI (mj_setI ρ 44 9 v) 44 3 (nI t), ⟨mj_Fc_set (by decide) (mj_Fc_set (by decide) (mj_Fc_sub (by decide) F)), fun z => absurd z mj_ft, fun _ => mj_setI_eq⟩, go _ (fun d => ?_)⟩
        have hrd := hr' d
        have hnd := hn rfl d
        have hwd := hiw d v
        rw [y2, q2, ← y2] at hwd
        rw [mj_zT] at hrd
        have hbad : mj_ev X (d + 2) 26 [.ref 44, .int (nI t)] (mj_setI ρ 44 9 v) = some (some (.int 0), mj_setI (mj_setI ρ 44 9 v) 44 3 (nI t)) := sp_isBadAt
        refine st36 ?_
        simp only [u36_0, u36_1, u36_3, u36_6, u36_9, u36_10, u36_11, u36_14, u36_15, u36_16, u36_17, u36_18, u36_19, u36_21, u36_24, u36_27, u36_28, u36_31, u36_32, u36_35, u36_36, u36_37, u36_40, u36_43, u36_46, u36_47, u36_48, u36_51, u36_52, hrd, hat', hnd, y4', y9, hwd, hbad, mj_n10, mj_zF, mj_cc_v, mj_cc_n, List.all_cons, List.all_nil, mj_noMk_int, mj_noMk_long, mj_noMk_ref, mj_noMk_junk, List.length_nil, List.length_cons, Nat.zero_le, Nat.reduceLeDiff, Nat.reduceAdd, Bool.and_true, Bool.true_and, Bool.and_self, Nat.reduceBNe, true_or, or_true, true_and, and_true, mj_z0, mj_z1, mj_z01, decide_true, decide_false, Bool.true_and, Bool.false_and, Bool.and_true, Bool.and_false, Bool.true_or, Bool.false_or, Bool.or_false, Bool.or_true, Bool.not_true, Bool.not_false, Bool.and_self, Bool.or_self, if_true, if_false, Bool.true_eq_false, Bool.false_eq_true, not_true, not_false_eq_true]
      · rw [if_pos q2]
        refine ⟨mj_setI ρ 44 9 v, ⟨mj_Fc_set (by decide) (mj_Fc_sub (by decide) F), fun _ => ⟨y3, y4, ?_⟩, fun z => absurd z mj_tf⟩, go _ (fun d => ?_)⟩
        · rw [← y2]
          exact mj_cfl_set (i := 37) (by decide) (by decide) (mj_cfl_Fc F hf)
        · have hrd := hr' d
          have hnd := hn rfl d
          have hwd := hiw d v
          rw [y2, q2, ← y2] at hwd
          rw [mj_zT] at hrd
          refine st36 ?_
          simp only [u36_0, u36_1, u36_3, u36_6, u36_9, u36_10, u36_11, u36_14, u36_15, u36_16, u36_17, u36_18, u36_19, u36_21, u36_24, u36_27, u36_28, u36_31, u36_32, u36_35, u36_36, u36_37, u36_40, u36_43, u36_46, u36_47, u36_48, u36_51, u36_52, hrd, hat', hnd, y4', y9, hwd, mj_n10, mj_zT, mj_cc_v, mj_cc_n, List.all_cons, List.all_nil, mj_noMk_int, mj_noMk_long, mj_noMk_ref, mj_noMk_junk, List.length_nil, List.length_cons, Nat.zero_le, Nat.reduceLeDiff, Nat.reduceAdd, Bool.and_true, Bool.true_and, Bool.and_self, Nat.reduceBNe, true_or, or_true, true_and, and_true, mj_z0, mj_z1, mj_z01, decide_true, decide_false, Bool.true_and, Bool.false_and, Bool.and_true, Bool.and_false, Bool.true_or, Bool.false_or, Bool.or_false, Bool.or_true, Bool.not_true, Bool.not_false, Bool.and_self, Bool.or_self, if_true, if_false, Bool.true_eq_false, Bool.false_eq_true, not_true, not_false_eq_true]
end
