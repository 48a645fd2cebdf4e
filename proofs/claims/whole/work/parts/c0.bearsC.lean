section
variable {X : mj_X} {d : Nat} {σ τ ρ : mj_St}
def mj_evC (σ : mj_St) : Int32 := (1 <<< (σ.1 14 14 &&& 31)) - 1
/-- what isKept says, whatever a search left behind -/
def mj_KH (σ : mj_St) (N w : Nat) (K : Int32 → Nat → Bool) : Prop := ∀ τ, mj_Fs σ τ → ∀ set o, o < 8 → mj_ckp τ set (nI o) N w = K set o
def mj_BH (σ : mj_St) (N w : Nat) (b : Bool) : Prop := ∀ τ, mj_Fs σ τ → mj_ckg τ (mj_evC σ) 8 0 N w = b
theorem mj_KH_Fs {N w : Nat} {K : Int32 → Nat → Bool} (h : mj_KH σ N w K) (F : mj_Fs σ τ) : mj_KH τ N w K := fun ρ G set o ho => h ρ (mj_Fs_tr F G) set o ho
def mj_fix (σ : mj_St) (N : Nat) : Int32 := mj_tld σ ||| (mj_usd σ N ^^^ -1)
def mj_bsl (σ : mj_St) (N o : Nat) : Bool := decide (((nI o ^^^ σ.1 14 18) &&& mj_fix σ N) &&& 7 = 0)
def mj_bav (σ : mj_St) (N : Nat) (K : Int32 → Nat → Bool) (b : Bool) : Bool := !(mj_anyF (fun o => mj_bsl σ N o && !(K (mj_evC σ) o)) 0 8) && b
/-- a search that stands for all outcomes -/
def mj_std (σ ρ : mj_St) (N w : Nat) : Prop := ∃ τ, mj_Fs σ τ ∧ mj_Fm (mj_prS τ (mj_evC σ) 8 0 N w) ρ ∧ (mj_hp0 τ (mj_evC σ) = false → w < 12 → (mj_prS τ (mj_evC σ) 8 0 N w).1 46 4 = 0 → mj_MI ρ (mj_qn τ (mj_evC σ) 8 0 N) w 8)
theorem sp_bearsC {N w : Nat} {K : Int32 → Nat → Bool} {b : Bool} (hX : mj_XS X) (hc : mj_pc σ N w) (he : mj_pe σ) (hK : mj_KH σ N w K) (hB : mj_BH σ N w b) : ∃ ρ, mj_Fs σ ρ ∧ (mj_bav σ N K b = true → mj_std σ ρ N w) ∧ ∀ d, mj_ev X (d + 42) 100 [.ref 0] σ = some (some (.int (mj_z (mj_bav σ N K b))), ρ) := by
  have loop : ∀ (j o : Nat) (τ : mj_St), o + j = 8 → mj_Fs σ τ → ∃ ρ, mj_Fs σ ρ ∧ ((!(mj_anyF (fun o => mj_bsl σ N o && !(K (mj_evC σ) o)) o j) && b) = true → mj_std σ ρ N w) ∧ ∀ d, mj_Runs X (mj_ev X (d + 41)) 5 (some .boolean) prog_1_method_65_code (20, [.ref 0, .int (mj_fix σ N), .int (nI o)], [], τ) (some (.int (mj_z (!(mj_anyF (fun o => mj_bsl σ N o && !(K (mj_evC σ) o)) o j) && b))), ρ) := by
    intro j
    induction j with
    | zero =>
      intro o τ ho F
      have hcτ := mj_Fs_pc F hc
      have heτ := mj_Fs_pe F he
      have e14 : τ.1 14 = σ.1 14 := F.1 14 (Or.inl (by decide))
      obtain ⟨ρ, G, M, h⟩ := mj_prsuc (set := mj_evC σ) (o := 0) (gr := 8) hX hcτ (Or.inr rfl) heτ
      have q : ¬ nI o < 8 := nI_nlt (b := 8) (by omega) (by omega)
      refine ⟨ρ, mj_Fs_tr F (mj_Fs_tr (mj_prS_Fs hcτ (Or.inr rfl)) (mj_Fs_Fm G)), fun _ => ⟨τ, F, G, M⟩, fun d => ?_⟩
      have hev : mj_ev X (d + 41) 53 [.ref 14] τ = some (some (.int (mj_evC σ)), τ) := by
        have h1 := sp_everyone (X := X) (d := d + 40) (σ := τ)
        rw [e14] at h1
        exact h1
      have hp := sp_prepare (X := X) (d := d + 36) (σ := τ) (set := mj_evC σ) (gc := 8) (o := 0) (gr := 8) hX hcτ (Or.inl ⟨by decide, rfl⟩)
      have hd := h (d + 1)
      rw [hB τ F] at hd
      simp only [mj_anyF, Bool.not_false, Bool.true_and]
      refine u100_20.mpr ?_
      cases b
      · simp only [u100_0, u100_1, u100_4, u100_7, u100_8, u100_11, u100_14, u100_15, u100_16, u100_17, u100_18, u100_19, u100_21, u100_23, u100_26, u100_27, u100_28, u100_31, u100_34, u100_35, u100_36, u100_37, u100_39, u100_40, u100_43, u100_44, u100_45, u100_48, u100_51, u100_52, u100_55, u100_58, u100_59, u100_60, u100_63, u100_66, u100_67, u100_70, u100_71, u100_74, u100_75, u100_78, u100_81, u100_83, u100_84, u100_87, u100_88, u100_91, u100_94, q, hev, hp, hd, mj_zF, mj_cc_v, mj_cc_n, List.all_cons, List.all_nil, mj_noMk_int, mj_noMk_long, mj_noMk_ref, mj_noMk_junk, List.length_nil, List.length_cons, Nat.zero_le, Nat.reduceLeDiff, Nat.reduceAdd, Bool.and_true, Bool.true_and, Bool.and_self, Nat.reduceBNe, true_or, or_true, true_and, and_true, mj_z0, mj_z1, mj_z01, decide_true, decide_false, Bool.true_and, Bool.false_and, Bool.and_true, Bool.and_false, Bool.true_or, Bool.false_or, Bool.or_false, Bool.or_true, Bool.not_true, Bool.not_false, Bool.and_self, Bool.or_self, if_true, if_false, Bool.true_eq_false, Bool.false_eq_true, not_true, not_false_eq_true]
      · simp only [u100_0, u100_1, u100_4, u100_7, u100_8, u100_11, u100_14, u100_15, u100_16, u100_17, u100_18, u100_19, u100_21, u100_23, u100_26, u100_27, u100_28, u100_31, u100_34, u100_35, u100_36, u100_37, u100_39, u100_40, u100_43, u100_44, u100_45, u100_48, u100_51, u100_52, u100_55, u100_58, u100_59, u100_60, u100_63, u100_66, u100_67, u100_70, u100_71, u100_74, u100_75, u100_78, u100_81, u100_83, u100_84, u100_87, u100_88, u100_91, u100_94, q, hev, hp, hd, mj_zT, mj_n10, mj_cc_v, mj_cc_n, List.all_cons, List.all_nil, mj_noMk_int, mj_noMk_long, mj_noMk_ref, mj_noMk_junk, List.length_nil, List.length_cons, Nat.zero_le, Nat.reduceLeDiff, Nat.reduceAdd, Bool.and_true, Bool.true_and, Bool.and_self, Nat.reduceBNe, true_or, or_true, true_and, and_true, mj_z0, mj_z1, mj_z01, decide_true, decide_false, Bool.true_and, Bool.false_and, Bool.and_true, Bool.and_false, Bool.true_or, Bool.false_or, Bool.or_false, Bool.or_true, Bool.not_true, Bool.not_false, Bool.and_self, Bool.or_self, if_true, if_false, Bool.true_eq_false, Bool.false_eq_true, not_true, not_false_eq_true]
    | succ j ih =>
      intro o τ ho F
      have hcτ := mj_Fs_pc F hc
      have heτ := mj_Fs_pe F he
      have e14 : τ.1 14 = σ.1 14 := F.1 14 (Or.inl (by decide))
      have q : nI o < 8 := nI_lt (b := 8) (by omega) (by decide)
      simp only [mj_anyF]
      by_cases c1 : ((nI o ^^^ σ.1 14 18) &&& mj_fix σ N) &&& 7 = 0
      · have e1 : mj_bsl σ N o = true := decide_eq_true c1
        obtain ⟨ρ, G, h⟩ := sp_keptC (set := mj_evC σ) (o := nI o) hX hcτ heτ
        rw [hK τ F (mj_evC σ) o (by omega)] at h
        cases c2 : K (mj_evC σ) o
        · rw [c2] at h
          refine ⟨ρ, mj_Fs_tr F G, ?_, fun d => ?_⟩
          · rw [e1]
            intro z
            exact absurd z (by simp)
          · rw [e1]
            have hev : mj_ev X (d + 41) 53 [.ref 14] τ = some (some (.int (mj_evC σ)), τ) := by
              have h1 := sp_everyone (X := X) (d := d + 40) (σ := τ)
              rw [e14] at h1
              exact h1
            have hd := h d
            refine u100_20.mpr ?_
            simp only [u100_0, u100_1, u100_4, u100_7, u100_8, u100_11, u100_14, u100_15, u100_16, u100_17, u100_18, u100_19, u100_21, u100_23, u100_26, u100_27, u100_28, u100_31, u100_34, u100_35, u100_36, u100_37, u100_39, u100_40, u100_43, u100_44, u100_45, u100_48, u100_51, u100_52, u100_55, u100_58, u100_59, u100_60, u100_63, u100_66, u100_67, u100_70, u100_71, u100_74, u100_75, u100_78, u100_81, u100_83, u100_84, u100_87, u100_88, u100_91, u100_94, q, e14, eq_true c1, hev, hd, mj_zF, mj_cc_v, mj_cc_n, List.all_cons, List.all_nil, mj_noMk_int, mj_noMk_long, mj_noMk_ref, mj_noMk_junk, List.length_nil, List.length_cons, Nat.zero_le, Nat.reduceLeDiff, Nat.reduceAdd, Bool.and_true, Bool.true_and, Bool.and_self, Nat.reduceBNe, true_or, or_true, true_and, and_true, mj_z0, mj_z1, mj_z01, decide_true, decide_false, Bool.true_and, Bool.false_and, Bool.and_true, Bool.and_false, Bool.true_or, Bool.false_or, Bool.or_false, Bool.or_true, Bool.not_true, Bool.not_false, Bool.and_self, Bool.or_self, if_true, if_false, Bool.true_eq_false, Bool.false_eq_true, not_true, not_false_eq_true]
        · rw [c2] at h
          obtain ⟨ρ2, G2, S2, h2⟩ := ih (o + 1) ρ (by omega) (mj_Fs_tr F G)
          refine ⟨ρ2, G2, ?_, fun d => ?_⟩
          · rw [e1]
            intro z
            exact S2 (by simpa using z)
          · rw [e1]
            have hev : mj_ev X (d + 41) 53 [.ref 14] τ = some (some (.int (mj_evC σ)), τ) := by
              have h1 := sp_everyone (X := X) (d := d + 40) (σ := τ)
              rw [e14] at h1
              exact h1
            have hd := h d
            have h2d := h2 d
            refine u100_20.mpr ?_
            simp only [u100_0, u100_1, u100_4, u100_7, u100_8, u100_11, u100_14, u100_15, u100_16, u100_17, u100_18, u100_19, u100_21, u100_23, u100_26, u100_27, u100_28, u100_31, u100_34, u100_35, u100_36, u100_37, u100_39, u100_40, u100_43, u100_44, u100_45, u100_48, u100_51, u100_52, u100_55, u100_58, u100_59, u100_60, u100_63, u100_66, u100_67, u100_70, u100_71, u100_74, u100_75, u100_78, u100_81, u100_83, u100_84, u100_87, u100_88, u100_91, u100_94, q, e14, eq_true c1, hev, hd, mj_zT, mj_n10, nI_1, mj_cc_v, mj_cc_n, List.all_cons, List.all_nil, mj_noMk_int, mj_noMk_long, mj_noMk_ref, mj_noMk_junk, List.length_nil, List.length_cons, Nat.zero_le, Nat.reduceLeDiff, Nat.reduceAdd, Bool.and_true, Bool.true_and, Bool.and_self, Nat.reduceBNe, true_or, or_true, true_and, and_true, mj_z0, mj_z1, mj_z01, decide_true, decide_false, Bool.true_and, Bool.false_and, Bool.and_true, Bool.and_false, Bool.true_or, Bool.false_or, Bool.or_false, Bool.or_true, Bool.not_true, Bool.not_false, Bool.and_self, Bool.or_self, if_true, if_false, Bool.true_eq_false, Bool.false_eq_true, not_true, not_false_eq_true]
            exact h2d
      · have e1 : mj_bsl σ N o = false := decide_eq_false c1
        obtain ⟨ρ2, G2, S2, h2⟩ := ih (o + 1) τ (by omega) F
        refine ⟨ρ2, G2, ?_, fun d => ?_⟩
        · rw [e1]
          intro z
          exact S2 (by simpa using z)
        · rw [e1]
          have h2d := h2 d
          refine u100_20.mpr ?_
          simp only [u100_0, u100_1, u100_4, u100_7, u100_8, u100_11, u100_14, u100_15, u100_16, u100_17, u100_18, u100_19, u100_21, u100_23, u100_26, u100_27, u100_28, u100_31, u100_34, u100_35, u100_36, u100_37, u100_39, u100_40, u100_43, u100_44, u100_45, u100_48, u100_51, u100_52, u100_55, u100_58, u100_59, u100_60, u100_63, u100_66, u100_67, u100_70, u100_71, u100_74, u100_75, u100_78, u100_81, u100_83, u100_84, u100_87, u100_88, u100_91, u100_94, q, e14, eq_false c1, nI_1, mj_cc_v, mj_cc_n, List.all_cons, List.all_nil, mj_noMk_int, mj_noMk_long, mj_noMk_ref, mj_noMk_junk, List.length_nil, List.length_cons, Nat.zero_le, Nat.reduceLeDiff, Nat.reduceAdd, Bool.and_true, Bool.true_and, Bool.and_self, Nat.reduceBNe, true_or, or_true, true_and, and_true, mj_z0, mj_z1, mj_z01, decide_true, decide_false, Bool.true_and, Bool.false_and, Bool.and_true, Bool.and_false, Bool.true_or, Bool.false_or, Bool.or_false, Bool.or_true, Bool.not_true, Bool.not_false, Bool.and_self, Bool.or_self, if_true, if_false, Bool.true_eq_false, Bool.false_eq_true, not_true, not_false_eq_true]
          exact h2d
  obtain ⟨ρ, F, S, h⟩ := loop 8 0 σ (by omega) mj_Fs_rf
  refine ⟨ρ, F, S, fun d => ?_⟩
  have ht : mj_ev X (d + 41) 56 [.ref 14] σ = some (some (.int (mj_tld σ)), σ) := sp_toldForks (d := d + 40)
  have hu : mj_ev X (d + 41) 57 [.ref 14] σ = some (some (.int (mj_usd σ N)), σ) := sp_forksInUse (d := d + 40) hc.1 hc.2.1
  have hd := h d
  refine st100 ?_
  simp only [u100_0, u100_1, u100_4, u100_7, u100_8, u100_11, u100_14, u100_15, u100_16, u100_17, u100_18, u100_19, u100_21, u100_23, u100_26, u100_27, u100_28, u100_31, u100_34, u100_35, u100_36, u100_37, u100_39, u100_40, u100_43, u100_44, u100_45, u100_48, u100_51, u100_52, u100_55, u100_58, u100_59, u100_60, u100_63, u100_66, u100_67, u100_70, u100_71, u100_74, u100_75, u100_78, u100_81, u100_83, u100_84, u100_87, u100_88, u100_91, u100_94, ht, hu, mj_cc_v, mj_cc_n, List.all_cons, List.all_nil, mj_noMk_int, mj_noMk_long, mj_noMk_ref, mj_noMk_junk, List.length_nil, List.length_cons, Nat.zero_le, Nat.reduceLeDiff, Nat.reduceAdd, Bool.and_true, Bool.true_and, Bool.and_self, Nat.reduceBNe, true_or, or_true, true_and, and_true, mj_z0, mj_z1, mj_z01, decide_true, decide_false, Bool.true_and, Bool.false_and, Bool.and_true, Bool.and_false, Bool.true_or, Bool.false_or, Bool.or_false, Bool.or_true, Bool.not_true, Bool.not_false, Bool.and_self, Bool.or_self, if_true, if_false, Bool.true_eq_false, Bool.false_eq_true, not_true, not_false_eq_true]
  exact hd
end
