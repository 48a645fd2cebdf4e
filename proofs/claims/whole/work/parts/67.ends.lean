section
variable {X : mj_X} {d : Nat} {σ τ : mj_St}
/-- the first and the last hour that serve -/
def mj_en (p : Nat → Bool) : Nat → Nat → Int32 × Int32 → Int32 × Int32
  | _, 0, a => a
  | k, j + 1, a => mj_en p (k + 1) j (if p k = true then (if a.1 = -1 then nI k else a.1, nI k) else a)
theorem mj_Sm_Fi (F : mj_Sm σ τ) {o mt : Int32} {N i f : Nat} : ∀ r l, mj_Fi τ o mt N i f r l = mj_Fi σ o mt N i f r l := by
  intro r
  induction r with
  | zero => intro l; rfl
  | succ r ih =>
    intro l
    rw [mj_Fi_s, mj_Fi_s]
    apply mj_anyF_congr
    intro s _ _
    unfold mj_Fip
    rw [mj_Sm_gok F, mj_Sm_nxd F, mj_Sm_Kp F, ih]
theorem sp_M_ends {N R w t : Nat} {i o : Int32} (hM : mj_Mst σ N R w t) (hR : R + 1 < 2147483648) : ∃ ρ ρ', mj_Fq σ ρ ∧ mj_Scr ρ (R + 1) ∧ mj_Fq σ ρ' ∧ mj_Scr ρ' (R + 1) ∧ ∀ d, mj_ev X (d + 29) 226 [.ref 61, .int i, .int o] σ = some (if (mj_lt0 i (σ.1 61 0) && decide (σ.1 65 i.toNatClampNeg < 5)) = true ∧ mj_inb o 8 = true ∧ ¬ σ.1 76 i.toNatClampNeg < σ.1 74 i.toNatClampNeg then (if mj_Mkept σ o (mj_evy σ) N w = true then (if (mj_en (fun h => mj_Fi (mj_cnS σ N) o (mj_evy σ) N i.toNatClampNeg h (12 - w) (mj_lvn σ)) w (12 - w) (-1, -1)).1 = -1 then (some (.int (-5)), mj_rfM ρ' (-5)) else (some (.int (100 * (mj_en (fun h => mj_Fi (mj_cnS σ N) o (mj_evy σ) N i.toNatClampNeg h (12 - w) (mj_lvn σ)) w (12 - w) (-1, -1)).2 + (mj_en (fun h => mj_Fi (mj_cnS σ N) o (mj_evy σ) N i.toNatClampNeg h (12 - w) (mj_lvn σ)) w (12 - w) (-1, -1)).1)), ρ')) else (some (.int (-5)), mj_rfM ρ (-5))) else (some (.int (-5)), mj_rfM σ (-5))) := by
  obtain ⟨hW, hS, hw, hw12, -, -⟩ := hM
  have hN := hW.1
  have h9 := hW.2.1
  have h9' : (σ.1 61 0).toInt ≤ 9 := by rw [hN, nI_toInt (by omega)]; omega
  have hW3 := mj_Fq_Wd (mj_bgS_Fq (σ := σ) (o := o) (mt := mj_evy σ)) hW
  have hRd := mj_cnS_Rdy hW3 (mj_bgS_Pw (o := o) (mt := mj_evy σ) hS.1)
  have hw6 : mj_wc (mj_cnS (mj_bgS σ o (mj_evy σ)) N) N ≤ 6 := by
    have e := (mj_Fq_Wd (mj_cnS_Fq (N := N)) hW3).2.2.2.2.2.2.1
    exact e
  have hGK := mj_GE_K (i := i.toNatClampNeg) hRd hw6
  have hGF := mj_GE_F (i := i.toNatClampNeg) hRd hw6
  obtain ⟨ρ, F, S, hFT, hk⟩ := sp_M_isKept2 (X := X) hGK hW hS hR hw hw12
  have hwk : ∀ d, mj_ev X (d + 28) 179 [.ref 61, .int i] σ = some (some (.int (mj_z (mj_lt0 i (σ.1 61 0) && decide (σ.1 65 i.toNatClampNeg < 5)))), σ) := fun d => sp_M_isWork (d := d + 27) h9'
  have ho : ∀ d, mj_ev X (d + 28) 191 [.ref 61, .int o] σ = some (some (.int (mj_z (mj_inb o 8))), σ) := fun d => sp_M_isOutcome (d := d + 27)
  have hev : ∀ d, mj_ev X (d + 28) 192 [.ref 61] σ = some (some (.int (mj_evy σ)), σ) := fun d => sp_M_everything (d := d + 27)
  have h5 : ∀ d τ, mj_ev X (d + 28) 158 [.ref 61, .int (-5)] τ = some (some (.int (-5)), mj_rfM τ (-5)) := fun d τ => sp_no5 (d := d + 27)
  rcases (Bool.eq_false_or_eq_true (mj_lt0 i (σ.1 61 0) && decide (σ.1 65 i.toNatClampNeg < 5))).symm with c1 | c1
  · refine ⟨ρ, ρ, F, S, F, S, fun d => ?_⟩
    have hwd := hwk d
    rw [c1] at hwd
    rw [if_neg (fun h => absurd (c1.symm.trans h.1) (by decide))]
    refine st226 ?_
    simp only [u226_0, u226_1, u226_2, u226_5, u226_8, u226_9, u226_10, u226_13, u226_16, u226_17, u226_20, u226_21, u226_22, u226_23, u226_26, u226_27, u226_28, u226_31, u226_32, u226_33, u226_34, u226_37, u226_40, u226_43, u226_44, u226_46, u226_49, u226_50, u226_51, u226_52, u226_53, u226_55, u226_56, u226_59, u226_63, u226_65, u226_68, u226_69, u226_70, u226_72, u226_73, u226_76, u226_77, u226_80, u226_83, u226_86, u226_87, u226_88, u226_91, u226_93, u226_96, u226_97, u226_98, u226_100, u226_102, u226_105, u226_108, u226_109, u226_110, u226_113, u226_114, u226_116, u226_119, u226_122, u226_124, u226_126, u226_127, u226_128, u226_129, hwd, h5 d, mj_cc_v, mj_cc_n, List.all_cons, List.all_nil, mj_noMk_int, mj_noMk_long, mj_noMk_ref, mj_noMk_junk, List.length_nil, List.length_cons, Nat.zero_le, Nat.reduceLeDiff, Nat.reduceAdd, Bool.and_true, Bool.true_and, Bool.and_self, Nat.reduceBNe, true_or, or_true, true_and, and_true, mj_z0, mj_z1, mj_z01, decide_true, decide_false, Bool.true_and, Bool.false_and, Bool.and_true, Bool.and_false, Bool.true_or, Bool.false_or, Bool.or_false, Bool.or_true, Bool.not_true, Bool.not_false, Bool.and_self, Bool.or_self, if_true, if_false, Bool.true_eq_false, Bool.false_eq_true, not_true, not_false_eq_true]
  · have hlt : mj_lt0 i (σ.1 61 0) = true := by
      simp only [Bool.and_eq_true] at c1
      exact c1.1
    have hb := mj_lt0_in hlt h9'
    have hi9 := mj_in_lt hb
    have ei := mj_in_eq hb (by decide)
    rcases (Bool.eq_false_or_eq_true (mj_inb o 8)).symm with c2 | c2
    · refine ⟨ρ, ρ, F, S, F, S, fun d => ?_⟩
      have hwd := hwk d
      have hod := ho d
      rw [c1] at hwd
      rw [c2] at hod
      rw [if_neg (fun h => absurd (c2.symm.trans h.2.1) (by decide))]
      refine st226 ?_
      simp only [u226_0, u226_1, u226_2, u226_5, u226_8, u226_9, u226_10, u226_13, u226_16, u226_17, u226_20, u226_21, u226_22, u226_23, u226_26, u226_27, u226_28, u226_31, u226_32, u226_33, u226_34, u226_37, u226_40, u226_43, u226_44, u226_46, u226_49, u226_50, u226_51, u226_52, u226_53, u226_55, u226_56, u226_59, u226_63, u226_65, u226_68, u226_69, u226_70, u226_72, u226_73, u226_76, u226_77, u226_80, u226_83, u226_86, u226_87, u226_88, u226_91, u226_93, u226_96, u226_97, u226_98, u226_100, u226_102, u226_105, u226_108, u226_109, u226_110, u226_113, u226_114, u226_116, u226_119, u226_122, u226_124, u226_126, u226_127, u226_128, u226_129, hwd, hod, h5 d, mj_cc_v, mj_cc_n, List.all_cons, List.all_nil, mj_noMk_int, mj_noMk_long, mj_noMk_ref, mj_noMk_junk, List.length_nil, List.length_cons, Nat.zero_le, Nat.reduceLeDiff, Nat.reduceAdd, Bool.and_true, Bool.true_and, Bool.and_self, Nat.reduceBNe, true_or, or_true, true_and, and_true, mj_z0, mj_z1, mj_z01, decide_true, decide_false, Bool.true_and, Bool.false_and, Bool.and_true, Bool.and_false, Bool.true_or, Bool.false_or, Bool.or_false, Bool.or_true, Bool.not_true, Bool.not_false, Bool.and_self, Bool.or_self, if_true, if_false, Bool.true_eq_false, Bool.false_eq_true, not_true, not_false_eq_true]
    · by_cases c3 : σ.1 76 i.toNatClampNeg < σ.1 74 i.toNatClampNeg
      · refine ⟨ρ, ρ, F, S, F, S, fun d => ?_⟩
        have hwd := hwk d
        have hod := ho d
        rw [c1] at hwd
        rw [c2] at hod
        rw [if_neg (fun h => h.2.2 c3)]
        refine st226 ?_
        simp only [u226_0, u226_1, u226_2, u226_5, u226_8, u226_9, u226_10, u226_13, u226_16, u226_17, u226_20, u226_21, u226_22, u226_23, u226_26, u226_27, u226_28, u226_31, u226_32, u226_33, u226_34, u226_37, u226_40, u226_43, u226_44, u226_46, u226_49, u226_50, u226_51, u226_52, u226_53, u226_55, u226_56, u226_59, u226_63, u226_65, u226_68, u226_69, u226_70, u226_72, u226_73, u226_76, u226_77, u226_80, u226_83, u226_86, u226_87, u226_88, u226_91, u226_93, u226_96, u226_97, u226_98, u226_100, u226_102, u226_105, u226_108, u226_109, u226_110, u226_113, u226_114, u226_116, u226_119, u226_122, u226_124, u226_126, u226_127, u226_128, u226_129, hwd, hod, hb, c3, h5 d, mj_cc_v, mj_cc_n, List.all_cons, List.all_nil, mj_noMk_int, mj_noMk_long, mj_noMk_ref, mj_noMk_junk, List.length_nil, List.length_cons, Nat.zero_le, Nat.reduceLeDiff, Nat.reduceAdd, Bool.and_true, Bool.true_and, Bool.and_self, Nat.reduceBNe, true_or, or_true, true_and, and_true, mj_z0, mj_z1, mj_z01, decide_true, decide_false, Bool.true_and, Bool.false_and, Bool.and_true, Bool.and_false, Bool.true_or, Bool.false_or, Bool.or_false, Bool.or_true, Bool.not_true, Bool.not_false, Bool.and_self, Bool.or_self, if_true, if_false, Bool.true_eq_false, Bool.false_eq_true, not_true, not_false_eq_true]
      · rcases (Bool.eq_false_or_eq_true (mj_Mkept σ o (mj_evy σ) N w)).symm with c4 | c4
        · refine ⟨ρ, ρ, F, S, F, S, fun d => ?_⟩
          have hwd := hwk d
          have hod := ho d
          have hkd := hk d
          rw [c1] at hwd
          rw [c2] at hod
          rw [c4] at hkd
          rw [if_pos ⟨c1, c2, c3⟩, if_neg (by rw [c4]; decide)]
          refine st226 ?_
          simp only [u226_0, u226_1, u226_2, u226_5, u226_8, u226_9, u226_10, u226_13, u226_16, u226_17, u226_20, u226_21, u226_22, u226_23, u226_26, u226_27, u226_28, u226_31, u226_32, u226_33, u226_34, u226_37, u226_40, u226_43, u226_44, u226_46, u226_49, u226_50, u226_51, u226_52, u226_53, u226_55, u226_56, u226_59, u226_63, u226_65, u226_68, u226_69, u226_70, u226_72, u226_73, u226_76, u226_77, u226_80, u226_83, u226_86, u226_87, u226_88, u226_91, u226_93, u226_96, u226_97, u226_98, u226_100, u226_102, u226_105, u226_108, u226_109, u226_110, u226_113, u226_114, u226_116, u226_119, u226_122, u226_124, u226_126, u226_127, u226_128, u226_129, hwd, hod, hb, c3, hev d, hkd, h5 d, mj_cc_v, mj_cc_n, List.all_cons, List.all_nil, mj_noMk_int, mj_noMk_long, mj_noMk_ref, mj_noMk_junk, List.length_nil, List.length_cons, Nat.zero_le, Nat.reduceLeDiff, Nat.reduceAdd, Bool.and_true, Bool.true_and, Bool.and_self, Nat.reduceBNe, true_or, or_true, true_and, and_true, mj_z0, mj_z1, mj_z01, decide_true, decide_false, Bool.true_and, Bool.false_and, Bool.and_true, Bool.and_false, Bool.true_or, Bool.false_or, Bool.or_false, Bool.or_true, Bool.not_true, Bool.not_false, Bool.and_self, Bool.or_self, if_true, if_false, Bool.true_eq_false, Bool.false_eq_true, not_true, not_false_eq_true]
        · obtain ⟨F4, T4⟩ := hFT c4
          have hD : mj_Dg (mj_lvn σ) N := hW.2.2.2.2.2.2.2
          have e53 : (mj_cnS (mj_bgS σ o (mj_evy σ)) N).1 61 53 = o := rfl
          have e54 : (mj_cnS (mj_bgS σ o (mj_evy σ)) N).1 61 54 = mj_evy σ := rfl
          have n100 : (100 : Int32) = 100 := rfl
          have loop : ∀ (j k : Nat) (τ : mj_St) (a : Int32 × Int32), k + j = 12 → w ≤ k → mj_Fr (mj_cnS (mj_bgS σ o (mj_evy σ)) N) τ → mj_Tab τ (mj_GE (mj_cnS (mj_bgS σ o (mj_evy σ)) N) N i.toNatClampNeg) → ∃ ρ, mj_Fr (mj_cnS (mj_bgS σ o (mj_evy σ)) N) ρ ∧ mj_Tab ρ (mj_GE (mj_cnS (mj_bgS σ o (mj_evy σ)) N) N i.toNatClampNeg) ∧ ∀ (d : Nat) (Rr : mj_Rs),
              mj_Runs X (mj_ev X (d + 28)) 6 (some .int) prog_8_method_73_code (108, [.ref 61, .int i, .int o, .int (mj_en (fun h => mj_Fi (mj_cnS σ N) o (mj_evy σ) N i.toNatClampNeg h (12 - w) (mj_lvn σ)) k j a).1, .int (mj_en (fun h => mj_Fi (mj_cnS σ N) o (mj_evy σ) N i.toNatClampNeg h (12 - w) (mj_lvn σ)) k j a).2, .int 12], [], ρ) Rr →
              mj_Runs X (mj_ev X (d + 28)) 6 (some .int) prog_8_method_73_code (61, [.ref 61, .int i, .int o, .int a.1, .int a.2, .int (nI k)], [], τ) Rr := by
            intro j
            induction j with
            | zero =>
              intro k τ a hk hwk F T
              have hk12 : k = 12 := by omega
              subst hk12
              refine ⟨τ, F, T, fun d Rr hh => ?_⟩
              have h1 : ¬ nI 12 < 12 := by decide
              refine u226_61.mpr ?_
              simp only [u226_0, u226_1, u226_2, u226_5, u226_8, u226_9, u226_10, u226_13, u226_16, u226_17, u226_20, u226_21, u226_22, u226_23, u226_26, u226_27, u226_28, u226_31, u226_32, u226_33, u226_34, u226_37, u226_40, u226_43, u226_44, u226_46, u226_49, u226_50, u226_51, u226_52, u226_53, u226_55, u226_56, u226_59, u226_63, u226_65, u226_68, u226_69, u226_70, u226_72, u226_73, u226_76, u226_77, u226_80, u226_83, u226_86, u226_87, u226_88, u226_91, u226_93, u226_96, u226_97, u226_98, u226_100, u226_102, u226_105, u226_109, u226_110, u226_113, u226_114, u226_116, u226_119, u226_122, u226_124, u226_126, u226_127, u226_128, u226_129, h1, if_false]
              exact hh
            | succ j ih =>
              intro k τ a hk hwk F T
              have h1 : nI k < 12 := nI_lt (b := 12) (by omega) (by decide)
              obtain ⟨ρ, F2, T2, hq⟩ := sp_M_firstIn (X := X) hRd hGK hGF hi9 (show k < 12 by omega) (11 - w) (by omega) (by omega) τ (mj_lvn σ) F T hD
              rw [e53, e54, mj_Sm_Fi (mj_bgS_Sm (σ := σ)), show 11 - (11 - w) = w by omega, show 11 - w + 1 = 12 - w by omega, ← ei] at hq
              have hcn : ∀ d, mj_ev X (d + 28) 197 [.ref 61] τ = some (some (.int (mj_cno (mj_cnS (mj_bgS σ o (mj_evy σ)) N) (mj_lvn σ) N)), τ) := fun d => sp_M_codeAgain (X := X) (d := d + 26) hW F
              have en : τ.1 61 1 = nI w := by
                rw [(mj_bg_Fq F).2.2 1 (by decide) (by decide) (by decide) (by decide) (by decide) (by decide)]
                exact hw
              simp only [mj_en]
              rcases (Bool.eq_false_or_eq_true (mj_Fi (mj_cnS σ N) o (mj_evy σ) N i.toNatClampNeg k (12 - w) (mj_lvn σ))).symm with c | c
              · obtain ⟨ρ2, F3, T3, hg⟩ := ih (k + 1) ρ a (by omega) (by omega) F2 T2
                refine ⟨ρ2, F3, T3, fun d Rr hh => ?_⟩
                simp only [c, Bool.false_eq_true, if_false] at hh
                have hf := hg d Rr hh
                have hqd := hq (d + 24 - 2 * (11 - w))
                rw [show d + 24 - 2 * (11 - w) + 2 * (11 - w) + 4 = d + 28 by omega, c] at hqd
                refine u226_61.mpr ?_
                simp only [u226_0, u226_1, u226_2, u226_5, u226_8, u226_9, u226_10, u226_13, u226_16, u226_17, u226_20, u226_21, u226_22, u226_23, u226_26, u226_27, u226_28, u226_31, u226_32, u226_33, u226_34, u226_37, u226_40, u226_43, u226_44, u226_46, u226_49, u226_50, u226_51, u226_52, u226_53, u226_55, u226_56, u226_59, u226_63, u226_65, u226_68, u226_69, u226_70, u226_72, u226_73, u226_76, u226_77, u226_80, u226_83, u226_86, u226_87, u226_88, u226_91, u226_93, u226_96, u226_97, u226_98, u226_100, u226_102, u226_105, u226_109, u226_110, u226_113, u226_114, u226_116, u226_119, u226_122, u226_124, u226_126, u226_127, u226_128, u226_129, h1, en, hcn d, hqd, mj_cc_v, mj_cc_n, List.all_cons, List.all_nil, mj_noMk_int, mj_noMk_long, mj_noMk_ref, mj_noMk_junk, List.length_nil, List.length_cons, Nat.zero_le, Nat.reduceLeDiff, Nat.reduceAdd, Bool.and_true, Bool.true_and, Bool.and_self, Nat.reduceBNe, true_or, or_true, true_and, and_true, mj_z0, mj_z1, mj_z01, decide_true, decide_false, Bool.true_and, Bool.false_and, Bool.and_true, Bool.and_false, Bool.true_or, Bool.false_or, Bool.or_false, Bool.or_true, Bool.not_true, Bool.not_false, Bool.and_self, Bool.or_self, if_true, if_false, Bool.true_eq_false, Bool.false_eq_true, not_true, not_false_eq_true, nI_1]
                exact hf
              · obtain ⟨ρ2, F3, T3, hg⟩ := ih (k + 1) ρ (if a.1 = -1 then nI k else a.1, nI k) (by omega) (by omega) F2 T2
                refine ⟨ρ2, F3, T3, fun d Rr hh => ?_⟩
                simp only [c, if_true] at hh
                have hf := hg d Rr hh
                have hqd := hq (d + 24 - 2 * (11 - w))
                rw [show d + 24 - 2 * (11 - w) + 2 * (11 - w) + 4 = d + 28 by omega, c] at hqd
                refine u226_61.mpr ?_
                by_cases c5 : a.1 = -1
                · simp only [c5, if_true] at hf
                  simp only [u226_0, u226_1, u226_2, u226_5, u226_8, u226_9, u226_10, u226_13, u226_16, u226_17, u226_20, u226_21, u226_22, u226_23, u226_26, u226_27, u226_28, u226_31, u226_32, u226_33, u226_34, u226_37, u226_40, u226_43, u226_44, u226_46, u226_49, u226_50, u226_51, u226_52, u226_53, u226_55, u226_56, u226_59, u226_63, u226_65, u226_68, u226_69, u226_70, u226_72, u226_73, u226_76, u226_77, u226_80, u226_83, u226_86, u226_87, u226_88, u226_91, u226_93, u226_96, u226_97, u226_98, u226_100, u226_102, u226_105, u226_109, u226_110, u226_113, u226_114, u226_116, u226_119, u226_122, u226_124, u226_126, u226_127, u226_128, u226_129, h1, en, hcn d, hqd, c5, mj_cc_v, mj_cc_n, List.all_cons, List.all_nil, mj_noMk_int, mj_noMk_long, mj_noMk_ref, mj_noMk_junk, List.length_nil, List.length_cons, Nat.zero_le, Nat.reduceLeDiff, Nat.reduceAdd, Bool.and_true, Bool.true_and, Bool.and_self, Nat.reduceBNe, true_or, or_true, true_and, and_true, mj_z0, mj_z1, mj_z01, decide_true, decide_false, Bool.true_and, Bool.false_and, Bool.and_true, Bool.and_false, Bool.true_or, Bool.false_or, Bool.or_false, Bool.or_true, Bool.not_true, Bool.not_false, Bool.and_self, Bool.or_self, if_true, if_false, Bool.true_eq_false, Bool.false_eq_true, not_true, not_false_eq_true, nI_1]
                  exact hf
                · simp only [c5, if_false] at hf
                  simp only [u226_0, u226_1, u226_2, u226_5, u226_8, u226_9, u226_10, u226_13, u226_16, u226_17, u226_20, u226_21, u226_22, u226_23, u226_26, u226_27, u226_28, u226_31, u226_32, u226_33, u226_34, u226_37, u226_40, u226_43, u226_44, u226_46, u226_49, u226_50, u226_51, u226_52, u226_53, u226_55, u226_56, u226_59, u226_63, u226_65, u226_68, u226_69, u226_70, u226_72, u226_73, u226_76, u226_77, u226_80, u226_83, u226_86, u226_87, u226_88, u226_91, u226_93, u226_96, u226_97, u226_98, u226_100, u226_102, u226_105, u226_109, u226_110, u226_113, u226_114, u226_116, u226_119, u226_122, u226_124, u226_126, u226_127, u226_128, u226_129, h1, en, hcn d, hqd, c5, mj_cc_v, mj_cc_n, List.all_cons, List.all_nil, mj_noMk_int, mj_noMk_long, mj_noMk_ref, mj_noMk_junk, List.length_nil, List.length_cons, Nat.zero_le, Nat.reduceLeDiff, Nat.reduceAdd, Bool.and_true, Bool.true_and, Bool.and_self, Nat.reduceBNe, true_or, or_true, true_and, and_true, mj_z0, mj_z1, mj_z01, decide_true, decide_false, Bool.true_and, Bool.false_and, Bool.and_true, Bool.and_false, Bool.true_or, Bool.false_or, Bool.or_false, Bool.or_true, Bool.not_true, Bool.not_false, Bool.and_self, Bool.or_self, if_true, if_false, Bool.true_eq_false, Bool.false_eq_true, not_true, not_false_eq_true, nI_1]
                  exact hf
          obtain ⟨ρ3, F6, T6, hl⟩ := loop (12 - w) w ρ (-1, -1) (by omega) (Nat.le_refl _) F4 T4
          refine ⟨ρ, ρ3, F, S, mj_bg_Fq F6, mj_Scr_of hW hS hR F6 T6, fun d => ?_⟩
          have hwd := hwk d
          have hod := ho d
          have hkd := hk d
          rw [c1] at hwd
          rw [c2] at hod
          rw [c4] at hkd
          rw [if_pos ⟨c1, c2, c3⟩, if_pos c4]
          have en : ρ.1 61 1 = nI w := by
            rw [F.2.2 1 (by decide) (by decide) (by decide) (by decide) (by decide) (by decide)]
            exact hw
          refine st226 ?_
          simp only [u226_0, u226_1, u226_2, u226_5, u226_8, u226_9, u226_10, u226_13, u226_16, u226_17, u226_20, u226_21, u226_22, u226_23, u226_26, u226_27, u226_28, u226_31, u226_32, u226_33, u226_34, u226_37, u226_40, u226_43, u226_44, u226_46, u226_49, u226_50, u226_51, u226_52, u226_53, u226_55, u226_56, u226_59, u226_63, u226_65, u226_68, u226_69, u226_70, u226_72, u226_73, u226_76, u226_77, u226_80, u226_83, u226_86, u226_87, u226_88, u226_91, u226_93, u226_96, u226_97, u226_98, u226_100, u226_102, u226_105, u226_109, u226_110, u226_113, u226_114, u226_116, u226_119, u226_122, u226_124, u226_126, u226_127, u226_128, u226_129, hwd, hod, hb, c3, hev d, hkd, en, mj_cc_v, mj_cc_n, List.all_cons, List.all_nil, mj_noMk_int, mj_noMk_long, mj_noMk_ref, mj_noMk_junk, List.length_nil, List.length_cons, Nat.zero_le, Nat.reduceLeDiff, Nat.reduceAdd, Bool.and_true, Bool.true_and, Bool.and_self, Nat.reduceBNe, true_or, or_true, true_and, and_true, mj_z0, mj_z1, mj_z01, decide_true, decide_false, Bool.true_and, Bool.false_and, Bool.and_true, Bool.and_false, Bool.true_or, Bool.false_or, Bool.or_false, Bool.or_true, Bool.not_true, Bool.not_false, Bool.and_self, Bool.or_self, if_true, if_false, Bool.true_eq_false, Bool.false_eq_true, not_true, not_false_eq_true]
          refine hl d _ ?_
          refine u226_108.mpr ?_
          by_cases c6 : (mj_en (fun h => mj_Fi (mj_cnS σ N) o (mj_evy σ) N i.toNatClampNeg h (12 - w) (mj_lvn σ)) w (12 - w) (-1, -1)).1 = -1
          · rw [if_pos c6]
            simp only [u226_0, u226_1, u226_2, u226_5, u226_8, u226_9, u226_10, u226_13, u226_16, u226_17, u226_20, u226_21, u226_22, u226_23, u226_26, u226_27, u226_28, u226_31, u226_32, u226_33, u226_34, u226_37, u226_40, u226_43, u226_44, u226_46, u226_49, u226_50, u226_51, u226_52, u226_53, u226_55, u226_56, u226_59, u226_63, u226_65, u226_68, u226_69, u226_70, u226_72, u226_73, u226_76, u226_77, u226_80, u226_83, u226_86, u226_87, u226_88, u226_91, u226_93, u226_96, u226_97, u226_98, u226_100, u226_102, u226_105, u226_109, u226_110, u226_113, u226_114, u226_116, u226_119, u226_122, u226_124, u226_126, u226_127, u226_128, u226_129, c6, h5 d, mj_cc_v, mj_cc_n, List.all_cons, List.all_nil, mj_noMk_int, mj_noMk_long, mj_noMk_ref, mj_noMk_junk, List.length_nil, List.length_cons, Nat.zero_le, Nat.reduceLeDiff, Nat.reduceAdd, Bool.and_true, Bool.true_and, Bool.and_self, Nat.reduceBNe, true_or, or_true, true_and, and_true, mj_z0, mj_z1, mj_z01, decide_true, decide_false, Bool.true_and, Bool.false_and, Bool.and_true, Bool.and_false, Bool.true_or, Bool.false_or, Bool.or_false, Bool.or_true, Bool.not_true, Bool.not_false, Bool.and_self, Bool.or_self, if_true, if_false, Bool.true_eq_false, Bool.false_eq_true, not_true, not_false_eq_true]
          · rw [if_neg c6]
            simp only [u226_0, u226_1, u226_2, u226_5, u226_8, u226_9, u226_10, u226_13, u226_16, u226_17, u226_20, u226_21, u226_22, u226_23, u226_26, u226_27, u226_28, u226_31, u226_32, u226_33, u226_34, u226_37, u226_40, u226_43, u226_44, u226_46, u226_49, u226_50, u226_51, u226_52, u226_53, u226_55, u226_56, u226_59, u226_63, u226_65, u226_68, u226_69, u226_70, u226_72, u226_73, u226_76, u226_77, u226_80, u226_83, u226_86, u226_87, u226_88, u226_91, u226_93, u226_96, u226_97, u226_98, u226_100, u226_102, u226_105, u226_109, u226_110, u226_113, u226_114, u226_116, u226_119, u226_122, u226_124, u226_126, u226_127, u226_128, u226_129, c6, mj_cc_v, mj_cc_n, List.all_cons, List.all_nil, mj_noMk_int, mj_noMk_long, mj_noMk_ref, mj_noMk_junk, List.length_nil, List.length_cons, Nat.zero_le, Nat.reduceLeDiff, Nat.reduceAdd, Bool.and_true, Bool.true_and, Bool.and_self, Nat.reduceBNe, true_or, or_true, true_and, and_true, mj_z0, mj_z1, mj_z01, decide_true, decide_false, Bool.true_and, Bool.false_and, Bool.and_true, Bool.and_false, Bool.true_or, Bool.false_or, Bool.or_false, Bool.or_true, Bool.not_true, Bool.not_false, Bool.and_self, Bool.or_self, if_true, if_false, Bool.true_eq_false, Bool.false_eq_true, not_true, not_false_eq_true]
end
