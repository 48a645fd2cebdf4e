section
variable {X : mj_X} {d : Nat} {σ τ : mj_St}
theorem mj_fst_some {p : Nat → Bool} : ∀ (j k : Nat), mj_anyF p k j = true → ∃ s, k ≤ s ∧ s < k + j ∧ p s = true ∧ mj_fst p k j = nI s := by
  intro j
  induction j with
  | zero => intro k h; simp [mj_anyF] at h
  | succ j ih =>
    intro k h
    simp only [mj_anyF] at h
    simp only [mj_fst]
    cases c : p k
    · rw [c, Bool.false_or] at h
      obtain ⟨s, a, b, e, f⟩ := ih (k + 1) h
      refine ⟨s, by omega, by omega, e, ?_⟩
      simp only [Bool.false_eq_true, if_false]
      exact f
    · exact ⟨k, Nat.le_refl _, by omega, c, by simp⟩
/-- the first keeping, hour by hour -/
def mj_Mhr (σ : mj_St) (o mt : Int32) (N : Nat) : Nat → Nat → (Nat → Int32) → Int32 → Int32
  | 0, _, _, s => s
  | j + 1, h, l, _ => mj_Mhr σ o mt N j (h + 1) (mj_nxd σ (nI h) (mj_fst (mj_pk σ o mt N (11 - h) l) 0 512) o mt l) (mj_fst (mj_pk σ o mt N (11 - h) l) 0 512)
theorem mj_Sm_Mhr (F : mj_Sm σ τ) {o mt : Int32} {N : Nat} : ∀ j h l s, mj_Mhr τ o mt N j h l s = mj_Mhr σ o mt N j h l s := by
  intro j
  induction j with
  | zero => intro h l s; rfl
  | succ j ih =>
    intro h l s
    simp only [mj_Mhr]
    rw [mj_Sm_pk F, mj_Sm_nxd F, ih]
theorem sp_M_hour {N R w t : Nat} {o x : Int32} (hM : mj_Mst σ N R w t) (hR : R + 1 < 2147483648) : ∃ ρ ρ', mj_Fq σ ρ ∧ mj_Scr ρ (R + 1) ∧ mj_Fq σ ρ' ∧ mj_Scr ρ' (R + 1) ∧ ∀ d, mj_ev X (d + 29) 212 [.ref 61, .int o, .int x] σ = some (if mj_inb o 8 = true ∧ ¬ x < nI w ∧ ¬ 11 < x then (if mj_Mkept σ o (mj_evy σ) N w = true then (some (.int (mj_Mhr (mj_cnS σ N) o (mj_evy σ) N (x.toNatClampNeg + 1 - w) w (mj_lvn σ) 0)), ρ') else (some (.int (-5)), mj_rfM ρ (-5))) else (some (.int (-5)), mj_rfM σ (-5))) := by
  obtain ⟨hW, hS, hw, hw12, -, -⟩ := hM
  have hGK := mj_bg_GK (o := o) (mt := mj_evy σ) hW hS
  obtain ⟨ρ, F, S, hFT, hk⟩ := sp_M_isKept2 (X := X) hGK hW hS hR hw hw12
  have ho : ∀ d, mj_ev X (d + 28) 191 [.ref 61, .int o] σ = some (some (.int (mj_z (mj_inb o 8))), σ) := fun d => sp_M_isOutcome (d := d + 27)
  have hev : ∀ d, mj_ev X (d + 28) 192 [.ref 61] σ = some (some (.int (mj_evy σ)), σ) := fun d => sp_M_everything (d := d + 27)
  have h5 : ∀ d τ, mj_ev X (d + 28) 158 [.ref 61, .int (-5)] τ = some (some (.int (-5)), mj_rfM τ (-5)) := fun d τ => sp_no5 (d := d + 27)
  by_cases c1 : mj_inb o 8 = true
  · by_cases c2 : x < nI w
    · refine ⟨ρ, ρ, F, S, F, S, fun d => ?_⟩
      have hod := ho d
      rw [c1] at hod
      rw [if_neg (fun h => h.2.1 c2)]
      refine st212 ?_
      simp only [u212_0, u212_1, u212_2, u212_5, u212_8, u212_9, u212_10, u212_13, u212_16, u212_17, u212_19, u212_22, u212_23, u212_24, u212_25, u212_28, u212_31, u212_34, u212_35, u212_37, u212_40, u212_41, u212_42, u212_45, u212_46, u212_47, u212_49, u212_50, u212_53, u212_57, u212_58, u212_61, u212_62, u212_64, u212_65, u212_66, u212_69, u212_71, u212_72, u212_74, u212_75, u212_77, u212_78, u212_79, u212_82, u212_85, u212_86, u212_89, u212_92, u212_94, hod, hw, c2, h5 d, mj_cc_v, mj_cc_n, List.all_cons, List.all_nil, mj_noMk_int, mj_noMk_long, mj_noMk_ref, mj_noMk_junk, List.length_nil, List.length_cons, Nat.zero_le, Nat.reduceLeDiff, Nat.reduceAdd, Bool.and_true, Bool.true_and, Bool.and_self, Nat.reduceBNe, true_or, or_true, true_and, and_true, mj_z0, mj_z1, mj_z01, decide_true, decide_false, Bool.true_and, Bool.false_and, Bool.and_true, Bool.and_false, Bool.true_or, Bool.false_or, Bool.or_false, Bool.or_true, Bool.not_true, Bool.not_false, Bool.and_self, Bool.or_self, if_true, if_false, Bool.true_eq_false, Bool.false_eq_true, not_true, not_false_eq_true]
    · by_cases c4 : 11 < x
      · refine ⟨ρ, ρ, F, S, F, S, fun d => ?_⟩
        have hod := ho d
        rw [c1] at hod
        rw [if_neg (fun h => h.2.2 c4)]
        refine st212 ?_
        simp only [u212_0, u212_1, u212_2, u212_5, u212_8, u212_9, u212_10, u212_13, u212_16, u212_17, u212_19, u212_22, u212_23, u212_24, u212_25, u212_28, u212_31, u212_34, u212_35, u212_37, u212_40, u212_41, u212_42, u212_45, u212_46, u212_47, u212_49, u212_50, u212_53, u212_57, u212_58, u212_61, u212_62, u212_64, u212_65, u212_66, u212_69, u212_71, u212_72, u212_74, u212_75, u212_77, u212_78, u212_79, u212_82, u212_85, u212_86, u212_89, u212_92, u212_94, hod, hw, c2, c4, h5 d, mj_cc_v, mj_cc_n, List.all_cons, List.all_nil, mj_noMk_int, mj_noMk_long, mj_noMk_ref, mj_noMk_junk, List.length_nil, List.length_cons, Nat.zero_le, Nat.reduceLeDiff, Nat.reduceAdd, Bool.and_true, Bool.true_and, Bool.and_self, Nat.reduceBNe, true_or, or_true, true_and, and_true, mj_z0, mj_z1, mj_z01, decide_true, decide_false, Bool.true_and, Bool.false_and, Bool.and_true, Bool.and_false, Bool.true_or, Bool.false_or, Bool.or_false, Bool.or_true, Bool.not_true, Bool.not_false, Bool.and_self, Bool.or_self, if_true, if_false, Bool.true_eq_false, Bool.false_eq_true, not_true, not_false_eq_true]
      · simp only [c1, c2, c4, not_false_eq_true, and_self, if_true]
        rcases (Bool.eq_false_or_eq_true (mj_Mkept σ o (mj_evy σ) N w)).symm with c3 | c3
        · refine ⟨ρ, ρ, F, S, F, S, fun d => ?_⟩
          have hod := ho d
          have hkd := hk d
          rw [c1] at hod
          rw [c3] at hkd
          rw [if_neg (by rw [c3]; decide)]
          refine st212 ?_
          simp only [u212_0, u212_1, u212_2, u212_5, u212_8, u212_9, u212_10, u212_13, u212_16, u212_17, u212_19, u212_22, u212_23, u212_24, u212_25, u212_28, u212_31, u212_34, u212_35, u212_37, u212_40, u212_41, u212_42, u212_45, u212_46, u212_47, u212_49, u212_50, u212_53, u212_57, u212_58, u212_61, u212_62, u212_64, u212_65, u212_66, u212_69, u212_71, u212_72, u212_74, u212_75, u212_77, u212_78, u212_79, u212_82, u212_85, u212_86, u212_89, u212_92, u212_94, hod, hw, c2, c4, hev d, hkd, h5 d, mj_cc_v, mj_cc_n, List.all_cons, List.all_nil, mj_noMk_int, mj_noMk_long, mj_noMk_ref, mj_noMk_junk, List.length_nil, List.length_cons, Nat.zero_le, Nat.reduceLeDiff, Nat.reduceAdd, Bool.and_true, Bool.true_and, Bool.and_self, Nat.reduceBNe, true_or, or_true, true_and, and_true, mj_z0, mj_z1, mj_z01, decide_true, decide_false, Bool.true_and, Bool.false_and, Bool.and_true, Bool.and_false, Bool.true_or, Bool.false_or, Bool.or_false, Bool.or_true, Bool.not_true, Bool.not_false, Bool.and_self, Bool.or_self, if_true, if_false, Bool.true_eq_false, Bool.false_eq_true, not_true, not_false_eq_true]
        · obtain ⟨F4, T4⟩ := hFT c3
          obtain ⟨hh, hh11, hx⟩ : ∃ hh : Nat, hh ≤ 11 ∧ x = nI hh := by
            have e11 : (11 : Int32).toInt = 11 := by decide
            have q0 : ¬ x < 0 := by
              intro q
              apply c2
              rw [Int32.lt_iff_toInt_lt] at q ⊢
              rw [nI_toInt (show w < 2 ^ 31 by omega)]
              have e0 : (0 : Int32).toInt = 0 := by decide
              omega
            exact nI_of2 e11 q0 (Int32.not_lt.mp c4)
          subst hx
          have hwh : w ≤ hh := by
            apply Classical.byContradiction
            intro q
            exact c2 (nI_lt (by omega) (by omega))
          have hW3 := mj_Fq_Wd (mj_bgS_Fq (σ := σ) (o := o) (mt := mj_evy σ)) hW
          have hRd := mj_cnS_Rdy hW3 (mj_bgS_Pw (o := o) (mt := mj_evy σ) hS.1)
          have hD : mj_Dg (mj_lvn σ) N := hW.2.2.2.2.2.2.2
          have e53 : (mj_cnS (mj_bgS σ o (mj_evy σ)) N).1 61 53 = o := rfl
          have e54 : (mj_cnS (mj_bgS σ o (mj_evy σ)) N).1 61 54 = mj_evy σ := rfl
          have hKp : mj_Kp (mj_cnS (mj_bgS σ o (mj_evy σ)) N) o (mj_evy σ) N (12 - w) (mj_lvn σ) = true := by
            rw [mj_Sm_Kp (mj_bgS_Sm (σ := σ))]
            unfold mj_Mkept at c3
            simp only [Bool.and_eq_true] at c3
            exact c3.2
          generalize hσ4 : mj_cnS (mj_bgS σ o (mj_evy σ)) N = σ4 at *
          have loop : ∀ (j h : Nat) (τ : mj_St) (l : Nat → Int32) (s : Int32), h + j = hh + 1 → mj_Fr σ4 τ → mj_Tab τ (mj_GK σ4 N) → mj_Dg l N → mj_Kp σ4 o (mj_evy σ) N (12 - h) l = true → ∃ ρ, mj_Fr σ4 ρ ∧ mj_Tab ρ (mj_GK σ4 N) ∧ ∀ d, mj_Runs X (mj_ev X (d + 28)) 6 (some .int) prog_8_method_58_code (55, [.ref 61, .int o, .int (nI hh), .int (mj_cno σ4 l N), .int s, .int (nI h)], [], τ) (some (.int (mj_Mhr σ4 o (mj_evy σ) N j h l s)), ρ) := by
            intro j
            induction j with
            | zero =>
              intro h τ l s hj F T D hK
              refine ⟨τ, F, T, fun d => ?_⟩
              have h1 : nI hh < nI h := nI_lt (by omega) (by omega)
              refine u212_55.mpr ?_
              simp only [u212_0, u212_1, u212_2, u212_5, u212_8, u212_9, u212_10, u212_13, u212_16, u212_17, u212_19, u212_22, u212_23, u212_24, u212_25, u212_28, u212_31, u212_34, u212_35, u212_37, u212_40, u212_41, u212_42, u212_45, u212_46, u212_47, u212_49, u212_50, u212_53, u212_57, u212_58, u212_61, u212_62, u212_64, u212_65, u212_66, u212_69, u212_71, u212_72, u212_74, u212_75, u212_77, u212_78, u212_79, u212_82, u212_85, u212_86, u212_89, u212_92, u212_94, h1, if_true, mj_Mhr]
            | succ j ih =>
              intro h τ l s hj F T D hK
              have hr : 11 - h < 12 := by omega
              have e11 : 11 - (11 - h) = h := by omega
              have K := sp_M_keeps (X := X) hRd hGK (11 - h) (by omega)
              obtain ⟨ρ, F2, T2, hq⟩ := sp_M_firstSet (X := X) hRd hr K F T D (Nat.zero_le 512)
              rw [e11, e53, e54, Nat.sub_zero] at hq
              have hK' : mj_anyF (mj_pk σ4 o (mj_evy σ) N (11 - h) l) 0 512 = true := by
                rw [show 12 - h = (11 - h) + 1 by omega] at hK
                exact hK
              obtain ⟨s0, a1, a2, a3, a4⟩ := mj_fst_some _ _ hK'
              have a3' := a3
              unfold mj_pk at a3'
              rw [e11] at a3'
              simp only [Bool.and_eq_true] at a3'
              have hg := a3'.1
              unfold mj_gok at hg
              simp only [Bool.and_eq_true, decide_eq_true_eq] at hg
              have D' : mj_Dg (mj_nxd σ4 (nI h) (nI s0) o (mj_evy σ) l) N := mj_nxd_Dg D (fun i hi hb => mj_Gopn_ne (mj_Gset_bit hRd.2.1 (mj_sub_b hg.1 hb) (by have := hRd.2.1; omega)))
              obtain ⟨ρ2, F3, T3, hg2⟩ := ih (h + 1) (mj_setI ρ 61 47 (mj_nxl σ4 (nI h) (nI s0) o (mj_evy σ) l N)) (mj_nxd σ4 (nI h) (nI s0) o (mj_evy σ) l) (nI s0) (by omega) (mj_Fr_tr F2 mj_Fr_47) (mj_Tab_47 T2) D' (by rw [show 12 - (h + 1) = 11 - h by omega]; exact a3'.2)
              refine ⟨ρ2, F3, T3, fun d => ?_⟩
              have hqd := hq (d + 24 - 2 * (11 - h))
              rw [show d + 24 - 2 * (11 - h) + 2 * (11 - h) + 4 = d + 28 by omega, a4] at hqd
              have hRρ := mj_Fr_Rdy F2 hRd
              have hbh := sp_M_behind (X := X) (d := d + 26) (σ := ρ) (set := nI s0) (h := nI h) (code := mj_cno ρ l N) (o := o) (mt := mj_evy σ) hRρ.1 hRρ.2.1 hRρ.2.2.1 hRρ.2.2.2.1
              rw [mj_bhd_N hRρ D, mj_Fr_cno F2, mj_Fr_nxd F2, mj_Fr_nxl F2] at hbh
              have em : ρ.1 61 54 = mj_evy σ := by rw [F2.2.2 54 (by decide) (by decide)]; exact e54
              have hf := hg2 d
              have h1 : ¬ nI hh < nI h := nI_nlt (by omega) (by omega)
              have e0 : nI 0 = 0 := rfl
              rw [e0] at hqd
              simp only [mj_Mhr]
              rw [a4]
              refine u212_55.mpr ?_
              simp only [u212_0, u212_1, u212_2, u212_5, u212_8, u212_9, u212_10, u212_13, u212_16, u212_17, u212_19, u212_22, u212_23, u212_24, u212_25, u212_28, u212_31, u212_34, u212_35, u212_37, u212_40, u212_41, u212_42, u212_45, u212_46, u212_47, u212_49, u212_50, u212_53, u212_57, u212_58, u212_61, u212_62, u212_64, u212_65, u212_66, u212_69, u212_71, u212_72, u212_74, u212_75, u212_77, u212_78, u212_79, u212_82, u212_85, u212_86, u212_89, u212_92, u212_94, h1, hqd, em, hbh, nI_1, mj_cc_v, mj_cc_n, List.all_cons, List.all_nil, mj_noMk_int, mj_noMk_long, mj_noMk_ref, mj_noMk_junk, List.length_nil, List.length_cons, Nat.zero_le, Nat.reduceLeDiff, Nat.reduceAdd, Bool.and_true, Bool.true_and, Bool.and_self, Nat.reduceBNe, true_or, or_true, true_and, and_true, mj_z0, mj_z1, mj_z01, decide_true, decide_false, Bool.true_and, Bool.false_and, Bool.and_true, Bool.and_false, Bool.true_or, Bool.false_or, Bool.or_false, Bool.or_true, Bool.not_true, Bool.not_false, Bool.and_self, Bool.or_self, if_true, if_false, Bool.true_eq_false, Bool.false_eq_true, not_true, not_false_eq_true]
              exact hf
          obtain ⟨ρ3, F6, T6, hl⟩ := loop (hh + 1 - w) w ρ (mj_lvn σ) 0 (by omega) F4 T4 hD hKp
          subst hσ4
          refine ⟨ρ, ρ3, F, S, mj_bg_Fq F6, mj_Scr_of hW hS hR F6 T6, fun d => ?_⟩
          have hod := ho d
          have hkd := hk d
          have hld := hl d
          rw [c1] at hod
          rw [c3] at hkd
          rw [if_pos c3]
          rw [mj_Sm_Mhr (mj_bgS_Sm (σ := σ))] at hld
          have hcn' : mj_ev X (d + 28) 197 [.ref 61] ρ = some (some (.int (mj_cno (mj_cnS (mj_bgS σ o (mj_evy σ)) N) (mj_lvn σ) N)), ρ) := sp_M_codeAgain (X := X) (d := d + 26) hW F4
          have en : ρ.1 61 1 = nI w := by
            rw [F.2.2 1 (by decide) (by decide) (by decide) (by decide) (by decide) (by decide)]
            exact hw
          rw [nI_clamp (show hh < 2 ^ 31 by omega)]
          refine st212 ?_
          simp only [u212_0, u212_1, u212_2, u212_5, u212_8, u212_9, u212_10, u212_13, u212_16, u212_17, u212_19, u212_22, u212_23, u212_24, u212_25, u212_28, u212_31, u212_34, u212_35, u212_37, u212_40, u212_41, u212_42, u212_45, u212_46, u212_47, u212_49, u212_50, u212_53, u212_57, u212_58, u212_61, u212_62, u212_64, u212_65, u212_66, u212_69, u212_71, u212_72, u212_74, u212_75, u212_77, u212_78, u212_79, u212_82, u212_85, u212_86, u212_89, u212_92, u212_94, hod, hw, c2, c4, hev d, hkd, hcn', en, mj_cc_v, mj_cc_n, List.all_cons, List.all_nil, mj_noMk_int, mj_noMk_long, mj_noMk_ref, mj_noMk_junk, List.length_nil, List.length_cons, Nat.zero_le, Nat.reduceLeDiff, Nat.reduceAdd, Bool.and_true, Bool.true_and, Bool.and_self, Nat.reduceBNe, true_or, or_true, true_and, and_true, mj_z0, mj_z1, mj_z01, decide_true, decide_false, Bool.true_and, Bool.false_and, Bool.and_true, Bool.and_false, Bool.true_or, Bool.false_or, Bool.or_false, Bool.or_true, Bool.not_true, Bool.not_false, Bool.and_self, Bool.or_self, if_true, if_false, Bool.true_eq_false, Bool.false_eq_true, not_true, not_false_eq_true]
          exact hld
  · refine ⟨ρ, ρ, F, S, F, S, fun d => ?_⟩
    have hod := ho d
    have c1' : mj_inb o 8 = false := by
      cases c : mj_inb o 8
      · rfl
      · exact absurd c c1
    rw [c1'] at hod
    rw [if_neg (fun h => c1 h.1)]
    refine st212 ?_
    simp only [u212_0, u212_1, u212_2, u212_5, u212_8, u212_9, u212_10, u212_13, u212_16, u212_17, u212_19, u212_22, u212_23, u212_24, u212_25, u212_28, u212_31, u212_34, u212_35, u212_37, u212_40, u212_41, u212_42, u212_45, u212_46, u212_47, u212_49, u212_50, u212_53, u212_57, u212_58, u212_61, u212_62, u212_64, u212_65, u212_66, u212_69, u212_71, u212_72, u212_74, u212_75, u212_77, u212_78, u212_79, u212_82, u212_85, u212_86, u212_89, u212_92, u212_94, hod, h5 d, mj_cc_v, mj_cc_n, List.all_cons, List.all_nil, mj_noMk_int, mj_noMk_long, mj_noMk_ref, mj_noMk_junk, List.length_nil, List.length_cons, Nat.zero_le, Nat.reduceLeDiff, Nat.reduceAdd, Bool.and_true, Bool.true_and, Bool.and_self, Nat.reduceBNe, true_or, or_true, true_and, and_true, mj_z0, mj_z1, mj_z01, decide_true, decide_false, Bool.true_and, Bool.false_and, Bool.and_true, Bool.and_false, Bool.true_or, Bool.false_or, Bool.or_false, Bool.or_true, Bool.not_true, Bool.not_false, Bool.and_self, Bool.or_self, if_true, if_false, Bool.true_eq_false, Bool.false_eq_true, not_true, not_false_eq_true]
end
