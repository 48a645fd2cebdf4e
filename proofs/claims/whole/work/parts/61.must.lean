section
variable {X : mj_X} {d : Nat} {σ τ : mj_St}
theorem mj_Scr_of {N R : Nat} {o mt : Int32} {G : Int32 → Int32 → Prop} (hW : mj_Wd σ N) (hS : mj_Scr σ R) (hR : R + 1 < 2147483648) (F : mj_Fr (mj_cnS (mj_bgS σ o mt) N) τ) (T : mj_Tab τ G) : mj_Scr τ (R + 1) := by
  have hW3 := mj_Fq_Wd (mj_bgS_Fq (σ := σ) (o := o) (mt := mt)) hW
  have hRd := mj_cnS_Rdy hW3 (mj_bgS_Pw (o := o) (mt := mt) hS.1)
  obtain ⟨-, h51⟩ := mj_bgS_Tab (o := o) (mt := mt) (N := N) (G := G) hS hR
  have hr51 : τ.1 61 51 = (mj_cnS (mj_bgS σ o mt) N).1 61 51 := F.2.2 51 (by decide) (by decide)
  refine ⟨(mj_Fr_Rdy F hRd).2.2.1, T.2.2, ?_, ?_⟩
  · rw [hr51, h51]
    have := hS.2.2.1
    omega
  · rw [hr51, h51]
    have := hS.2.2.2
    omega
theorem mj_bg_Fq {N : Nat} {o mt : Int32} (F : mj_Fr (mj_cnS (mj_bgS σ o mt) N) τ) : mj_Fq σ τ := mj_Fq_tr (mj_Fq_tr mj_bgS_Fq mj_cnS_Fq) (mj_Fq_Fr F)
theorem mj_Sm_pk (F : mj_Sm σ τ) : mj_pk τ = mj_pk σ := by
  funext o mt N r l s
  unfold mj_pk
  rw [mj_Sm_gok F, mj_Sm_nxd F, mj_Sm_Kp F]
/-- codeNow once more behind a search -/
theorem sp_M_codeAgain {N : Nat} {o mt : Int32} (hW : mj_Wd σ N) (F : mj_Fr (mj_cnS (mj_bgS σ o mt) N) τ) : mj_ev X (d + 2) 197 [.ref 61] τ = some (some (.int (mj_cno (mj_cnS (mj_bgS σ o mt) N) (mj_lvn σ) N)), τ) := by
  have Fq := mj_bg_Fq F
  have hW3 := mj_Fq_Wd Fq hW
  have q := sp_M_codeNow (X := X) (d := d) (σ := τ) hW3.1 hW3.2.1 hW3.2.2.2.2.2.1
  rw [mj_Fq_lvn Fq, mj_Fr_cno F, mj_cnS_id F] at q
  exact q
/-- all the sets that serve, and-ed -/
def mj_mus (p : Nat → Bool) : Nat → Nat → Int32 → Int32
  | _, 0, a => a
  | s, j + 1, a => mj_mus p (s + 1) j (if p s = true then a &&& nI s else a)
theorem sp_M_must {N R w t : Nat} {o : Int32} (hM : mj_Mst σ N R w t) (hR : R + 1 < 2147483648) : ∃ ρ ρ', mj_Fq σ ρ ∧ mj_Scr ρ (R + 1) ∧ mj_Fq σ ρ' ∧ mj_Scr ρ' (R + 1) ∧ ∀ d, mj_ev X (d + 29) 228 [.ref 61, .int o] σ = some (if mj_inb o 8 = true ∧ ¬ w = 12 then (if mj_Mkept σ o (mj_evy σ) N w = true then (some (.int (mj_mus (mj_pk (mj_cnS σ N) o (mj_evy σ) N (11 - w) (mj_lvn σ)) 0 512 (mj_evy σ))), ρ') else (some (.int (-5)), mj_rfM ρ (-5))) else (some (.int (-5)), mj_rfM σ (-5))) := by
  obtain ⟨hW, hS, hw, hw12, -, -⟩ := hM
  have hGK := mj_bg_GK (o := o) (mt := mj_evy σ) hW hS
  obtain ⟨ρ, F, S, hFT, hk⟩ := sp_M_isKept2 (X := X) hGK hW hS hR hw hw12
  have ho : ∀ d, mj_ev X (d + 28) 191 [.ref 61, .int o] σ = some (some (.int (mj_z (mj_inb o 8))), σ) := fun d => sp_M_isOutcome (d := d + 27)
  have hev : ∀ d, mj_ev X (d + 28) 192 [.ref 61] σ = some (some (.int (mj_evy σ)), σ) := fun d => sp_M_everything (d := d + 27)
  have h5 : ∀ d τ, mj_ev X (d + 28) 158 [.ref 61, .int (-5)] τ = some (some (.int (-5)), mj_rfM τ (-5)) := fun d τ => sp_no5 (d := d + 27)
  have e12 : (nI w = 12) = (w = 12) := propext (nI_eq (b := 12) (by omega) (by decide))
  by_cases c1 : mj_inb o 8 = true
  · by_cases c2 : w = 12
    · refine ⟨ρ, ρ, F, S, F, S, fun d => ?_⟩
      have hod := ho d
      rw [c1] at hod
      rw [if_neg (fun h => h.2 c2)]
      refine st228 ?_
      have e12' : (nI w = 12) = True := e12.trans (eq_true c2)
      simp only [u228_0, u228_1, u228_2, u228_5, u228_8, u228_9, u228_12, u228_14, u228_17, u228_18, u228_19, u228_20, u228_23, u228_26, u228_29, u228_30, u228_32, u228_35, u228_36, u228_37, u228_40, u228_41, u228_42, u228_45, u228_46, u228_47, u228_48, u228_51, u228_52, u228_53, u228_56, u228_60, u228_61, u228_64, u228_65, u228_67, u228_68, u228_69, u228_70, u228_71, u228_74, u228_75, u228_77, u228_78, u228_79, u228_82, u228_84, u228_87, u228_88, hod, hw, e12', h5 d, mj_cc_v, mj_cc_n, List.all_cons, List.all_nil, mj_noMk_int, mj_noMk_long, mj_noMk_ref, mj_noMk_junk, List.length_nil, List.length_cons, Nat.zero_le, Nat.reduceLeDiff, Nat.reduceAdd, Bool.and_true, Bool.true_and, Bool.and_self, Nat.reduceBNe, true_or, or_true, true_and, and_true, mj_z0, mj_z1, mj_z01, decide_true, decide_false, Bool.true_and, Bool.false_and, Bool.and_true, Bool.and_false, Bool.true_or, Bool.false_or, Bool.or_false, Bool.or_true, Bool.not_true, Bool.not_false, Bool.and_self, Bool.or_self, if_true, if_false, Bool.true_eq_false, Bool.false_eq_true, not_true, not_false_eq_true]
    · simp only [c1, c2, not_false_eq_true, and_self, if_true]
      rcases (Bool.eq_false_or_eq_true (mj_Mkept σ o (mj_evy σ) N w)).symm with c3 | c3
      · refine ⟨ρ, ρ, F, S, F, S, fun d => ?_⟩
        have hod := ho d
        have hkd := hk d
        rw [c1] at hod
        rw [c3] at hkd
        rw [if_neg (by rw [c3]; decide)]
        refine st228 ?_
        simp only [u228_0, u228_1, u228_2, u228_5, u228_8, u228_9, u228_12, u228_14, u228_17, u228_18, u228_19, u228_20, u228_23, u228_26, u228_29, u228_30, u228_32, u228_35, u228_36, u228_37, u228_40, u228_41, u228_42, u228_45, u228_46, u228_47, u228_48, u228_51, u228_52, u228_53, u228_56, u228_60, u228_61, u228_64, u228_65, u228_67, u228_68, u228_69, u228_70, u228_71, u228_74, u228_75, u228_77, u228_78, u228_79, u228_82, u228_84, u228_87, u228_88, hod, hw, e12, c2, hev d, hkd, h5 d, mj_cc_v, mj_cc_n, List.all_cons, List.all_nil, mj_noMk_int, mj_noMk_long, mj_noMk_ref, mj_noMk_junk, List.length_nil, List.length_cons, Nat.zero_le, Nat.reduceLeDiff, Nat.reduceAdd, Bool.and_true, Bool.true_and, Bool.and_self, Nat.reduceBNe, true_or, or_true, true_and, and_true, mj_z0, mj_z1, mj_z01, decide_true, decide_false, Bool.true_and, Bool.false_and, Bool.and_true, Bool.and_false, Bool.true_or, Bool.false_or, Bool.or_false, Bool.or_true, Bool.not_true, Bool.not_false, Bool.and_self, Bool.or_self, if_true, if_false, Bool.true_eq_false, Bool.false_eq_true, not_true, not_false_eq_true]
      · obtain ⟨F4, T4⟩ := hFT c3
        have hW3 := mj_Fq_Wd (mj_bgS_Fq (σ := σ) (o := o) (mt := mj_evy σ)) hW
        have hRd := mj_cnS_Rdy hW3 (mj_bgS_Pw (o := o) (mt := mj_evy σ) hS.1)
        have hD : mj_Dg (mj_lvn σ) N := hW.2.2.2.2.2.2.2
        have hr : 11 - w < 12 := by omega
        have K := sp_M_keeps (X := X) hRd hGK (11 - w) (by omega)
        have e11 : 11 - (11 - w) = w := by omega
        have e53 : (mj_cnS (mj_bgS σ o (mj_evy σ)) N).1 61 53 = o := rfl
        have e54 : (mj_cnS (mj_bgS σ o (mj_evy σ)) N).1 61 54 = mj_evy σ := rfl
        have fs : ∀ (s : Nat) (τ : mj_St), s ≤ 512 → mj_Fr (mj_cnS (mj_bgS σ o (mj_evy σ)) N) τ → mj_Tab τ (mj_GK (mj_cnS (mj_bgS σ o (mj_evy σ)) N) N) → ∃ ρ, mj_Fr (mj_cnS (mj_bgS σ o (mj_evy σ)) N) ρ ∧ mj_Tab ρ (mj_GK (mj_cnS (mj_bgS σ o (mj_evy σ)) N) N) ∧ ∀ d, mj_ev X (d + 28) 202 [.ref 61, .int (nI w), .int (mj_cno (mj_cnS (mj_bgS σ o (mj_evy σ)) N) (mj_lvn σ) N), .int (nI s)] τ = some (some (.int (mj_fst (mj_pk (mj_cnS σ N) o (mj_evy σ) N (11 - w) (mj_lvn σ)) s (512 - s))), ρ) := by
          intro s τ hs F T
          obtain ⟨ρ, F2, T2, hq⟩ := sp_M_firstSet hRd hr K F T hD hs
          refine ⟨ρ, F2, T2, fun d => ?_⟩
          have q := hq (d + 24 - 2 * (11 - w))
          rw [e11, show d + 24 - 2 * (11 - w) + 2 * (11 - w) + 4 = d + 28 by omega, e53, e54, mj_Sm_pk (mj_bgS_Sm (σ := σ))] at q
          exact q
        have loop : ∀ (j s : Nat) (τ : mj_St) (a : Int32), s + j = 512 → mj_Fr (mj_cnS (mj_bgS σ o (mj_evy σ)) N) τ → mj_Tab τ (mj_GK (mj_cnS (mj_bgS σ o (mj_evy σ)) N) N) → ∃ ρ, mj_Fr (mj_cnS (mj_bgS σ o (mj_evy σ)) N) ρ ∧ mj_Tab ρ (mj_GK (mj_cnS (mj_bgS σ o (mj_evy σ)) N) N) ∧ ∀ d, mj_Runs X (mj_ev X (d + 28)) 6 (some .int) prog_8_method_74_code (58, [.ref 61, .int o, .int a, .int (mj_cno (mj_cnS (mj_bgS σ o (mj_evy σ)) N) (mj_lvn σ) N), .int (mj_fst (mj_pk (mj_cnS σ N) o (mj_evy σ) N (11 - w) (mj_lvn σ)) s j)], [], τ) (some (.int (mj_mus (mj_pk (mj_cnS σ N) o (mj_evy σ) N (11 - w) (mj_lvn σ)) s j a)), ρ) := by
          intro j
          induction j with
          | zero =>
            intro s τ a hs F T
            refine ⟨τ, F, T, fun d => ?_⟩
            refine u228_58.mpr ?_
            simp only [u228_0, u228_1, u228_2, u228_5, u228_8, u228_9, u228_12, u228_14, u228_17, u228_18, u228_19, u228_20, u228_23, u228_26, u228_29, u228_30, u228_32, u228_35, u228_36, u228_37, u228_40, u228_41, u228_42, u228_45, u228_46, u228_47, u228_48, u228_51, u228_52, u228_53, u228_56, u228_60, u228_61, u228_64, u228_65, u228_67, u228_68, u228_69, u228_70, u228_71, u228_74, u228_75, u228_77, u228_78, u228_79, u228_82, u228_84, u228_87, u228_88, mj_fst, mj_mus, if_true]
          | succ j ih =>
            intro s τ a hs F T
            simp only [mj_fst, mj_mus]
            rcases (Bool.eq_false_or_eq_true (mj_pk (mj_cnS σ N) o (mj_evy σ) N (11 - w) (mj_lvn σ) s)).symm with c | c
            · simp only [c, Bool.false_eq_true, if_false]
              exact ih (s + 1) τ a (by omega) F T
            · obtain ⟨ρ, F2, T2, hq⟩ := fs (s + 1) τ (by omega) F T
              obtain ⟨ρ2, F3, T3, hg⟩ := ih (s + 1) ρ (a &&& nI s) (by omega) F2 T2
              refine ⟨ρ2, F3, T3, fun d => ?_⟩
              have hqd := hq d
              rw [show 512 - (s + 1) = j by omega] at hqd
              have hf := hg d
              have hm1 := mj_nI_m1 (s := s) (by omega)
              have en : τ.1 61 1 = nI w := by
                rw [(mj_bg_Fq F).2.2 1 (by decide) (by decide) (by decide) (by decide) (by decide) (by decide)]
                exact hw
              simp only [c, if_true]
              refine u228_58.mpr ?_
              simp only [u228_0, u228_1, u228_2, u228_5, u228_8, u228_9, u228_12, u228_14, u228_17, u228_18, u228_19, u228_20, u228_23, u228_26, u228_29, u228_30, u228_32, u228_35, u228_36, u228_37, u228_40, u228_41, u228_42, u228_45, u228_46, u228_47, u228_48, u228_51, u228_52, u228_53, u228_56, u228_60, u228_61, u228_64, u228_65, u228_67, u228_68, u228_69, u228_70, u228_71, u228_74, u228_75, u228_77, u228_78, u228_79, u228_82, u228_84, u228_87, u228_88, hm1, en, nI_1, hqd, mj_cc_v, mj_cc_n, List.all_cons, List.all_nil, mj_noMk_int, mj_noMk_long, mj_noMk_ref, mj_noMk_junk, List.length_nil, List.length_cons, Nat.zero_le, Nat.reduceLeDiff, Nat.reduceAdd, Bool.and_true, Bool.true_and, Bool.and_self, Nat.reduceBNe, true_or, or_true, true_and, and_true, mj_z0, mj_z1, mj_z01, decide_true, decide_false, Bool.true_and, Bool.false_and, Bool.and_true, Bool.and_false, Bool.true_or, Bool.false_or, Bool.or_false, Bool.or_true, Bool.not_true, Bool.not_false, Bool.and_self, Bool.or_self, if_true, if_false, Bool.true_eq_false, Bool.false_eq_true, not_true, not_false_eq_true]
              exact hf
        obtain ⟨ρ2, F5, T5, hq⟩ := fs 0 ρ (by omega) F4 T4
        obtain ⟨ρ3, F6, T6, hl⟩ := loop 512 0 ρ2 (mj_evy σ) rfl F5 T5
        refine ⟨ρ, ρ3, F, S, mj_bg_Fq F6, mj_Scr_of hW hS hR F6 T6, fun d => ?_⟩
        have hod := ho d
        have hkd := hk d
        have hqd := hq d
        rw [c1] at hod
        rw [c3] at hkd
        rw [if_pos c3]
        have hcn := sp_M_codeAgain (X := X) (d := d + 26) hW F4
        have hcn' : mj_ev X (d + 28) 197 [.ref 61] ρ = some (some (.int (mj_cno (mj_cnS (mj_bgS σ o (mj_evy σ)) N) (mj_lvn σ) N)), ρ) := hcn
        have hevρ : mj_ev X (d + 28) 192 [.ref 61] ρ = some (some (.int (mj_evy σ)), ρ) := by
          have q := sp_M_everything (X := X) (d := d + 27) (σ := ρ)
          rw [← mj_Fq_evy F]
          exact q
        have en : ρ.1 61 1 = nI w := by
          rw [F.2.2 1 (by decide) (by decide) (by decide) (by decide) (by decide) (by decide)]
          exact hw
        have e0 : (0 : Int32) = nI 0 := rfl
        refine st228 ?_
        have hqd' : mj_ev X (d + 28) 202 [.ref 61, .int (nI w), .int (mj_cno (mj_cnS (mj_bgS σ o (mj_evy σ)) N) (mj_lvn σ) N), .int 0] ρ = some (some (.int (mj_fst (mj_pk (mj_cnS σ N) o (mj_evy σ) N (11 - w) (mj_lvn σ)) 0 512)), ρ2) := hqd
        simp only [u228_0, u228_1, u228_2, u228_5, u228_8, u228_9, u228_12, u228_14, u228_17, u228_18, u228_19, u228_20, u228_23, u228_26, u228_29, u228_30, u228_32, u228_35, u228_36, u228_37, u228_40, u228_41, u228_42, u228_45, u228_46, u228_47, u228_48, u228_51, u228_52, u228_53, u228_56, u228_60, u228_61, u228_64, u228_65, u228_67, u228_68, u228_69, u228_70, u228_71, u228_74, u228_75, u228_77, u228_78, u228_79, u228_82, u228_84, u228_87, u228_88, hod, hw, e12, c2, hev d, hkd, hevρ, hcn', en, hqd', mj_cc_v, mj_cc_n, List.all_cons, List.all_nil, mj_noMk_int, mj_noMk_long, mj_noMk_ref, mj_noMk_junk, List.length_nil, List.length_cons, Nat.zero_le, Nat.reduceLeDiff, Nat.reduceAdd, Bool.and_true, Bool.true_and, Bool.and_self, Nat.reduceBNe, true_or, or_true, true_and, and_true, mj_z0, mj_z1, mj_z01, decide_true, decide_false, Bool.true_and, Bool.false_and, Bool.and_true, Bool.and_false, Bool.true_or, Bool.false_or, Bool.or_false, Bool.or_true, Bool.not_true, Bool.not_false, Bool.and_self, Bool.or_self, if_true, if_false, Bool.true_eq_false, Bool.false_eq_true, not_true, not_false_eq_true]
        exact hl d
  · refine ⟨ρ, ρ, F, S, F, S, fun d => ?_⟩
    have hod := ho d
    have c1' : mj_inb o 8 = false := by
      cases c : mj_inb o 8
      · rfl
      · exact absurd c c1
    rw [c1'] at hod
    rw [if_neg (fun h => c1 h.1)]
    refine st228 ?_
    simp only [u228_0, u228_1, u228_2, u228_5, u228_8, u228_9, u228_12, u228_14, u228_17, u228_18, u228_19, u228_20, u228_23, u228_26, u228_29, u228_30, u228_32, u228_35, u228_36, u228_37, u228_40, u228_41, u228_42, u228_45, u228_46, u228_47, u228_48, u228_51, u228_52, u228_53, u228_56, u228_60, u228_61, u228_64, u228_65, u228_67, u228_68, u228_69, u228_70, u228_71, u228_74, u228_75, u228_77, u228_78, u228_79, u228_82, u228_84, u228_87, u228_88, hod, h5 d, mj_cc_v, mj_cc_n, List.all_cons, List.all_nil, mj_noMk_int, mj_noMk_long, mj_noMk_ref, mj_noMk_junk, List.length_nil, List.length_cons, Nat.zero_le, Nat.reduceLeDiff, Nat.reduceAdd, Bool.and_true, Bool.true_and, Bool.and_self, Nat.reduceBNe, true_or, or_true, true_and, and_true, mj_z0, mj_z1, mj_z01, decide_true, decide_false, Bool.true_and, Bool.false_and, Bool.and_true, Bool.and_false, Bool.true_or, Bool.false_or, Bool.or_false, Bool.or_true, Bool.not_true, Bool.not_false, Bool.and_self, Bool.or_self, if_true, if_false, Bool.true_eq_false, Bool.false_eq_true, not_true, not_false_eq_true]
end
