section
variable {X : mj_X} {d : Nat} {σ τ : mj_St}
theorem mj_Sm_Br (F : mj_Sm σ τ) (h1 : τ.1 61 1 = σ.1 61 1) {mt u : Int32} {N r : Nat} {l : Nat → Int32} : mj_Br τ mt N r (mj_Bs τ mt N r) l u = mj_Br σ mt N r (mj_Bs σ mt N r) l u := by
  have ekb : mj_Mkb τ = mj_Mkb σ := by
    funext h n
    unfold mj_Mkb
    rw [mj_Sm_c F (c := 64)]
  have eok : mj_bok τ = mj_bok σ := by
    funext h kn u mt n l s
    unfold mj_bok mj_bo1
    rw [mj_Sm_Gset F, mj_Sm_Mbars F, mj_Sm_nxl F]
  have eB : mj_Bs τ mt N r = mj_Bs σ mt N r := by
    funext l u
    exact mj_Sm_Bs F h1 r l u
  unfold mj_Br
  rw [ekb, eok, eB]
theorem sp_M_begin {N R w t : Nat} (hM : mj_Mst σ N R w t) (hR : R + 1 < 2147483648) : ∃ ρ ρ', mj_Fq σ ρ ∧ mj_Scr ρ (R + 1) ∧ mj_Fq σ ρ' ∧ mj_Scr ρ' (R + 1) ∧ ∀ d, mj_ev X (d + 29) 218 [.ref 61] σ = some (if w = 12 then (some (.int (-5)), mj_rfM σ (-5)) else if mj_Mall σ N w = true then (some (.int (mj_Br (mj_cnS σ N) (mj_evy σ) N (11 - w) (mj_Bs (mj_cnS σ N) (mj_evy σ) N (11 - w)) (mj_lvn σ) (nI t &&& mj_Mkb σ (nI w) 3))), ρ') else (some (.int (-5)), mj_rfM ρ (-5))) := by
  obtain ⟨hW, hS, hw, hw12, ht, ht8⟩ := hM
  obtain ⟨ρ, F, S, hFT, hk⟩ := sp_M_bearsAll2 (X := X) hW hS hR hw hw12 ht ht8
  have h5 : ∀ d τ, mj_ev X (d + 28) 158 [.ref 61, .int (-5)] τ = some (some (.int (-5)), mj_rfM τ (-5)) := fun d τ => sp_no5 (d := d + 27)
  have e12 : (nI w = 12) = (w = 12) := propext (nI_eq (b := 12) (by omega) (by decide))
  by_cases c2 : w = 12
  · refine ⟨ρ, ρ, F, S, F, S, fun d => ?_⟩
    rw [if_pos c2]
    have e12' : (nI w = 12) = True := e12.trans (eq_true c2)
    refine st218 ?_
    simp only [u218_0, u218_1, u218_4, u218_6, u218_9, u218_10, u218_13, u218_16, u218_17, u218_19, u218_22, u218_23, u218_24, u218_25, u218_28, u218_29, u218_32, u218_33, u218_36, u218_37, u218_38, u218_41, u218_44, u218_45, u218_46, u218_47, u218_50, u218_53, u218_56, hw, e12', h5 d, mj_cc_v, mj_cc_n, List.all_cons, List.all_nil, mj_noMk_int, mj_noMk_long, mj_noMk_ref, mj_noMk_junk, List.length_nil, List.length_cons, Nat.zero_le, Nat.reduceLeDiff, Nat.reduceAdd, Bool.and_true, Bool.true_and, Bool.and_self, Nat.reduceBNe, true_or, or_true, true_and, and_true, mj_z0, mj_z1, mj_z01, decide_true, decide_false, Bool.true_and, Bool.false_and, Bool.and_true, Bool.and_false, Bool.true_or, Bool.false_or, Bool.or_false, Bool.or_true, Bool.not_true, Bool.not_false, Bool.and_self, Bool.or_self, if_true, if_false, Bool.true_eq_false, Bool.false_eq_true, not_true, not_false_eq_true]
  · simp only [if_neg c2]
    rcases (Bool.eq_false_or_eq_true (mj_Mall σ N w)).symm with c3 | c3
    · refine ⟨ρ, ρ, F, S, F, S, fun d => ?_⟩
      have hkd := hk d
      rw [c3] at hkd
      rw [if_neg (by rw [c3]; decide)]
      refine st218 ?_
      simp only [u218_0, u218_1, u218_4, u218_6, u218_9, u218_10, u218_13, u218_16, u218_17, u218_19, u218_22, u218_23, u218_24, u218_25, u218_28, u218_29, u218_32, u218_33, u218_36, u218_37, u218_38, u218_41, u218_44, u218_45, u218_46, u218_47, u218_50, u218_53, u218_56, hw, e12, c2, hkd, h5 d, mj_cc_v, mj_cc_n, List.all_cons, List.all_nil, mj_noMk_int, mj_noMk_long, mj_noMk_ref, mj_noMk_junk, List.length_nil, List.length_cons, Nat.zero_le, Nat.reduceLeDiff, Nat.reduceAdd, Bool.and_true, Bool.true_and, Bool.and_self, Nat.reduceBNe, true_or, or_true, true_and, and_true, mj_z0, mj_z1, mj_z01, decide_true, decide_false, Bool.true_and, Bool.false_and, Bool.and_true, Bool.and_false, Bool.true_or, Bool.false_or, Bool.or_false, Bool.or_true, Bool.not_true, Bool.not_false, Bool.and_self, Bool.or_self, if_true, if_false, Bool.true_eq_false, Bool.false_eq_true, not_true, not_false_eq_true]
    · obtain ⟨F4, T4⟩ := hFT c3
      have hW3 := mj_Fq_Wd (mj_bgS_Fq (σ := σ) (o := σ.1 61 53) (mt := mj_evy σ)) hW
      have hRd := mj_cnS_Rdy hW3 (mj_bgS_Pw (o := σ.1 61 53) (mt := mj_evy σ) hS.1)
      have hw6 : mj_wc (mj_cnS (mj_bgS σ (σ.1 61 53) (mj_evy σ)) N) N ≤ 6 := by
        have e := (mj_Fq_Wd (mj_cnS_Fq (N := N)) hW3).2.2.2.2.2.2.1
        exact e
      have hD : mj_Dg (mj_lvn σ) N := hW.2.2.2.2.2.2.2
      have hr : 11 - w < 12 := by omega
      have hGB := mj_GB_ok hRd hw6
      have K := sp_M_bears (X := X) hRd hGB (11 - w) (by omega)
      have e11 : 11 - (11 - w) = w := by omega
      have ekb : mj_Mkb (mj_cnS (mj_bgS σ (σ.1 61 53) (mj_evy σ)) N) = mj_Mkb σ := mj_Fq_Mkb (mj_Fq_tr mj_bgS_Fq mj_cnS_Fq)
      obtain ⟨u, hu8, hu⟩ := mj_and8 (x := mj_Mkb σ (nI w) 3) ht8
      have hu2 : nI u &&& mj_Mkb (mj_cnS (mj_bgS σ (σ.1 61 53) (mj_evy σ)) N) (nI (11 - (11 - w))) 3 = nI u := by
        rw [ekb, e11, ← hu]
        apply mj_b_ext
        intro k _
        simp only [mj_b_and]
        cases mj_b (nI t) k <;> cases mj_b (mj_Mkb σ (nI w) 3) k <;> rfl
      obtain ⟨ρ', F5, T5, hq⟩ := sp_M_bearing (X := X) hRd hr hGB K F4 T4 hD hu8 hu2
      refine ⟨ρ, ρ', F, S, mj_bg_Fq F5, mj_Scr_of hW hS hR F5 T5, fun d => ?_⟩
      have hkd := hk d
      rw [c3] at hkd
      rw [if_pos c3]
      have hqd := hq (d + 24 - 2 * (11 - w))
      have e54 : (mj_cnS (mj_bgS σ (σ.1 61 53) (mj_evy σ)) N).1 61 54 = mj_evy σ := rfl
      rw [e54, mj_Sm_Br (mj_bgS_Sm (σ := σ)) rfl, ekb, e11, show d + 24 - 2 * (11 - w) + 2 * (11 - w) + 4 = d + 28 by omega] at hqd
      have hcn' : mj_ev X (d + 28) 197 [.ref 61] ρ = some (some (.int (mj_cno (mj_cnS (mj_bgS σ (σ.1 61 53) (mj_evy σ)) N) (mj_lvn σ) N)), ρ) := sp_M_codeAgain (X := X) (d := d + 26) hW F4
      have en : ρ.1 61 1 = nI w := by
        rw [F.2.2 1 (by decide) (by decide) (by decide) (by decide) (by decide) (by decide)]
        exact hw
      have et : ρ.1 61 2 = nI t := by
        rw [F.2.2 2 (by decide) (by decide) (by decide) (by decide) (by decide) (by decide)]
        exact ht
      have hkb : mj_ev X (d + 28) 215 [.ref 61, .int (nI w)] ρ = some (some (.int (mj_Mkb σ (nI w) 3)), ρ) := by
        have q := sp_M_knownBy (X := X) (d := d + 27) (σ := ρ) (h := nI w)
        rw [mj_Fq_Mkb F] at q
        exact q
      rw [hu]
      refine st218 ?_
      simp only [u218_0, u218_1, u218_4, u218_6, u218_9, u218_10, u218_13, u218_16, u218_17, u218_19, u218_22, u218_23, u218_24, u218_25, u218_28, u218_29, u218_32, u218_33, u218_36, u218_37, u218_38, u218_41, u218_44, u218_45, u218_46, u218_47, u218_50, u218_53, u218_56, hw, e12, c2, hkd, hcn', en, et, hkb, hu, hqd, mj_cc_v, mj_cc_n, List.all_cons, List.all_nil, mj_noMk_int, mj_noMk_long, mj_noMk_ref, mj_noMk_junk, List.length_nil, List.length_cons, Nat.zero_le, Nat.reduceLeDiff, Nat.reduceAdd, Bool.and_true, Bool.true_and, Bool.and_self, Nat.reduceBNe, true_or, or_true, true_and, and_true, mj_z0, mj_z1, mj_z01, decide_true, decide_false, Bool.true_and, Bool.false_and, Bool.and_true, Bool.and_false, Bool.true_or, Bool.false_or, Bool.or_false, Bool.or_true, Bool.not_true, Bool.not_false, Bool.and_self, Bool.or_self, if_true, if_false, Bool.true_eq_false, Bool.false_eq_true, not_true, not_false_eq_true]
end
