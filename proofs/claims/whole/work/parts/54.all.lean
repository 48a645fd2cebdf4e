section
variable {X : mj_X} {d : Nat} {σ τ : mj_St}
theorem mj_fst_congr {p q : Nat → Bool} : ∀ (j k : Nat), (∀ i, k ≤ i → i < k + j → p i = q i) → mj_fst p k j = mj_fst q k j := by
  intro j
  induction j with
  | zero => intro k _; rfl
  | succ j ih =>
    intro k h
    simp only [mj_fst]
    rw [h k (Nat.le_refl _) (by omega), ih (k + 1) (fun i a b => h i (by omega) (by omega))]
theorem mj_nxb_ag {N s : Nat} {l l' : Nat → Int32} (A : mj_Ag σ N l l') : mj_Ag σ N (mj_nxb l s) (mj_nxb l' s) := by
  intro k hk hw
  unfold mj_nxb
  rw [A k hk hw]
theorem mj_bok_ag {N s : Nat} {h kn u mt : Int32} {l l' : Nat → Int32} (hR : mj_Rdy σ N) (A : mj_Ag σ N l l') : mj_bok σ h kn u mt N l s = mj_bok σ h kn u mt N l' s := by
  unfold mj_bok mj_bo1
  rw [mj_Gset_ag hR A]
  have e : (fun o => decide (nI o &&& kn = u) && !(decide (mj_Mbars σ (nI s) h (nI o) mt N = 0) && decide (mj_nxl σ h (nI s) (nI o) mt l N = 0))) = (fun o => decide (nI o &&& kn = u) && !(decide (mj_Mbars σ (nI s) h (nI o) mt N = 0) && decide (mj_nxl σ h (nI s) (nI o) mt l' N = 0))) := by
    funext o
    rw [mj_nxl_ag A]
  rw [e]
theorem mj_Br_ag {N r : Nat} {mt u : Int32} {B : (Nat → Int32) → Int32 → Bool} {l l' : Nat → Int32} (hR : mj_Rdy σ N) (hB : ∀ l l' u, mj_Ag σ N l l' → B l u = B l' u) (A : mj_Ag σ N l l') : mj_Br σ mt N r B l u = mj_Br σ mt N r B l' u := by
  unfold mj_Br
  apply mj_fst_congr
  intro s _ _
  rw [mj_bok_ag hR A, hB _ _ u (mj_nxb_ag A)]
theorem mj_Bs_ag {N : Nat} {mt : Int32} (hR : mj_Rdy σ N) : ∀ (r : Nat) (l l' : Nat → Int32) (u : Int32), mj_Ag σ N l l' → mj_Bs σ mt N r l u = mj_Bs σ mt N r l' u := by
  intro r
  induction r with
  | zero => intro l l' u _; rfl
  | succ r ih =>
    intro l l' u A
    unfold mj_Bs
    congr 1
    apply mj_anyF_congr
    intro o _ _
    rw [mj_Br_ag hR ih A]
def mj_GB (σ : mj_St) (N : Nat) (key v : Int32) : Prop := ∀ (r : Nat) (l : Nat → Int32) (u : Nat), r < 12 → u < 8 → mj_Dg l N → key = 8 * (15625 * nI (11 - r) + mj_cno σ l N) + nI u → v = mj_Br σ (σ.1 61 54) N r (mj_Bs σ (σ.1 61 54) N r) l (nI u)
theorem mj_key8_inj {a a' c c' u u' : Nat} (ha : a ≤ 12) (ha' : a' ≤ 12) (hc : c < 15625) (hc' : c' < 15625) (hu : u < 8) (hu' : u' < 8) (h : 8 * (15625 * nI a + nI c) + nI u = 8 * (15625 * nI a' + nI c') + nI u') : a = a' ∧ c = c' ∧ u = u' := by
  have e5 : (15625 : Int32) = nI 15625 := rfl
  have e8 : (8 : Int32) = nI 8 := rfl
  rw [e5, e8, mj_nI_mul, mj_nI_mul, nI_add, nI_add, mj_nI_mul, mj_nI_mul, nI_add, nI_add] at h
  have := (nI_eq (by omega) (by omega)).mp h
  omega
theorem mj_GB_ok {N : Nat} (hR : mj_Rdy σ N) (hw6 : mj_wc σ N ≤ 6) : mj_GBok σ N (mj_GB σ N) := by
  intro r l u hr hu D
  refine ⟨fun v h => h r l u hr hu D rfl, fun r' l' u' hr' hu' D' hkey => ?_⟩
  obtain ⟨c, hc, ec⟩ := mj_cno_nI hR hw6 D
  obtain ⟨c', hc', ec'⟩ := mj_cno_nI hR hw6 D'
  rw [ec, ec'] at hkey
  obtain ⟨k1, k2, k3⟩ := mj_key8_inj (by omega) (by omega) hc hc' hu hu' hkey
  have : r' = r := by omega
  subst this
  subst k3
  exact mj_Br_ag hR (mj_Bs_ag hR r') (mj_cno_inj hR D D' (by rw [ec, ec', k2]))
theorem mj_Sm_Bs (F : mj_Sm σ τ) (h1 : τ.1 61 1 = σ.1 61 1) {mt : Int32} {N : Nat} : ∀ r l u, mj_Bs τ mt N r l u = mj_Bs σ mt N r l u := by
  have ekb : mj_Mkb τ = mj_Mkb σ := by
    funext h n
    unfold mj_Mkb
    rw [mj_Sm_c F (c := 64)]
  have eok : mj_bok τ = mj_bok σ := by
    funext h kn u mt n l s
    unfold mj_bok mj_bo1
    rw [mj_Sm_Gset F, mj_Sm_Mbars F, mj_Sm_nxl F]
  have ewas : mj_was τ = mj_was σ := by
    funext r
    unfold mj_was
    rw [ekb, h1]
  intro r
  induction r with
  | zero => intro l u; rfl
  | succ r ih =>
    intro l u
    have eB : mj_Bs τ mt N r = mj_Bs σ mt N r := by
      funext l u
      exact ih l u
    unfold mj_Bs mj_Br
    rw [ekb, eok, ewas, eB]
def mj_evy (σ : mj_St) : Int32 := (1 <<< (σ.1 61 0 &&& 31)) - 1
/-- all can be borne, whatever comes -/
def mj_Mall (σ : mj_St) (N w : Nat) : Bool := !(mj_Mls σ (mj_evy σ) N) && mj_Bs (mj_cnS σ N) (mj_evy σ) N (12 - w) (mj_lvn σ) (σ.1 61 2 &&& mj_Mkb σ (nI w) 3)
theorem mj_and8 {t : Nat} {x : Int32} (ht : t < 8) : ∃ u : Nat, u < 8 ∧ nI t &&& x = nI u := by
  have := mj_b_lt (a := nI t &&& x) (n := 3) (by decide) (fun k hk h3 => by
    rw [mj_b_and, mj_b_nI (by omega)]
    have : t.testBit k = false := Nat.testBit_lt_two_pow (Nat.lt_of_lt_of_le ht (by
      have : 2 ^ 3 ≤ 2 ^ k := Nat.pow_le_pow_right (by decide) h3
      omega))
    rw [this, Bool.false_and])
  obtain ⟨u, hu, e⟩ := this
  exact ⟨u, by omega, e⟩
theorem sp_M_bearsAll2 {N R w t : Nat} (hW : mj_Wd σ N) (hS : mj_Scr σ R) (hR : R + 1 < 2147483648) (hw : σ.1 61 1 = nI w) (hw12 : w ≤ 12) (ht : σ.1 61 2 = nI t) (ht8 : t < 8) : ∃ ρ, mj_Fq σ ρ ∧ mj_Scr ρ (R + 1) ∧ (mj_Mall σ N w = true → mj_Fr (mj_cnS (mj_bgS σ (σ.1 61 53) (mj_evy σ)) N) ρ ∧ mj_Tab ρ (mj_GB (mj_cnS (mj_bgS σ (σ.1 61 53) (mj_evy σ)) N) N)) ∧ ∀ d, mj_ev X (d + 28) 214 [.ref 61] σ = some (some (.int (mj_z (mj_Mall σ N w))), ρ) := by
  have hls : ∀ d, mj_ev X (d + 27) 194 [.ref 61, .int (mj_evy σ)] σ = some (some (.int (mj_z (mj_Mls σ (mj_evy σ) N))), σ) := fun d => sp_M_isLost (d := d + 25) hW.1 hW.2.1
  have hev : ∀ d, mj_ev X (d + 27) 192 [.ref 61] σ = some (some (.int (mj_evy σ)), σ) := fun d => sp_M_everything
  unfold mj_Mall
  cases hl : mj_Mls σ (mj_evy σ) N
  · have ebg : mj_setI (mj_setI (mj_setI σ 61 51 (σ.1 61 51 + 1)) 61 52 0) 61 54 (mj_evy σ) = mj_bgS σ (σ.1 61 53) (mj_evy σ) := by
      refine Prod.ext ?_ rfl
      funext c i
      simp only [mj_bgS, mj_setI]
      by_cases e1 : c = 61
      · subst e1
        by_cases e2 : i = 54
        · simp [e2]
        · by_cases e3 : i = 53
          · subst e3; simp
          · simp [e2, e3]
      · simp [e1]
    have hW3 := mj_Fq_Wd (mj_bgS_Fq (σ := σ) (o := σ.1 61 53) (mt := mj_evy σ)) hW
    have hRd := mj_cnS_Rdy hW3 (mj_bgS_Pw (o := σ.1 61 53) (mt := mj_evy σ) hS.1)
    have hw6 : mj_wc (mj_cnS (mj_bgS σ (σ.1 61 53) (mj_evy σ)) N) N ≤ 6 := by
      have e := (mj_Fq_Wd (mj_cnS_Fq (N := N)) hW3).2.2.2.2.2.2.1
      exact e
    obtain ⟨hT, h51⟩ := mj_bgS_Tab (o := σ.1 61 53) (mt := mj_evy σ) (N := N) (G := mj_GB (mj_cnS (mj_bgS σ (σ.1 61 53) (mj_evy σ)) N) N) hS hR
    have hD : mj_Dg (mj_lvn σ) N := hW.2.2.2.2.2.2.2
    obtain ⟨u, hu8, hu⟩ := mj_and8 (x := mj_Mkb σ (nI w) 3) ht8
    obtain ⟨ρ, F, T, hk⟩ := sp_M_bears (X := X) hRd (mj_GB_ok hRd hw6) (12 - w) (by omega) (mj_cnS (mj_bgS σ (σ.1 61 53) (mj_evy σ)) N) (mj_lvn σ) u hu8 mj_Fr_rf hT hD
    have hFq := mj_Fq_tr (mj_Fq_tr (mj_bgS_Fq (σ := σ) (o := σ.1 61 53) (mt := mj_evy σ)) (mj_cnS_Fq (N := N))) (mj_Fq_Fr F)
    have hr51 : ρ.1 61 51 = (mj_cnS (mj_bgS σ (σ.1 61 53) (mj_evy σ)) N).1 61 51 := F.2.2 51 (by decide) (by decide)
    refine ⟨ρ, hFq, ⟨?_, T.2.2, ?_, ?_⟩, fun _ => ⟨F, T⟩, fun d => ?_⟩
    · exact (mj_Fr_Rdy F hRd).2.2.1
    · rw [hr51, h51]
      have := hS.2.2.1
      omega
    · rw [hr51, h51]
      have := hS.2.2.2
      omega
    · have hkd := hk (d + 24 - 2 * (12 - w))
      have e1 : d + 24 - 2 * (12 - w) + 2 * (12 - w) + 3 = d + 27 := by omega
      have e2 : 12 - (12 - w) = w := by omega
      rw [e1, e2] at hkd
      have e54 : (mj_cnS (mj_bgS σ (σ.1 61 53) (mj_evy σ)) N).1 61 54 = mj_evy σ := rfl
      rw [e54, mj_Sm_Bs (mj_bgS_Sm (σ := σ) (o := σ.1 61 53) (mt := mj_evy σ)) rfl, ← hu] at hkd
      have hcn := sp_M_codeNow (X := X) (d := d + 25) (σ := mj_bgS σ (σ.1 61 53) (mj_evy σ)) hW3.1 hW3.2.1 hW3.2.2.2.2.2.1
      have el : mj_lvn (mj_bgS σ (σ.1 61 53) (mj_evy σ)) = mj_lvn σ := by
        funext i
        unfold mj_lvn
        rw [mj_bgS_o (by decide), mj_bgS_o (by decide)]
      have ec : mj_cno (mj_cnS (mj_bgS σ (σ.1 61 53) (mj_evy σ)) N) (mj_lvn σ) N = mj_cno (mj_bgS σ (σ.1 61 53) (mj_evy σ)) (mj_lvn σ) N := by
        unfold mj_cno mj_wc
        rw [mj_cnS_o (by decide) (by decide), mj_cnS_o (by decide) (by decide)]
      rw [el] at hcn
      rw [ec] at hkd
      have hbg := sp_M_begins (X := X) (d := d + 26) (σ := σ)
      have hev2 : mj_ev X (d + 27) 192 [.ref 61] (mj_setI (mj_setI σ 61 51 (σ.1 61 51 + 1)) 61 52 0) = some (some (.int (mj_evy σ)), mj_setI (mj_setI σ 61 51 (σ.1 61 51 + 1)) 61 52 0) := sp_M_everything
      refine st214 ?_
      have en : (mj_bgS σ (σ.1 61 53) (mj_evy σ)).1 61 1 = nI w := hw
      have en2 : (mj_cnS (mj_bgS σ (σ.1 61 53) (mj_evy σ)) N).1 61 1 = nI w := hw
      have et : (mj_cnS (mj_bgS σ (σ.1 61 53) (mj_evy σ)) N).1 61 2 = nI t := ht
      have ekb : mj_Mkb (mj_cnS (mj_bgS σ (σ.1 61 53) (mj_evy σ)) N) = mj_Mkb σ := by
        funext h n
        unfold mj_Mkb
        rw [mj_cnS_o (by decide) (by decide), mj_bgS_o (by decide)]
      have hkb : mj_ev X (d + 27) 215 [.ref 61, .int (nI w)] (mj_cnS (mj_bgS σ (σ.1 61 53) (mj_evy σ)) N) = some (some (.int (mj_Mkb σ (nI w) 3)), mj_cnS (mj_bgS σ (σ.1 61 53) (mj_evy σ)) N) := by
        have q := sp_M_knownBy (X := X) (d := d + 26) (σ := mj_cnS (mj_bgS σ (σ.1 61 53) (mj_evy σ)) N) (h := nI w)
        rw [ekb] at q
        exact q
      rw [ht]
      simp only [u214_0, u214_1, u214_2, u214_5, u214_8, u214_11, u214_12, u214_13, u214_14, u214_17, u214_18, u214_19, u214_22, u214_25, u214_26, u214_27, u214_30, u214_31, u214_34, u214_35, u214_38, u214_39, u214_40, u214_43, u214_46, u214_47, u214_50, hev d, hls d, hl, hbg, hev2, ebg, en, hcn, en2, et, hkb, hkd, mj_cc_v, mj_cc_n, List.all_cons, List.all_nil, mj_noMk_int, mj_noMk_long, mj_noMk_ref, mj_noMk_junk, List.length_nil, List.length_cons, Nat.zero_le, Nat.reduceLeDiff, Nat.reduceAdd, Bool.and_true, Bool.true_and, Bool.and_self, Nat.reduceBNe, true_or, or_true, true_and, and_true, mj_z0, mj_z1, mj_z01, decide_true, decide_false, Bool.true_and, Bool.false_and, Bool.and_true, Bool.and_false, Bool.true_or, Bool.false_or, Bool.or_false, Bool.or_true, Bool.not_true, Bool.not_false, Bool.and_self, Bool.or_self, if_true, if_false, Bool.true_eq_false, Bool.false_eq_true, not_true, not_false_eq_true]
      exact (Bool.eq_false_or_eq_true _).symm
  · refine ⟨σ, mj_Fq_rf, ⟨hS.1, hS.2.1, ?_, hS.2.2.2⟩, fun h => ?_, fun d => ?_⟩
    · have := hS.2.2.1
      omega
    · simp at h
    · refine st214 ?_
      simp only [u214_0, u214_1, u214_2, u214_5, u214_8, u214_11, u214_12, u214_13, u214_14, u214_17, u214_18, u214_19, u214_22, u214_25, u214_26, u214_27, u214_30, u214_31, u214_34, u214_35, u214_38, u214_39, u214_40, u214_43, u214_46, u214_47, u214_50, hev d, hls d, hl, mj_zF, mj_cc_v, mj_cc_n, List.all_cons, List.all_nil, mj_noMk_int, mj_noMk_long, mj_noMk_ref, mj_noMk_junk, List.length_nil, List.length_cons, Nat.zero_le, Nat.reduceLeDiff, Nat.reduceAdd, Bool.and_true, Bool.true_and, Bool.and_self, Nat.reduceBNe, true_or, or_true, true_and, and_true, mj_z0, mj_z1, mj_z01, decide_true, decide_false, Bool.true_and, Bool.false_and, Bool.and_true, Bool.and_false, Bool.true_or, Bool.false_or, Bool.or_false, Bool.or_true, Bool.not_true, Bool.not_false, Bool.and_self, Bool.or_self, if_true, if_false, Bool.true_eq_false, Bool.false_eq_true, not_true, not_false_eq_true]
theorem sp_M_bearsAll {N R w t : Nat} (hW : mj_Wd σ N) (hS : mj_Scr σ R) (hR : R + 1 < 2147483648) (hw : σ.1 61 1 = nI w) (hw12 : w ≤ 12) (ht : σ.1 61 2 = nI t) (ht8 : t < 8) : ∃ ρ, mj_Fq σ ρ ∧ mj_Scr ρ (R + 1) ∧ ∀ d, mj_ev X (d + 28) 214 [.ref 61] σ = some (some (.int (mj_z (mj_Mall σ N w))), ρ) := by
  obtain ⟨ρ, a, b, -, c⟩ := sp_M_bearsAll2 (X := X) hW hS hR hw hw12 ht ht8
  exact ⟨ρ, a, b, c⟩
end
