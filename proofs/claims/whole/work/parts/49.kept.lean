section
variable {X : mj_X} {d : Nat} {σ τ : mj_St}
/-- the same for all works -/
def mj_Ag (σ : mj_St) (N : Nat) (l l' : Nat → Int32) : Prop := ∀ k, k < N → σ.1 65 k < 5 → l k = l' k
theorem mj_Gopn_ag {N k : Nat} {h o mt : Int32} {l l' : Nat → Int32} (hR : mj_Rdy σ N) (A : mj_Ag σ N l l') (hk : k < N) : mj_Gopn σ h o mt l k = mj_Gopn σ h o mt l' k := by
  unfold mj_Gopn
  by_cases c : 4 < σ.1 65 k
  · simp [c]
  · rw [A k hk (by rw [mj_lt5]; exact c)]
    by_cases c2 : σ.1 69 k = -1
    · simp only [c2, decide_true, Bool.true_or]
    · obtain ⟨a1, a2⟩ := hR.2.2.2.2.2.1 k hk c2
      rw [A _ a1 a2]
theorem mj_nxl_ag {N : Nat} {h s o mt : Int32} {l l' : Nat → Int32} (A : mj_Ag σ N l l') : mj_nxl σ h s o mt l N = mj_nxl σ h s o mt l' N := by
  unfold mj_nxl
  apply mj_it_congr
  intro i hi u
  by_cases c : σ.1 65 i < 5
  · rw [A i hi c]
  · simp only [c, false_and]
theorem mj_nxd_ag {N : Nat} {h s o mt : Int32} {l l' : Nat → Int32} (A : mj_Ag σ N l l') : mj_Ag σ N (mj_nxd σ h s o mt l) (mj_nxd σ h s o mt l') := by
  intro k hk hw
  unfold mj_nxd
  rw [A k hk hw]
theorem mj_Gset_ag {N : Nat} {h o mt : Int32} {l l' : Nat → Int32} (hR : mj_Rdy σ N) (A : mj_Ag σ N l l') : mj_Gset σ h o mt l N = mj_Gset σ h o mt l' N := by
  unfold mj_Gset
  apply mj_it_congr
  intro i hi u
  rw [mj_Gopn_ag hR A hi]
theorem mj_gok_ag {N s : Nat} {h o mt : Int32} {l l' : Nat → Int32} (hR : mj_Rdy σ N) (A : mj_Ag σ N l l') : mj_gok σ h o mt N l s = mj_gok σ h o mt N l' s := by
  unfold mj_gok
  rw [mj_Gset_ag hR A, mj_nxl_ag A]
theorem mj_anyF_congr {p q : Nat → Bool} : ∀ (j k : Nat), (∀ i, k ≤ i → i < k + j → p i = q i) → mj_anyF p k j = mj_anyF q k j := by
  intro j
  induction j with
  | zero => intro k _; rfl
  | succ j ih =>
    intro k h
    simp only [mj_anyF]
    rw [h k (Nat.le_refl _) (by omega), ih (k + 1) (fun i a b => h i (by omega) (by omega))]
theorem mj_Kp_ag {N : Nat} {o mt : Int32} (hR : mj_Rdy σ N) : ∀ (r : Nat) (l l' : Nat → Int32), mj_Ag σ N l l' → mj_Kp σ o mt N r l = mj_Kp σ o mt N r l' := by
  intro r
  induction r with
  | zero => intro l l' _; rfl
  | succ r ih =>
    intro l l' A
    unfold mj_Kp
    apply mj_anyF_congr
    intro s _ _
    rw [mj_gok_ag hR A, ih _ _ (mj_nxd_ag A)]
theorem mj_cno_nI {N : Nat} {l : Nat → Int32} (hR : mj_Rdy σ N) (hw6 : mj_wc σ N ≤ 6) (D : mj_Dg l N) : ∃ c : Nat, c < 15625 ∧ mj_cno σ l N = nI c := by
  have e : mj_cno σ l N = mj_cno σ (fun i => nI (l i).toNatClampNeg) N := mj_cno_congr (fun i hi _ => by
    obtain ⟨n, h5, hn⟩ := D i hi
    rw [hn, nI_clamp (by omega)])
  have hd : ∀ i, i < N → (l i).toNatClampNeg < 5 := fun i hi => by
    obtain ⟨n, h5, hn⟩ := D i hi
    rw [hn, nI_clamp (by omega)]
    exact h5
  refine ⟨mj_encN σ (fun i => (l i).toNatClampNeg) N, ?_, ?_⟩
  · have h1 := mj_encN_lt (σ := σ) N hd
    have h3 : 5 ^ mj_wc σ N ≤ 5 ^ 6 := Nat.pow_le_pow_right (by decide) hw6
    have h4 : (5 : Nat) ^ 6 = 15625 := by decide
    omega
  · rw [e, mj_cno_enc hR.2.2.1 N hR.2.1]
theorem mj_cno_inj {N : Nat} {l l' : Nat → Int32} (hR : mj_Rdy σ N) (D : mj_Dg l N) (D' : mj_Dg l' N) (h : mj_cno σ l N = mj_cno σ l' N) : mj_Ag σ N l l' := by
  intro k hk hw
  rw [← mj_lin_l hR D hk hw, ← mj_lin_l hR D' hk hw, h]
theorem mj_key_inj {a a' c c' : Nat} (ha : a ≤ 12) (ha' : a' ≤ 12) (hc : c < 15625) (hc' : c' < 15625) (h : 15625 * nI a + nI c = 15625 * nI a' + nI c') : a = a' ∧ c = c' := by
  have e5 : (15625 : Int32) = nI 15625 := rfl
  rw [e5, mj_nI_mul, mj_nI_mul, nI_add, nI_add] at h
  have := (nI_eq (by omega) (by omega)).mp h
  omega
/-- a mark: from there on not all can be kept -/
def mj_GK (σ : mj_St) (N : Nat) (key v : Int32) : Prop := ∀ (r : Nat) (l : Nat → Int32), 1 ≤ r → r ≤ 12 → mj_Dg l N → key = 15625 * nI (12 - r) + mj_cno σ l N → mj_Kp σ (σ.1 61 53) (σ.1 61 54) N r l = false
/-- marks that serve a keeping -/
def mj_GKok (σ : mj_St) (N : Nat) (G : Int32 → Int32 → Prop) : Prop := ∀ (r : Nat) (l : Nat → Int32), 1 ≤ r → r ≤ 12 → mj_Dg l N → (∀ v, G (15625 * nI (12 - r) + mj_cno σ l N) v → mj_Kp σ (σ.1 61 53) (σ.1 61 54) N r l = false) ∧ (mj_Kp σ (σ.1 61 53) (σ.1 61 54) N r l = false → G (15625 * nI (12 - r) + mj_cno σ l N) 0)
theorem mj_GK_ok {N : Nat} (hR : mj_Rdy σ N) (hw6 : mj_wc σ N ≤ 6) : mj_GKok σ N (mj_GK σ N) := by
  intro r l h1 hr D
  refine ⟨fun v h => h r l h1 hr D rfl, fun hK r' l' h1' hr' D' hkey => ?_⟩
  obtain ⟨c, hc, ec⟩ := mj_cno_nI hR hw6 D
  obtain ⟨c', hc', ec'⟩ := mj_cno_nI hR hw6 D'
  rw [ec, ec'] at hkey
  obtain ⟨k1, k2⟩ := mj_key_inj (by omega) (by omega) hc hc' hkey
  have : r' = r := by omega
  subst this
  rw [mj_Kp_ag hR r' l' l (mj_cno_inj hR D' D (by rw [ec, ec', k2]))]
  exact hK
theorem sp_M_keeps {N : Nat} {G : Int32 → Int32 → Prop} (hR : mj_Rdy σ N) (hGK : mj_GKok σ N G) : ∀ r, r ≤ 12 → mj_KS X σ G N r := by
  intro r
  induction r with
  | zero =>
    intro _ τ l F T D
    refine ⟨τ, F, T, fun d => ?_⟩
    refine st199 ?_
    have e : nI (12 - 0) = 12 := rfl
    simp only [u199_0, u199_1, u199_3, u199_6, u199_7, u199_8, u199_11, u199_12, u199_13, u199_14, u199_15, u199_16, u199_17, u199_18, u199_21, u199_24, u199_25, u199_26, u199_27, u199_28, u199_29, u199_30, u199_33, u199_34, u199_37, u199_38, u199_39, u199_40, u199_41, u199_42, u199_45, u199_46, e, if_true, mj_Kp, mj_zT, mj_zF, mj_cc_v, mj_cc_n, List.all_cons, List.all_nil, mj_noMk_int, mj_noMk_long, mj_noMk_ref, mj_noMk_junk, List.length_nil, List.length_cons, Nat.zero_le, Nat.reduceLeDiff, Nat.reduceAdd, Bool.and_true, Bool.true_and, Bool.and_self, Nat.reduceBNe, true_or, or_true, true_and, and_true, mj_z0, mj_z1, mj_z01]
  | succ r ih =>
    intro hr τ l F T D
    have e11 : nI (12 - (r + 1)) = nI (11 - r) := by congr 1; omega
    have h12 : ¬ nI (11 - r) = 12 := by
      intro h
      have e : (12 : Int32) = nI 12 := rfl
      rw [e] at h
      have := (nI_eq (by omega) (by decide)).mp h
      omega
    obtain ⟨b, hb, hmk⟩ := sp_M_isMarked (X := X) (key := 15625 * nI (11 - r) + mj_cno σ l N) T
    cases b
    · obtain ⟨ρ, F2, T2, hf⟩ := sp_M_firstSet hR (by omega) (ih (by omega)) F T D (Nat.zero_le 512)
      have hpk : mj_Kp σ (σ.1 61 53) (σ.1 61 54) N (r + 1) l = mj_anyF (mj_pk σ (σ.1 61 53) (σ.1 61 54) N r l) 0 512 := rfl
      have hfa := mj_fst_any (p := mj_pk σ (σ.1 61 53) (σ.1 61 54) N r l) 512 0 (by decide)
      have e0 : nI 0 = 0 := rfl
      cases hK : mj_Kp σ (σ.1 61 53) (σ.1 61 54) N (r + 1) l
      · have hG : G (15625 * nI (11 - r) + mj_cno σ l N) 0 := by
          have q := (hGK (r + 1) l (by omega) hr D).2 hK
          rw [e11] at q
          exact q
        obtain ⟨ρ2, F3, T3, hm⟩ := sp_M_marks (X := X) T2 hG
        refine ⟨ρ2, mj_Fr_tr F2 F3, T3, fun d => ?_⟩
        rw [hpk] at hK
        rw [hK] at hfa
        have hf' := hf d
        rw [hfa.mpr rfl, e0] at hf'
        rw [show d + 2 * (r + 1) + 3 = d + 2 * r + 4 + 1 by omega]
        refine st199 ?_
        have hmd := hm (d + 2 * r + 2)
        have hmk' := hmk (d + 2 * r + 2)
        simp only [u199_0, u199_1, u199_3, u199_6, u199_7, u199_8, u199_11, u199_12, u199_13, u199_14, u199_15, u199_16, u199_17, u199_18, u199_21, u199_24, u199_25, u199_26, u199_27, u199_28, u199_29, u199_30, u199_33, u199_34, u199_37, u199_38, u199_39, u199_40, u199_41, u199_42, u199_45, u199_46, e11, h12, hmk', hf', hmd, mj_zT, mj_zF, mj_cc_v, mj_cc_n, List.all_cons, List.all_nil, mj_noMk_int, mj_noMk_long, mj_noMk_ref, mj_noMk_junk, List.length_nil, List.length_cons, Nat.zero_le, Nat.reduceLeDiff, Nat.reduceAdd, Bool.and_true, Bool.true_and, Bool.and_self, Nat.reduceBNe, true_or, or_true, true_and, and_true, mj_z0, mj_z1, mj_z01, decide_true, decide_false, Bool.true_and, Bool.false_and, Bool.and_true, Bool.and_false, Bool.true_or, Bool.false_or, Bool.or_false, Bool.or_true, Bool.not_true, Bool.not_false, Bool.and_self, Bool.or_self, if_true, if_false, Bool.true_eq_false, Bool.false_eq_true, not_true, not_false_eq_true]
      · refine ⟨ρ, F2, T2, fun d => ?_⟩
        rw [hpk] at hK
        rw [hK] at hfa
        have hne : ¬ mj_fst (mj_pk σ (σ.1 61 53) (σ.1 61 54) N r l) 0 (512 - 0) = -1 := by
          intro h
          exact absurd (hfa.mp h) (by decide)
        have hf' := hf d
        rw [e0] at hf'
        rw [show d + 2 * (r + 1) + 3 = d + 2 * r + 4 + 1 by omega]
        refine st199 ?_
        have hmk' := hmk (d + 2 * r + 2)
        simp only [u199_0, u199_1, u199_3, u199_6, u199_7, u199_8, u199_11, u199_12, u199_13, u199_14, u199_15, u199_16, u199_17, u199_18, u199_21, u199_24, u199_25, u199_26, u199_27, u199_28, u199_29, u199_30, u199_33, u199_34, u199_37, u199_38, u199_39, u199_40, u199_41, u199_42, u199_45, u199_46, e11, h12, hmk', hf', hne, mj_zT, mj_zF, mj_cc_v, mj_cc_n, List.all_cons, List.all_nil, mj_noMk_int, mj_noMk_long, mj_noMk_ref, mj_noMk_junk, List.length_nil, List.length_cons, Nat.zero_le, Nat.reduceLeDiff, Nat.reduceAdd, Bool.and_true, Bool.true_and, Bool.and_self, Nat.reduceBNe, true_or, or_true, true_and, and_true, mj_z0, mj_z1, mj_z01, decide_true, decide_false, Bool.true_and, Bool.false_and, Bool.and_true, Bool.and_false, Bool.true_or, Bool.false_or, Bool.or_false, Bool.or_true, Bool.not_true, Bool.not_false, Bool.and_self, Bool.or_self, if_true, if_false, Bool.true_eq_false, Bool.false_eq_true, not_true, not_false_eq_true]
    · obtain ⟨v, hG⟩ := hb rfl
      refine ⟨τ, F, T, fun d => ?_⟩
      have hK := (hGK (r + 1) l (by omega) hr D).1 v (by rw [e11]; exact hG)
      rw [hK, show d + 2 * (r + 1) + 3 = d + 2 * r + 4 + 1 by omega]
      refine st199 ?_
      have hmk' := hmk (d + 2 * r + 2)
      simp only [u199_0, u199_1, u199_3, u199_6, u199_7, u199_8, u199_11, u199_12, u199_13, u199_14, u199_15, u199_16, u199_17, u199_18, u199_21, u199_24, u199_25, u199_26, u199_27, u199_28, u199_29, u199_30, u199_33, u199_34, u199_37, u199_38, u199_39, u199_40, u199_41, u199_42, u199_45, u199_46, e11, h12, hmk', mj_zF, mj_cc_v, mj_cc_n, List.all_cons, List.all_nil, mj_noMk_int, mj_noMk_long, mj_noMk_ref, mj_noMk_junk, List.length_nil, List.length_cons, Nat.zero_le, Nat.reduceLeDiff, Nat.reduceAdd, Bool.and_true, Bool.true_and, Bool.and_self, Nat.reduceBNe, true_or, or_true, true_and, and_true, mj_z0, mj_z1, mj_z01, decide_true, decide_false, Bool.true_and, Bool.false_and, Bool.and_true, Bool.and_false, Bool.true_or, Bool.false_or, Bool.or_false, Bool.or_true, Bool.not_true, Bool.not_false, Bool.and_self, Bool.or_self, if_true, if_false, Bool.true_eq_false, Bool.false_eq_true, not_true, not_false_eq_true]
end
