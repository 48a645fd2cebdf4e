section
variable {X : mj_X} {d : Nat} {σ τ ρ : mj_St}
theorem mj_prS_pd {set o : Int32} {gr N w : Nat} (hc : mj_pc σ N w) (hgr : gr = 1 ∨ gr = 8) (he : mj_pe σ) (hw : w < 12) : mj_pd (mj_prS σ set gr o N w) N w gr ∧ mj_pn (mj_prS σ set gr o N w) (mj_qn σ set gr o N) := by
  rcases (Bool.eq_false_or_eq_true (mj_hp0 σ set)).symm with b1 | b1
  · obtain ⟨sd, -⟩ := mj_pr_ready (set := set) (o := o) hc hgr he b1 hw
    have F := mj_prS_Fs (set := set) (o := o) hc hgr
    obtain ⟨s1, s2, s3, s4, s5, s6, s7, s8, -⟩ := sd
    refine ⟨⟨s1, ?_, hc.2.1, s4, s5, s6, s7, ?_⟩, s2, s3, s8⟩
    · rw [F.1 14 (Or.inl (by decide))]; exact hc.1
    · rw [F.1 20 (Or.inl (by decide))]; exact hc.2.2.2.2.1
  · have e : mj_prS σ set gr o N w = mj_q4 σ set gr o N := by
      unfold mj_prS
      rw [if_pos (Or.inl b1)]
    rw [e]
    refine ⟨mj_pd_o (σ := mj_q3 σ set gr o N) rfl ?_ ?_ ?_ (mj_q3_pd hc hgr), mj_fpR_pn hc.2.1 (mj_q3_len hc)⟩
    · show (mj_fpS _ _ _ _).1 14 = _
      rw [mj_fpS_o (by decide) (by decide)]
    · show (mj_fpS _ _ _ _).1 46 2 = _
      rw [mj_fpS_46 (by decide) (by decide)]
    · show (mj_fpS _ _ _ _).1 20 = _
      rw [mj_fpS_o (by decide) (by decide)]
theorem mj_prS_4 {set o : Int32} {gr N w : Nat} (h : mj_hp0 σ set = true) : (mj_prS σ set gr o N w).1 46 4 = 1 := by
  have e : mj_prS σ set gr o N w = mj_q4 σ set gr o N := by
    unfold mj_prS
    rw [if_pos (Or.inl h)]
  rw [e]
  show (mj_fpS _ _ _ _).1 46 4 = 1
  rw [mj_fpS_46 (by decide) (by decide)]
  unfold mj_q3
  rw [mj_setI_eq, h]
  rfl
theorem mj_pn2_o {w n h p c : Nat} (h1 : c ≠ 46) (h2 : c ≠ 51) (h3 : c ≠ 54) : (mj_pn2 σ w n h p).1 c = σ.1 c := by
  unfold mj_pn2
  rw [mj_mkR_o h1 h3, mj_pnS_o h2]
  unfold mj_pn1
  rw [mj_setI_ne _ _ _ h1, mj_setI_ne _ _ _ h1]
theorem mj_pn2_46 {w n h p i : Nat} (h1 : i ≠ 4) (h2 : i ≠ 9) (h3 : i ≠ 10) : (mj_pn2 σ w n h p).1 46 i = σ.1 46 i := by
  unfold mj_pn2
  rw [mj_mkR_46 h1, mj_pnS_o (by decide)]
  unfold mj_pn1
  rw [mj_setI_i h3, mj_setI_i h2]
theorem mj_pn2_r {w n h p : Nat} : (mj_pn2 σ w n h p).2.2.1 = σ.2.2.1 := by
  unfold mj_pn2
  rw [mj_mkR_r]
  rfl
theorem mj_pn2_sd {w n h p gr : Nat} (hd : mj_sd σ n w gr) : mj_sd (mj_pn2 σ w n h p) n w gr := by
  unfold mj_sd at hd ⊢
  rw [mj_pn2_r, mj_pn2_46 (by decide) (by decide) (by decide), mj_pn2_46 (by decide) (by decide) (by decide), mj_pn2_o (c := 14) (by decide) (by decide) (by decide), mj_pn2_o (c := 47) (by decide) (by decide) (by decide), mj_pn2_o (c := 48) (by decide) (by decide) (by decide), mj_pn2_o (c := 49) (by decide) (by decide) (by decide), mj_pn2_o (c := 50) (by decide) (by decide) (by decide), mj_pn2_o (c := 18) (by decide) (by decide) (by decide)]
  exact hd
theorem mj_pn2_sfr {w n h p : Nat} (hs : mj_sfr σ 1) : mj_sfr (mj_pn2 σ w n h p) 1 := by
  intro _ k hk h12
  rw [mj_pn2_o (c := 14) (by decide) (by decide) (by decide)] at hk
  have h1 := hs rfl k hk h12
  unfold mj_sts at h1 ⊢
  have e : (mj_pn2 σ w n h p).1 51 (0 * 12 + k) = (mj_pnS (mj_pn1 σ h p) (1 <<< (nI p &&& 31)) w (h - w)).1 51 (0 * 12 + k) := by
    unfold mj_pn2
    rw [mj_mkR_o (by decide) (by decide)]
  have e2 : (mj_pn1 σ h p).1 51 = σ.1 51 := by
    unfold mj_pn1
    rw [mj_setI_ne _ _ _ (by decide), mj_setI_ne _ _ _ (by decide)]
  rw [e]
  show (if 51 = 51 ∧ w ≤ 0 * 12 + k ∧ 0 * 12 + k < w + (h - w) then (mj_pn1 σ h p).1 51 (0 * 12 + k) &&& ((1 <<< (nI p &&& 31)) ^^^ -1) else (mj_pn1 σ h p).1 51 (0 * 12 + k)) >>> (18 &&& 31) = 0
  rw [e2]
  by_cases c : 51 = 51 ∧ w ≤ 0 * 12 + k ∧ 0 * 12 + k < w + (h - w)
  · rw [if_pos c, Int32.shiftRight_and, h1, Int32.zero_and]
  · rw [if_neg c]
    exact h1
theorem mj_pnS_Fs {b : Int32} {w k : Nat} : mj_Fs σ (mj_pnS σ b w k) := ⟨fun c q => mj_pnS_o (by omega), fun _ _ => rfl, fun _ _ => rfl, fun q => q, fun _ q => q⟩
theorem mj_pn1_Fs {h p : Nat} : mj_Fs σ (mj_pn1 σ h p) := ⟨fun c q => by unfold mj_pn1; rw [mj_setI_ne _ _ _ (by omega), mj_setI_ne _ _ _ (by omega)], fun _ _ => rfl, fun _ _ => rfl, fun q => q, fun _ q => q⟩
theorem mj_pn2_Fs {w n h p : Nat} (hw : w < 12) (hn : n ≤ 6) : mj_Fs σ (mj_pn2 σ w n h p) := mj_Fs_tr mj_pn1_Fs (mj_Fs_tr mj_pnS_Fs (mj_mkR_Fs hw hn (Or.inl rfl)))
/-- whether a work may begin at an hour, all being kept -/
def mj_cbv (σ : mj_St) (N w : Nat) (set o : Int32) (i h : Nat) : Bool :=
  mj_cov (σ.1 16 i) (σ.1 17 i) (nI h) && (!(mj_hp0 σ set) && (decide ((mj_prS σ set 1 o N w).1 46 4 = 0) && (decide (¬ mj_plc (mj_prS σ set 1 o N w) (nI i) (mj_qn σ set 1 o N) 0 = -2) &&
    mj_suc (mj_pn2 (mj_prS σ set 1 o N w) w (mj_qn σ set 1 o N) h (mj_plc (mj_prS σ set 1 o N w) (nI i) (mj_qn σ set 1 o N) 0).toNatClampNeg) (mj_qn σ set 1 o N) w (mj_sgr σ N 1).toNatClampNeg (mj_sto σ set 1 o N))))
theorem sp_canBegin {N w i h : Nat} {o : Int32} (hX : mj_XS X) (hc : mj_pc σ N w) (he : mj_pe σ) (hi : i < 9) (hw : w ≤ h) (hh : h < 12) : ∃ ρ, mj_Fs σ ρ ∧ ∀ d, mj_ev X (d + 41) 115 [.ref 0, .int (nI i), .int o, .int (nI h)] σ = some (some (.int (mj_z (mj_cbv σ N w (mj_evC σ) o i h))), ρ) := by
  have hcv : ∀ d, mj_ev X (d + 1) 75 [.ref 14, .int (nI i), .int (nI h)] σ = some (some (.int (mj_z (mj_cov (σ.1 16 i) (σ.1 17 i) (nI h)))), σ) := fun d => sp_covers hi
  unfold mj_cbv
  cases c0 : mj_cov (σ.1 16 i) (σ.1 17 i) (nI h)
  · refine ⟨σ, mj_Fs_rf, fun d => ?_⟩
    have h1 : mj_ev X (d + 40) 75 [.ref 14, .int (nI i), .int (nI h)] σ = _ := hcv (d + 39)
    rw [c0] at h1
    refine st115 ?_
    simp only [u115_0, u115_1, u115_4, u115_5, u115_6, u115_9, u115_12, u115_13, u115_14, u115_15, u115_18, u115_19, u115_22, u115_23, u115_26, u115_29, u115_30, u115_31, u115_34, u115_35, u115_38, u115_39, u115_40, u115_43, u115_46, u115_47, u115_50, u115_53, u115_56, u115_57, u115_60, u115_61, h1, mj_zF, mj_cc_v, mj_cc_n, List.all_cons, List.all_nil, mj_noMk_int, mj_noMk_long, mj_noMk_ref, mj_noMk_junk, List.length_nil, List.length_cons, Nat.zero_le, Nat.reduceLeDiff, Nat.reduceAdd, Bool.and_true, Bool.true_and, Bool.and_self, Nat.reduceBNe, true_or, or_true, true_and, and_true, mj_z0, mj_z1, mj_z01, decide_true, decide_false, Bool.true_and, Bool.false_and, Bool.and_true, Bool.and_false, Bool.true_or, Bool.false_or, Bool.or_false, Bool.or_true, Bool.not_true, Bool.not_false, Bool.and_self, Bool.or_self, if_true, if_false, Bool.true_eq_false, Bool.false_eq_true, not_true, not_false_eq_true]
  · have hev : ∀ d, mj_ev X (d + 40) 53 [.ref 14] σ = some (some (.int (mj_evC σ)), σ) := fun d => mj_evC_ev (d := d + 39)
    have hpp : ∀ d, mj_ev X (d + 40) 55 [.ref 46, .ref 14, .int (mj_evC σ), .int 1, .int o] σ = some (none, mj_prS σ (mj_evC σ) 1 o N w) := fun d => sp_prepare (d := d + 35) hX hc (Or.inr ⟨by decide, rfl⟩)
    obtain ⟨pd, pn⟩ := mj_prS_pd (set := mj_evC σ) (o := o) hc (Or.inl rfl) he (show w < 12 by omega)
    have F := mj_prS_Fs (set := mj_evC σ) (o := o) hc (Or.inl rfl)
    have hl : (mj_prS σ (mj_evC σ) 1 o N w).2.2.2.1 ≤ 20000 := F.2.2.2.1 hc.2.2.2.2.2.2.2
    have no : (¬ (mj_prS σ (mj_evC σ) 1 o N w).1 46 4 = 0 ∨ mj_plc (mj_prS σ (mj_evC σ) 1 o N w) (nI i) (mj_qn σ (mj_evC σ) 1 o N) 0 = -2) → ∀ d, mj_ev X (d + 41) 115 [.ref 0, .int (nI i), .int o, .int (nI h)] σ = some (some (.int 0), mj_prS σ (mj_evC σ) 1 o N w) := by
      intro h0 d
      have h1 : mj_ev X (d + 40) 75 [.ref 14, .int (nI i), .int (nI h)] σ = _ := hcv (d + 39)
      rw [c0] at h1
      have hpn : mj_ev X (d + 40) 116 [.ref 46, .int (nI i), .int (nI h)] (mj_prS σ (mj_evC σ) 1 o N w) = some (some (.int 0), mj_prS σ (mj_evC σ) 1 o N w) := sp_pinN (d := d + 38) pd pn hw hh h0
      refine st115 ?_
      simp only [u115_0, u115_1, u115_4, u115_5, u115_6, u115_9, u115_12, u115_13, u115_14, u115_15, u115_18, u115_19, u115_22, u115_23, u115_26, u115_29, u115_30, u115_31, u115_34, u115_35, u115_38, u115_39, u115_40, u115_43, u115_46, u115_47, u115_50, u115_53, u115_56, u115_57, u115_60, u115_61, h1, hev d, hpp d, hpn, mj_zT, mj_n10, mj_cc_v, mj_cc_n, List.all_cons, List.all_nil, mj_noMk_int, mj_noMk_long, mj_noMk_ref, mj_noMk_junk, List.length_nil, List.length_cons, Nat.zero_le, Nat.reduceLeDiff, Nat.reduceAdd, Bool.and_true, Bool.true_and, Bool.and_self, Nat.reduceBNe, true_or, or_true, true_and, and_true, mj_z0, mj_z1, mj_z01, decide_true, decide_false, Bool.true_and, Bool.false_and, Bool.and_true, Bool.and_false, Bool.true_or, Bool.false_or, Bool.or_false, Bool.or_true, Bool.not_true, Bool.not_false, Bool.and_self, Bool.or_self, if_true, if_false, Bool.true_eq_false, Bool.false_eq_true, not_true, not_false_eq_true]
    cases b1 : mj_hp0 σ (mj_evC σ)
    · obtain ⟨sd, sf, mi, e7, e6⟩ := mj_pr_ready (set := mj_evC σ) (o := o) hc (Or.inl rfl) he b1 (show w < 12 by omega)
      obtain ⟨s, hs, es⟩ := mj_sgr_lt (σ := σ) (N := N) (gr := 1) (Or.inl rfl)
      have ec : (mj_sgr σ N 1).toNatClampNeg = s := by rw [es]; exact nI_clamp (by omega)
      rw [es] at e7
      rw [ec]
      by_cases h4 : (mj_prS σ (mj_evC σ) 1 o N w).1 46 4 = 0
      · rcases mj_plc_c (σ := mj_prS σ (mj_evC σ) 1 o N w) (x := nI i) (mj_qn σ (mj_evC σ) 1 o N) 0 with z | ⟨p, -, hp, ep, -⟩
        · refine ⟨_, F, fun d => ?_⟩
          rw [decide_eq_false (p := ¬ mj_plc (mj_prS σ (mj_evC σ) 1 o N w) (nI i) (mj_qn σ (mj_evC σ) 1 o N) 0 = -2) (fun q => q z), Bool.false_and, Bool.and_false, Bool.and_false, Bool.and_false]
          exact no (Or.inr z) d
        · have n6 := sd.2.2.1
          have hp6 : p < 6 := by omega
          have n2 : ¬ mj_plc (mj_prS σ (mj_evC σ) 1 o N w) (nI i) (mj_qn σ (mj_evC σ) 1 o N) 0 = -2 := by
            rw [ep]
            intro z
            have := congrArg Int32.toInt z
            rw [nI_toInt (by omega)] at this
            have e2 : (-2 : Int32).toInt = -2 := by decide
            omega
          have hpin : ∀ d, mj_ev X (d + 40) 116 [.ref 46, .int (nI i), .int (nI h)] (mj_prS σ (mj_evC σ) 1 o N w) = some (some (.int 1), mj_pn2 (mj_prS σ (mj_evC σ) 1 o N w) w (mj_qn σ (mj_evC σ) 1 o N) h p) := fun d => sp_pin (d := d + 35) pd pn hl hw hh h4 ep hp6
          have sd2 := mj_pn2_sd (h := h) (p := p) sd
          have sf2 := mj_pn2_sfr (w := w) (n := mj_qn σ (mj_evC σ) 1 o N) (h := h) (p := p) sf
          have e72 : (mj_pn2 (mj_prS σ (mj_evC σ) 1 o N w) w (mj_qn σ (mj_evC σ) 1 o N) h p).1 46 7 = nI s := by
            rw [mj_pn2_46 (by decide) (by decide) (by decide)]; exact e7
          have e62 : (mj_pn2 (mj_prS σ (mj_evC σ) 1 o N w) w (mj_qn σ (mj_evC σ) 1 o N) h p).1 46 6 = nI (mj_sto σ (mj_evC σ) 1 o N) := by
            rw [mj_pn2_46 (by decide) (by decide) (by decide)]; exact e6
          obtain ⟨ρ, G, -, hsu⟩ := sp_succeeds hX sd2 sf2 e72 e62 hs (mj_stn_lt _) (fun z _ => mj_mkR_MI hl n6 (Or.inl rfl) z)
          refine ⟨ρ, mj_Fs_tr F (mj_Fs_tr (mj_pn2_Fs (by omega) n6) (mj_Fs_Fm G)), fun d => ?_⟩
          have h1 : mj_ev X (d + 40) 75 [.ref 14, .int (nI i), .int (nI h)] σ = _ := hcv (d + 39)
          rw [c0] at h1
          have hd := hsu d
          rw [decide_eq_true h4, decide_eq_true n2, ep, nI_clamp (by omega), Bool.not_false, Bool.true_and, Bool.true_and, Bool.true_and, Bool.true_and]
          generalize mj_suc (mj_pn2 (mj_prS σ (mj_evC σ) 1 o N w) w (mj_qn σ (mj_evC σ) 1 o N) h p) (mj_qn σ (mj_evC σ) 1 o N) w s (mj_sto σ (mj_evC σ) 1 o N) = V at *
          refine st115 ?_
          cases V
          · rw [mj_zF] at hd
            simp only [u115_0, u115_1, u115_4, u115_5, u115_6, u115_9, u115_12, u115_13, u115_14, u115_15, u115_18, u115_19, u115_22, u115_23, u115_26, u115_29, u115_30, u115_31, u115_34, u115_35, u115_38, u115_39, u115_40, u115_43, u115_46, u115_47, u115_50, u115_53, u115_56, u115_57, u115_60, u115_61, h1, hev d, hpp d, hpin d, hd, mj_zT, mj_zF, mj_n10, mj_cc_v, mj_cc_n, List.all_cons, List.all_nil, mj_noMk_int, mj_noMk_long, mj_noMk_ref, mj_noMk_junk, List.length_nil, List.length_cons, Nat.zero_le, Nat.reduceLeDiff, Nat.reduceAdd, Bool.and_true, Bool.true_and, Bool.and_self, Nat.reduceBNe, true_or, or_true, true_and, and_true, mj_z0, mj_z1, mj_z01, decide_true, decide_false, Bool.true_and, Bool.false_and, Bool.and_true, Bool.and_false, Bool.true_or, Bool.false_or, Bool.or_false, Bool.or_true, Bool.not_true, Bool.not_false, Bool.and_self, Bool.or_self, if_true, if_false, Bool.true_eq_false, Bool.false_eq_true, not_true, not_false_eq_true]
          · rw [mj_zT] at hd
            simp only [u115_0, u115_1, u115_4, u115_5, u115_6, u115_9, u115_12, u115_13, u115_14, u115_15, u115_18, u115_19, u115_22, u115_23, u115_26, u115_29, u115_30, u115_31, u115_34, u115_35, u115_38, u115_39, u115_40, u115_43, u115_46, u115_47, u115_50, u115_53, u115_56, u115_57, u115_60, u115_61, h1, hev d, hpp d, hpin d, hd, mj_zT, mj_n10, mj_cc_v, mj_cc_n, List.all_cons, List.all_nil, mj_noMk_int, mj_noMk_long, mj_noMk_ref, mj_noMk_junk, List.length_nil, List.length_cons, Nat.zero_le, Nat.reduceLeDiff, Nat.reduceAdd, Bool.and_true, Bool.true_and, Bool.and_self, Nat.reduceBNe, true_or, or_true, true_and, and_true, mj_z0, mj_z1, mj_z01, decide_true, decide_false, Bool.true_and, Bool.false_and, Bool.and_true, Bool.and_false, Bool.true_or, Bool.false_or, Bool.or_false, Bool.or_true, Bool.not_true, Bool.not_false, Bool.and_self, Bool.or_self, if_true, if_false, Bool.true_eq_false, Bool.false_eq_true, not_true, not_false_eq_true]
      · refine ⟨_, F, fun d => ?_⟩
        rw [decide_eq_false h4, Bool.false_and, Bool.and_false, Bool.and_false]
        exact no (Or.inl h4) d
    · refine ⟨_, F, fun d => ?_⟩
      rw [Bool.not_true, Bool.false_and, Bool.and_false]
      refine no (Or.inl ?_) d
      rw [mj_prS_4 b1]
      decide
/-- what canBegin says, whatever a search left behind -/
def mj_CH (σ : mj_St) (N w : Nat) (C : Nat → Nat → Nat → Bool) : Prop := ∀ τ, mj_Fs σ τ → ∀ o i h, o < 8 → i < N → w ≤ h → h < 12 → mj_cbv τ N w (mj_evC σ) (nI o) i h = C o i h
/-- the last hour above f of which p says yes; else f -/
def mj_lsh (p : Nat → Bool) (f : Nat) : Nat → Nat
  | 0 => f
  | j + 1 => if p (f + (j + 1)) = true then f + (j + 1) else mj_lsh p f j
def mj_env (p : Nat → Bool) (w : Nat) : Int32 := if mj_fst p w (12 - w) = -1 then -1 else 100 * nI (mj_lsh p (mj_fst p w (12 - w)).toNatClampNeg (11 - (mj_fst p w (12 - w)).toNatClampNeg)) + mj_fst p w (12 - w)
theorem mj_lsh_lt {p : Nat → Bool} {f : Nat} : ∀ j, f ≤ mj_lsh p f j ∧ mj_lsh p f j ≤ f + j := by
  intro j
  induction j with
  | zero => exact ⟨Nat.le_refl _, Nat.le_refl _⟩
  | succ j ih =>
    simp only [mj_lsh]
    by_cases c : p (f + (j + 1)) = true
    · rw [if_pos c]; exact ⟨by omega, Nat.le_refl _⟩
    · rw [if_neg c]; exact ⟨ih.1, by omega⟩
theorem sp_endsN {N w : Nat} {i o : Int32} (hc : mj_pc σ N w) (hn : mj_wkC σ i = false ∨ mj_inb o 8 = false ∨ ¬ σ.1 25 i.toNatClampNeg = σ.1 24 i.toNatClampNeg) : mj_ev X (d + 3) 114 [.ref 0, .int i, .int o] σ = some (some (.int (-5)), mj_rfC σ (-5)) := by
  have h9 : (σ.1 14 14).toInt ≤ 9 := by rw [hc.1, nI_toInt (by have := hc.2.1; omega)]; have := hc.2.1; omega
  have h1 : mj_ev X (d + 2) 37 [.ref 14, .int i] σ = some (some (.int (mj_z (mj_wkC σ i))), σ) := sp_isWork h9
  have h2 := sp_rf5 (X := X) (d := d + 1) (σ := σ)
  have h3 := sp_isOutcome (X := X) (d := d + 1) (x := o) (σ := σ)
  have hr : (mj_rfC σ (-5)).2.2.2.2 = σ.2.2.2.2 := rfl
  refine st114 ?_
  cases c : mj_wkC σ i
  · rw [c] at h1
    simp only [u114_0, u114_1, u114_4, u114_5, u114_8, u114_11, u114_12, u114_15, u114_18, u114_19, u114_22, u114_25, u114_26, u114_27, u114_28, u114_31, u114_34, u114_35, u114_36, u114_39, u114_40, u114_42, u114_45, u114_46, u114_47, u114_48, u114_49, u114_52, u114_55, u114_59, u114_61, u114_64, u114_65, u114_66, u114_69, u114_70, u114_71, u114_72, u114_74, u114_77, u114_80, u114_82, u114_83, u114_86, u114_89, u114_90, u114_91, u114_94, u114_95, u114_97, u114_100, u114_101, u114_102, u114_104, u114_106, u114_110, u114_111, u114_114, u114_116, u114_117, u114_120, u114_121, u114_122, u114_123, u114_125, u114_128, u114_131, u114_133, u114_135, u114_138, u114_141, u114_143, u114_145, u114_146, u114_147, u114_148, h1, h2, hr, mj_zF, mj_cc_v, mj_cc_n, List.all_cons, List.all_nil, mj_noMk_int, mj_noMk_long, mj_noMk_ref, mj_noMk_junk, List.length_nil, List.length_cons, Nat.zero_le, Nat.reduceLeDiff, Nat.reduceAdd, Bool.and_true, Bool.true_and, Bool.and_self, Nat.reduceBNe, true_or, or_true, true_and, and_true, mj_z0, mj_z1, mj_z01, decide_true, decide_false, Bool.true_and, Bool.false_and, Bool.and_true, Bool.and_false, Bool.true_or, Bool.false_or, Bool.or_false, Bool.or_true, Bool.not_true, Bool.not_false, Bool.and_self, Bool.or_self, if_true, if_false, Bool.true_eq_false, Bool.false_eq_true, not_true, not_false_eq_true]
  · rw [c] at h1
    cases c2 : mj_inb o 8
    · rw [c2] at h3
      simp only [u114_0, u114_1, u114_4, u114_5, u114_8, u114_11, u114_12, u114_15, u114_18, u114_19, u114_22, u114_25, u114_26, u114_27, u114_28, u114_31, u114_34, u114_35, u114_36, u114_39, u114_40, u114_42, u114_45, u114_46, u114_47, u114_48, u114_49, u114_52, u114_55, u114_59, u114_61, u114_64, u114_65, u114_66, u114_69, u114_70, u114_71, u114_72, u114_74, u114_77, u114_80, u114_82, u114_83, u114_86, u114_89, u114_90, u114_91, u114_94, u114_95, u114_97, u114_100, u114_101, u114_102, u114_104, u114_106, u114_110, u114_111, u114_114, u114_116, u114_117, u114_120, u114_121, u114_122, u114_123, u114_125, u114_128, u114_131, u114_133, u114_135, u114_138, u114_141, u114_143, u114_145, u114_146, u114_147, u114_148, h1, h2, h3, hr, mj_zF, mj_zT, mj_n10, mj_cc_v, mj_cc_n, List.all_cons, List.all_nil, mj_noMk_int, mj_noMk_long, mj_noMk_ref, mj_noMk_junk, List.length_nil, List.length_cons, Nat.zero_le, Nat.reduceLeDiff, Nat.reduceAdd, Bool.and_true, Bool.true_and, Bool.and_self, Nat.reduceBNe, true_or, or_true, true_and, and_true, mj_z0, mj_z1, mj_z01, decide_true, decide_false, Bool.true_and, Bool.false_and, Bool.and_true, Bool.and_false, Bool.true_or, Bool.false_or, Bool.or_false, Bool.or_true, Bool.not_true, Bool.not_false, Bool.and_self, Bool.or_self, if_true, if_false, Bool.true_eq_false, Bool.false_eq_true, not_true, not_false_eq_true]
    · rw [c2] at h3
      rcases hn with z | z | z
      · rw [c] at z; exact absurd z (by decide)
      · rw [c2] at z; exact absurd z (by decide)
      · unfold mj_wkC mj_lt0 at c
        simp only [Bool.and_eq_true, decide_eq_true_eq, Bool.not_eq_true', decide_eq_false_iff_not] at c
        have hi9 : mj_inb i 9 = true := by
          rw [mj_in_iff]
          intro q
          have e0 : (0 : Int32).toInt = 0 := by decide
          obtain ⟨⟨q1, q2⟩, -⟩ := c
          rcases q with q | q
          · exact q1 q
          · have q3 := mj_clamp (x := i) q1
            rw [Int32.lt_iff_toInt_lt] at q2
            omega
        simp only [u114_0, u114_1, u114_4, u114_5, u114_8, u114_11, u114_12, u114_15, u114_18, u114_19, u114_22, u114_25, u114_26, u114_27, u114_28, u114_31, u114_34, u114_35, u114_36, u114_39, u114_40, u114_42, u114_45, u114_46, u114_47, u114_48, u114_49, u114_52, u114_55, u114_59, u114_61, u114_64, u114_65, u114_66, u114_69, u114_70, u114_71, u114_72, u114_74, u114_77, u114_80, u114_82, u114_83, u114_86, u114_89, u114_90, u114_91, u114_94, u114_95, u114_97, u114_100, u114_101, u114_102, u114_104, u114_106, u114_110, u114_111, u114_114, u114_116, u114_117, u114_120, u114_121, u114_122, u114_123, u114_125, u114_128, u114_131, u114_133, u114_135, u114_138, u114_141, u114_143, u114_145, u114_146, u114_147, u114_148, h1, h2, h3, hi9, eq_false z, hr, mj_zT, mj_n10, mj_cc_v, mj_cc_n, List.all_cons, List.all_nil, mj_noMk_int, mj_noMk_long, mj_noMk_ref, mj_noMk_junk, List.length_nil, List.length_cons, Nat.zero_le, Nat.reduceLeDiff, Nat.reduceAdd, Bool.and_true, Bool.true_and, Bool.and_self, Nat.reduceBNe, true_or, or_true, true_and, and_true, mj_z0, mj_z1, mj_z01, decide_true, decide_false, Bool.true_and, Bool.false_and, Bool.and_true, Bool.and_false, Bool.true_or, Bool.false_or, Bool.or_false, Bool.or_true, Bool.not_true, Bool.not_false, Bool.and_self, Bool.or_self, if_true, if_false, Bool.true_eq_false, Bool.false_eq_true, not_true, not_false_eq_true]
theorem mj_nI_inj {a b : Nat} (ha : a < 2147483648) (hb : b < 2147483648) (h : nI a = nI b) : a = b := by
  have h1 := congrArg Int32.toInt h
  rw [nI_toInt ha, nI_toInt hb] at h1
  omega
def mj_enf (p : Nat → Bool) (h j : Nat) : Int32 := if mj_fst p h j = -1 then -1 else 100 * nI (mj_lsh p (mj_fst p h j).toNatClampNeg (11 - (mj_fst p h j).toNatClampNeg)) + mj_fst p h j
theorem sp_endsC {N w o i : Nat} {C : Nat → Nat → Nat → Bool} (hX : mj_XS X) (hc : mj_pc σ N w) (he : mj_pe σ) (hC : mj_CH σ N w C) (ho : o < 8) (hi : i < N) (hk : mj_wkC σ (nI i) = true) (hl : σ.1 25 i = σ.1 24 i) : ∃ ρ, mj_Fs σ ρ ∧ ∀ d, mj_ev X (d + 42) 114 [.ref 0, .int (nI i), .int (nI o)] σ = some (mj_rfv (mj_env (C o i) w) ρ) := by
  have h9 := hc.2.1
  have eneg : ∀ x : Int32, x + Int32.ofInt (-1) = x - 1 := fun x => by
    have e1 : Int32.ofInt (-1) = -1 := by decide
    rw [e1]
    grind
  have can : ∀ (h : Nat) (τ : mj_St), w ≤ h → h < 12 → mj_Fs σ τ → ∃ ρ, mj_Fs σ ρ ∧ ∀ d, mj_ev X (d + 41) 115 [.ref 0, .int (nI i), .int (nI o), .int (nI h)] τ = some (some (.int (mj_z (C o i h))), ρ) := by
    intro h τ a b F
    obtain ⟨ρ, G, hh⟩ := sp_canBegin (i := i) (h := h) (o := nI o) hX (mj_Fs_pc F hc) (mj_Fs_pe F he) (by omega) a b
    rw [mj_evC_Fs F, hC τ F o i h ho hi a b] at hh
    exact ⟨ρ, mj_Fs_tr F G, hh⟩
  have down : ∀ (f : Nat), w ≤ f → ∀ (j : Nat) (τ : mj_St), f + j ≤ 11 → mj_Fs σ τ → ∃ ρ, mj_Fs σ ρ ∧ ∀ d, mj_Runs X (mj_ev X (d + 41)) 5 (some .int) prog_1_method_24_code (108, [.ref 0, .int (nI i), .int (nI o), .int (nI f), .int (nI f), .int (nI (f + j))], [], τ) (some (.int (100 * nI (mj_lsh (C o i) f j) + nI f)), ρ) := by
    intro f hf j
    induction j with
    | zero =>
      intro τ hj F
      have q : ¬ nI f < nI (f + 0) := nI_nlt (by omega) (by omega)
      refine ⟨τ, F, fun d => ?_⟩
      refine u114_108.mpr ?_
      simp only [u114_0, u114_1, u114_4, u114_5, u114_8, u114_11, u114_12, u114_15, u114_18, u114_19, u114_22, u114_25, u114_26, u114_27, u114_28, u114_31, u114_34, u114_35, u114_36, u114_39, u114_40, u114_42, u114_45, u114_46, u114_47, u114_48, u114_49, u114_52, u114_55, u114_59, u114_61, u114_64, u114_65, u114_66, u114_69, u114_70, u114_71, u114_72, u114_74, u114_77, u114_80, u114_82, u114_83, u114_86, u114_89, u114_90, u114_91, u114_94, u114_95, u114_97, u114_100, u114_101, u114_102, u114_104, u114_106, u114_110, u114_111, u114_114, u114_116, u114_117, u114_120, u114_121, u114_122, u114_123, u114_125, u114_128, u114_131, u114_133, u114_138, u114_141, u114_143, u114_145, u114_146, u114_147, u114_148, q, mj_lsh, mj_cc_v, mj_cc_n, List.all_cons, List.all_nil, mj_noMk_int, mj_noMk_long, mj_noMk_ref, mj_noMk_junk, List.length_nil, List.length_cons, Nat.zero_le, Nat.reduceLeDiff, Nat.reduceAdd, Bool.and_true, Bool.true_and, Bool.and_self, Nat.reduceBNe, true_or, or_true, true_and, and_true, mj_z0, mj_z1, mj_z01, decide_true, decide_false, Bool.true_and, Bool.false_and, Bool.and_true, Bool.and_false, Bool.true_or, Bool.false_or, Bool.or_false, Bool.or_true, Bool.not_true, Bool.not_false, Bool.and_self, Bool.or_self, if_true, if_false, Bool.true_eq_false, Bool.false_eq_true, not_true, not_false_eq_true]
    | succ j ih =>
      intro τ hj F
      have q : nI f < nI (f + (j + 1)) := nI_lt (by omega) (by omega)
      have e2 : nI (f + (j + 1)) + Int32.ofInt (-1) = nI (f + j) := by
        rw [eneg]
        show nI (f + j + 1) - nI 1 = nI (f + j)
        rw [mj_nI_sub (by omega), Nat.add_sub_cancel]
      obtain ⟨ρ, F2, hcan⟩ := can (f + (j + 1)) τ (by omega) (by omega) F
      simp only [mj_lsh]
      cases c : C o i (f + (j + 1))
      · rw [c] at hcan
        obtain ⟨ρ2, F3, h3⟩ := ih ρ (by omega) F2
        refine ⟨ρ2, F3, fun d => ?_⟩
        have hd := hcan d
        have h3d := h3 d
        rw [if_neg (by decide)]
        refine u114_108.mpr ?_
        simp only [u114_0, u114_1, u114_4, u114_5, u114_8, u114_11, u114_12, u114_15, u114_18, u114_19, u114_22, u114_25, u114_26, u114_27, u114_28, u114_31, u114_34, u114_35, u114_36, u114_39, u114_40, u114_42, u114_45, u114_46, u114_47, u114_48, u114_49, u114_52, u114_55, u114_59, u114_61, u114_64, u114_65, u114_66, u114_69, u114_70, u114_71, u114_72, u114_74, u114_77, u114_80, u114_82, u114_83, u114_86, u114_89, u114_90, u114_91, u114_94, u114_95, u114_97, u114_100, u114_101, u114_102, u114_104, u114_106, u114_110, u114_111, u114_114, u114_116, u114_117, u114_120, u114_121, u114_122, u114_123, u114_125, u114_128, u114_131, u114_133, u114_135, u114_138, u114_141, u114_143, u114_145, u114_146, u114_147, u114_148, q, hd, mj_zF, e2, mj_cc_v, mj_cc_n, List.all_cons, List.all_nil, mj_noMk_int, mj_noMk_long, mj_noMk_ref, mj_noMk_junk, List.length_nil, List.length_cons, Nat.zero_le, Nat.reduceLeDiff, Nat.reduceAdd, Bool.and_true, Bool.true_and, Bool.and_self, Nat.reduceBNe, true_or, or_true, true_and, and_true, mj_z0, mj_z1, mj_z01, decide_true, decide_false, Bool.true_and, Bool.false_and, Bool.and_true, Bool.and_false, Bool.true_or, Bool.false_or, Bool.or_false, Bool.or_true, Bool.not_true, Bool.not_false, Bool.and_self, Bool.or_self, if_true, if_false, Bool.true_eq_false, Bool.false_eq_true, not_true, not_false_eq_true]
        exact h3d
      · rw [c] at hcan
        refine ⟨ρ, F2, fun d => ?_⟩
        have hd := hcan d
        rw [if_pos rfl]
        have n1 : ¬ nI (f + (j + 1)) = nI f := fun z => by
          have := mj_nI_inj (by omega) (by omega) z
          omega
        refine u114_108.mpr ?_
        simp only [u114_0, u114_1, u114_4, u114_5, u114_8, u114_11, u114_12, u114_15, u114_18, u114_19, u114_22, u114_25, u114_26, u114_27, u114_28, u114_31, u114_34, u114_35, u114_36, u114_39, u114_40, u114_42, u114_45, u114_46, u114_47, u114_48, u114_49, u114_52, u114_55, u114_59, u114_61, u114_64, u114_65, u114_66, u114_69, u114_70, u114_71, u114_72, u114_74, u114_77, u114_80, u114_82, u114_83, u114_86, u114_89, u114_90, u114_91, u114_94, u114_95, u114_97, u114_100, u114_101, u114_102, u114_104, u114_106, u114_110, u114_111, u114_114, u114_116, u114_117, u114_120, u114_121, u114_122, u114_123, u114_125, u114_128, u114_131, u114_133, u114_135, u114_138, u114_141, u114_143, u114_145, u114_146, u114_147, u114_148, q, hd, mj_zT, mj_n10, e2, mj_cc_v, mj_cc_n, List.all_cons, List.all_nil, mj_noMk_int, mj_noMk_long, mj_noMk_ref, mj_noMk_junk, List.length_nil, List.length_cons, Nat.zero_le, Nat.reduceLeDiff, Nat.reduceAdd, Bool.and_true, Bool.true_and, Bool.and_self, Nat.reduceBNe, true_or, or_true, true_and, and_true, mj_z0, mj_z1, mj_z01, decide_true, decide_false, Bool.true_and, Bool.false_and, Bool.and_true, Bool.and_false, Bool.true_or, Bool.false_or, Bool.or_false, Bool.or_true, Bool.not_true, Bool.not_false, Bool.and_self, Bool.or_self, if_true, if_false, Bool.true_eq_false, Bool.false_eq_true, not_true, not_false_eq_true]
        refine u114_108.mpr ?_
        by_cases q2 : nI f < nI (f + j)
        · simp only [u114_0, u114_1, u114_4, u114_5, u114_8, u114_11, u114_12, u114_15, u114_18, u114_19, u114_22, u114_25, u114_26, u114_27, u114_28, u114_31, u114_34, u114_35, u114_36, u114_39, u114_40, u114_42, u114_45, u114_46, u114_47, u114_48, u114_49, u114_52, u114_55, u114_59, u114_61, u114_64, u114_65, u114_66, u114_69, u114_70, u114_71, u114_72, u114_74, u114_77, u114_80, u114_82, u114_83, u114_86, u114_89, u114_90, u114_91, u114_94, u114_95, u114_97, u114_100, u114_101, u114_102, u114_104, u114_106, u114_110, u114_111, u114_114, u114_116, u114_117, u114_120, u114_121, u114_122, u114_123, u114_125, u114_128, u114_131, u114_133, u114_135, u114_138, u114_141, u114_143, u114_145, u114_146, u114_147, u114_148, eq_true q2, eq_false n1, mj_cc_v, mj_cc_n, List.all_cons, List.all_nil, mj_noMk_int, mj_noMk_long, mj_noMk_ref, mj_noMk_junk, List.length_nil, List.length_cons, Nat.zero_le, Nat.reduceLeDiff, Nat.reduceAdd, Bool.and_true, Bool.true_and, Bool.and_self, Nat.reduceBNe, true_or, or_true, true_and, and_true, mj_z0, mj_z1, mj_z01, decide_true, decide_false, Bool.true_and, Bool.false_and, Bool.and_true, Bool.and_false, Bool.true_or, Bool.false_or, Bool.or_false, Bool.or_true, Bool.not_true, Bool.not_false, Bool.and_self, Bool.or_self, if_true, if_false, Bool.true_eq_false, Bool.false_eq_true, not_true, not_false_eq_true]
        · simp only [u114_0, u114_1, u114_4, u114_5, u114_8, u114_11, u114_12, u114_15, u114_18, u114_19, u114_22, u114_25, u114_26, u114_27, u114_28, u114_31, u114_34, u114_35, u114_36, u114_39, u114_40, u114_42, u114_45, u114_46, u114_47, u114_48, u114_49, u114_52, u114_55, u114_59, u114_61, u114_64, u114_65, u114_66, u114_69, u114_70, u114_71, u114_72, u114_74, u114_77, u114_80, u114_82, u114_83, u114_86, u114_89, u114_90, u114_91, u114_94, u114_95, u114_97, u114_100, u114_101, u114_102, u114_104, u114_106, u114_110, u114_111, u114_114, u114_116, u114_117, u114_120, u114_121, u114_122, u114_123, u114_125, u114_128, u114_131, u114_133, u114_135, u114_138, u114_141, u114_143, u114_145, u114_146, u114_147, u114_148, eq_false q2, mj_cc_v, mj_cc_n, List.all_cons, List.all_nil, mj_noMk_int, mj_noMk_long, mj_noMk_ref, mj_noMk_junk, List.length_nil, List.length_cons, Nat.zero_le, Nat.reduceLeDiff, Nat.reduceAdd, Bool.and_true, Bool.true_and, Bool.and_self, Nat.reduceBNe, true_or, or_true, true_and, and_true, mj_z0, mj_z1, mj_z01, decide_true, decide_false, Bool.true_and, Bool.false_and, Bool.and_true, Bool.and_false, Bool.true_or, Bool.false_or, Bool.or_false, Bool.or_true, Bool.not_true, Bool.not_false, Bool.and_self, Bool.or_self, if_true, if_false, Bool.true_eq_false, Bool.false_eq_true, not_true, not_false_eq_true]
  have up : ∀ (j h : Nat) (τ : mj_St), h + j = 12 → w ≤ h → mj_Fs σ τ → ∃ ρ, mj_Fs σ ρ ∧ ∀ d, mj_Runs X (mj_ev X (d + 41)) 5 (some .int) prog_1_method_24_code (57, [.ref 0, .int (nI i), .int (nI o), .int (-1), .int (nI h), mj_junk], [], τ) (mj_rfv (mj_enf (C o i) h j) ρ) := by
    intro j
    induction j with
    | zero =>
      intro h τ hj hw F
      have q : ¬ nI h < 12 := nI_nlt (b := 12) (by omega) (by omega)
      refine ⟨τ, F, fun d => ?_⟩
      have h3 : mj_ev X (d + 41) 3 [.ref 0, .int (-5)] τ = _ := sp_rf5 (d := d + 40)
      have hr : (mj_rfC τ (-5)).2.2.2.2 = τ.2.2.2.2 := rfl
      have e : mj_enf (C o i) h 0 = -1 := rfl
      rw [e]
      unfold mj_rfv
      rw [if_pos rfl]
      refine u114_57.mpr ?_
      simp only [u114_0, u114_1, u114_4, u114_5, u114_8, u114_11, u114_12, u114_15, u114_18, u114_19, u114_22, u114_25, u114_26, u114_27, u114_28, u114_31, u114_34, u114_35, u114_36, u114_39, u114_40, u114_42, u114_45, u114_46, u114_47, u114_48, u114_49, u114_52, u114_55, u114_59, u114_61, u114_64, u114_65, u114_66, u114_69, u114_70, u114_71, u114_72, u114_74, u114_77, u114_80, u114_82, u114_83, u114_86, u114_89, u114_90, u114_91, u114_94, u114_95, u114_97, u114_100, u114_101, u114_102, u114_104, u114_106, u114_110, u114_111, u114_114, u114_116, u114_117, u114_120, u114_121, u114_122, u114_123, u114_125, u114_128, u114_131, u114_133, u114_135, u114_138, u114_141, u114_143, u114_145, u114_146, u114_147, u114_148, q, h3, hr, mj_cc_v, mj_cc_n, List.all_cons, List.all_nil, mj_noMk_int, mj_noMk_long, mj_noMk_ref, mj_noMk_junk, List.length_nil, List.length_cons, Nat.zero_le, Nat.reduceLeDiff, Nat.reduceAdd, Bool.and_true, Bool.true_and, Bool.and_self, Nat.reduceBNe, true_or, or_true, true_and, and_true, mj_z0, mj_z1, mj_z01, decide_true, decide_false, Bool.true_and, Bool.false_and, Bool.and_true, Bool.and_false, Bool.true_or, Bool.false_or, Bool.or_false, Bool.or_true, Bool.not_true, Bool.not_false, Bool.and_self, Bool.or_self, if_true, if_false, Bool.true_eq_false, Bool.false_eq_true, not_true, not_false_eq_true]
    | succ j ih =>
      intro h τ hj hw F
      have q : nI h < 12 := nI_lt (b := 12) (by omega) (by decide)
      obtain ⟨ρ, F2, hcan⟩ := can h τ hw (by omega) F
      cases c : C o i h
      · rw [c] at hcan
        obtain ⟨ρ2, F3, h3⟩ := ih (h + 1) ρ (by omega) (by omega) F2
        refine ⟨ρ2, F3, fun d => ?_⟩
        have hd := hcan d
        have h3d := h3 d
        have e : mj_enf (C o i) h (j + 1) = mj_enf (C o i) (h + 1) j := by
          unfold mj_enf
          simp only [mj_fst, c, Bool.false_eq_true, if_false]
        rw [e]
        refine u114_57.mpr ?_
        simp only [u114_0, u114_1, u114_4, u114_5, u114_8, u114_11, u114_12, u114_15, u114_18, u114_19, u114_22, u114_25, u114_26, u114_27, u114_28, u114_31, u114_34, u114_35, u114_36, u114_39, u114_40, u114_42, u114_45, u114_46, u114_47, u114_48, u114_49, u114_52, u114_55, u114_59, u114_61, u114_64, u114_65, u114_66, u114_69, u114_70, u114_71, u114_72, u114_74, u114_77, u114_80, u114_82, u114_83, u114_86, u114_89, u114_90, u114_91, u114_94, u114_95, u114_97, u114_100, u114_101, u114_102, u114_104, u114_106, u114_110, u114_111, u114_114, u114_116, u114_117, u114_120, u114_121, u114_122, u114_123, u114_125, u114_128, u114_131, u114_133, u114_135, u114_138, u114_141, u114_143, u114_145, u114_146, u114_147, u114_148, q, hd, mj_zF, nI_1, mj_cc_v, mj_cc_n, List.all_cons, List.all_nil, mj_noMk_int, mj_noMk_long, mj_noMk_ref, mj_noMk_junk, List.length_nil, List.length_cons, Nat.zero_le, Nat.reduceLeDiff, Nat.reduceAdd, Bool.and_true, Bool.true_and, Bool.and_self, Nat.reduceBNe, true_or, or_true, true_and, and_true, mj_z0, mj_z1, mj_z01, decide_true, decide_false, Bool.true_and, Bool.false_and, Bool.and_true, Bool.and_false, Bool.true_or, Bool.false_or, Bool.or_false, Bool.or_true, Bool.not_true, Bool.not_false, Bool.and_self, Bool.or_self, if_true, if_false, Bool.true_eq_false, Bool.false_eq_true, not_true, not_false_eq_true]
        exact h3d
      · rw [c] at hcan
        obtain ⟨ρ2, F3, h3⟩ := down h hw (11 - h) ρ (by omega) F2
        rw [show h + (11 - h) = 11 by omega] at h3
        refine ⟨ρ2, F3, fun d => ?_⟩
        have hd := hcan d
        have h3d := h3 d
        have n1 : ¬ nI h = -1 := mj_nI_m1 (by omega)
        have l2 := mj_lsh_lt (p := C o i) (f := h) (11 - h)
        have e : mj_enf (C o i) h (j + 1) = 100 * nI (mj_lsh (C o i) h (11 - h)) + nI h := by
          unfold mj_enf
          simp only [mj_fst, c, if_true, eq_false n1, if_false]
          rw [nI_clamp (by omega)]
        have n2 : ¬ 100 * nI (mj_lsh (C o i) h (11 - h)) + nI h = -1 := by
          show ¬ nI 100 * nI (mj_lsh (C o i) h (11 - h)) + nI h = -1
          rw [mj_nI_mul, nI_add]
          exact mj_nI_m1 (by omega)
        rw [e]
        unfold mj_rfv
        rw [if_neg n2]
        have ex : mj_Runs X (mj_ev X (d + 41)) 5 (some .int) prog_1_method_24_code (89, [.ref 0, .int (nI i), .int (nI o), .int (nI h), .int (nI (h + 1)), mj_junk], [], ρ) (some (.int (100 * nI (mj_lsh (C o i) h (11 - h)) + nI h)), ρ2) := by
          refine u114_89.mpr ?_
          simp only [u114_0, u114_1, u114_4, u114_5, u114_8, u114_11, u114_12, u114_15, u114_18, u114_19, u114_22, u114_25, u114_26, u114_27, u114_28, u114_31, u114_34, u114_35, u114_36, u114_39, u114_40, u114_42, u114_45, u114_46, u114_47, u114_48, u114_49, u114_52, u114_55, u114_59, u114_61, u114_64, u114_65, u114_66, u114_69, u114_70, u114_71, u114_72, u114_74, u114_77, u114_80, u114_82, u114_83, u114_86, u114_90, u114_91, u114_94, u114_95, u114_97, u114_100, u114_101, u114_102, u114_104, u114_106, u114_110, u114_111, u114_114, u114_116, u114_117, u114_120, u114_121, u114_122, u114_123, u114_125, u114_128, u114_131, u114_133, u114_135, u114_138, u114_141, u114_143, u114_145, u114_146, u114_147, u114_148, eq_false n1, mj_cc_v, mj_cc_n, List.all_cons, List.all_nil, mj_noMk_int, mj_noMk_long, mj_noMk_ref, mj_noMk_junk, List.length_nil, List.length_cons, Nat.zero_le, Nat.reduceLeDiff, Nat.reduceAdd, Bool.and_true, Bool.true_and, Bool.and_self, Nat.reduceBNe, true_or, or_true, true_and, and_true, mj_z0, mj_z1, mj_z01, decide_true, decide_false, Bool.true_and, Bool.false_and, Bool.and_true, Bool.and_false, Bool.true_or, Bool.false_or, Bool.or_false, Bool.or_true, Bool.not_true, Bool.not_false, Bool.and_self, Bool.or_self, if_true, if_false, Bool.true_eq_false, Bool.false_eq_true, not_true, not_false_eq_true]
          exact h3d
        refine u114_57.mpr ?_
        simp only [u114_0, u114_1, u114_4, u114_5, u114_8, u114_11, u114_12, u114_15, u114_18, u114_19, u114_22, u114_25, u114_26, u114_27, u114_28, u114_31, u114_34, u114_35, u114_36, u114_39, u114_40, u114_42, u114_45, u114_46, u114_47, u114_48, u114_49, u114_52, u114_55, u114_59, u114_61, u114_64, u114_65, u114_66, u114_69, u114_70, u114_71, u114_72, u114_74, u114_77, u114_80, u114_82, u114_83, u114_86, u114_90, u114_91, u114_94, u114_95, u114_97, u114_100, u114_101, u114_102, u114_104, u114_106, u114_110, u114_111, u114_114, u114_116, u114_117, u114_120, u114_121, u114_122, u114_123, u114_125, u114_128, u114_131, u114_133, u114_135, u114_138, u114_141, u114_143, u114_145, u114_146, u114_147, u114_148, q, hd, mj_zT, mj_n10, nI_1, mj_cc_v, mj_cc_n, List.all_cons, List.all_nil, mj_noMk_int, mj_noMk_long, mj_noMk_ref, mj_noMk_junk, List.length_nil, List.length_cons, Nat.zero_le, Nat.reduceLeDiff, Nat.reduceAdd, Bool.and_true, Bool.true_and, Bool.and_self, Nat.reduceBNe, true_or, or_true, true_and, and_true, mj_z0, mj_z1, mj_z01, decide_true, decide_false, Bool.true_and, Bool.false_and, Bool.and_true, Bool.and_false, Bool.true_or, Bool.false_or, Bool.or_false, Bool.or_true, Bool.not_true, Bool.not_false, Bool.and_self, Bool.or_self, if_true, if_false, Bool.true_eq_false, Bool.false_eq_true, not_true, not_false_eq_true]
        refine u114_57.mpr ?_
        by_cases q2 : nI (h + 1) < 12
        · simp only [u114_0, u114_1, u114_4, u114_5, u114_8, u114_11, u114_12, u114_15, u114_18, u114_19, u114_22, u114_25, u114_26, u114_27, u114_28, u114_31, u114_34, u114_35, u114_36, u114_39, u114_40, u114_42, u114_45, u114_46, u114_47, u114_48, u114_49, u114_52, u114_55, u114_59, u114_61, u114_64, u114_65, u114_66, u114_69, u114_70, u114_71, u114_72, u114_74, u114_77, u114_80, u114_82, u114_83, u114_86, u114_90, u114_91, u114_94, u114_95, u114_97, u114_100, u114_101, u114_102, u114_104, u114_106, u114_110, u114_111, u114_114, u114_116, u114_117, u114_120, u114_121, u114_122, u114_123, u114_125, u114_128, u114_131, u114_133, u114_135, u114_138, u114_141, u114_143, u114_145, u114_146, u114_147, u114_148, eq_true q2, eq_false n1, mj_cc_v, mj_cc_n, List.all_cons, List.all_nil, mj_noMk_int, mj_noMk_long, mj_noMk_ref, mj_noMk_junk, List.length_nil, List.length_cons, Nat.zero_le, Nat.reduceLeDiff, Nat.reduceAdd, Bool.and_true, Bool.true_and, Bool.and_self, Nat.reduceBNe, true_or, or_true, true_and, and_true, mj_z0, mj_z1, mj_z01, decide_true, decide_false, Bool.true_and, Bool.false_and, Bool.and_true, Bool.and_false, Bool.true_or, Bool.false_or, Bool.or_false, Bool.or_true, Bool.not_true, Bool.not_false, Bool.and_self, Bool.or_self, if_true, if_false, Bool.true_eq_false, Bool.false_eq_true, not_true, not_false_eq_true]
          exact ex
        · simp only [u114_0, u114_1, u114_4, u114_5, u114_8, u114_11, u114_12, u114_15, u114_18, u114_19, u114_22, u114_25, u114_26, u114_27, u114_28, u114_31, u114_34, u114_35, u114_36, u114_39, u114_40, u114_42, u114_45, u114_46, u114_47, u114_48, u114_49, u114_52, u114_55, u114_59, u114_61, u114_64, u114_65, u114_66, u114_69, u114_70, u114_71, u114_72, u114_74, u114_77, u114_80, u114_82, u114_83, u114_86, u114_90, u114_91, u114_94, u114_95, u114_97, u114_100, u114_101, u114_102, u114_104, u114_106, u114_110, u114_111, u114_114, u114_116, u114_117, u114_120, u114_121, u114_122, u114_123, u114_125, u114_128, u114_131, u114_133, u114_135, u114_138, u114_141, u114_143, u114_145, u114_146, u114_147, u114_148, eq_false q2, mj_cc_v, mj_cc_n, List.all_cons, List.all_nil, mj_noMk_int, mj_noMk_long, mj_noMk_ref, mj_noMk_junk, List.length_nil, List.length_cons, Nat.zero_le, Nat.reduceLeDiff, Nat.reduceAdd, Bool.and_true, Bool.true_and, Bool.and_self, Nat.reduceBNe, true_or, or_true, true_and, and_true, mj_z0, mj_z1, mj_z01, decide_true, decide_false, Bool.true_and, Bool.false_and, Bool.and_true, Bool.and_false, Bool.true_or, Bool.false_or, Bool.or_false, Bool.or_true, Bool.not_true, Bool.not_false, Bool.and_self, Bool.or_self, if_true, if_false, Bool.true_eq_false, Bool.false_eq_true, not_true, not_false_eq_true]
          exact ex
  obtain ⟨ρ, F, h⟩ := up (12 - w) w σ (by have := hc.2.2.2.1; omega) (Nat.le_refl _) mj_Fs_rf
  refine ⟨ρ, F, fun d => ?_⟩
  have h99 : (σ.1 14 14).toInt ≤ 9 := by rw [hc.1, nI_toInt (by omega)]; omega
  have h1 : mj_ev X (d + 41) 37 [.ref 14, .int (nI i)] σ = some (some (.int (mj_z (mj_wkC σ (nI i)))), σ) := sp_isWork (d := d + 39) h99
  rw [hk] at h1
  have h3 := sp_isOutcome (X := X) (d := d + 40) (x := nI o) (σ := σ)
  rw [mj_in_nI (show o < 8 by omega) (by decide)] at h3
  have hd := h d
  refine st114 ?_
  simp only [u114_0, u114_1, u114_4, u114_5, u114_8, u114_11, u114_12, u114_15, u114_18, u114_19, u114_22, u114_25, u114_26, u114_27, u114_28, u114_31, u114_34, u114_35, u114_36, u114_39, u114_40, u114_42, u114_45, u114_46, u114_47, u114_48, u114_49, u114_52, u114_55, u114_59, u114_61, u114_64, u114_65, u114_66, u114_69, u114_70, u114_71, u114_72, u114_74, u114_77, u114_80, u114_82, u114_83, u114_86, u114_89, u114_90, u114_91, u114_94, u114_95, u114_97, u114_100, u114_101, u114_102, u114_104, u114_106, u114_110, u114_111, u114_114, u114_116, u114_117, u114_120, u114_121, u114_122, u114_123, u114_125, u114_128, u114_131, u114_133, u114_135, u114_138, u114_141, u114_143, u114_145, u114_146, u114_147, u114_148, h1, h3, hc.2.2.1, hl, mj_in_nI (show i < 9 by omega) (by decide), mj_nz9 (show i < 9 by omega) (by decide), mj_zT, mj_n10, mj_cc_v, mj_cc_n, List.all_cons, List.all_nil, mj_noMk_int, mj_noMk_long, mj_noMk_ref, mj_noMk_junk, List.length_nil, List.length_cons, Nat.zero_le, Nat.reduceLeDiff, Nat.reduceAdd, Bool.and_true, Bool.true_and, Bool.and_self, Nat.reduceBNe, true_or, or_true, true_and, and_true, mj_z0, mj_z1, mj_z01, decide_true, decide_false, Bool.true_and, Bool.false_and, Bool.and_true, Bool.and_false, Bool.true_or, Bool.false_or, Bool.or_false, Bool.or_true, Bool.not_true, Bool.not_false, Bool.and_self, Bool.or_self, if_true, if_false, Bool.true_eq_false, Bool.false_eq_true, not_true, not_false_eq_true]
  exact hd
end
