section
variable {X : mj_X} {d : Nat} {σ τ ρ : mj_St}
theorem mj_nxc_1 (h : τ.1 = σ.1) : mj_nxc τ = mj_nxc σ := by
  have e1 := mj_mvs_1 h
  have e2 := mj_imv_1 h
  have e3 := mj_fl_1 h
  funext n r g s l
  have e4 : mj_cho3 τ n r g s = mj_cho3 σ n r g s := by
    funext mv k
    unfold mj_cho3
    rw [e2, e3, mj_W_1 h]
  unfold mj_nxc
  rw [e1, e4]
theorem mj_pof_1 (h : τ.1 = σ.1) : mj_pof τ = mj_pof σ := by
  funext a b
  unfold mj_pof
  rw [h]
theorem mj_fso_1 (h : τ.1 = σ.1) {n sg : Nat} : ∀ j k s c, mj_fso τ n sg j k s c = mj_fso σ n sg j k s c := by
  intro j
  induction j with
  | zero => intro k s c; rfl
  | succ j ih =>
    intro k s c
    simp only [mj_fso]
    rw [mj_nxc_1 h, ih]
theorem mj_suc_1 (h : τ.1 = σ.1) : mj_suc τ = mj_suc σ := by
  funext n w sg st
  unfold mj_suc
  rw [h, mj_W_1 h]
theorem mj_fsv_1 (h : τ.1 = σ.1) : mj_fsv τ = mj_fsv σ := by
  funext n w sg st hh
  unfold mj_fsv
  rw [mj_suc_1 h, mj_fso_1 h, mj_pof_1 h]
theorem mj_sfr_1 {gr : Nat} (h : τ.1 = σ.1) (hs : mj_sfr σ gr) : mj_sfr τ gr := by
  unfold mj_sfr mj_sts at hs ⊢
  rw [h]
  exact hs
/-- where the search stands at first -/
def mj_sto (σ : mj_St) (set : Int32) (gr : Nat) (o : Int32) (N : Nat) : Nat := mj_stn (mj_q3 σ set gr o N) (mj_plL (mj_q3 σ set gr o N) N)
/-- the set of an hour, in the first keeping -/
def mj_fsp (σ : mj_St) (set : Int32) (gr : Nat) (o : Int32) (N w hh : Nat) : Int32 := if mj_hp0 σ set = true then -1 else mj_fsv (mj_prS σ set gr o N w) (mj_qn σ set gr o N) w (mj_sgr σ N gr).toNatClampNeg (mj_sto σ set gr o N) hh
def mj_csp (σ : mj_St) (set : Int32) (gr : Nat) (o : Int32) (N w : Nat) : Int32 := if mj_hp0 σ set = true then -1 else mj_csv (mj_prS σ set gr o N w) (mj_qn σ set gr o N) w (mj_sgr σ N gr).toNatClampNeg (mj_sto σ set gr o N)
theorem mj_prfs {set o : Int32} {gr N w hh : Nat} (hX : mj_XS X) (hc : mj_pc σ N w) (hgr : gr = 1 ∨ gr = 8) (he : mj_pe σ) (hw : w ≤ hh) (hh11 : hh ≤ 11)
    (F0 : mj_Fm (mj_prS σ set gr o N w) τ) (M0 : mj_hp0 σ set = false → w < 12 → (mj_prS σ set gr o N w).1 46 4 = 0 → mj_MI τ (mj_qn σ set gr o N) w gr) : ∃ ρ, mj_Fm τ ρ ∧ ∀ d, mj_ev X (d + 41) 96 [.ref 46, .int (nI hh)] τ = some (some (.int (mj_fsp σ set gr o N w hh)), ρ) := by
  unfold mj_fsp
  rcases (Bool.eq_false_or_eq_true (mj_hp0 σ set)).symm with b1 | b1
  · rw [if_neg (by rw [b1]; decide)]
    obtain ⟨sd, sf, -, e7, e6⟩ := mj_pr_ready (set := set) (o := o) hc hgr he b1 (by omega)
    obtain ⟨s, hs, es⟩ := mj_sgr_lt (σ := σ) (N := N) hgr
    have ec : (mj_sgr σ N gr).toNatClampNeg = s := by rw [es]; exact nI_clamp (by omega)
    rw [es] at e7
    rw [ec, ← mj_fsv_1 F0.1]
    refine sp_firstSetOf hX (mj_sd_Fm F0 sd) (mj_sfr_1 F0.1 sf) (by rw [F0.1]; exact e7) (by rw [F0.1]; exact e6) hs (mj_stn_lt _) (fun z q => M0 b1 q (by rw [← F0.1]; exact z)) hw hh11
  · rw [if_pos b1]
    have e : mj_prS σ set gr o N w = mj_q4 σ set gr o N := by
      unfold mj_prS
      rw [if_pos (Or.inl b1)]
    have e4 : τ.1 46 4 = 1 := by
      rw [F0.1, e]
      show (mj_fpS _ _ _ _).1 46 4 = 1
      rw [mj_fpS_46 (by decide) (by decide)]
      unfold mj_q3
      rw [mj_setI_eq, b1]
      rfl
    have r4 : τ.2.2.1 46 0 = some 14 := by
      rw [F0.2.2, e]
      rfl
    refine ⟨τ, mj_Fm_rf, fun d => ?_⟩
    have h86 : mj_ev X (d + 40) 86 [.ref 46] τ = some (some (.int 0), τ) := by
      refine st86 ?_
      simp only [u86_0, u86_1, u86_4, u86_4n, u86_7, u86_8, u86_11, u86_14, u86_15, u86_16, u86_19, u86_22, u86_23, u86_26, u86_27, u86_30, u86_33, u86_36, u86_37, u86_40, u86_41, r4, mj_rf_some, mj_rf14, mj_noMk_ref, e4, mj_n10, mj_cc_v, mj_cc_n, List.all_cons, List.all_nil, mj_noMk_int, mj_noMk_long, mj_noMk_ref, mj_noMk_junk, List.length_nil, List.length_cons, Nat.zero_le, Nat.reduceLeDiff, Nat.reduceAdd, Bool.and_true, Bool.true_and, Bool.and_self, Nat.reduceBNe, true_or, or_true, true_and, and_true, mj_z0, mj_z1, mj_z01, decide_true, decide_false, Bool.true_and, Bool.false_and, Bool.and_true, Bool.and_false, Bool.true_or, Bool.false_or, Bool.or_false, Bool.or_true, Bool.not_true, Bool.not_false, Bool.and_self, Bool.or_self, if_true, if_false, Bool.true_eq_false, Bool.false_eq_true, not_true, not_false_eq_true]
      try simp
    refine st96 ?_
    simp only [u96_0, u96_1, u96_4, u96_7, u96_8, u96_9, u96_10, u96_13, u96_14, u96_15, u96_16, u96_17, u96_20, u96_23, u96_27, u96_28, u96_31, u96_33, u96_35, u96_38, u96_39, u96_41, u96_42, u96_45, u96_46, u96_47, u96_50, u96_51, u96_52, u96_53, u96_56, u96_57, u96_58, u96_59, u96_62, u96_63, u96_64, u96_65, u96_66, u96_69, u96_73, u96_74, u96_77, u96_78, u96_81, u96_82, u96_85, u96_86, u96_87, u96_90, h86, mj_cc_v, mj_cc_n, List.all_cons, List.all_nil, mj_noMk_int, mj_noMk_long, mj_noMk_ref, mj_noMk_junk, List.length_nil, List.length_cons, Nat.zero_le, Nat.reduceLeDiff, Nat.reduceAdd, Bool.and_true, Bool.true_and, Bool.and_self, Nat.reduceBNe, true_or, or_true, true_and, and_true, mj_z0, mj_z1, mj_z01, decide_true, decide_false, Bool.true_and, Bool.false_and, Bool.and_true, Bool.and_false, Bool.true_or, Bool.false_or, Bool.or_false, Bool.or_true, Bool.not_true, Bool.not_false, Bool.and_self, Bool.or_self, if_true, if_false, Bool.true_eq_false, Bool.false_eq_true, not_true, not_false_eq_true]
theorem mj_prcs {set o : Int32} {gr N w : Nat} (hX : mj_XS X) (hc : mj_pc σ N w) (hgr : gr = 1 ∨ gr = 8) (he : mj_pe σ) (hw : w ≤ 11) : ∃ ρ, mj_Fm (mj_prS σ set gr o N w) ρ ∧ ∀ d, mj_ev X (d + 41) 118 [.ref 46] (mj_prS σ set gr o N w) = some (some (.int (mj_csp σ set gr o N w)), ρ) := by
  unfold mj_csp
  rcases (Bool.eq_false_or_eq_true (mj_hp0 σ set)).symm with b1 | b1
  · rw [if_neg (by rw [b1]; decide)]
    obtain ⟨sd, sf, mi, e7, e6⟩ := mj_pr_ready (set := set) (o := o) hc hgr he b1 (by omega)
    obtain ⟨s, hs, es⟩ := mj_sgr_lt (σ := σ) (N := N) hgr
    have ec : (mj_sgr σ N gr).toNatClampNeg = s := by rw [es]; exact nI_clamp (by omega)
    rw [es] at e7
    rw [ec]
    exact sp_commonSetNow hX sd sf e7 e6 hs (mj_stn_lt _) (fun z _ => mi z) hw
  · rw [if_pos b1]
    obtain ⟨ρ, F, -, h⟩ := mj_prsuc (set := set) (o := o) hX hc hgr he
    refine ⟨ρ, F, fun d => ?_⟩
    have hd := h d
    have e : mj_ckg σ set gr o N w = false := by
      unfold mj_ckg
      rw [b1]
      rfl
    rw [e] at hd
    refine st118 ?_
    simp only [u118_0, u118_1, u118_4, u118_7, u118_8, u118_9, u118_11, u118_12, u118_13, u118_14, u118_17, u118_20, u118_21, u118_24, u118_25, u118_28, u118_29, u118_32, u118_33, u118_34, u118_36, u118_39, u118_40, u118_43, u118_44, u118_45, u118_48, u118_49, u118_52, u118_53, u118_56, u118_57, u118_58, u118_59, u118_60, u118_61, u118_62, u118_65, u118_68, u118_69, u118_72, u118_73, u118_76, u118_77, u118_78, u118_79, u118_82, u118_83, u118_86, u118_89, u118_90, u118_91, u118_94, hd, mj_zF, mj_cc_v, mj_cc_n, List.all_cons, List.all_nil, mj_noMk_int, mj_noMk_long, mj_noMk_ref, mj_noMk_junk, List.length_nil, List.length_cons, Nat.zero_le, Nat.reduceLeDiff, Nat.reduceAdd, Bool.and_true, Bool.true_and, Bool.and_self, Nat.reduceBNe, true_or, or_true, true_and, and_true, mj_z0, mj_z1, mj_z01, decide_true, decide_false, Bool.true_and, Bool.false_and, Bool.and_true, Bool.and_false, Bool.true_or, Bool.false_or, Bool.or_false, Bool.or_true, Bool.not_true, Bool.not_false, Bool.and_self, Bool.or_self, if_true, if_false, Bool.true_eq_false, Bool.false_eq_true, not_true, not_false_eq_true]
/-- an answer, or a refusal where there is none -/
def mj_rfv (V : Int32) (ρ : mj_St) : Option Value × mj_St := if V = -1 then (some (.int (-5)), mj_rfC ρ (-5)) else (some (.int V), ρ)
theorem mj_rfv_m {V : Int32} (h : V = -1) : mj_rfv V ρ = (some (.int (-5)), mj_rfC ρ (-5)) := if_pos h
theorem mj_rfv_n {V : Int32} (h : ¬ V = -1) : mj_rfv V ρ = (some (.int V), ρ) := if_neg h
theorem sp_hourN {w : Nat} {o h : Int32} (hw : σ.1 14 17 = nI w) (hn : mj_inb o 8 = false ∨ h < nI w ∨ ¬ h < 12) : mj_ev X (d + 2) 95 [.ref 0, .int o, .int h] σ = some (some (.int (-5)), mj_rfC σ (-5)) := by
  have h1 := sp_isOutcome (X := X) (d := d) (x := o) (σ := σ)
  have h2 := sp_rf5 (X := X) (d := d) (σ := σ)
  have hr : (mj_rfC σ (-5)).2.2.2.2 = σ.2.2.2.2 := rfl
  refine st95 ?_
  cases c : mj_inb o 8
  · rw [c] at h1
    simp only [u95_0, u95_1, u95_4, u95_7, u95_8, u95_9, u95_12, u95_15, u95_18, u95_19, u95_21, u95_24, u95_25, u95_27, u95_30, u95_31, u95_32, u95_35, u95_36, u95_39, u95_40, u95_43, u95_46, u95_47, u95_48, u95_51, u95_52, u95_55, u95_56, u95_59, u95_60, u95_61, u95_62, u95_65, u95_66, u95_68, u95_71, u95_74, u95_75, h1, h2, hr, mj_zF, mj_cc_v, mj_cc_n, List.all_cons, List.all_nil, mj_noMk_int, mj_noMk_long, mj_noMk_ref, mj_noMk_junk, List.length_nil, List.length_cons, Nat.zero_le, Nat.reduceLeDiff, Nat.reduceAdd, Bool.and_true, Bool.true_and, Bool.and_self, Nat.reduceBNe, true_or, or_true, true_and, and_true, mj_z0, mj_z1, mj_z01, decide_true, decide_false, Bool.true_and, Bool.false_and, Bool.and_true, Bool.and_false, Bool.true_or, Bool.false_or, Bool.or_false, Bool.or_true, Bool.not_true, Bool.not_false, Bool.and_self, Bool.or_self, if_true, if_false, Bool.true_eq_false, Bool.false_eq_true, not_true, not_false_eq_true]
  · rw [c] at h1
    rcases hn with z | z
    · rw [c] at z
      exact absurd z (by decide)
    · by_cases q : h < nI w
      · simp only [u95_0, u95_1, u95_4, u95_7, u95_8, u95_9, u95_12, u95_15, u95_18, u95_19, u95_21, u95_24, u95_25, u95_27, u95_30, u95_31, u95_32, u95_35, u95_36, u95_39, u95_40, u95_43, u95_46, u95_47, u95_48, u95_51, u95_52, u95_55, u95_56, u95_59, u95_60, u95_61, u95_62, u95_65, u95_66, u95_68, u95_71, u95_74, u95_75, h1, h2, hr, hw, eq_true q, mj_zT, mj_n10, mj_cc_v, mj_cc_n, List.all_cons, List.all_nil, mj_noMk_int, mj_noMk_long, mj_noMk_ref, mj_noMk_junk, List.length_nil, List.length_cons, Nat.zero_le, Nat.reduceLeDiff, Nat.reduceAdd, Bool.and_true, Bool.true_and, Bool.and_self, Nat.reduceBNe, true_or, or_true, true_and, and_true, mj_z0, mj_z1, mj_z01, decide_true, decide_false, Bool.true_and, Bool.false_and, Bool.and_true, Bool.and_false, Bool.true_or, Bool.false_or, Bool.or_false, Bool.or_true, Bool.not_true, Bool.not_false, Bool.and_self, Bool.or_self, if_true, if_false, Bool.true_eq_false, Bool.false_eq_true, not_true, not_false_eq_true]
      · have q2 := z.resolve_left q
        simp only [u95_0, u95_1, u95_4, u95_7, u95_8, u95_9, u95_12, u95_15, u95_18, u95_19, u95_21, u95_24, u95_25, u95_27, u95_30, u95_31, u95_32, u95_35, u95_36, u95_39, u95_40, u95_43, u95_46, u95_47, u95_48, u95_51, u95_52, u95_55, u95_56, u95_59, u95_60, u95_61, u95_62, u95_65, u95_66, u95_68, u95_71, u95_74, u95_75, h1, h2, hr, hw, eq_false q, eq_false q2, mj_zT, mj_n10, mj_cc_v, mj_cc_n, List.all_cons, List.all_nil, mj_noMk_int, mj_noMk_long, mj_noMk_ref, mj_noMk_junk, List.length_nil, List.length_cons, Nat.zero_le, Nat.reduceLeDiff, Nat.reduceAdd, Bool.and_true, Bool.true_and, Bool.and_self, Nat.reduceBNe, true_or, or_true, true_and, and_true, mj_z0, mj_z1, mj_z01, decide_true, decide_false, Bool.true_and, Bool.false_and, Bool.and_true, Bool.and_false, Bool.true_or, Bool.false_or, Bool.or_false, Bool.or_true, Bool.not_true, Bool.not_false, Bool.and_self, Bool.or_self, if_true, if_false, Bool.true_eq_false, Bool.false_eq_true, not_true, not_false_eq_true]
theorem sp_hourC {N w o hh : Nat} (hX : mj_XS X) (hc : mj_pc σ N w) (he : mj_pe σ) (ho : o < 8) (hw : w ≤ hh) (hh11 : hh ≤ 11) : ∃ ρ, mj_Fs σ ρ ∧ ∀ d, mj_ev X (d + 42) 95 [.ref 0, .int (nI o), .int (nI hh)] σ = some (mj_rfv (mj_fsp σ (mj_evC σ) 1 (nI o) N w hh) ρ) := by
  have mi : mj_hp0 σ (mj_evC σ) = false → w < 12 → (mj_prS σ (mj_evC σ) 1 (nI o) N w).1 46 4 = 0 → mj_MI (mj_prS σ (mj_evC σ) 1 (nI o) N w) (mj_qn σ (mj_evC σ) 1 (nI o) N) w 1 := fun a b c => (mj_pr_ready (set := mj_evC σ) (o := nI o) hc (Or.inl rfl) he a b).2.2.1 c
  obtain ⟨ρ, G, h⟩ := mj_prfs (set := mj_evC σ) (o := nI o) (gr := 1) hX hc (Or.inl rfl) he hw hh11 mj_Fm_rf mi
  refine ⟨ρ, mj_Fs_tr (mj_prS_Fs hc (Or.inl rfl)) (mj_Fs_Fm G), fun d => ?_⟩
  have h1 := sp_isOutcome (X := X) (d := d + 40) (x := nI o) (σ := σ)
  rw [mj_in_nI (show o < 8 by omega) (by decide)] at h1
  have h2 := mj_evC_ev (X := X) (d := d + 40) (σ := σ)
  have hp := sp_prepare (X := X) (d := d + 36) (set := mj_evC σ) (gc := 1) (o := nI o) (gr := 1) hX hc (Or.inr ⟨by decide, rfl⟩)
  have hd := h d
  have h3 : mj_ev X (d + 41) 3 [.ref 0, .int (-5)] ρ = _ := sp_rf5 (d := d + 40)
  have hr : (mj_rfC ρ (-5)).2.2.2.2 = ρ.2.2.2.2 := rfl
  have q1 : ¬ nI hh < nI w := nI_nlt hw (by omega)
  have q2 : nI hh < 12 := nI_lt (b := 12) (by omega) (by decide)
  unfold mj_rfv
  generalize mj_fsp σ (mj_evC σ) 1 (nI o) N w hh = V at *
  refine st95 ?_
  by_cases c : V = -1
  · rw [if_pos c]
    simp only [u95_0, u95_1, u95_4, u95_7, u95_8, u95_9, u95_12, u95_15, u95_18, u95_19, u95_21, u95_24, u95_25, u95_27, u95_30, u95_31, u95_32, u95_35, u95_36, u95_39, u95_40, u95_43, u95_46, u95_47, u95_48, u95_51, u95_52, u95_55, u95_56, u95_59, u95_60, u95_61, u95_62, u95_65, u95_66, u95_68, u95_71, u95_74, u95_75, h1, hc.2.2.1, q1, q2, h2, hp, hd, eq_true c, h3, hr, mj_zT, mj_n10, mj_cc_v, mj_cc_n, List.all_cons, List.all_nil, mj_noMk_int, mj_noMk_long, mj_noMk_ref, mj_noMk_junk, List.length_nil, List.length_cons, Nat.zero_le, Nat.reduceLeDiff, Nat.reduceAdd, Bool.and_true, Bool.true_and, Bool.and_self, Nat.reduceBNe, true_or, or_true, true_and, and_true, mj_z0, mj_z1, mj_z01, decide_true, decide_false, Bool.true_and, Bool.false_and, Bool.and_true, Bool.and_false, Bool.true_or, Bool.false_or, Bool.or_false, Bool.or_true, Bool.not_true, Bool.not_false, Bool.and_self, Bool.or_self, if_true, if_false, Bool.true_eq_false, Bool.false_eq_true, not_true, not_false_eq_true]
  · rw [if_neg c]
    simp only [u95_0, u95_1, u95_4, u95_7, u95_8, u95_9, u95_12, u95_15, u95_18, u95_19, u95_21, u95_24, u95_25, u95_27, u95_30, u95_31, u95_32, u95_35, u95_36, u95_39, u95_40, u95_43, u95_46, u95_47, u95_48, u95_51, u95_52, u95_55, u95_56, u95_59, u95_60, u95_61, u95_62, u95_65, u95_66, u95_68, u95_71, u95_74, u95_75, h1, hc.2.2.1, q1, q2, h2, hp, hd, eq_false c, mj_zT, mj_n10, mj_cc_v, mj_cc_n, List.all_cons, List.all_nil, mj_noMk_int, mj_noMk_long, mj_noMk_ref, mj_noMk_junk, List.length_nil, List.length_cons, Nat.zero_le, Nat.reduceLeDiff, Nat.reduceAdd, Bool.and_true, Bool.true_and, Bool.and_self, Nat.reduceBNe, true_or, or_true, true_and, and_true, mj_z0, mj_z1, mj_z01, decide_true, decide_false, Bool.true_and, Bool.false_and, Bool.and_true, Bool.and_false, Bool.true_or, Bool.false_or, Bool.or_false, Bool.or_true, Bool.not_true, Bool.not_false, Bool.and_self, Bool.or_self, if_true, if_false, Bool.true_eq_false, Bool.false_eq_true, not_true, not_false_eq_true]
theorem sp_mustN {w : Nat} {o : Int32} (hw : σ.1 14 17 = nI w) (hn : mj_inb o 8 = false ∨ w = 12) : mj_ev X (d + 2) 117 [.ref 0, .int o] σ = some (some (.int (-5)), mj_rfC σ (-5)) := by
  have h1 := sp_isOutcome (X := X) (d := d) (x := o) (σ := σ)
  have h2 := sp_rf5 (X := X) (d := d) (σ := σ)
  have hr : (mj_rfC σ (-5)).2.2.2.2 = σ.2.2.2.2 := rfl
  refine st117 ?_
  cases c : mj_inb o 8
  · rw [c] at h1
    simp only [u117_0, u117_1, u117_4, u117_7, u117_8, u117_11, u117_14, u117_16, u117_19, u117_20, u117_22, u117_25, u117_26, u117_27, u117_30, u117_31, u117_34, u117_35, u117_38, u117_41, u117_42, u117_43, u117_46, u117_47, u117_50, u117_53, u117_54, u117_55, u117_56, u117_59, u117_60, u117_62, u117_65, u117_68, u117_69, h1, h2, hr, mj_zF, mj_cc_v, mj_cc_n, List.all_cons, List.all_nil, mj_noMk_int, mj_noMk_long, mj_noMk_ref, mj_noMk_junk, List.length_nil, List.length_cons, Nat.zero_le, Nat.reduceLeDiff, Nat.reduceAdd, Bool.and_true, Bool.true_and, Bool.and_self, Nat.reduceBNe, true_or, or_true, true_and, and_true, mj_z0, mj_z1, mj_z01, decide_true, decide_false, Bool.true_and, Bool.false_and, Bool.and_true, Bool.and_false, Bool.true_or, Bool.false_or, Bool.or_false, Bool.or_true, Bool.not_true, Bool.not_false, Bool.and_self, Bool.or_self, if_true, if_false, Bool.true_eq_false, Bool.false_eq_true, not_true, not_false_eq_true]
  · rw [c] at h1
    rcases hn with z | z
    · rw [c] at z
      exact absurd z (by decide)
    · have q : ¬ nI w < 12 := by rw [z]; decide
      simp only [u117_0, u117_1, u117_4, u117_7, u117_8, u117_11, u117_14, u117_16, u117_19, u117_20, u117_22, u117_25, u117_26, u117_27, u117_30, u117_31, u117_34, u117_35, u117_38, u117_41, u117_42, u117_43, u117_46, u117_47, u117_50, u117_53, u117_54, u117_55, u117_56, u117_59, u117_60, u117_62, u117_65, u117_68, u117_69, h1, h2, hr, hw, eq_false q, mj_zT, mj_n10, mj_cc_v, mj_cc_n, List.all_cons, List.all_nil, mj_noMk_int, mj_noMk_long, mj_noMk_ref, mj_noMk_junk, List.length_nil, List.length_cons, Nat.zero_le, Nat.reduceLeDiff, Nat.reduceAdd, Bool.and_true, Bool.true_and, Bool.and_self, Nat.reduceBNe, true_or, or_true, true_and, and_true, mj_z0, mj_z1, mj_z01, decide_true, decide_false, Bool.true_and, Bool.false_and, Bool.and_true, Bool.and_false, Bool.true_or, Bool.false_or, Bool.or_false, Bool.or_true, Bool.not_true, Bool.not_false, Bool.and_self, Bool.or_self, if_true, if_false, Bool.true_eq_false, Bool.false_eq_true, not_true, not_false_eq_true]
theorem sp_mustC {N w o : Nat} (hX : mj_XS X) (hc : mj_pc σ N w) (he : mj_pe σ) (ho : o < 8) (hw : w ≤ 11) : ∃ ρ, mj_Fs σ ρ ∧ ∀ d, mj_ev X (d + 42) 117 [.ref 0, .int (nI o)] σ = some (mj_rfv (mj_csp σ (mj_evC σ) 1 (nI o) N w) ρ) := by
  obtain ⟨ρ, G, h⟩ := mj_prcs (set := mj_evC σ) (o := nI o) (gr := 1) hX hc (Or.inl rfl) he hw
  refine ⟨ρ, mj_Fs_tr (mj_prS_Fs hc (Or.inl rfl)) (mj_Fs_Fm G), fun d => ?_⟩
  have h1 := sp_isOutcome (X := X) (d := d + 40) (x := nI o) (σ := σ)
  rw [mj_in_nI (show o < 8 by omega) (by decide)] at h1
  have h2 := mj_evC_ev (X := X) (d := d + 40) (σ := σ)
  have hp := sp_prepare (X := X) (d := d + 36) (set := mj_evC σ) (gc := 1) (o := nI o) (gr := 1) hX hc (Or.inr ⟨by decide, rfl⟩)
  have hd := h d
  have h3 : mj_ev X (d + 41) 3 [.ref 0, .int (-5)] ρ = _ := sp_rf5 (d := d + 40)
  have hr : (mj_rfC ρ (-5)).2.2.2.2 = ρ.2.2.2.2 := rfl
  have q2 : nI w < 12 := nI_lt (b := 12) (by omega) (by decide)
  unfold mj_rfv
  generalize mj_csp σ (mj_evC σ) 1 (nI o) N w = V at *
  refine st117 ?_
  by_cases c : V = -1
  · rw [if_pos c]
    simp only [u117_0, u117_1, u117_4, u117_7, u117_8, u117_11, u117_14, u117_16, u117_19, u117_20, u117_22, u117_25, u117_26, u117_27, u117_30, u117_31, u117_34, u117_35, u117_38, u117_41, u117_42, u117_43, u117_46, u117_47, u117_50, u117_53, u117_54, u117_55, u117_56, u117_59, u117_60, u117_62, u117_65, u117_68, u117_69, h1, hc.2.2.1, q2, h2, hp, hd, eq_true c, h3, hr, mj_zT, mj_n10, mj_cc_v, mj_cc_n, List.all_cons, List.all_nil, mj_noMk_int, mj_noMk_long, mj_noMk_ref, mj_noMk_junk, List.length_nil, List.length_cons, Nat.zero_le, Nat.reduceLeDiff, Nat.reduceAdd, Bool.and_true, Bool.true_and, Bool.and_self, Nat.reduceBNe, true_or, or_true, true_and, and_true, mj_z0, mj_z1, mj_z01, decide_true, decide_false, Bool.true_and, Bool.false_and, Bool.and_true, Bool.and_false, Bool.true_or, Bool.false_or, Bool.or_false, Bool.or_true, Bool.not_true, Bool.not_false, Bool.and_self, Bool.or_self, if_true, if_false, Bool.true_eq_false, Bool.false_eq_true, not_true, not_false_eq_true]
  · rw [if_neg c]
    simp only [u117_0, u117_1, u117_4, u117_7, u117_8, u117_11, u117_14, u117_16, u117_19, u117_20, u117_22, u117_25, u117_26, u117_27, u117_30, u117_31, u117_34, u117_35, u117_38, u117_41, u117_42, u117_43, u117_46, u117_47, u117_50, u117_53, u117_54, u117_55, u117_56, u117_59, u117_60, u117_62, u117_65, u117_68, u117_69, h1, hc.2.2.1, q2, h2, hp, hd, eq_false c, mj_zT, mj_n10, mj_cc_v, mj_cc_n, List.all_cons, List.all_nil, mj_noMk_int, mj_noMk_long, mj_noMk_ref, mj_noMk_junk, List.length_nil, List.length_cons, Nat.zero_le, Nat.reduceLeDiff, Nat.reduceAdd, Bool.and_true, Bool.true_and, Bool.and_self, Nat.reduceBNe, true_or, or_true, true_and, and_true, mj_z0, mj_z1, mj_z01, decide_true, decide_false, Bool.true_and, Bool.false_and, Bool.and_true, Bool.and_false, Bool.true_or, Bool.false_or, Bool.or_false, Bool.or_true, Bool.not_true, Bool.not_false, Bool.and_self, Bool.or_self, if_true, if_false, Bool.true_eq_false, Bool.false_eq_true, not_true, not_false_eq_true]
/-- what the set of the first hour is, whatever a search left behind -/
def mj_FH (σ : mj_St) (N w : Nat) (V : Int32) : Prop := ∀ τ, mj_Fs σ τ → mj_fsp τ (mj_evC σ) 8 0 N w w = V
def mj_bgv (σ : mj_St) (N w : Nat) (K : Int32 → Nat → Bool) (b : Bool) (V : Int32) : Int32 := if w = 12 then -1 else if mj_bav σ N K b = true then V else -1
theorem sp_beginC {N w : Nat} {K : Int32 → Nat → Bool} {b : Bool} {V : Int32} (hX : mj_XS X) (hc : mj_pc σ N w) (he : mj_pe σ) (hK : mj_KH σ N w K) (hB : mj_BH σ N w b) (hV : mj_FH σ N w V) : ∃ ρ, mj_Fs σ ρ ∧ ∀ d, mj_ev X (d + 43) 101 [.ref 0] σ = some (mj_rfv (mj_bgv σ N w K b V) ρ) := by
  unfold mj_bgv
  by_cases c12 : w = 12
  · rw [if_pos c12]
    refine ⟨σ, mj_Fs_rf, fun d => ?_⟩
    rw [mj_rfv_m rfl]
    have h3 : mj_ev X (d + 42) 3 [.ref 0, .int (-5)] σ = _ := sp_rf5 (d := d + 41)
    have hr : (mj_rfC σ (-5)).2.2.2.2 = σ.2.2.2.2 := rfl
    have q : ¬ nI w < 12 := by rw [c12]; decide
    refine st101 ?_
    simp only [u101_0, u101_1, u101_4, u101_7, u101_9, u101_12, u101_13, u101_16, u101_19, u101_20, u101_22, u101_25, u101_26, u101_27, u101_30, u101_31, u101_34, u101_37, u101_40, u101_41, u101_42, u101_43, u101_46, u101_47, u101_49, u101_52, u101_55, u101_56, hc.2.2.1, q, h3, hr, mj_cc_v, mj_cc_n, List.all_cons, List.all_nil, mj_noMk_int, mj_noMk_long, mj_noMk_ref, mj_noMk_junk, List.length_nil, List.length_cons, Nat.zero_le, Nat.reduceLeDiff, Nat.reduceAdd, Bool.and_true, Bool.true_and, Bool.and_self, Nat.reduceBNe, true_or, or_true, true_and, and_true, mj_z0, mj_z1, mj_z01, decide_true, decide_false, Bool.true_and, Bool.false_and, Bool.and_true, Bool.and_false, Bool.true_or, Bool.false_or, Bool.or_false, Bool.or_true, Bool.not_true, Bool.not_false, Bool.and_self, Bool.or_self, if_true, if_false, Bool.true_eq_false, Bool.false_eq_true, not_true, not_false_eq_true]
  · rw [if_neg c12]
    have hw : w ≤ 11 := by have := hc.2.2.2.1; omega
    have q : nI w < 12 := nI_lt (b := 12) (by omega) (by decide)
    obtain ⟨ρ, F, S, h⟩ := sp_bearsC hX hc he hK hB
    rcases (Bool.eq_false_or_eq_true (mj_bav σ N K b)).symm with c | c
    · rw [if_neg (by rw [c]; decide)]
      refine ⟨ρ, F, fun d => ?_⟩
      rw [mj_rfv_m rfl]
      have hd := h d
      rw [c] at hd
      have h3 : mj_ev X (d + 42) 3 [.ref 0, .int (-5)] ρ = _ := sp_rf5 (d := d + 41)
      have hr : (mj_rfC ρ (-5)).2.2.2.2 = ρ.2.2.2.2 := rfl
      refine st101 ?_
      simp only [u101_0, u101_1, u101_4, u101_7, u101_9, u101_12, u101_13, u101_16, u101_19, u101_20, u101_22, u101_25, u101_26, u101_27, u101_30, u101_31, u101_34, u101_37, u101_40, u101_41, u101_42, u101_43, u101_46, u101_47, u101_49, u101_52, u101_55, u101_56, hc.2.2.1, q, hd, h3, hr, mj_zF, mj_cc_v, mj_cc_n, List.all_cons, List.all_nil, mj_noMk_int, mj_noMk_long, mj_noMk_ref, mj_noMk_junk, List.length_nil, List.length_cons, Nat.zero_le, Nat.reduceLeDiff, Nat.reduceAdd, Bool.and_true, Bool.true_and, Bool.and_self, Nat.reduceBNe, true_or, or_true, true_and, and_true, mj_z0, mj_z1, mj_z01, decide_true, decide_false, Bool.true_and, Bool.false_and, Bool.and_true, Bool.and_false, Bool.true_or, Bool.false_or, Bool.or_false, Bool.or_true, Bool.not_true, Bool.not_false, Bool.and_self, Bool.or_self, if_true, if_false, Bool.true_eq_false, Bool.false_eq_true, not_true, not_false_eq_true]
    · rw [if_pos c]
      obtain ⟨τ, Fτ, G, M⟩ := S c
      obtain ⟨ρ2, G2, h2⟩ := mj_prfs (σ := τ) (set := mj_evC σ) (o := 0) (gr := 8) hX (mj_Fs_pc Fτ hc) (Or.inr rfl) (mj_Fs_pe Fτ he) (Nat.le_refl _) hw G M
      rw [hV τ Fτ] at h2
      have e14 : ρ.1 14 17 = nI w := by
        rw [F.1 14 (Or.inl (by decide))]
        exact hc.2.2.1
      by_cases cv : V = -1
      · refine ⟨ρ2, mj_Fs_tr F (mj_Fs_Fm G2), fun d => ?_⟩
        rw [mj_rfv_m cv]
        have hd := h d
        have h2d := h2 (d + 1)
        rw [c] at hd
        have h3 : mj_ev X (d + 42) 3 [.ref 0, .int (-5)] ρ2 = _ := sp_rf5 (d := d + 41)
        have hr : (mj_rfC ρ2 (-5)).2.2.2.2 = ρ2.2.2.2.2 := rfl
        refine st101 ?_
        simp only [u101_0, u101_1, u101_4, u101_7, u101_9, u101_12, u101_13, u101_16, u101_19, u101_20, u101_22, u101_25, u101_26, u101_27, u101_30, u101_31, u101_34, u101_37, u101_40, u101_41, u101_42, u101_43, u101_46, u101_47, u101_49, u101_52, u101_55, u101_56, hc.2.2.1, q, hd, e14, h2d, eq_true cv, h3, hr, mj_zT, mj_n10, mj_cc_v, mj_cc_n, List.all_cons, List.all_nil, mj_noMk_int, mj_noMk_long, mj_noMk_ref, mj_noMk_junk, List.length_nil, List.length_cons, Nat.zero_le, Nat.reduceLeDiff, Nat.reduceAdd, Bool.and_true, Bool.true_and, Bool.and_self, Nat.reduceBNe, true_or, or_true, true_and, and_true, mj_z0, mj_z1, mj_z01, decide_true, decide_false, Bool.true_and, Bool.false_and, Bool.and_true, Bool.and_false, Bool.true_or, Bool.false_or, Bool.or_false, Bool.or_true, Bool.not_true, Bool.not_false, Bool.and_self, Bool.or_self, if_true, if_false, Bool.true_eq_false, Bool.false_eq_true, not_true, not_false_eq_true]
      · refine ⟨ρ2, mj_Fs_tr F (mj_Fs_Fm G2), fun d => ?_⟩
        rw [mj_rfv_n cv]
        have hd := h d
        have h2d := h2 (d + 1)
        rw [c] at hd
        refine st101 ?_
        simp only [u101_0, u101_1, u101_4, u101_7, u101_9, u101_12, u101_13, u101_16, u101_19, u101_20, u101_22, u101_25, u101_26, u101_27, u101_30, u101_31, u101_34, u101_37, u101_40, u101_41, u101_42, u101_43, u101_46, u101_47, u101_49, u101_52, u101_55, u101_56, hc.2.2.1, q, hd, e14, h2d, eq_false cv, mj_zT, mj_n10, mj_cc_v, mj_cc_n, List.all_cons, List.all_nil, mj_noMk_int, mj_noMk_long, mj_noMk_ref, mj_noMk_junk, List.length_nil, List.length_cons, Nat.zero_le, Nat.reduceLeDiff, Nat.reduceAdd, Bool.and_true, Bool.true_and, Bool.and_self, Nat.reduceBNe, true_or, or_true, true_and, and_true, mj_z0, mj_z1, mj_z01, decide_true, decide_false, Bool.true_and, Bool.false_and, Bool.and_true, Bool.and_false, Bool.true_or, Bool.false_or, Bool.or_false, Bool.or_true, Bool.not_true, Bool.not_false, Bool.and_self, Bool.or_self, if_true, if_false, Bool.true_eq_false, Bool.false_eq_true, not_true, not_false_eq_true]
end
