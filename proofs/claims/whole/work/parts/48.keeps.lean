section
variable {X : mj_X} {d : Nat} {σ τ : mj_St}
theorem mj_Fr_c {c : Nat} (h : mj_Fr σ τ) (a : c ≠ 61 := by decide) (b : c ≠ 86 := by decide) (e : c ≠ 87 := by decide) (f : c ≠ 88 := by decide) : τ.1 c = σ.1 c := h.2.1 c a b e f
theorem mj_Fr_Gopn (F : mj_Fr σ τ) : mj_Gopn τ = mj_Gopn σ := by
  funext h o mt l k
  unfold mj_Gopn
  rw [mj_Fr_c F (c := 64), mj_Fr_c F (c := 65), mj_Fr_c F (c := 66), mj_Fr_c F (c := 67), mj_Fr_c F (c := 69), mj_Fr_c F (c := 70), mj_Fr_c F (c := 71), mj_Fr_c F (c := 74), mj_Fr_c F (c := 75), F.2.2 46 (by decide) (by decide)]
theorem mj_Fr_Gset (F : mj_Fr σ τ) : mj_Gset τ = mj_Gset σ := by
  funext h o mt l n
  unfold mj_Gset
  rw [mj_Fr_Gopn F]
theorem mj_Fr_bar (F : mj_Fr σ τ) : mj_bar τ = mj_bar σ := by
  funext h o mt k
  unfold mj_bar
  rw [mj_Fr_c F (c := 65), mj_Fr_c F (c := 66), mj_Fr_c F (c := 67), mj_Fr_c F (c := 70), mj_Fr_c F (c := 71)]
theorem mj_Fr_Mbars (F : mj_Fr σ τ) : mj_Mbars τ = mj_Mbars σ := by
  funext s h o mt n
  unfold mj_Mbars
  rw [mj_Fr_bar F, mj_Fr_c F (c := 63), mj_Fr_c F (c := 65), mj_Fr_c F (c := 68)]
theorem mj_Fr_bhf (F : mj_Fr σ τ) : mj_bhf τ = mj_bhf σ := by
  funext h s o mt w k
  unfold mj_bhf mj_bh2 mj_bh3
  rw [mj_Fr_c F (c := 65), mj_Fr_c F (c := 66), mj_Fr_c F (c := 67), mj_Fr_c F (c := 70), mj_Fr_c F (c := 71), mj_Fr_c F (c := 74), mj_Fr_c F (c := 75)]
theorem mj_Fr_nxd (F : mj_Fr σ τ) : mj_nxd τ = mj_nxd σ := by
  funext h s o mt l k
  unfold mj_nxd
  rw [mj_Fr_bhf F]
theorem mj_Fr_nxl (F : mj_Fr σ τ) : mj_nxl τ = mj_nxl σ := by
  funext h s o mt l n
  unfold mj_nxl
  rw [mj_Fr_bhf F, mj_Fr_c F (c := 65)]
theorem mj_Fr_wc (F : mj_Fr σ τ) : mj_wc τ = mj_wc σ := by
  funext n
  unfold mj_wc
  rw [mj_Fr_c F (c := 65)]
theorem mj_Fr_cno (F : mj_Fr σ τ) : mj_cno τ = mj_cno σ := by
  funext l n
  unfold mj_cno
  rw [mj_Fr_wc F, mj_Fr_c F (c := 65), mj_Fr_c F (c := 84)]
theorem mj_Fr_Rdy {N : Nat} (F : mj_Fr σ τ) (h : mj_Rdy σ N) : mj_Rdy τ N := by
  unfold mj_Rdy mj_Pw mj_Mok at h ⊢
  rw [mj_Fr_wc F, mj_Fr_c F (c := 65), mj_Fr_c F (c := 68), mj_Fr_c F (c := 69), mj_Fr_c F (c := 70), mj_Fr_c F (c := 75), mj_Fr_c F (c := 84), mj_Fr_c F (c := 85), F.2.2 0 (by decide) (by decide)]
  exact h
/-- a set may be done and none gets lost -/
def mj_gok (σ : mj_St) (h o mt : Int32) (N : Nat) (l : Nat → Int32) (s : Nat) : Bool := decide (nI s &&& (mj_Gset σ h o mt l N ^^^ -1) = 0) && (decide (mj_Mbars σ (nI s) h o mt N = 0) && decide (mj_nxl σ h (nI s) o mt l N = 0))
/-- all can be kept in the last r hours -/
def mj_Kp (σ : mj_St) (o mt : Int32) (N : Nat) : Nat → (Nat → Int32) → Bool
  | 0, _ => true
  | r + 1, l => mj_anyF (fun s => mj_gok σ (nI (11 - r)) o mt N l s && mj_Kp σ o mt N r (mj_nxd σ (nI (11 - r)) (nI s) o mt l)) 0 512
def mj_fst (p : Nat → Bool) : Nat → Nat → Int32
  | _, 0 => -1
  | s, j + 1 => if p s = true then nI s else mj_fst p (s + 1) j
theorem mj_fst_none {p : Nat → Bool} : ∀ (j s : Nat), (∀ i, s ≤ i → i < s + j → p i = false) → mj_fst p s j = -1 := by
  intro j
  induction j with
  | zero => intro s _; rfl
  | succ j ih =>
    intro s h
    show (if p s = true then nI s else mj_fst p (s + 1) j) = -1
    rw [h s (Nat.le_refl _) (by omega)]
    exact ih (s + 1) (fun i a b => h i (by omega) (by omega))
theorem mj_fst_any {p : Nat → Bool} : ∀ (j s : Nat), s + j ≤ 2147483648 → (mj_fst p s j = -1) = (mj_anyF p s j = false) := by
  intro j
  induction j with
  | zero => intro s _; simp [mj_fst, mj_anyF]
  | succ j ih =>
    intro s hs
    simp only [mj_fst, mj_anyF]
    cases hp : p s
    · simp only [Bool.false_eq_true, if_false, Bool.false_or]
      exact ih (s + 1) (by omega)
    · simp only [if_true, Bool.true_or, Bool.true_eq_false]
      apply eq_false
      intro h
      have := congrArg Int32.toInt h
      rw [nI_toInt (show s < 2 ^ 31 by omega)] at this
      have e : (-1 : Int32).toInt = -1 := by decide
      omega
theorem mj_b_nI {s k : Nat} (hs : s < 2 ^ 32) : mj_b (nI s) k = s.testBit k := by
  have e : (nI s).toBitVec = BitVec.ofNat 32 s := rfl
  unfold mj_b
  rw [e, BitVec.getLsbD_ofNat]
  by_cases h : k < 32
  · simp [h]
  · have : s.testBit k = false := Nat.testBit_lt_two_pow (Nat.lt_of_lt_of_le hs (Nat.pow_le_pow_right (by decide) (by omega)))
    simp [h, this]
theorem mj_sub_b {a b : Int32} {k : Nat} (h : a &&& (b ^^^ -1) = 0) (hk : mj_b a k = true) : mj_b b k = true := by
  have h32 : k < 32 := by
    apply Classical.byContradiction
    intro q
    rw [mj_b_big (by omega)] at hk
    cases hk
  have e := congrArg (fun x => mj_b x k) h
  simp only [mj_b_and, mj_b_not h32, mj_b_0, hk, Bool.true_and] at e
  simpa using e
theorem mj_sub_le {s m : Nat} (hs : s < 2 ^ 31) (hm : m < 2 ^ 31) (h : nI s &&& (nI m ^^^ -1) = 0) : s ≤ m := by
  apply Nat.le_of_testBit
  intro i hi
  have := mj_sub_b h (k := i) (by rw [mj_b_nI (by omega)]; exact hi)
  rwa [mj_b_nI (by omega)] at this
theorem mj_gok_le {h o mt : Int32} {N s m : Nat} {l : Nat → Int32} (hm : m < 512) (e : mj_Gset σ h o mt l N = nI m) (hs : s < 512) (hg : mj_gok σ h o mt N l s = true) : s ≤ m := by
  unfold mj_gok at hg
  rw [e] at hg
  simp only [Bool.and_eq_true, decide_eq_true_eq] at hg
  exact mj_sub_le (by omega) (by omega) hg.1
theorem mj_Gset_bit {h o mt : Int32} {N i : Nat} {l : Nat → Int32} (h9 : N ≤ 9) (hb : mj_b (mj_Gset σ h o mt l N) i = true) (hi : i < 32) : mj_Gopn σ h o mt l i = true := by
  rw [mj_Gset_fb, mj_fb_b hi N (by omega)] at hb
  simp only [Bool.and_eq_true] at hb
  exact hb.2
theorem mj_Gopn_ne {h o mt : Int32} {i : Nat} {l : Nat → Int32} (hg : mj_Gopn σ h o mt l i = true) : ¬ l i = 0 := by
  unfold mj_Gopn at hg
  simp only [Bool.and_eq_true, decide_eq_true_eq] at hg
  exact hg.2.2.2.2.2.2.1
/-- what the least allowed set says -/
def mj_pk (σ : mj_St) (o mt : Int32) (N r : Nat) (l : Nat → Int32) (s : Nat) : Bool := mj_gok σ (nI (11 - r)) o mt N l s && mj_Kp σ o mt N r (mj_nxd σ (nI (11 - r)) (nI s) o mt l)
/-- what is meant by a keeping's answer: its state is the same but for the marks -/
def mj_KS (X : mj_X) (σ : mj_St) (G : Int32 → Int32 → Prop) (N r : Nat) : Prop := ∀ (τ : mj_St) (l : Nat → Int32), mj_Fr σ τ → mj_Tab τ G → mj_Dg l N → ∃ ρ, mj_Fr σ ρ ∧ mj_Tab ρ G ∧ ∀ d, mj_ev X (d + 2 * r + 3) 199 [.ref 61, .int (nI (12 - r)), .int (mj_cno σ l N)] τ = some (some (.int (mj_z (mj_Kp σ (σ.1 61 53) (σ.1 61 54) N r l))), ρ)
theorem sp_M_firstSet {G : Int32 → Int32 → Prop} {N r : Nat} {l : Nat → Int32} {least : Nat} (hR : mj_Rdy σ N) (hr : r < 12) (K : mj_KS X σ G N r) (F : mj_Fr σ τ) (T : mj_Tab τ G) (D : mj_Dg l N) (hl : least ≤ 512) : ∃ ρ, mj_Fr σ ρ ∧ mj_Tab ρ G ∧ ∀ d, mj_ev X (d + 2 * r + 4) 202 [.ref 61, .int (nI (11 - r)), .int (mj_cno σ l N), .int (nI least)] τ = some (some (.int (mj_fst (mj_pk σ (σ.1 61 53) (σ.1 61 54) N r l) least (512 - least))), ρ) := by
  obtain ⟨m, hm, hop⟩ := mj_fb_lt (p := mj_Gopn σ (nI (11 - r)) (σ.1 61 53) (σ.1 61 54) l) (n := N) (by have := hR.2.1; omega)
  have hm9 : m < 512 := by
    have : 2 ^ N ≤ 2 ^ 9 := Nat.pow_le_pow_right (by decide) hR.2.1
    omega
  replace hop : mj_Gset σ (nI (11 - r)) (σ.1 61 53) (σ.1 61 54) l N = nI m := hop
  have h11 : mj_inb (nI (11 - r)) 12 = true := mj_in_nI (by omega) (by decide)
  have e12 : nI (11 - r) + 1 = nI (12 - r) := by rw [nI_1]; congr 1; omega
  have loop : ∀ (j s : Nat) (τ : mj_St) (v6 : Value), mj_noMk v6 = true → s + j = 512 → mj_Fr σ τ → mj_Tab τ G → ∃ ρ, mj_Fr σ ρ ∧ mj_Tab ρ G ∧ ∀ d, mj_Runs X (mj_ev X (d + 2 * r + 3)) 6 (some .int) prog_8_method_53_code (19, [.ref 61, .int (nI (11 - r)), .int (mj_cno σ l N), .int (nI least), .int (nI m), .int (nI s), v6], [], τ) (some (.int (mj_fst (mj_pk σ (σ.1 61 53) (σ.1 61 54) N r l) s j)), ρ) := by
    intro j
    induction j with
    | zero =>
      intro s τ v6 hv hs F T
      refine ⟨τ, F, T, fun d => ?_⟩
      refine u202_19.mpr ?_
      have h1 : nI m < nI s := nI_lt (by omega) (by omega)
      simp only [u202_0, u202_1, u202_2, u202_3, u202_4, u202_7, u202_8, u202_11, u202_14, u202_16, u202_17, u202_21, u202_23, u202_26, u202_28, u202_30, u202_31, u202_32, u202_33, u202_36, u202_37, u202_39, u202_40, u202_41, u202_44, u202_45, u202_48, u202_51, u202_54, u202_57, u202_58, u202_59, u202_60, u202_62, u202_63, u202_66, u202_67, u202_70, u202_73, u202_75, u202_76, u202_79, u202_82, u202_83, u202_84, u202_85, u202_86, u202_88, u202_91, u202_94, u202_96, u202_97, u202_100, u202_103, u202_104, h1, if_true, mj_fst]
    | succ j ih =>
      intro s τ v6 hv hs F T
      by_cases c0 : m < s
      · refine ⟨τ, F, T, fun d => ?_⟩
        refine u202_19.mpr ?_
        have h1 : nI m < nI s := nI_lt (by omega) (by omega)
        have e := mj_fst_none (p := mj_pk σ (σ.1 61 53) (σ.1 61 54) N r l) (j + 1) s (fun i a b => by
          cases hg : mj_gok σ (nI (11 - r)) (σ.1 61 53) (σ.1 61 54) N l i
          · simp [mj_pk, hg]
          · have := mj_gok_le hm9 hop (by omega) hg
            omega)
        rw [e]
        simp only [u202_0, u202_1, u202_2, u202_3, u202_4, u202_7, u202_8, u202_11, u202_14, u202_16, u202_17, u202_21, u202_23, u202_26, u202_28, u202_30, u202_31, u202_32, u202_33, u202_36, u202_37, u202_39, u202_40, u202_41, u202_44, u202_45, u202_48, u202_51, u202_54, u202_57, u202_58, u202_59, u202_60, u202_62, u202_63, u202_66, u202_67, u202_70, u202_73, u202_75, u202_76, u202_79, u202_82, u202_83, u202_84, u202_85, u202_86, u202_88, u202_91, u202_94, u202_96, u202_97, u202_100, u202_103, u202_104, h1, if_true]
      · have h1 : ¬ nI m < nI s := nI_nlt (by omega) (by omega)
        have hR' := mj_Fr_Rdy F hR
        have e53 := F.2.2 53 (by decide) (by decide)
        have e54 := F.2.2 54 (by decide) (by decide)
        have hb : ∀ d, mj_ev X (d + 2 * r + 3) 207 [.ref 61, .int (nI s), .int (nI (11 - r)), .int (σ.1 61 53), .int (σ.1 61 54)] τ = some (some (.int (mj_Mbars σ (nI s) (nI (11 - r)) (σ.1 61 53) (σ.1 61 54) N)), τ) := fun d => by
          have q := sp_M_bars (X := X) (d := d + 2 * r) (σ := τ) (set := nI s) (h := nI (11 - r)) (o := σ.1 61 53) (mt := σ.1 61 54) hR'.1 hR'.2.1 hR'.2.2.2.1 hR'.2.2.2.2.2.2 h11
          rw [mj_Fr_Mbars F] at q
          exact q
        have hbh : ∀ d, mj_ev X (d + 2 * r + 3) 210 [.ref 61, .int (nI (11 - r)), .int (mj_cno σ l N), .int (nI s), .int (σ.1 61 53), .int (σ.1 61 54)] τ = some (some (.int (mj_cno σ (mj_nxd σ (nI (11 - r)) (nI s) (σ.1 61 53) (σ.1 61 54) l) N)), mj_setI τ 61 47 (mj_nxl σ (nI (11 - r)) (nI s) (σ.1 61 53) (σ.1 61 54) l N)) := fun d => by
          have q := sp_M_behind (X := X) (d := d + 2 * r + 1) (σ := τ) (set := nI s) (h := nI (11 - r)) (code := mj_cno τ l N) (o := σ.1 61 53) (mt := σ.1 61 54) hR'.1 hR'.2.1 hR'.2.2.1 hR'.2.2.2.1
          rw [mj_bhd_N hR' D, mj_Fr_cno F, mj_Fr_nxd F, mj_Fr_nxl F] at q
          exact q
        simp only [mj_fst]
        by_cases c1 : nI s &&& (nI m ^^^ -1) = 0
        · by_cases c2 : mj_Mbars σ (nI s) (nI (11 - r)) (σ.1 61 53) (σ.1 61 54) N = 0
          · have D' : mj_Dg (mj_nxd σ (nI (11 - r)) (nI s) (σ.1 61 53) (σ.1 61 54) l) N := mj_nxd_Dg D (fun i hi hb => mj_Gopn_ne (mj_Gset_bit hR.2.1 (by rw [hop]; exact mj_sub_b c1 hb) (by have := hR.2.1; omega)))
            by_cases c3 : mj_nxl σ (nI (11 - r)) (nI s) (σ.1 61 53) (σ.1 61 54) l N = 0
            · obtain ⟨ρ, F2, T2, hk⟩ := K (mj_setI τ 61 47 0) _ (mj_Fr_tr F mj_Fr_47) (mj_Tab_47 T) D'
              have hg : mj_gok σ (nI (11 - r)) (σ.1 61 53) (σ.1 61 54) N l s = true := by
                unfold mj_gok
                rw [hop]
                simp only [c1, c2, c3, decide_true, Bool.and_self]
              cases c4 : mj_Kp σ (σ.1 61 53) (σ.1 61 54) N r (mj_nxd σ (nI (11 - r)) (nI s) (σ.1 61 53) (σ.1 61 54) l)
              · obtain ⟨ρ2, F3, T3, hk2⟩ := ih (s + 1) ρ (.int (mj_cno σ (mj_nxd σ (nI (11 - r)) (nI s) (σ.1 61 53) (σ.1 61 54) l) N)) rfl (by omega) F2 T2
                refine ⟨ρ2, F3, T3, fun d => ?_⟩
                rw [c4] at hk
                refine u202_19.mpr ?_
                have ep : mj_pk σ (σ.1 61 53) (σ.1 61 54) N r l s = false := by unfold mj_pk; rw [c4, Bool.and_false]
                simp only [u202_0, u202_1, u202_2, u202_3, u202_4, u202_7, u202_8, u202_11, u202_14, u202_16, u202_17, u202_21, u202_23, u202_26, u202_28, u202_30, u202_31, u202_32, u202_33, u202_36, u202_37, u202_39, u202_40, u202_41, u202_44, u202_45, u202_48, u202_51, u202_54, u202_57, u202_58, u202_59, u202_60, u202_62, u202_63, u202_66, u202_67, u202_70, u202_73, u202_75, u202_76, u202_79, u202_82, u202_83, u202_84, u202_85, u202_86, u202_88, u202_91, u202_94, u202_96, u202_97, u202_100, u202_103, u202_104, hv, h1, c1, e53, e54, hb d, hbh d, c2, c3, mj_T_47, e12, hk d, ep, mj_setI_ne, mj_cc_v, mj_cc_n, List.all_cons, List.all_nil, mj_noMk_int, mj_noMk_long, mj_noMk_ref, mj_noMk_junk, List.length_nil, List.length_cons, Nat.zero_le, Nat.reduceLeDiff, Nat.reduceAdd, Bool.and_true, Bool.true_and, Bool.and_self, Nat.reduceBNe, true_or, or_true, true_and, and_true, mj_z0, mj_z1, mj_z01, decide_true, decide_false, Bool.true_and, Bool.false_and, Bool.and_true, Bool.and_false, Bool.true_or, Bool.false_or, Bool.or_false, Bool.or_true, Bool.not_true, Bool.not_false, Bool.and_self, Bool.or_self, if_true, if_false, Bool.true_eq_false, Bool.false_eq_true, not_true, not_false_eq_true, nI_1]
                exact hk2 d
              · refine ⟨ρ, F2, T2, fun d => ?_⟩
                rw [c4] at hk
                refine u202_19.mpr ?_
                have ep : mj_pk σ (σ.1 61 53) (σ.1 61 54) N r l s = true := by unfold mj_pk; rw [c4, hg]; rfl
                simp only [u202_0, u202_1, u202_2, u202_3, u202_4, u202_7, u202_8, u202_11, u202_14, u202_16, u202_17, u202_21, u202_23, u202_26, u202_28, u202_30, u202_31, u202_32, u202_33, u202_36, u202_37, u202_39, u202_40, u202_41, u202_44, u202_45, u202_48, u202_51, u202_54, u202_57, u202_58, u202_59, u202_60, u202_62, u202_63, u202_66, u202_67, u202_70, u202_73, u202_75, u202_76, u202_79, u202_82, u202_83, u202_84, u202_85, u202_86, u202_88, u202_91, u202_94, u202_96, u202_97, u202_100, u202_103, u202_104, hv, h1, c1, e53, e54, hb d, hbh d, c2, c3, mj_T_47, e12, hk d, ep, mj_cc_v, mj_cc_n, List.all_cons, List.all_nil, mj_noMk_int, mj_noMk_long, mj_noMk_ref, mj_noMk_junk, List.length_nil, List.length_cons, Nat.zero_le, Nat.reduceLeDiff, Nat.reduceAdd, Bool.and_true, Bool.true_and, Bool.and_self, Nat.reduceBNe, true_or, or_true, true_and, and_true, mj_z0, mj_z1, mj_z01, decide_true, decide_false, Bool.true_and, Bool.false_and, Bool.and_true, Bool.and_false, Bool.true_or, Bool.false_or, Bool.or_false, Bool.or_true, Bool.not_true, Bool.not_false, Bool.and_self, Bool.or_self, if_true, if_false, Bool.true_eq_false, Bool.false_eq_true, not_true, not_false_eq_true, nI_1]
            · obtain ⟨ρ2, F3, T3, hk2⟩ := ih (s + 1) (mj_setI τ 61 47 (mj_nxl σ (nI (11 - r)) (nI s) (σ.1 61 53) (σ.1 61 54) l N)) (.int (mj_cno σ (mj_nxd σ (nI (11 - r)) (nI s) (σ.1 61 53) (σ.1 61 54) l) N)) rfl (by omega) (mj_Fr_tr F mj_Fr_47) (mj_Tab_47 T)
              refine ⟨ρ2, F3, T3, fun d => ?_⟩
              refine u202_19.mpr ?_
              have ep : mj_pk σ (σ.1 61 53) (σ.1 61 54) N r l s = false := by
                unfold mj_pk mj_gok
                simp only [c3, decide_false, Bool.and_false, Bool.false_and]
              simp only [u202_0, u202_1, u202_2, u202_3, u202_4, u202_7, u202_8, u202_11, u202_14, u202_16, u202_17, u202_21, u202_23, u202_26, u202_28, u202_30, u202_31, u202_32, u202_33, u202_36, u202_37, u202_39, u202_40, u202_41, u202_44, u202_45, u202_48, u202_51, u202_54, u202_57, u202_58, u202_59, u202_60, u202_62, u202_63, u202_66, u202_67, u202_70, u202_73, u202_75, u202_76, u202_79, u202_82, u202_83, u202_84, u202_85, u202_86, u202_88, u202_91, u202_94, u202_96, u202_97, u202_100, u202_103, u202_104, hv, h1, c1, e53, e54, hb d, hbh d, c2, c3, mj_T_47, ep, mj_cc_v, mj_cc_n, List.all_cons, List.all_nil, mj_noMk_int, mj_noMk_long, mj_noMk_ref, mj_noMk_junk, List.length_nil, List.length_cons, Nat.zero_le, Nat.reduceLeDiff, Nat.reduceAdd, Bool.and_true, Bool.true_and, Bool.and_self, Nat.reduceBNe, true_or, or_true, true_and, and_true, mj_z0, mj_z1, mj_z01, decide_true, decide_false, Bool.true_and, Bool.false_and, Bool.and_true, Bool.and_false, Bool.true_or, Bool.false_or, Bool.or_false, Bool.or_true, Bool.not_true, Bool.not_false, Bool.and_self, Bool.or_self, if_true, if_false, Bool.true_eq_false, Bool.false_eq_true, not_true, not_false_eq_true, nI_1]
              exact hk2 d
          · obtain ⟨ρ2, F3, T3, hk2⟩ := ih (s + 1) τ v6 hv (by omega) F T
            refine ⟨ρ2, F3, T3, fun d => ?_⟩
            refine u202_19.mpr ?_
            have ep : mj_pk σ (σ.1 61 53) (σ.1 61 54) N r l s = false := by
              unfold mj_pk mj_gok
              simp only [c2, decide_false, Bool.and_false, Bool.false_and]
            simp only [u202_0, u202_1, u202_2, u202_3, u202_4, u202_7, u202_8, u202_11, u202_14, u202_16, u202_17, u202_21, u202_23, u202_26, u202_28, u202_30, u202_31, u202_32, u202_33, u202_36, u202_37, u202_39, u202_40, u202_41, u202_44, u202_45, u202_48, u202_51, u202_54, u202_57, u202_58, u202_59, u202_60, u202_62, u202_63, u202_66, u202_67, u202_70, u202_73, u202_75, u202_76, u202_79, u202_82, u202_83, u202_84, u202_85, u202_86, u202_88, u202_91, u202_94, u202_96, u202_97, u202_100, u202_103, u202_104, hv, h1, c1, e53, e54, hb d, c2, ep, mj_cc_v, mj_cc_n, List.all_cons, List.all_nil, mj_noMk_int, mj_noMk_long, mj_noMk_ref, mj_noMk_junk, List.length_nil, List.length_cons, Nat.zero_le, Nat.reduceLeDiff, Nat.reduceAdd, Bool.and_true, Bool.true_and, Bool.and_self, Nat.reduceBNe, true_or, or_true, true_and, and_true, mj_z0, mj_z1, mj_z01, decide_true, decide_false, Bool.true_and, Bool.false_and, Bool.and_true, Bool.and_false, Bool.true_or, Bool.false_or, Bool.or_false, Bool.or_true, Bool.not_true, Bool.not_false, Bool.and_self, Bool.or_self, if_true, if_false, Bool.true_eq_false, Bool.false_eq_true, not_true, not_false_eq_true, nI_1]
            exact hk2 d
        · obtain ⟨ρ2, F3, T3, hk2⟩ := ih (s + 1) τ v6 hv (by omega) F T
          refine ⟨ρ2, F3, T3, fun d => ?_⟩
          refine u202_19.mpr ?_
          have ep : mj_pk σ (σ.1 61 53) (σ.1 61 54) N r l s = false := by
            unfold mj_pk mj_gok
            rw [hop]
            simp only [c1, decide_false, Bool.false_and]
          simp only [u202_0, u202_1, u202_2, u202_3, u202_4, u202_7, u202_8, u202_11, u202_14, u202_16, u202_17, u202_21, u202_23, u202_26, u202_28, u202_30, u202_31, u202_32, u202_33, u202_36, u202_37, u202_39, u202_40, u202_41, u202_44, u202_45, u202_48, u202_51, u202_54, u202_57, u202_58, u202_59, u202_60, u202_62, u202_63, u202_66, u202_67, u202_70, u202_73, u202_75, u202_76, u202_79, u202_82, u202_83, u202_84, u202_85, u202_86, u202_88, u202_91, u202_94, u202_96, u202_97, u202_100, u202_103, u202_104, hv, h1, c1, ep, mj_cc_v, mj_cc_n, List.all_cons, List.all_nil, mj_noMk_int, mj_noMk_long, mj_noMk_ref, mj_noMk_junk, List.length_nil, List.length_cons, Nat.zero_le, Nat.reduceLeDiff, Nat.reduceAdd, Bool.and_true, Bool.true_and, Bool.and_self, Nat.reduceBNe, true_or, or_true, true_and, and_true, mj_z0, mj_z1, mj_z01, decide_true, decide_false, Bool.true_and, Bool.false_and, Bool.and_true, Bool.and_false, Bool.true_or, Bool.false_or, Bool.or_false, Bool.or_true, Bool.not_true, Bool.not_false, Bool.and_self, Bool.or_self, if_true, if_false, Bool.true_eq_false, Bool.false_eq_true, not_true, not_false_eq_true, nI_1]
          exact hk2 d
  obtain ⟨ρ, F2, T2, hq⟩ := loop (512 - least) least τ mj_junk rfl (by omega) F T
  refine ⟨ρ, F2, T2, fun d => ?_⟩
  refine st202 ?_
  have hR' := mj_Fr_Rdy F hR
  have e53 := F.2.2 53 (by decide) (by decide)
  have e54 := F.2.2 54 (by decide) (by decide)
  have ho : mj_ev X (d + 2 * r + 3) 203 [.ref 61, .int (nI (11 - r)), .int (mj_cno σ l N), .int (σ.1 61 53), .int (σ.1 61 54)] τ = some (some (.int (nI m)), τ) := by
    have q := sp_M_openSet (X := X) (d := d + 2 * r) (σ := τ) (h := nI (11 - r)) (code := mj_cno τ l N) (o := σ.1 61 53) (mt := σ.1 61 54) hR'.1 hR'.2.1 hR'.2.2.1 hR'.2.2.2.1
    rw [mj_oset_l hR' D, mj_Fr_Gset F, hop, mj_Fr_cno F] at q
    exact q
  simp only [u202_0, u202_1, u202_2, u202_3, u202_4, u202_7, u202_8, u202_11, u202_14, u202_16, u202_17, u202_21, u202_23, u202_26, u202_28, u202_30, u202_31, u202_32, u202_33, u202_36, u202_37, u202_39, u202_40, u202_41, u202_44, u202_45, u202_48, u202_51, u202_54, u202_57, u202_58, u202_59, u202_60, u202_62, u202_63, u202_66, u202_67, u202_70, u202_73, u202_75, u202_76, u202_79, u202_82, u202_83, u202_84, u202_85, u202_86, u202_88, u202_91, u202_94, u202_96, u202_97, u202_100, u202_103, u202_104, e53, e54, ho, mj_cc_v, mj_cc_n, List.all_cons, List.all_nil, mj_noMk_int, mj_noMk_long, mj_noMk_ref, mj_noMk_junk, List.length_nil, List.length_cons, Nat.zero_le, Nat.reduceLeDiff, Nat.reduceAdd, Bool.and_true, Bool.true_and, Bool.and_self, Nat.reduceBNe, true_or, or_true, true_and, and_true, mj_z0, mj_z1, mj_z01]
  exact hq d
end
