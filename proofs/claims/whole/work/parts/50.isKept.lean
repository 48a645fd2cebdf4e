section
variable {X : mj_X} {d : Nat} {σ τ : mj_St}
/-- the same game -/
def mj_Sm (σ τ : mj_St) : Prop := (∀ c, c ≠ 61 → c ≠ 85 → c ≠ 86 → c ≠ 87 → c ≠ 88 → τ.1 c = σ.1 c) ∧ τ.1 61 46 = σ.1 61 46
theorem mj_Sm_c {c : Nat} (h : mj_Sm σ τ) (a : c ≠ 61 := by decide) (g : c ≠ 85 := by decide) (b : c ≠ 86 := by decide) (e : c ≠ 87 := by decide) (f : c ≠ 88 := by decide) : τ.1 c = σ.1 c := h.1 c a g b e f
theorem mj_Sm_Gopn (F : mj_Sm σ τ) : mj_Gopn τ = mj_Gopn σ := by
  funext h o mt l k
  unfold mj_Gopn
  rw [mj_Sm_c F (c := 64), mj_Sm_c F (c := 65), mj_Sm_c F (c := 66), mj_Sm_c F (c := 67), mj_Sm_c F (c := 69), mj_Sm_c F (c := 70), mj_Sm_c F (c := 71), mj_Sm_c F (c := 74), mj_Sm_c F (c := 75), F.2]
theorem mj_Sm_Gset (F : mj_Sm σ τ) : mj_Gset τ = mj_Gset σ := by
  funext h o mt l n
  unfold mj_Gset
  rw [mj_Sm_Gopn F]
theorem mj_Sm_bar (F : mj_Sm σ τ) : mj_bar τ = mj_bar σ := by
  funext h o mt k
  unfold mj_bar
  rw [mj_Sm_c F (c := 65), mj_Sm_c F (c := 66), mj_Sm_c F (c := 67), mj_Sm_c F (c := 70), mj_Sm_c F (c := 71)]
theorem mj_Sm_Mbars (F : mj_Sm σ τ) : mj_Mbars τ = mj_Mbars σ := by
  funext s h o mt n
  unfold mj_Mbars
  rw [mj_Sm_bar F, mj_Sm_c F (c := 63), mj_Sm_c F (c := 65), mj_Sm_c F (c := 68)]
theorem mj_Sm_bhf (F : mj_Sm σ τ) : mj_bhf τ = mj_bhf σ := by
  funext h s o mt w k
  unfold mj_bhf mj_bh2 mj_bh3
  rw [mj_Sm_c F (c := 65), mj_Sm_c F (c := 66), mj_Sm_c F (c := 67), mj_Sm_c F (c := 70), mj_Sm_c F (c := 71), mj_Sm_c F (c := 74), mj_Sm_c F (c := 75)]
theorem mj_Sm_nxd (F : mj_Sm σ τ) : mj_nxd τ = mj_nxd σ := by
  funext h s o mt l k
  unfold mj_nxd
  rw [mj_Sm_bhf F]
theorem mj_Sm_nxl (F : mj_Sm σ τ) : mj_nxl τ = mj_nxl σ := by
  funext h s o mt l n
  unfold mj_nxl
  rw [mj_Sm_bhf F, mj_Sm_c F (c := 65)]
theorem mj_Sm_gok (F : mj_Sm σ τ) : mj_gok τ = mj_gok σ := by
  funext h o mt n l s
  unfold mj_gok
  rw [mj_Sm_Gset F, mj_Sm_Mbars F, mj_Sm_nxl F]
theorem mj_Sm_Kp (F : mj_Sm σ τ) {o mt : Int32} {N : Nat} : ∀ r l, mj_Kp τ o mt N r l = mj_Kp σ o mt N r l := by
  intro r
  induction r with
  | zero => intro l; rfl
  | succ r ih =>
    intro l
    unfold mj_Kp
    rw [mj_Sm_gok F, mj_Sm_nxd F]
    apply mj_anyF_congr
    intro s _ _
    rw [ih]
/-- the same but for all that a search of the reference leaves -/
def mj_Fq (σ τ : mj_St) : Prop := τ.2 = σ.2 ∧ (∀ c, c ≠ 61 → c ≠ 85 → c ≠ 86 → c ≠ 87 → c ≠ 88 → τ.1 c = σ.1 c) ∧ ∀ i, i ≠ 46 → i ≠ 47 → i ≠ 51 → i ≠ 52 → i ≠ 53 → i ≠ 54 → τ.1 61 i = σ.1 61 i
theorem mj_Fq_rf : mj_Fq σ σ := ⟨rfl, fun _ _ _ _ _ _ => rfl, fun _ _ _ _ _ _ _ => rfl⟩
theorem mj_Fq_tr {ρ : mj_St} (h : mj_Fq σ τ) (g : mj_Fq τ ρ) : mj_Fq σ ρ :=
  ⟨g.1.trans h.1, fun c a b e f q => (g.2.1 c a b e f q).trans (h.2.1 c a b e f q), fun i a b c e f q => (g.2.2 i a b c e f q).trans (h.2.2 i a b c e f q)⟩
theorem mj_Fq_Fr (h : mj_Fr σ τ) : mj_Fq σ τ := ⟨h.1, fun c a _ e f q => h.2.1 c a e f q, fun i _ b _ e _ _ => h.2.2 i b e⟩
/-- what a search of the reference finds: powers, figures and old rounds -/
def mj_Scr (σ : mj_St) (R : Nat) : Prop := mj_Pw σ ∧ (∀ p, p < 16384 → (σ.1 87 p).toInt ≤ (σ.1 61 51).toInt) ∧ (σ.1 61 51).toInt ≤ (R : Int) ∧ -2147483648 ≤ (σ.1 61 51).toInt
/-- a deal of the reference as it always is -/
def mj_Wd (σ : mj_St) (N : Nat) : Prop := σ.1 61 0 = nI N ∧ N ≤ 9 ∧ (∀ k, k < N → mj_Mok σ k) ∧ (∀ k, k < N → ¬ σ.1 69 k = -1 → (σ.1 69 k).toNatClampNeg < N ∧ σ.1 65 (σ.1 69 k).toNatClampNeg < 5) ∧ (∀ k, k < N → σ.1 65 k = 5 → mj_inb (σ.1 68 k) 4 = true) ∧ (∀ k, k < 9 → σ.1 69 k = -1 ∨ mj_inb (σ.1 69 k) 9 = true) ∧ mj_wc σ N ≤ 6 ∧ mj_Dg (mj_lvn σ) N
theorem mj_Fq_Wd {N : Nat} (F : mj_Fq σ τ) (h : mj_Wd σ N) : mj_Wd τ N := by
  have c : ∀ c, c ≠ 61 → c ≠ 85 → c ≠ 86 → c ≠ 87 → c ≠ 88 → τ.1 c = σ.1 c := F.2.1
  have ew : mj_wc τ = mj_wc σ := by
    funext n
    unfold mj_wc
    rw [c 65 (by decide) (by decide) (by decide) (by decide) (by decide)]
  have el : mj_lvn τ = mj_lvn σ := by
    funext n
    unfold mj_lvn
    rw [c 76 (by decide) (by decide) (by decide) (by decide) (by decide), c 77 (by decide) (by decide) (by decide) (by decide) (by decide)]
  unfold mj_Wd mj_Mok at h ⊢
  rw [ew, el, c 65 (by decide) (by decide) (by decide) (by decide) (by decide), c 68 (by decide) (by decide) (by decide) (by decide) (by decide), c 69 (by decide) (by decide) (by decide) (by decide) (by decide), c 70 (by decide) (by decide) (by decide) (by decide) (by decide), c 75 (by decide) (by decide) (by decide) (by decide) (by decide), F.2.2 0 (by decide) (by decide) (by decide) (by decide) (by decide) (by decide)]
  exact h
theorem mj_cq_none {f : Nat → Bool} : ∀ n, (∀ p, p < n → f p = false) → mj_cq f n = 0 := by
  intro n
  induction n with
  | zero => intro _; rfl
  | succ n ih =>
    intro h
    rw [mj_cq_s, h n (by omega)]
    exact ih (fun p hp => h p (by omega))
theorem mj_cnS_Rdy {N : Nat} (h : mj_Wd σ N) (hP : mj_Pw σ) : mj_Rdy (mj_cnS σ N) N := by
  obtain ⟨a, b, c, e, f, -, -, -⟩ := h
  have k : ∀ c, c ≠ 85 → c ≠ 61 → (mj_cnS σ N).1 c = σ.1 c := fun c h1 h2 => mj_cnS_o h1 h2
  have ew : mj_wc (mj_cnS σ N) = mj_wc σ := by
    funext n
    unfold mj_wc
    rw [k 65 (by decide) (by decide)]
  refine ⟨?_, b, mj_cnS_Pw hP, ?_, ?_, ?_, ?_⟩
  · rw [mj_cnS_0]; exact a
  · unfold mj_Mok at c ⊢
    rw [k 68 (by decide) (by decide), k 69 (by decide) (by decide), k 70 (by decide) (by decide), k 75 (by decide) (by decide)]
    exact c
  · intro j hj _
    rw [ew]
    exact mj_cnS_85 hj
  · rw [k 65 (by decide) (by decide), k 69 (by decide) (by decide)]
    exact e
  · rw [k 65 (by decide) (by decide), k 68 (by decide) (by decide)]
    exact f
/-- a search begins: a new round, and what is asked -/
def mj_bgS (σ : mj_St) (o mt : Int32) : mj_St := mj_setI (mj_setI (mj_setI (mj_setI σ 61 51 (σ.1 61 51 + 1)) 61 52 0) 61 53 o) 61 54 mt
theorem mj_bgS_o {o mt : Int32} {c : Nat} (h : c ≠ 61) : (mj_bgS σ o mt).1 c = σ.1 c := by
  unfold mj_bgS
  rw [mj_setI_ne _ _ _ h, mj_setI_ne _ _ _ h, mj_setI_ne _ _ _ h, mj_setI_ne _ _ _ h]
theorem mj_bgS_Fq {o mt : Int32} : mj_Fq σ (mj_bgS σ o mt) := by
  refine ⟨rfl, fun c h _ _ _ _ => mj_bgS_o h, fun i h1 h2 h3 h4 h5 h6 => ?_⟩
  simp [mj_bgS, mj_setI, h3, h4, h5, h6]
theorem mj_cnS_Fq {N : Nat} : mj_Fq σ (mj_cnS σ N) := by
  refine ⟨rfl, fun c h1 h2 _ _ _ => mj_cnS_o h2 h1, fun i h1 h2 h3 h4 h5 h6 => ?_⟩
  simp [mj_cnS, mj_setI, mj_figS, h1]
theorem mj_bgS_Pw {o mt : Int32} (h : mj_Pw σ) : mj_Pw (mj_bgS σ o mt) := by
  unfold mj_Pw at h ⊢
  rw [mj_bgS_o (by decide), mj_bgS_o (by decide)]
  exact h
theorem mj_bgS_Mring {o mt : Int32} {N n : Nat} : mj_Mring (mj_bgS σ o mt) N n = mj_Mring σ N n := by
  unfold mj_Mring mj_Mrg
  rw [mj_bgS_o (by decide), mj_bgS_o (by decide)]
theorem mj_bgS_Sm {o mt : Int32} {N : Nat} : mj_Sm (mj_cnS σ N) (mj_cnS (mj_bgS σ o mt) N) := by
  refine ⟨fun c h1 h2 _ _ _ => ?_, ?_⟩
  · rw [mj_cnS_o h2 h1, mj_cnS_o h2 h1, mj_bgS_o h1]
  · show mj_Mring (mj_bgS σ o mt) N N = mj_Mring σ N N
    rw [mj_bgS_Mring]
theorem mj_bgS_Tab {o mt : Int32} {N R : Nat} {G : Int32 → Int32 → Prop} (h : mj_Scr σ R) (hR : R + 1 < 2147483648) : mj_Tab (mj_cnS (mj_bgS σ o mt) N) G ∧ ((mj_cnS (mj_bgS σ o mt) N).1 61 51).toInt = (σ.1 61 51).toInt + 1 := by
  obtain ⟨-, ho, hr, hr2⟩ := h
  have e51 : (mj_cnS (mj_bgS σ o mt) N).1 61 51 = σ.1 61 51 + 1 := rfl
  have e52 : (mj_cnS (mj_bgS σ o mt) N).1 61 52 = 0 := rfl
  have e87 : (mj_cnS (mj_bgS σ o mt) N).1 87 = σ.1 87 := by rw [mj_cnS_o (by decide) (by decide), mj_bgS_o (by decide)]
  have ei : (σ.1 61 51 + 1).toInt = (σ.1 61 51).toInt + 1 := by
    rw [Int32.toInt_add]
    have e1 : (1 : Int32).toInt = 1 := by decide
    rw [e1, Int.bmod_eq_of_le (by omega) (by omega)]
  have hne : ∀ p, p < 16384 → ¬ σ.1 87 p = σ.1 61 51 + 1 := by
    intro p hp h
    have := ho p hp
    rw [h, ei] at this
    omega
  refine ⟨⟨fun p hp hq => ?_, ⟨0, Nat.zero_le _, ?_, ?_⟩, fun p hp => ?_⟩, ?_⟩
  · rw [e87, e51] at hq
    exact absurd hq (hne p hp)
  · rw [e52]; rfl
  · rw [e51, e87]
    rw [mj_cq_none 16384 (fun p hp => decide_eq_false (hne p hp))]
    exact Nat.le_refl 0
  · rw [e87, e51, ei]
    have := ho p hp
    omega
  · rw [e51, ei]
def mj_Mkept (σ : mj_St) (o mt : Int32) (N w : Nat) : Bool := !(mj_Mls σ mt N) && mj_Kp (mj_cnS σ N) o mt N (12 - w) (mj_lvn σ)
/-- the same, and what the marks say thereafter -/
theorem sp_M_isKept2 {N R w : Nat} {o mt : Int32} {G : Int32 → Int32 → Prop} (hG : mj_GKok (mj_cnS (mj_bgS σ o mt) N) N G) (hW : mj_Wd σ N) (hS : mj_Scr σ R) (hR : R + 1 < 2147483648) (hw : σ.1 61 1 = nI w) (hw12 : w ≤ 12) : ∃ ρ, mj_Fq σ ρ ∧ mj_Scr ρ (R + 1) ∧ (mj_Mkept σ o mt N w = true → mj_Fr (mj_cnS (mj_bgS σ o mt) N) ρ ∧ mj_Tab ρ G) ∧ ∀ d, mj_ev X (d + 28) 193 [.ref 61, .int o, .int mt] σ = some (some (.int (mj_z (mj_Mkept σ o mt N w))), ρ) := by
  have hls : ∀ d, mj_ev X (d + 27) 194 [.ref 61, .int mt] σ = some (some (.int (mj_z (mj_Mls σ mt N))), σ) := fun d => sp_M_isLost (d := d + 25) hW.1 hW.2.1
  unfold mj_Mkept
  cases hl : mj_Mls σ mt N
  · have hW3 := mj_Fq_Wd (mj_bgS_Fq (σ := σ) (o := o) (mt := mt)) hW
    have hRd := mj_cnS_Rdy hW3 (mj_bgS_Pw (o := o) (mt := mt) hS.1)
    have hw6 : mj_wc (mj_cnS (mj_bgS σ o mt) N) N ≤ 6 := by
      have e := (mj_Fq_Wd (mj_cnS_Fq (N := N)) hW3).2.2.2.2.2.2.1
      exact e
    obtain ⟨hT, h51⟩ := mj_bgS_Tab (o := o) (mt := mt) (N := N) (G := G) hS hR
    have hD : mj_Dg (mj_lvn σ) N := hW.2.2.2.2.2.2.2
    obtain ⟨ρ, F, T, hk⟩ := sp_M_keeps (X := X) hRd hG (12 - w) (by omega) (mj_cnS (mj_bgS σ o mt) N) (mj_lvn σ) mj_Fr_rf hT hD
    have hFq := mj_Fq_tr (mj_Fq_tr (mj_bgS_Fq (σ := σ) (o := o) (mt := mt)) (mj_cnS_Fq (N := N))) (mj_Fq_Fr F)
    have hr51 : ρ.1 61 51 = (mj_cnS (mj_bgS σ o mt) N).1 61 51 := F.2.2 51 (by decide) (by decide)
    refine ⟨ρ, hFq, ⟨?_, T.2.2, ?_, ?_⟩, fun _ => ⟨F, T⟩, fun d => ?_⟩
    · exact (mj_Fr_Rdy F hRd).2.2.1
    · rw [hr51, h51]
      have := hS.2.2.1
      omega
    · rw [hr51, h51]
      have := hS.2.2.2
      omega
    · have hkd := hk (d + 24 - 2 * (12 - w))
      have e1 : d + 24 - 2 * (12 - w) + 2 * (12 - w) + 3 = d + 27 := by omega
      have e2 : 12 - (12 - w) = w := by omega
      rw [e1, e2] at hkd
      have e53 : (mj_cnS (mj_bgS σ o mt) N).1 61 53 = o := rfl
      have e54 : (mj_cnS (mj_bgS σ o mt) N).1 61 54 = mt := rfl
      rw [e53, e54, mj_Sm_Kp (mj_bgS_Sm (σ := σ) (o := o) (mt := mt))] at hkd
      have hcn := sp_M_codeNow (X := X) (d := d + 25) (σ := mj_bgS σ o mt) hW3.1 hW3.2.1 hW3.2.2.2.2.2.1
      have el : mj_lvn (mj_bgS σ o mt) = mj_lvn σ := by
        funext i
        unfold mj_lvn
        rw [mj_bgS_o (by decide), mj_bgS_o (by decide)]
      have ec : mj_cno (mj_cnS (mj_bgS σ o mt) N) (mj_lvn σ) N = mj_cno (mj_bgS σ o mt) (mj_lvn σ) N := by
        unfold mj_cno mj_wc
        rw [mj_cnS_o (by decide) (by decide), mj_cnS_o (by decide) (by decide)]
      rw [el] at hcn
      rw [ec] at hkd
      have hbg := sp_M_begins (X := X) (d := d + 26) (σ := σ)
      refine st193 ?_
      have en : (mj_bgS σ o mt).1 61 1 = nI w := hw
      have hcn' : mj_ev X (d + 27) 197 [.ref 61] (mj_setI (mj_setI (mj_setI (mj_setI σ 61 51 (σ.1 61 51 + 1)) 61 52 0) 61 53 o) 61 54 mt) = some (some (.int (mj_cno (mj_bgS σ o mt) (mj_lvn σ) N)), mj_cnS (mj_bgS σ o mt) N) := hcn
      have en' : (mj_setI (mj_setI (mj_setI (mj_setI σ 61 51 (σ.1 61 51 + 1)) 61 52 0) 61 53 o) 61 54 mt).1 61 1 = nI w := hw
      simp only [u193_0, u193_1, u193_2, u193_5, u193_8, u193_9, u193_10, u193_11, u193_14, u193_15, u193_16, u193_19, u193_20, u193_21, u193_24, u193_25, u193_26, u193_29, u193_30, u193_33, u193_36, hls d, hl, hbg, hcn', en', hkd, mj_cc_v, mj_cc_n, List.all_cons, List.all_nil, mj_noMk_int, mj_noMk_long, mj_noMk_ref, mj_noMk_junk, List.length_nil, List.length_cons, Nat.zero_le, Nat.reduceLeDiff, Nat.reduceAdd, Bool.and_true, Bool.true_and, Bool.and_self, Nat.reduceBNe, true_or, or_true, true_and, and_true, mj_z0, mj_z1, mj_z01, decide_true, decide_false, Bool.true_and, Bool.false_and, Bool.and_true, Bool.and_false, Bool.true_or, Bool.false_or, Bool.or_false, Bool.or_true, Bool.not_true, Bool.not_false, Bool.and_self, Bool.or_self, if_true, if_false, Bool.true_eq_false, Bool.false_eq_true, not_true, not_false_eq_true]
      exact (Bool.eq_false_or_eq_true _).symm
  · refine ⟨σ, mj_Fq_rf, ⟨hS.1, hS.2.1, ?_, hS.2.2.2⟩, fun h => ?_, fun d => ?_⟩
    · have := hS.2.2.1
      omega
    · simp at h
    · refine st193 ?_
      simp only [u193_0, u193_1, u193_2, u193_5, u193_8, u193_9, u193_10, u193_11, u193_14, u193_15, u193_16, u193_19, u193_20, u193_21, u193_24, u193_25, u193_26, u193_29, u193_30, u193_33, u193_36, hls d, hl, mj_zF, mj_cc_v, mj_cc_n, List.all_cons, List.all_nil, mj_noMk_int, mj_noMk_long, mj_noMk_ref, mj_noMk_junk, List.length_nil, List.length_cons, Nat.zero_le, Nat.reduceLeDiff, Nat.reduceAdd, Bool.and_true, Bool.true_and, Bool.and_self, Nat.reduceBNe, true_or, or_true, true_and, and_true, mj_z0, mj_z1, mj_z01, decide_true, decide_false, Bool.true_and, Bool.false_and, Bool.and_true, Bool.and_false, Bool.true_or, Bool.false_or, Bool.or_false, Bool.or_true, Bool.not_true, Bool.not_false, Bool.and_self, Bool.or_self, if_true, if_false, Bool.true_eq_false, Bool.false_eq_true, not_true, not_false_eq_true]
theorem mj_bg_GK {N R : Nat} {o mt : Int32} (hW : mj_Wd σ N) (hS : mj_Scr σ R) : mj_GKok (mj_cnS (mj_bgS σ o mt) N) N (mj_GK (mj_cnS (mj_bgS σ o mt) N) N) := by
  have hW3 := mj_Fq_Wd (mj_bgS_Fq (σ := σ) (o := o) (mt := mt)) hW
  have hRd := mj_cnS_Rdy hW3 (mj_bgS_Pw (o := o) (mt := mt) hS.1)
  have hw6 : mj_wc (mj_cnS (mj_bgS σ o mt) N) N ≤ 6 := by
    have e := (mj_Fq_Wd (mj_cnS_Fq (N := N)) hW3).2.2.2.2.2.2.1
    exact e
  exact mj_GK_ok hRd hw6
theorem sp_M_isKept {N R w : Nat} {o mt : Int32} (hW : mj_Wd σ N) (hS : mj_Scr σ R) (hR : R + 1 < 2147483648) (hw : σ.1 61 1 = nI w) (hw12 : w ≤ 12) : ∃ ρ, mj_Fq σ ρ ∧ mj_Scr ρ (R + 1) ∧ ∀ d, mj_ev X (d + 28) 193 [.ref 61, .int o, .int mt] σ = some (some (.int (mj_z (mj_Mkept σ o mt N w))), ρ) := by
  obtain ⟨ρ, a, b, -, c⟩ := sp_M_isKept2 (X := X) (mj_bg_GK hW hS) hW hS hR hw hw12
  exact ⟨ρ, a, b, c⟩
end
