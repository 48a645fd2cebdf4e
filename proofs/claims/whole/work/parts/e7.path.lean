section
variable {σ τ π : mj_St} {D : Nat → Nat → Nat}
theorem mj_fso_D {mt rg : Nat → Bool} {gr o sg : Nat} {L : List Nat} (hS : mj_Sr π D mt rg gr o sg L) (hsg : sg < gr) : ∀ (j h s : Nat) (x : Nat → Nat) (c : Int32), D 14 17 ≤ h → h + j < 12 → mj_Rel D mt L sg sg s x → mj_Cn π D L h sg s → mj_DW D mt rg gr o mj_Qno (12 - h) sg x →
    ∃ k, k < 22 ∧ mj_fso π L.length sg (j + 1) h s c = nI k ∧ mk_pth D mt rg gr o sg (j + 1) h x (mj_nb (mj_igm L k) 9) := by
  have hSch := hS.1.1
  have hB := hS.1.2.1
  intro j
  induction j with
  | zero =>
    intro h s x c hw hh hR hC hW
    have e12 : 12 - h = 11 - h + 1 := by omega
    have e11 : 11 - (11 - h) = h := by omega
    rw [e12] at hW
    obtain ⟨k, k1, k2, k3, k4, k5⟩ := mk_nxc_lst (r := 11 - h) hS hR (by rw [e11]; exact hC) (by omega) hsg hW
    refine ⟨k, k1, ?_, ?_⟩
    · show (if mj_nxc π L.length (11 - h) sg s 0 = -1 then -1 else mj_fso π L.length sg 0 (h + 1) (s - mj_tK (mj_nxc π L.length (11 - h) sg s 0).toNatClampNeg) (mj_nxc π L.length (11 - h) sg s 0)) = nI k
      rw [k2, if_neg (mj_nI_m1 (by omega))]
      rfl
    · exact ⟨_, k5, by rw [if_pos rfl]⟩
  | succ j ih =>
    intro h s x c hw hh hR hC hW
    have e12 : 12 - h = 11 - h + 1 := by omega
    have e11 : 11 - (11 - h) = h := by omega
    rw [e12] at hW
    obtain ⟨k, k1, k2, k3, k4, k5⟩ := mk_nxc_lst (r := 11 - h) hS hR (by rw [e11]; exact hC) (by omega) hsg hW
    rw [e11] at k3
    have hT := hS.2.2.2
    obtain ⟨R, hT⟩ := hT
    have hR' := mj_Rel_nx (u := 0) hS.1 hR k1 k3 hw (fun f hf => by
      rw [Nat.zero_testBit] at hf
      exact absurd hf (by decide))
    have hC' := mj_Cns_nx (u := 0) hT hC k1 hsg hw (by omega) k3 (fun hlt => (mj_nws_new hSch hB hsg (by omega) hlt).mpr mj_newD_0)
    rw [Nat.or_zero] at hR' hC'
    have hW' := k4.2 0 mj_newD_0
    rw [Nat.or_zero, show 11 - h = 12 - (h + 1) by omega] at hW'
    obtain ⟨k', a1, a2, a3⟩ := ih (h + 1) _ _ (nI k) (by omega) (by omega) hR' hC' hW'
    refine ⟨k', a1, ?_, ?_⟩
    · show (if mj_nxc π L.length (11 - h) sg s 0 = -1 then -1 else mj_fso π L.length sg (j + 1) (h + 1) (s - mj_tK (mj_nxc π L.length (11 - h) sg s 0).toNatClampNeg) (mj_nxc π L.length (11 - h) sg s 0)) = nI k'
      rw [k2, if_neg (mj_nI_m1 (by omega)), nI_clamp (by omega)]
      exact a2
    · refine ⟨_, k5, ?_⟩
      rw [if_neg (Nat.succ_ne_zero j), mj_sb_nb hSch]
      exact a3
theorem mj_pr_Sr {set : Int32} {gr o : Nat} (hD : mj_isD σ D) (hk : mj_okD D) (hc : mj_pc σ (D 14 14) (D 14 17)) (he : mj_pe σ) (hgr : gr = 1 ∨ gr = 8) (ho : o < 8) (hb : ∀ i, (D 14 16).testBit i = true → i < D 14 14) (hl : mj_nl D (mj_b set)) (hw : D 14 17 < 12) :
    mj_Sr (mj_prS σ set gr (nI o) (D 14 14) (D 14 17)) D (mj_b set) (mj_b (mj_ring σ (D 14 14))) gr o (mj_sgr σ (D 14 14) gr).toNatClampNeg (mj_plL (mj_q3 σ set gr (nI o) (D 14 14)) (D 14 14)) ∧
    mj_Rel D (mj_b set) (mj_plL (mj_q3 σ set gr (nI o) (D 14 14)) (D 14 14)) (mj_sgr σ (D 14 14) gr).toNatClampNeg (mj_sgr σ (D 14 14) gr).toNatClampNeg (mj_sto σ set gr (nI o) (D 14 14)) (D 25) ∧
    mj_Cn (mj_prS σ set gr (nI o) (D 14 14) (D 14 17)) D (mj_plL (mj_q3 σ set gr (nI o) (D 14 14)) (D 14 14)) (D 14 17) (mj_sgr σ (D 14 14) gr).toNatClampNeg (mj_sto σ set gr (nI o) (D 14 14)) := by
  have hp0 := (mj_hp0_D (set := set) hD hk hb).mpr hl
  have h17 := hk.2.2.1
  have hE := mj_pr_Env hD hk hc hgr ho hp0 hw
  obtain ⟨p1, ⟨p2, p3, p4, p5, p6⟩, p7, p8⟩ := mj_prT (o := nI o) hc hgr hp0 hw
  obtain ⟨r1, r2, r3, r4, r5⟩ := mj_pr_ready (o := nI o) hc hgr he hp0 hw
  have pin0 : ∀ h, mj_pin (mj_prS σ set gr (nI o) (D 14 14) (D 14 17)) h = 0 := fun h => by
    unfold mj_pin
    rw [p6]
    split <;> rfl
  have hS := hE.1
  have hlf : ∀ p, p < (mj_plL (mj_q3 σ set gr (nI o) (D 14 14)) (D 14 14)).length → mj_lf (mj_sto σ set gr (nI o) (D 14 14)) p = D 25 ((mj_plL (mj_q3 σ set gr (nI o) (D 14 14)) (D 14 14)).getD p 0) := fun p hp => by
    have q1 := (mj_Sch_pl hS hp).1
    have k25 := (hk.2.2.2.2.1 _ q1).2.2.2.2.2.2.1
    unfold mj_sto
    rw [mj_stn_lf _ p hp, mj_q3_o (by decide), (hD.2.2.2.2.1 _ q1).2.2.2.2.2.2.2.2.1, nI_clamp (by omega)]
    omega
  refine ⟨⟨hE, hl, pin0, ?_⟩, ⟨mj_stn_lt _, fun p hp => (hlf p hp).symm, fun _ _ _ _ _ => rfl, fun _ _ _ => rfl⟩, ⟨mj_stn_lt _, fun _ p hp ht => ?_, fun p q hp hq _ _ => hlf p hp⟩⟩
  · exact mj_TH_of hS hE.2.1 r1.2.2.2.2.2.2.2.2.1 p8.2.1 p8.2.2.1 (fun p h a b c => (p8.2.2.2.2.1 p h a b c).2) p8.2.2.2.2.2.1 (fun h p _ _ => by rw [pin0]; exact mj_b_0)
  · have := (mj_Sch_pl hS hp).2.2.2.2.1
    have ht' : D 17 ((mj_plL (mj_q3 σ set gr (nI o) (D 14 14)) (D 14 14)).getD p 0) < D 14 17 := ht
    omega
theorem mj_pr_suc {set : Int32} {gr o : Nat} (hD : mj_isD σ D) (hk : mj_okD D) (hb : ∀ i, (D 14 16).testBit i = true → i < D 14 14) (hc : mj_pc σ (D 14 14) (D 14 17)) (he : mj_pe σ) (hgr : gr = 1 ∨ gr = 8) (ho : o < 8) (hl : mj_nl D (mj_b set)) (hw : D 14 17 < 12) :
    mj_suc (mj_prS σ set gr (nI o) (D 14 14) (D 14 17)) (mj_qn σ set gr (nI o) (D 14 14)) (D 14 17) (mj_sgr σ (D 14 14) gr).toNatClampNeg (mj_sto σ set gr (nI o) (D 14 14)) = true ↔ mj_DW D (mj_b set) (mj_b (mj_ring σ (D 14 14))) gr o mj_Qno (12 - D 14 17) (mj_sgr σ (D 14 14) gr).toNatClampNeg (D 25) := by
  have h := mj_ckg_D (set := set) hD hk hb hc he hgr ho
  have hp0 := (mj_hp0_D (set := set) hD hk hb).mpr hl
  unfold mj_ckg at h
  rw [hp0, decide_eq_false (show ¬ D 14 17 = 12 by omega), Bool.not_false, Bool.true_and, Bool.false_or] at h
  exact ⟨fun z => (h.mp z).2, fun z => h.mpr ⟨hl, z⟩⟩
/-- the set of an hour in the first keeping, told of the deal -/
theorem mj_fsp_D {set : Int32} {gr o hh : Nat} (hD : mj_isD σ D) (hk : mj_okD D) (hb : ∀ i, (D 14 16).testBit i = true → i < D 14 14) (hc : mj_pc σ (D 14 14) (D 14 17)) (he : mj_pe σ) (hgr : gr = 1 ∨ gr = 8) (ho : o < 8) (hw : D 14 17 ≤ hh) (h11 : hh ≤ 11) :
    ((mj_nl D (mj_b set) ∧ mj_DW D (mj_b set) (mj_b (mj_ring σ (D 14 14))) gr o mj_Qno (12 - D 14 17) (mj_sgr σ (D 14 14) gr).toNatClampNeg (D 25)) → ∃ v, v < 512 ∧ mj_fsp σ set gr (nI o) (D 14 14) (D 14 17) hh = nI v ∧ mk_pth D (mj_b set) (mj_b (mj_ring σ (D 14 14))) gr o (mj_sgr σ (D 14 14) gr).toNatClampNeg (hh + 1 - D 14 17) (D 14 17) (D 25) v) ∧
    (¬ (mj_nl D (mj_b set) ∧ mj_DW D (mj_b set) (mj_b (mj_ring σ (D 14 14))) gr o mj_Qno (12 - D 14 17) (mj_sgr σ (D 14 14) gr).toNatClampNeg (D 25)) → mj_fsp σ set gr (nI o) (D 14 14) (D 14 17) hh = -1) := by
  have hw12 : D 14 17 < 12 := by omega
  unfold mj_fsp
  by_cases hl : mj_nl D (mj_b set)
  · have hp0 := (mj_hp0_D (set := set) hD hk hb).mpr hl
    have hs := mj_pr_suc hD hk hb hc he hgr ho hl hw12
    obtain ⟨hS, hR, hC⟩ := mj_pr_Sr hD hk hc he hgr ho hb hl hw12
    obtain ⟨s1, -⟩ := mj_sgrN (σ := σ) (N := D 14 14) hgr
    have en : (mj_plL (mj_q3 σ set gr (nI o) (D 14 14)) (D 14 14)).length = mj_qn σ set gr (nI o) (D 14 14) := rfl
    rw [hp0, if_neg (by decide)]
    unfold mj_fsv
    constructor
    · rintro ⟨-, hW⟩
      rw [if_pos (hs.mpr hW)]
      obtain ⟨k, k1, k2, k3⟩ := mj_fso_D hS s1 (hh - D 14 17) (D 14 17) _ (D 25) (-1) (Nat.le_refl _) (by omega) hR hC hW
      have ej : hh - D 14 17 + 1 = hh + 1 - D 14 17 := by omega
      rw [ej] at k2 k3
      rw [en] at k2
      refine ⟨mj_nb (mj_igm (mj_plL (mj_q3 σ set gr (nI o) (D 14 14)) (D 14 14)) k) 9, mj_nb_lt (n := 9), ?_, k3⟩
      have hp := mj_pof_nb hS.1.1 k1
      rw [en] at hp
      rw [k2, if_neg (mj_nI_m1 (by omega)), nI_clamp (by omega), hp]
    · intro hn
      rw [if_neg (fun z => hn ⟨hl, hs.mp z⟩)]
  · refine ⟨fun z => absurd z.1 hl, fun _ => ?_⟩
    have hp0 : mj_hp0 σ set = true := by
      cases z : mj_hp0 σ set
      · exact absurd ((mj_hp0_D (set := set) hD hk hb).mp z) hl
      · rfl
    rw [if_pos hp0]
/-- what is in every set that wins -/
def mk_mst (D : Nat → Nat → Nat) (mt rg : Nat → Bool) (gr o r g : Nat) (x : Nat → Nat) (V : Int32) : Prop := ∀ b, b < 32 → (mj_b V b = true ↔ b < D 14 14 ∧ ∀ A, mj_mw D mt rg gr o r g x A → A b = true)
theorem mk_mst_u {mt rg : Nat → Bool} {gr o r g : Nat} {x : Nat → Nat} {V V' : Int32} (h : mk_mst D mt rg gr o r g x V) (h' : mk_mst D mt rg gr o r g x V') : V = V' := by
  apply mj_b_ext
  intro b hb
  rw [Bool.eq_iff_iff, h b hb, h' b hb]
theorem mj_csl_b {n r g s : Nat} (hn : n ≤ 6) (hv : ¬ mj_mvs π g (11 - r) s n = -1) : ∀ (j l : Nat) (c : Int32), 22 ≤ l + j → ∀ b, b < 32 → (mj_b (mj_csl π n r g s j c (mj_nxc π n r g s l)) b = true ↔ mj_b c b = true ∧ ∀ k, l ≤ k → k ≤ mj_top n → mj_cho3 π n r g s (mj_mvs π g (11 - r) s n) k = true → (mj_sK k).testBit b = true) := by
  have top := mj_top_lt hn
  intro j
  induction j with
  | zero =>
    intro l c hl b hb
    exact ⟨fun z => ⟨z, fun k a1 a2 _ => by omega⟩, fun z => z.1⟩
  | succ j ih =>
    intro l c hl b hb
    show mj_b (if mj_nxc π n r g s l = -1 then c else if c = 0 then c else mj_csl π n r g s j (c &&& nI (mj_sK (mj_nxc π n r g s l).toNatClampNeg)) (mj_nxc π n r g s ((mj_nxc π n r g s l).toNatClampNeg + 1))) b = true ↔ _
    have ex : mj_nxc π n r g s l = mj_fst (mj_cho3 π n r g s (mj_mvs π g (11 - r) s n)) l (mj_top n + 1 - l) := by
      unfold mj_nxc
      rw [if_neg hv]
    rcases mj_fst_cases (p := mj_cho3 π n r g s (mj_mvs π g (11 - r) s n)) (mj_top n + 1 - l) l with z | ⟨k, k1, k2, k3, k4, k5⟩
    · rw [ex, z.1, if_pos rfl]
      refine ⟨fun y => ⟨y, fun k a1 a2 a3 => ?_⟩, fun y => y.1⟩
      rw [z.2 k a1 (by omega)] at a3
      exact absurd a3 (by decide)
    · have hk22 : k < 22 := by omega
      have s64 := mj_sK_lt k hk22
      rw [ex, k4, if_neg (mj_nI_m1 (by omega)), nI_clamp (by omega)]
      by_cases c0 : c = 0
      · rw [if_pos c0, c0, mj_b_0]
        exact ⟨fun y => absurd y (by decide), fun y => absurd y.1 (by decide)⟩
      · rw [if_neg c0, ih (k + 1) _ (by omega) b hb, mj_b_and, mj_b_nI (by omega), Bool.and_eq_true]
        constructor
        · rintro ⟨⟨a1, a2⟩, a3⟩
          refine ⟨a1, fun k' b1 b2 b3 => ?_⟩
          rcases Nat.lt_trichotomy k k' with d | d | d
          · exact a3 k' d b2 b3
          · rw [← d]; exact a2
          · rw [k5 k' b1 d] at b3
            exact absurd b3 (by decide)
        · rintro ⟨a1, a3⟩
          exact ⟨⟨a1, a3 k k1 (by omega) k3⟩, fun k' b1 b2 b3 => a3 k' (by omega) b2 b3⟩
/-- what is done now in every keeping, told of the deal -/
theorem mj_csp_D {set : Int32} {gr o : Nat} (hD : mj_isD σ D) (hk : mj_okD D) (hb : ∀ i, (D 14 16).testBit i = true → i < D 14 14) (hc : mj_pc σ (D 14 14) (D 14 17)) (he : mj_pe σ) (hgr : gr = 1 ∨ gr = 8) (ho : o < 8) (hw12 : D 14 17 < 12) :
    ((mj_nl D (mj_b set) ∧ mj_DW D (mj_b set) (mj_b (mj_ring σ (D 14 14))) gr o mj_Qno (12 - D 14 17) (mj_sgr σ (D 14 14) gr).toNatClampNeg (D 25)) → mk_mst D (mj_b set) (mj_b (mj_ring σ (D 14 14))) gr o (11 - D 14 17) (mj_sgr σ (D 14 14) gr).toNatClampNeg (D 25) (mj_csp σ set gr (nI o) (D 14 14) (D 14 17)) ∧ ¬ mj_csp σ set gr (nI o) (D 14 14) (D 14 17) = -1) ∧
    (¬ (mj_nl D (mj_b set) ∧ mj_DW D (mj_b set) (mj_b (mj_ring σ (D 14 14))) gr o mj_Qno (12 - D 14 17) (mj_sgr σ (D 14 14) gr).toNatClampNeg (D 25)) → mj_csp σ set gr (nI o) (D 14 14) (D 14 17) = -1) := by
  unfold mj_csp
  by_cases hl : mj_nl D (mj_b set)
  · have hp0 := (mj_hp0_D (set := set) hD hk hb).mpr hl
    have hs := mj_pr_suc hD hk hb hc he hgr ho hl hw12
    obtain ⟨hS, hR, hC⟩ := mj_pr_Sr hD hk hc he hgr ho hb hl hw12
    obtain ⟨s1, -⟩ := mj_sgrN (σ := σ) (N := D 14 14) hgr
    have en : (mj_plL (mj_q3 σ set gr (nI o) (D 14 14)) (D 14 14)).length = mj_qn σ set gr (nI o) (D 14 14) := rfl
    have hSch := hS.1.1
    have n6 := mj_Sch_len hSch
    have top := mj_top_lt n6
    have h9 := hk.1
    rw [hp0, if_neg (by decide)]
    unfold mj_csv
    constructor
    · rintro ⟨-, hW⟩
      rw [if_pos (hs.mpr hW)]
      rw [← en]
      have e11 : 11 - (11 - D 14 17) = D 14 17 := by omega
      rw [show 12 - D 14 17 = 11 - D 14 17 + 1 by omega] at hW
      obtain ⟨k0, -, -, -, hm0, -⟩ := mk_nxc_lst (r := 11 - D 14 17) hS hR (by rw [e11]; exact hC) (by omega) s1 hW
      have any : ∀ A, mj_mw D (mj_b set) (mj_b (mj_ring σ (D 14 14))) gr o (11 - D 14 17) (mj_sgr σ (D 14 14) gr).toNatClampNeg (D 25) A → ∃ k, k < 22 ∧ k ≤ mj_top (mj_plL (mj_q3 σ set gr (nI o) (D 14 14)) (D 14 14)).length ∧ A = mj_igm (mj_plL (mj_q3 σ set gr (nI o) (D 14 14)) (D 14 14)) k ∧ ¬ mj_mvs (mj_prS σ set gr (nI o) (D 14 14) (D 14 17)) (mj_sgr σ (D 14 14) gr).toNatClampNeg (11 - (11 - D 14 17)) (mj_sto σ set gr (nI o) (D 14 14)) (mj_plL (mj_q3 σ set gr (nI o) (D 14 14)) (D 14 14)).length = -1 ∧ mj_cho3 (mj_prS σ set gr (nI o) (D 14 14) (D 14 17)) (mj_plL (mj_q3 σ set gr (nI o) (D 14 14)) (D 14 14)).length (11 - D 14 17) (mj_sgr σ (D 14 14) gr).toNatClampNeg (mj_sto σ set gr (nI o) (D 14 14)) (mj_mvs (mj_prS σ set gr (nI o) (D 14 14) (D 14 17)) (mj_sgr σ (D 14 14) gr).toNatClampNeg (11 - (11 - D 14 17)) (mj_sto σ set gr (nI o) (D 14 14)) (mj_plL (mj_q3 σ set gr (nI o) (D 14 14)) (D 14 14)).length) k = true := fun A hA => by
        obtain ⟨k, ht, hk2, hp, e⟩ := mj_vok_k hSch hR hl (by omega) (by omega) hA.1
        rw [e] at hA
        obtain ⟨c1, c2⟩ := (mj_cho3_D (r := 11 - D 14 17) hS hR (by rw [e11]; exact hC) (by omega) s1 hk2).mpr ⟨hp, hA⟩
        exact ⟨k, hk2, ht, e, c1, c2⟩
      obtain ⟨-, -, -, -, hv, -⟩ := any _ hm0
      have b63 : ∀ p, p < 6 → mj_b 63 p = true := by decide
      have main : mk_mst D (mj_b set) (mj_b (mj_ring σ (D 14 14))) gr o (11 - D 14 17) (mj_sgr σ (D 14 14) gr).toNatClampNeg (D 25) (mj_pof (mj_prS σ set gr (nI o) (D 14 14) (D 14 17)) (mj_csl (mj_prS σ set gr (nI o) (D 14 14) (D 14 17)) (mj_plL (mj_q3 σ set gr (nI o) (D 14 14)) (D 14 14)).length (11 - D 14 17) (mj_sgr σ (D 14 14) gr).toNatClampNeg (mj_sto σ set gr (nI o) (D 14 14)) 22 63 (mj_nxc (mj_prS σ set gr (nI o) (D 14 14) (D 14 17)) (mj_plL (mj_q3 σ set gr (nI o) (D 14 14)) (D 14 14)).length (11 - D 14 17) (mj_sgr σ (D 14 14) gr).toNatClampNeg (mj_sto σ set gr (nI o) (D 14 14)) 0)) (mj_plL (mj_q3 σ set gr (nI o) (D 14 14)) (D 14 14)).length) := by
        intro b hb2
        rw [mj_pof_b hSch hb2 _ (Nat.le_refl _)]
        have cb := fun p (hp : p < 32) => mj_csl_b (b := p) n6 hv 22 0 63 (by omega) hp
        constructor
        · intro z
          obtain ⟨p, -, hp, z⟩ := (mj_anyF_iff _ _).mp z
          rw [Bool.and_eq_true, decide_eq_true_eq] at z
          obtain ⟨-, cw⟩ := (cb p (by omega)).mp z.1
          have hp' : p < (mj_plL (mj_q3 σ set gr (nI o) (D 14 14)) (D 14 14)).length := by omega
          refine ⟨by rw [← z.2]; exact (mj_Sch_pl hSch hp').1, fun A hA => ?_⟩
          obtain ⟨k, a1, a2, a3, -, a5⟩ := any A hA
          rw [a3, ← z.2, mj_igm_p hSch hp']
          exact cw k (Nat.zero_le _) a2 a5
        · rintro ⟨hbN, hall⟩
          obtain ⟨k, -, -, a3, -, -⟩ := any _ hm0
          have i0 := hall _ hm0
          obtain ⟨p, hp, -, ep⟩ := mj_igm_i.mp i0
          refine (mj_anyF_iff _ _).mpr ⟨p, Nat.zero_le _, by omega, ?_⟩
          rw [Bool.and_eq_true, decide_eq_true_eq]
          refine ⟨(cb p (by omega)).mpr ⟨b63 p (by omega), fun k' _ b2 b3 => ?_⟩, ep⟩
          have hm := ((mj_cho3_D (r := 11 - D 14 17) (k := k') hS hR (by rw [e11]; exact hC) (by omega) s1 (by omega)).mp ⟨hv, b3⟩).2
          have := hall _ hm
          rw [← ep, mj_igm_p hSch hp] at this
          exact this
      refine ⟨main, fun z => ?_⟩
      have := (main 31 (by decide)).mp (by rw [z]; exact mj_b_m1 (by decide))
      omega
    · intro hn
      rw [if_neg (fun z => hn ⟨hl, hs.mp z⟩)]
  · refine ⟨fun z => absurd z.1 hl, fun _ => ?_⟩
    have hp0 : mj_hp0 σ set = true := by
      cases z : mj_hp0 σ set
      · exact absurd ((mj_hp0_D (set := set) hD hk hb).mp z) hl
      · rfl
    rw [if_pos hp0]
end
