section
variable {σ τ π : mj_St} {D : Nat → Nat → Nat}
theorem mj_isD_o (h : ∀ c, c < 46 → τ.1 c = σ.1 c) (hD : mj_isD σ D) : mj_isD τ D := by
  unfold mj_isD at hD ⊢
  rw [h 14 (by decide), h 15 (by decide), h 16 (by decide), h 17 (by decide), h 18 (by decide), h 19 (by decide), h 20 (by decide), h 21 (by decide), h 24 (by decide), h 25 (by decide), h 26 (by decide), h 27 (by decide), h 28 (by decide)]
  exact hD
theorem mj_ring_o (h : ∀ c, c < 46 → τ.1 c = σ.1 c) : mj_ring τ = mj_ring σ := by
  have e : mj_ringc τ = mj_ringc σ := by
    funext i
    unfold mj_ringc
    rw [h 14 (by decide), h 15 (by decide), h 19 (by decide)]
  funext N
  unfold mj_ring
  rw [e]
theorem mj_hp0_D {set : Int32} (hD : mj_isD σ D) (hk : mj_okD D) (hb : ∀ i, (D 14 16).testBit i = true → i < D 14 14) : mj_hp0 σ set = false ↔ ∀ i, i < D 14 14 → mj_b set i = true → (D 14 16).testBit i = false := by
  have h9 := hk.1
  have h16 := hk.2.1
  unfold mj_hp0
  rw [decide_eq_false_iff_not, Classical.not_not, mj_b_eq0, hD.2.1]
  constructor
  · intro h i hi hs
    have := h i (by omega)
    rw [mj_b_and, mj_b_nI (by omega), hs, Bool.and_true] at this
    exact this
  · intro h k hk2
    rw [mj_b_and, mj_b_nI (by omega)]
    cases z : (D 14 16).testBit k
    · rfl
    · cases y : mj_b set k
      · rfl
      · have := h k (hb k z) y
        rw [z] at this
        exact absurd this (by decide)
theorem mj_stn_lf : ∀ (l : List Nat) (p : Nat), p < l.length → mj_lf (mj_stn σ l) p = (σ.1 25 (l.getD p 0)).toNatClampNeg % 4 := by
  intro l
  induction l with
  | nil => intro p hp; exact absurd hp (Nat.not_lt_zero p)
  | cons i l ih =>
    intro p hp
    cases p with
    | zero =>
      show ((σ.1 25 i).toNatClampNeg % 4 + 4 * mj_stn σ l) / 4 ^ 0 % 4 = (σ.1 25 i).toNatClampNeg % 4
      rw [Nat.pow_zero, Nat.div_one]
      omega
    | succ p =>
      show ((σ.1 25 i).toNatClampNeg % 4 + 4 * mj_stn σ l) / 4 ^ (p + 1) % 4 = _
      have e : ((σ.1 25 i).toNatClampNeg % 4 + 4 * mj_stn σ l) / 4 = mj_stn σ l := by omega
      rw [Nat.pow_succ', ← Nat.div_div_eq_div_mul, e]
      exact ih p (Nat.lt_of_succ_lt_succ hp)
theorem mj_sgrN {N gr : Nat} (hgr : gr = 1 ∨ gr = 8) : (mj_sgr σ N gr).toNatClampNeg < gr ∧ mj_sgr σ N gr = nI (mj_sgr σ N gr).toNatClampNeg := by
  obtain ⟨s, s1, s2⟩ := mj_sgr_lt (σ := σ) (N := N) hgr
  have e : (mj_sgr σ N gr).toNatClampNeg = s := by rw [s2]; exact nI_clamp (by omega)
  rw [e]
  exact ⟨s1, s2⟩
theorem mj_pr_Sch {set : Int32} {gr o : Nat} (hD : mj_isD σ D) (hk : mj_okD D) (hc : mj_pc σ (D 14 14) (D 14 17)) (hgr : gr = 1 ∨ gr = 8) (ho : o < 8) (hp0 : mj_hp0 σ set = false) (hw : D 14 17 < 12) :
    mj_Sch (mj_prS σ set gr (nI o) (D 14 14) (D 14 17)) D (mj_b set) gr o (mj_sgr σ (D 14 14) gr).toNatClampNeg (mj_plL (mj_q3 σ set gr (nI o) (D 14 14)) (D 14 14)) := by
  obtain ⟨p1, ⟨p2, p3, p4, p5, p6⟩, p7, p8⟩ := mj_prT (o := nI o) hc hgr hp0 hw
  obtain ⟨s1, s2⟩ := mj_sgrN (σ := σ) (N := D 14 14) hgr
  refine ⟨mj_isD_o p1 hD, hk, hgr, ho, s1, hw, fun i _ => by rw [p2], p3, p4, p7, ?_⟩
  unfold mj_plL
  refine List.filter_congr (fun i hi => ?_)
  have hi' := List.mem_range.mp hi
  have q : ∀ c, c < 46 → (mj_q3 σ set gr (nI o) (D 14 14)).1 c = σ.1 c := fun c h => mj_q3_o (by omega)
  have hD3 := mj_isD_o q hD
  have b1 : (mj_q3 σ set gr (nI o) (D 14 14)).1 46 1 = set := rfl
  have b2 : (mj_q3 σ set gr (nI o) (D 14 14)).1 46 2 = nI gr := rfl
  have b3 : (mj_q3 σ set gr (nI o) (D 14 14)).1 46 3 = nI o := rfl
  have b7 : (mj_q3 σ set gr (nI o) (D 14 14)).1 46 7 = nI (mj_sgr σ (D 14 14) gr).toNatClampNeg := s2
  have g8 : (mj_sgr σ (D 14 14) gr).toNatClampNeg < 8 := by omega
  obtain ⟨e15, e16, e17, e18, e19, e20, e21, e24, e25, e26⟩ := hD3.2.2.2.2.1 i hi'
  obtain ⟨k15, ⟨k16, k17⟩, k18, k19, k20, k21, ⟨k24, k25⟩, -⟩ := hk.2.2.2.2.1 i hi'
  have st := (mj_stg_D hD3 hk hgr b2 b3 hi' ho g8 (h := D 14 17) (by omega)).2.2.2
  unfold mj_plq mj_plD
  rw [b1, b7, mj_wk_D hD3 hk hi', e25, e17, hD3.2.2.1, st]
  have d1 : decide (0 < nI (D 25 i)) = decide (0 < D 25 i) := mj_dec ⟨fun z => Classical.byContradiction (fun y => nI_nlt (a := 0) (b := D 25 i) (by omega) (by omega) z), fun z => nI_lt (a := 0) z (by omega)⟩
  have d2 : decide (¬ nI (D 17 i) < nI (D 14 17)) = decide (D 14 17 ≤ D 17 i) := mj_dec ⟨fun z => Classical.byContradiction (fun y => z (nI_lt (by omega) (by omega))), fun z => nI_nlt z (by omega)⟩
  rw [d1, d2]
theorem mj_pr_Env {set : Int32} {gr o : Nat} (hD : mj_isD σ D) (hk : mj_okD D) (hc : mj_pc σ (D 14 14) (D 14 17)) (hgr : gr = 1 ∨ gr = 8) (ho : o < 8) (hp0 : mj_hp0 σ set = false) (hw : D 14 17 < 12) :
    mj_Env (mj_prS σ set gr (nI o) (D 14 14) (D 14 17)) D (mj_b set) (mj_b (mj_ring σ (D 14 14))) gr o (mj_sgr σ (D 14 14) gr).toNatClampNeg (mj_plL (mj_q3 σ set gr (nI o) (D 14 14)) (D 14 14)) (fun _ _ => false) := by
  have hS := mj_pr_Sch hD hk hc hgr ho hp0 hw
  obtain ⟨p1, -, -, p8⟩ := mj_prT (o := nI o) hc hgr hp0 hw
  exact ⟨hS, mj_Bt_pr hS p8, p8.1, p8.2.2.1, p8.2.2.2.2.1, fun i _ => by rw [mj_ring_o p1]⟩
theorem mj_sgm_off {P : Nat → Bool} {w : Nat} : ∀ k, mj_sgm (fun t => if w ≤ t ∧ P t = true then 1 else 0) (w + k) = mj_sgm (fun i => if P (w + i) = true then 1 else 0) k := by
  intro k
  induction k with
  | zero => exact mj_sgm_0 _ (fun i hi => if_neg (fun z => by omega))
  | succ k ih =>
    show mj_sgm _ (w + k) + (if w ≤ w + k ∧ P (w + k) = true then 1 else 0) = mj_sgm _ k + (if P (w + k) = true then 1 else 0)
    rw [ih]
    congr 1
    by_cases c : P (w + k) = true
    · rw [if_pos c, if_pos ⟨by omega, c⟩]
    · rw [if_neg c, if_neg (fun z => c z.2)]
theorem mj_hup_n {w p : Nat} : ∀ k, mj_hup π w p k = nI (mj_sgm (fun i => if mj_b (π.1 51 (w + i)) p = true then 1 else 0) k) := by
  intro k
  induction k with
  | zero => rfl
  | succ k ih =>
    have ih' : mj_it (fun i u => u + mj_z (mj_b (π.1 51 (w + i)) p)) 0 k = nI (mj_sgm (fun i => if mj_b (π.1 51 (w + i)) p = true then 1 else 0) k) := ih
    unfold mj_hup
    rw [mj_it_s, ih']
    show nI _ + mj_z _ = nI (mj_sgm _ k + (if mj_b (π.1 51 (w + k)) p = true then 1 else 0))
    rw [← nI_add]
    cases mj_b (π.1 51 (w + k)) p <;> rfl
/-- who is hopeless doesn't win -/
theorem mj_hop_no {mt : Nat → Bool} {gr o sg st : Nat} {L : List Nat} {px : Nat → Nat → Bool} {R : Nat → Nat} (hS : mj_Sch π D mt gr o sg L) (hB : mj_Bt π D mt gr o L px) (hT : mj_TH π L.length (D 14 17) gr (fun p => D 25 (L.getD p 0)) (fun p => D 17 (L.getD p 0)) R) (hst : st < 4 ^ L.length) (hlf : ∀ p, p < L.length → mj_lf st p = D 25 (L.getD p 0)) (h : mj_hop π (D 14 17) gr L.length = true) (hW : mj_W0 π L.length (12 - D 14 17) sg st = true) : False := by
  have n6 := mj_Sch_len hS
  have hw := hS.2.2.2.2.2.1
  have hsg := hS.2.2.2.2.1
  unfold mj_hop at h
  rw [Bool.and_eq_true, decide_eq_true_eq] at h
  obtain ⟨g1, h⟩ := h
  obtain ⟨p, -, hp, hb⟩ := (mj_anyF_iff _ _).mp h
  rw [Nat.zero_add] at hp
  have hb := of_decide_eq_true hb
  obtain ⟨q1, q2, q3, q4, q5, q6⟩ := mj_Sch_pl hS hp
  have k17 := (hS.2.1.2.2.2.2.1 _ q1).2.1
  have k24 := (hS.2.1.2.2.2.2.1 _ q1).2.2.2.2.2.2.1
  have num : (π.1 47 p).toNatClampNeg = L.getD p 0 := by
    rw [hS.2.2.2.2.2.2.2.2.2.1 p hp]
    exact nI_clamp (by have := hS.2.1.1; omega)
  obtain ⟨S, hP, hS'⟩ := mj_W0_plan hT hsg (12 - D 14 17) st (Nat.le_refl _) hst hW
  have e12 : 12 - (12 - D 14 17) = D 14 17 := by omega
  rw [e12] at hP hS'
  have sg0 : sg = 0 := by omega
  have ca : mj_b (mj_sts π sg (D 17 (L.getD p 0))) (p + 6) = true := by
    rw [((hB sg _ hsg q5 (by omega)).2 p hp).2.1]
    unfold mj_maV at q6 ⊢
    rw [if_pos g1] at q6 ⊢
    exact q6
  have l1 := hP.2.1 p hp q5 (by show D 17 (L.getD p 0) < 12; omega) ca
  have l2 : mj_ct (fun u => S u p) (D 14 17) (D 17 (L.getD p 0) + 1) ≤ mj_ct (fun u => S u p) (D 14 17) 12 := mj_ct_mono (by omega)
  have l3 : mj_ct (fun u => S u p) (D 14 17) 12 = mj_sgm (fun i => if S (D 14 17 + i) p = true then 1 else 0) (12 - D 14 17) := by
    have := mj_sgm_off (P := fun u => S u p) (w := D 14 17) (12 - D 14 17)
    rw [show D 14 17 + (12 - D 14 17) = 12 by omega] at this
    exact this
  have l4 : mj_sgm (fun i => if S (D 14 17 + i) p = true then 1 else 0) (12 - D 14 17) ≤ mj_sgm (fun i => if mj_b (π.1 51 (D 14 17 + i)) p = true then 1 else 0) (12 - D 14 17) := mj_sgm_le _ (fun i hi => by
    obtain ⟨k, hk, sk, -, -, hop⟩ := hS' (D 14 17 + i) (by omega) (by omega)
    by_cases c : S (D 14 17 + i) p = true
    · rw [sk p hp] at c
      have := (hop p (by omega) c).2
      unfold mj_sts at this
      rw [sg0, Nat.zero_mul, Nat.zero_add] at this
      rw [if_pos this]
      split <;> omega
    · rw [if_neg c]
      exact Nat.zero_le _)
  have l5 := mj_sgm_bnd (f := fun i => if mj_b (π.1 51 (D 14 17 + i)) p = true then 1 else 0) (m := 1) (12 - D 14 17) (fun i _ => by split <;> omega)
  rw [mj_hup_n, num, (hS.1.2.2.2.2.1 _ q1).2.2.2.2.2.2.2.2.1] at hb
  have hlf' := hlf p hp
  have l1' : mj_ct (fun u => S u p) (D 14 17) (D 17 (L.getD p 0) + 1) = mj_lf st p := l1
  exact nI_nlt (by omega) (by omega) hb
/-- whether a search succeeds, told of the deal -/
theorem mj_suc_D {mt rg : Nat → Bool} {gr o sg st : Nat} {L : List Nat} {px : Nat → Nat → Bool} {Q : Nat → (Nat → Bool) → Prop} (hE : mj_Env π D mt rg gr o sg L px) (hl : ∀ i, i < D 14 14 → mt i = true → (D 14 16).testBit i = false) (hQ : mj_Qok π D L px Q)
    (t48 : ∀ p, p < L.length → π.1 48 p < 0 ∨ mj_inb (π.1 48 p) L.length = true)
    (t50 : ∃ κ : mj_St, π.1 50 = mj_dl κ L.length L.length ∧ π.1 49 = mj_ord (mj_dl κ L.length L.length) (κ.1 49) L.length ∧ κ.1 17 = π.1 17 ∧ κ.1 25 = π.1 25 ∧ κ.1 47 = π.1 47 ∧ κ.1 48 = π.1 48 ∧ κ.1 20 = π.1 20 ∧ κ.1 46 2 = π.1 46 2)
    (t54 : ∀ k, D 14 17 + k ≤ 12 → π.1 54 (D 14 17 + k) = mj_rb π (D 14 17) gr k) (tp : ∀ h p, p < 32 → 6 ≤ p → mj_b (mj_pin π h) p = false)
    (h4 : π.1 46 4 = mj_z (mj_hop π (D 14 17) gr L.length)) (hst : st < 4 ^ L.length) (hlf : ∀ p, p < L.length → mj_lf st p = D 25 (L.getD p 0)) :
    mj_suc π L.length (D 14 17) sg st = true ↔ mj_DW D mt rg gr o Q (12 - D 14 17) sg (D 25) := by
  have hS := hE.1
  have hB := hE.2.1
  have hw := hS.2.2.2.2.2.1
  have hsg := hS.2.2.2.2.1
  obtain ⟨R, hT⟩ := mj_TH_of hS hB t48 t50 hE.2.2.2.1 (fun p h a b c => (hE.2.2.2.2.1 p h a b c).2) t54 tp
  have e12 : 12 - (12 - D 14 17) = D 14 17 := by omega
  have hR : mj_Rel D mt L sg sg st (D 25) := ⟨hst, fun p hp => (hlf p hp).symm, fun _ _ _ _ _ => rfl, fun _ _ _ => rfl⟩
  have hC : mj_Cns π L.length (fun p => D 25 (L.getD p 0)) (fun p => D 17 (L.getD p 0)) (12 - (12 - D 14 17)) sg st := by
    rw [e12]
    refine ⟨hst, fun _ p hp ht => ?_, fun p q hp hq _ _ => hlf p hp⟩
    have := (mj_Sch_pl hS hp).2.2.2.2.1
    have ht' : D 17 (L.getD p 0) < D 14 17 := ht
    omega
  have hWW := mj_W_eq hT (12 - D 14 17) sg st (Nat.le_refl _) hsg hC
  have hWD := mj_W0_D hE hl hQ tp (12 - D 14 17) sg st (D 25) (Nat.le_refl _) hsg hR
  unfold mj_suc
  rw [Bool.and_eq_true, decide_eq_true_eq, hWW, h4, ← hWD]
  constructor
  · exact fun z => z.2
  · intro z
    refine ⟨?_, z⟩
    cases c : mj_hop π (D 14 17) gr L.length
    · rfl
    · exact (mj_hop_no hS hB hT hst hlf c z).elim
def mj_Qno : Nat → (Nat → Bool) → Prop := fun _ _ => True
/-- none of the set is lost -/
def mj_nl (D : Nat → Nat → Nat) (mt : Nat → Bool) : Prop := ∀ i, i < D 14 14 → mt i = true → (D 14 16).testBit i = false
/-- all of a set can be kept (one way, or whatever comes), told of the deal -/
theorem mj_ckg_D {set : Int32} {gr o : Nat} (hD : mj_isD σ D) (hk : mj_okD D) (hb : ∀ i, (D 14 16).testBit i = true → i < D 14 14) (hc : mj_pc σ (D 14 14) (D 14 17)) (he : mj_pe σ) (hgr : gr = 1 ∨ gr = 8) (ho : o < 8) :
    mj_ckg σ set gr (nI o) (D 14 14) (D 14 17) = true ↔ mj_nl D (mj_b set) ∧ mj_DW D (mj_b set) (mj_b (mj_ring σ (D 14 14))) gr o mj_Qno (12 - D 14 17) (mj_sgr σ (D 14 14) gr).toNatClampNeg (D 25) := by
  unfold mj_ckg mj_nl
  rw [Bool.and_eq_true, Bool.not_eq_true', mj_hp0_D hD hk hb]
  refine and_congr_right (fun hl => ?_)
  have hp0 := (mj_hp0_D (set := set) hD hk hb).mpr hl
  have h17 := hk.2.2.1
  rw [Bool.or_eq_true, decide_eq_true_eq]
  by_cases cw : D 14 17 = 12
  · rw [cw]
    exact ⟨fun _ => trivial, fun _ => Or.inl rfl⟩
  · have hw : D 14 17 < 12 := by omega
    have hE := mj_pr_Env hD hk hc hgr ho hp0 hw
    obtain ⟨p1, ⟨p2, p3, p4, p5, p6⟩, p7, p8⟩ := mj_prT (o := nI o) hc hgr hp0 hw
    obtain ⟨r1, r2, r3, r4, r5⟩ := mj_pr_ready (o := nI o) hc hgr he hp0 hw
    have pin0 : ∀ h, mj_pin (mj_prS σ set gr (nI o) (D 14 14) (D 14 17)) h = 0 := fun h => by
      unfold mj_pin
      rw [p6]
      split <;> rfl
    have hS := hE.1
    have hlf : ∀ p, p < (mj_plL (mj_q3 σ set gr (nI o) (D 14 14)) (D 14 14)).length → mj_lf (mj_stn (mj_q3 σ set gr (nI o) (D 14 14)) (mj_plL (mj_q3 σ set gr (nI o) (D 14 14)) (D 14 14))) p = D 25 ((mj_plL (mj_q3 σ set gr (nI o) (D 14 14)) (D 14 14)).getD p 0) := fun p hp => by
      have q1 := (mj_Sch_pl hS hp).1
      have k25 := (hk.2.2.2.2.1 _ q1).2.2.2.2.2.2.1
      rw [mj_stn_lf _ p hp, mj_q3_o (by decide), (hD.2.2.2.2.1 _ q1).2.2.2.2.2.2.2.2.1, nI_clamp (by omega)]
      omega
    have key := mj_suc_D (Q := mj_Qno) (st := mj_stn (mj_q3 σ set gr (nI o) (D 14 14)) (mj_plL (mj_q3 σ set gr (nI o) (D 14 14)) (D 14 14))) hE hl (fun h k _ _ _ _ => ⟨fun _ => trivial, fun _ => ⟨fun _ _ _ => rfl, fun p _ z => by
      rw [pin0, mj_b_0] at z
      exact absurd z (by decide)⟩⟩) r1.2.2.2.2.2.2.2.2.1 p8.2.1 p8.2.2.2.2.2.1 (fun h p _ _ => by rw [pin0]; exact mj_b_0) p8.2.2.2.2.2.2 (mj_stn_lt _) hlf
    constructor
    · rintro (z | z)
      · exact absurd z cw
      · exact key.mp z
    · exact fun z => Or.inr (key.mpr z)
end
