section
variable {σ τ π : mj_St} {D : Nat → Nat → Nat}
theorem mj_newD_0 {gr h : Nat} : mj_newD D gr h 0 := by
  unfold mj_newD
  by_cases c : gr = 1
  · rw [if_pos c]
  · rw [if_neg c]
    intro f hf
    rw [Nat.zero_testBit] at hf
    exact absurd hf (by decide)
theorem mj_DW_mono {mt rg : Nat → Bool} {gr o : Nat} {Q Q' : Nat → (Nat → Bool) → Prop} (h : ∀ t A, Q t A → Q' t A) : ∀ (r g : Nat) (x : Nat → Nat), mj_DW D mt rg gr o Q r g x → mj_DW D mt rg gr o Q' r g x := by
  intro r
  induction r with
  | zero => intro g x _; trivial
  | succ r ih =>
    intro g x hd
    obtain ⟨A, a1, a2, a3⟩ := hd
    exact ⟨A, a1, h _ _ a2, fun u hu => ih _ _ (a3 u hu)⟩
/-- at each hour of a game there is a move -/
theorem mj_DW_at {mt rg : Nat → Bool} {gr o : Nat} {Q : Nat → (Nat → Bool) → Prop} : ∀ (r g : Nat) (x : Nat → Nat), r ≤ 12 → mj_DW D mt rg gr o Q r g x → ∀ h, 12 - r ≤ h → h < 12 → ∃ x' A, mj_vok D mt rg gr o g h x' A ∧ Q h A ∧ ∀ j, x' j ≤ x j := by
  intro r
  induction r with
  | zero => intro g x _ _ h h1 h2; omega
  | succ r ih =>
    intro g x hr hd h h1 h2
    obtain ⟨A, a1, a2, a3⟩ := hd
    by_cases c : h = 11 - r
    · subst c
      exact ⟨x, A, a1, a2, fun _ => Nat.le_refl _⟩
    · have q := a3 0 mj_newD_0
      rw [Nat.or_zero] at q
      obtain ⟨x', B, b1, b2, b3⟩ := ih g _ (by omega) q h (by omega) h2
      refine ⟨x', B, b1, b2, fun j => Nat.le_trans (b3 j) ?_⟩
      unfold mj_less
      omega
/-- a work is done first at an hour -/
def mj_Qpn (i f : Nat) : Nat → (Nat → Bool) → Prop := fun h A => (h < f → A i = false) ∧ (h = f → A i = true)
theorem mj_b_nand {x : Int32} {p k : Nat} (hp : p < 32) (hk : k < 32) : mj_b (x &&& ((1 <<< (nI p &&& 31)) ^^^ -1)) k = (mj_b x k && !(decide (k = p))) := by
  rw [mj_b_and, mj_b_not hk, mj_b_sh1 hp hk]
theorem mj_b_18 {x : Int32} {k : Nat} (hk : k < 14) : mj_b (x >>> (18 &&& 31)) k = mj_b x (18 + k) := by
  exact mj_b_shr (j := 18) (by decide) (by omega)
theorem mj_shr18 {x y : Int32} (h : ∀ k, k < 32 → 18 ≤ k → mj_b x k = mj_b y k) (hx : mj_b x 31 = mj_b y 31) : x >>> (18 &&& 31) = y >>> (18 &&& 31) := by
  apply mj_b_ext
  intro k hk
  by_cases c : k < 14
  · rw [mj_b_18 c, mj_b_18 c]
    exact h _ (by omega) (by omega)
  · have e : ∀ z : Int32, mj_b (z >>> (18 &&& 31)) k = mj_b z 31 := fun z => by
      unfold mj_b
      rw [Int32.toBitVec_shiftRight]
      have e18 : ((18 &&& 31 : Int32).toBitVec.smod 32) = 18#32 := by decide
      rw [e18, BitVec.sshiftRight_eq', BitVec.getLsbD_sshiftRight]
      have a1 : ¬ (18 : Nat) + k < 32 := by omega
      have a2 : (18#32).toNat = 18 := by decide
      rw [a2, if_neg a1, BitVec.msb_eq_getLsbD_last]
      simp [hk]
    rw [e, e, hx]
/-- a pinned search, told of the deal -/
theorem mj_pn2_Env {mt rg : Nat → Bool} {o sg h p : Nat} {L : List Nat} (hE : mj_Env π D mt rg 1 o sg L (fun _ _ => false)) (hw : D 14 17 ≤ h) (hh : h < 12) (hp : p < L.length) :
    mj_Env (mj_pn2 π (D 14 17) L.length h p) D mt rg 1 o sg L (fun h' p' => decide (h' < h ∧ p' = p)) := by
  obtain ⟨hS, hB, h48, h8, h52, hrg⟩ := hE
  have n6 := mj_Sch_len hS
  have o1 : ∀ c, c < 46 → (mj_pn2 π (D 14 17) L.length h p).1 c = π.1 c := fun c hc => mj_pn2_o (by omega) (by omega) (by omega)
  have o46 : ∀ i, i ≠ 4 → i ≠ 9 → i ≠ 10 → (mj_pn2 π (D 14 17) L.length h p).1 46 i = π.1 46 i := fun i a b c => mj_pn2_46 a b c
  have o47 : (mj_pn2 π (D 14 17) L.length h p).1 47 = π.1 47 := mj_pn2_o (by decide) (by decide) (by decide)
  have o48 : (mj_pn2 π (D 14 17) L.length h p).1 48 = π.1 48 := mj_pn2_o (by decide) (by decide) (by decide)
  have sme : mj_sme (mj_pn2 π (D 14 17) L.length h p) π := ⟨o1, o46 1 (by decide) (by decide) (by decide), o46 2 (by decide) (by decide) (by decide), o46 3 (by decide) (by decide) (by decide), o47⟩
  have w51 : ∀ i, (mj_pn2 π (D 14 17) L.length h p).1 51 i = if D 14 17 ≤ i ∧ i < h then π.1 51 i &&& ((1 <<< (nI p &&& 31)) ^^^ -1) else π.1 51 i := fun i => by
    unfold mj_pn2
    rw [mj_mkR_o (by decide) (by decide)]
    show (if 51 = 51 ∧ D 14 17 ≤ i ∧ i < D 14 17 + (h - D 14 17) then π.1 51 i &&& ((1 <<< (nI p &&& 31)) ^^^ -1) else π.1 51 i) = _
    rw [show D 14 17 + (h - D 14 17) = h by omega]
    simp
  have hS' : mj_Sch (mj_pn2 π (D 14 17) L.length h p) D mt 1 o sg L := by
    obtain ⟨a1, a2, a3, a4, a5, a6, a7, a8, a9, a10, a11⟩ := hS
    refine ⟨mj_isD_o o1 a1, a2, a3, a4, a5, a6, fun i hi => by rw [o46 1 (by decide) (by decide) (by decide)]; exact a7 i hi, by rw [o46 2 (by decide) (by decide) (by decide)]; exact a8, by rw [o46 3 (by decide) (by decide) (by decide)]; exact a9, fun q hq => by rw [o47]; exact a10 q hq, a11⟩
  refine ⟨hS', fun g t hg a b => ?_, ?_, ?_, ?_, ?_⟩
  · obtain ⟨b1, b2⟩ := hB g t hg a b
    have g0 : g = 0 := by omega
    subst g0
    have e0 : mj_sts (mj_pn2 π (D 14 17) L.length h p) 0 t = if t < h then mj_sts π 0 t &&& ((1 <<< (nI p &&& 31)) ^^^ -1) else mj_sts π 0 t := by
      unfold mj_sts
      rw [Nat.zero_mul, Nat.zero_add, w51]
      by_cases c : t < h
      · rw [if_pos ⟨a, c⟩, if_pos c]
      · rw [if_neg (fun z => c z.2), if_neg c]
    have bt : ∀ k, k < 32 → mj_b (mj_sts (mj_pn2 π (D 14 17) L.length h p) 0 t) k = (mj_b (mj_sts π 0 t) k && !(decide (t < h ∧ k = p))) := fun k hk => by
      rw [e0]
      by_cases c : t < h
      · rw [if_pos c, mj_b_nand (by omega) hk, show decide (t < h ∧ k = p) = decide (k = p) from mj_dec ⟨fun z => z.2, fun z => ⟨c, z⟩⟩]
      · rw [if_neg c, decide_eq_false (fun z => c z.1), Bool.not_false, Bool.and_true]
    refine ⟨?_, fun q hq => ?_⟩
    · have : mj_frw (mj_pn2 π (D 14 17) L.length h p) 0 t = mj_frw π 0 t := mj_shr18 (fun k hk hk2 => by
        rw [bt k hk, decide_eq_false (by omega), Bool.not_false, Bool.and_true]) (by
        rw [bt 31 (by decide), decide_eq_false (by omega), Bool.not_false, Bool.and_true])
      rw [this, b1]
      rfl
    · obtain ⟨c1, c2, c3⟩ := b2 q hq
      refine ⟨?_, ?_, ?_⟩
      · rw [bt q (by omega), c1, o48, Bool.not_false, Bool.and_true]
      · rw [bt (q + 6) (by omega), decide_eq_false (by omega), Bool.not_false, Bool.and_true, c2]
      · rw [mj_b_12 (by omega), bt (q + 12) (by omega), decide_eq_false (by omega), Bool.not_false, Bool.and_true, ← mj_b_12 (by omega), c3]
  · rw [mj_sme_afv sme, mj_sme_ring sme, o48]
    exact h48
  · rw [mj_sme_sam sme, o46 8 (by decide) (by decide) (by decide)]
    exact h8
  · obtain ⟨l1, l2⟩ := mj_sme_la sme
    rw [l1, l2, mj_pn2_o (by decide) (by decide) (by decide), mj_pn2_o (c := 53) (by decide) (by decide) (by decide)]
    exact h52
  · rw [mj_sme_ring sme]
    exact hrg
theorem mj_pn2_pin {n w h p t : Nat} : mj_pin (mj_pn2 π w n h p) t = if nI t = nI h then 1 <<< (nI p &&& 31) else 0 := by
  have e9 : (mj_pn2 π w n h p).1 46 9 = nI h := by
    unfold mj_pn2
    rw [mj_mkR_46 (by decide)]
    rfl
  have e10 : (mj_pn2 π w n h p).1 46 10 = 1 <<< (nI p &&& 31) := by
    unfold mj_pn2
    rw [mj_mkR_46 (by decide)]
    rfl
  unfold mj_pin
  rw [e9, e10]
theorem mj_cbv_D {set : Int32} {o i h : Nat} (hD : mj_isD σ D) (hk : mj_okD D) (hb : ∀ i, (D 14 16).testBit i = true → i < D 14 14) (hc : mj_pc σ (D 14 14) (D 14 17)) (he : mj_pe σ) (ho : o < 8) (hi : i < D 14 14) (hw : D 14 17 ≤ h) (hh : h < 12) :
    mj_cbv σ (D 14 14) (D 14 17) set (nI o) i h = true ↔ mj_nl D (mj_b set) ∧ mj_DW D (mj_b set) (mj_b (mj_ring σ (D 14 14))) 1 o (mj_Qpn i h) (12 - D 14 17) 0 (D 25) := by
  have h9 := hk.1
  have k5 := hk.2.2.2.2.1 i hi
  have e5 := hD.2.2.2.2.1 i hi
  have hw12 : D 14 17 < 12 := by omega
  have e12 : 12 - (12 - D 14 17) = D 14 17 := by omega
  have esg : (mj_sgr σ (D 14 14) 1).toNatClampNeg = 0 := by
    have := (mj_sgrN (σ := σ) (N := D 14 14) (gr := 1) (Or.inl rfl)).1
    omega
  have hck := mj_ckg_D (set := set) (gr := 1) hD hk hb hc he (Or.inl rfl) ho
  rw [esg] at hck
  have ecov : mj_cov (σ.1 16 i) (σ.1 17 i) (nI h) = mj_cvD D i h := mj_cov_D hD hk hi (by omega)
  unfold mj_cbv
  rw [ecov, esg, Bool.and_eq_true, Bool.and_eq_true, Bool.and_eq_true, Bool.and_eq_true, Bool.not_eq_true', decide_eq_true_eq, decide_eq_true_eq]
  -- with a place
  have main : mj_nl D (mj_b set) → ∀ p, p < mj_qn σ set 1 (nI o) (D 14 14) → (mj_plL (mj_q3 σ set 1 (nI o) (D 14 14)) (D 14 14)).getD p 0 = i → (mj_suc (mj_pn2 (mj_prS σ set 1 (nI o) (D 14 14) (D 14 17)) (D 14 17) (mj_qn σ set 1 (nI o) (D 14 14)) h p) (mj_qn σ set 1 (nI o) (D 14 14)) (D 14 17) 0 (mj_sto σ set 1 (nI o) (D 14 14)) = true ↔ mj_DW D (mj_b set) (mj_b (mj_ring σ (D 14 14))) 1 o (mj_Qpn i h) (12 - D 14 17) 0 (D 25)) := by
    intro hl p hp hpi
    have hp0 := (mj_hp0_D (set := set) hD hk hb).mpr hl
    have hE := mj_pr_Env hD hk hc (Or.inl rfl) ho hp0 hw12
    rw [esg] at hE
    obtain ⟨p1, ⟨p2, p3, p4, p5, p6⟩, p7, p8⟩ := mj_prT (gr := 1) (o := nI o) hc (Or.inl rfl) hp0 hw12
    obtain ⟨r1, r2, r3, r4, r5⟩ := mj_pr_ready (gr := 1) (o := nI o) hc (Or.inl rfl) he hp0 hw12
    have en : (mj_plL (mj_q3 σ set 1 (nI o) (D 14 14)) (D 14 14)).length = mj_qn σ set 1 (nI o) (D 14 14) := rfl
    rw [← en] at hp ⊢
    have hE2 := mj_pn2_Env hE hw hh hp
    have hS := hE.1
    have n6 := mj_Sch_len hS
    have hlf : ∀ p, p < (mj_plL (mj_q3 σ set 1 (nI o) (D 14 14)) (D 14 14)).length → mj_lf (mj_sto σ set 1 (nI o) (D 14 14)) p = D 25 ((mj_plL (mj_q3 σ set 1 (nI o) (D 14 14)) (D 14 14)).getD p 0) := fun p hp => by
      have q1 := (mj_Sch_pl hS hp).1
      have k25 := (hk.2.2.2.2.1 _ q1).2.2.2.2.2.2.1
      unfold mj_sto
      rw [mj_stn_lf _ p hp, mj_q3_o (by decide), (hD.2.2.2.2.1 _ q1).2.2.2.2.2.2.2.2.1, nI_clamp (by omega)]
      omega
    have o3 : ∀ c, c ≠ 46 → c ≠ 51 → c ≠ 54 → (mj_pn2 (mj_prS σ set 1 (nI o) (D 14 14) (D 14 17)) (D 14 17) (mj_plL (mj_q3 σ set 1 (nI o) (D 14 14)) (D 14 14)).length h p).1 c = (mj_prS σ set 1 (nI o) (D 14 14) (D 14 17)).1 c := fun c a b e => mj_pn2_o a b e
    refine mj_suc_D (rg := mj_b (mj_ring σ (D 14 14))) hE2 hl (fun t k a b hk2 hpl => ?_) ?_ ?_ ?_ (fun t q a b => ?_) ?_ (mj_stn_lt _) hlf
    · rw [mj_pn2_pin]
      unfold mj_Qpn
      have ei : mj_igm (mj_plL (mj_q3 σ set 1 (nI o) (D 14 14)) (D 14 14)) k i = (mj_sK k).testBit p := by
        have := mj_igm_p (k := k) hS hp
        rw [hpi] at this
        exact this
      rw [ei]
      constructor
      · rintro ⟨c1, c2⟩
        refine ⟨fun c => ?_, fun c => ?_⟩
        · cases z : (mj_sK k).testBit p
          · rfl
          · have := c1 p hp z
            rw [decide_eq_true ⟨c, rfl⟩] at this
            exact absurd this (by decide)
        · refine c2 p (by omega) ?_
          rw [c, if_pos rfl, mj_b_sh1 (by omega) (by omega)]
          exact decide_eq_true rfl
      · rintro ⟨c1, c2⟩
        refine ⟨fun q hq z => ?_, fun q hq z => ?_⟩
        · refine decide_eq_false (fun y => ?_)
          rw [y.2, c1 y.1] at z
          exact absurd z (by decide)
        · by_cases c : t = h
          · rw [if_pos (by rw [c]), mj_b_sh1 (by omega) hq] at z
            rw [of_decide_eq_true z]
            exact c2 c
          · rw [if_neg (fun y => c (mj_nI_inj (by omega) (by omega) y)), mj_b_0] at z
            exact absurd z (by decide)
    · rw [o3 48 (by decide) (by decide) (by decide)]
      exact r1.2.2.2.2.2.2.2.2.1
    · rw [o3 50 (by decide) (by decide) (by decide), o3 49 (by decide) (by decide) (by decide), o3 17 (by decide) (by decide) (by decide), o3 25 (by decide) (by decide) (by decide), o3 47 (by decide) (by decide) (by decide), o3 48 (by decide) (by decide) (by decide), o3 20 (by decide) (by decide) (by decide), mj_pn2_46 (by decide) (by decide) (by decide)]
      exact p8.2.1
    · intro k hk2
      have e1 : (mj_pn2 (mj_prS σ set 1 (nI o) (D 14 14) (D 14 17)) (D 14 17) (mj_plL (mj_q3 σ set 1 (nI o) (D 14 14)) (D 14 14)).length h p).1 51 = (mj_pnS (mj_pn1 (mj_prS σ set 1 (nI o) (D 14 14) (D 14 17)) h p) (1 <<< (nI p &&& 31)) (D 14 17) (h - D 14 17)).1 51 := mj_mkR_o (by decide) (by decide)
      have e2 : (mj_pn2 (mj_prS σ set 1 (nI o) (D 14 14) (D 14 17)) (D 14 17) (mj_plL (mj_q3 σ set 1 (nI o) (D 14 14)) (D 14 14)).length h p).1 27 = (mj_pnS (mj_pn1 (mj_prS σ set 1 (nI o) (D 14 14) (D 14 17)) h p) (1 <<< (nI p &&& 31)) (D 14 17) (h - D 14 17)).1 27 := mj_mkR_o (by decide) (by decide)
      rw [mj_rb_o e1 e2]
      exact mj_mkR_54 hk2
    · rw [mj_pn2_pin]
      split
      · rw [mj_b_sh1 (by omega) a]
        exact decide_eq_false (by omega)
      · exact mj_b_0
    · have e4 : (mj_pn2 (mj_prS σ set 1 (nI o) (D 14 14) (D 14 17)) (D 14 17) (mj_plL (mj_q3 σ set 1 (nI o) (D 14 14)) (D 14 14)).length h p).1 46 4 = mj_z (mj_hop (mj_pnS (mj_pn1 (mj_prS σ set 1 (nI o) (D 14 14) (D 14 17)) h p) (1 <<< (nI p &&& 31)) (D 14 17) (h - D 14 17)) (D 14 17) 1 (mj_plL (mj_q3 σ set 1 (nI o) (D 14 14)) (D 14 14)).length) := mj_mkR_4
      rw [e4]
      unfold mj_hop
      rw [mj_lkh_p (τ := mj_pn2 (mj_prS σ set 1 (nI o) (D 14 14) (D 14 17)) (D 14 17) (mj_plL (mj_q3 σ set 1 (nI o) (D 14 14)) (D 14 14)).length h p) (σ := mj_pnS (mj_pn1 (mj_prS σ set 1 (nI o) (D 14 14) (D 14 17)) h p) (1 <<< (nI p &&& 31)) (D 14 17) (h - D 14 17)) (mj_mkR_o (by decide) (by decide)) (mj_mkR_o (by decide) (by decide)) (mj_mkR_o (by decide) (by decide))]
  constructor
  · rintro ⟨-, c2, c3, c4, c5⟩
    have hl := (mj_hp0_D (set := set) hD hk hb).mp c2
    refine ⟨hl, ?_⟩
    obtain ⟨p1, -, p7, -⟩ := mj_prT (gr := 1) (o := nI o) hc (Or.inl rfl) c2 hw12
    rcases mj_plc_c (σ := mj_prS σ set 1 (nI o) (D 14 14) (D 14 17)) (x := nI i) (mj_qn σ set 1 (nI o) (D 14 14)) 0 with z | ⟨p, -, hp, ep, e47⟩
    · exact absurd z c4
    · have hS := mj_pr_Sch hD hk hc (gr := 1) (Or.inl rfl) ho c2 hw12
      have hp' : p < mj_qn σ set 1 (nI o) (D 14 14) := by omega
      have n6 := mj_Sch_len hS
      have en : (mj_plL (mj_q3 σ set 1 (nI o) (D 14 14)) (D 14 14)).length = mj_qn σ set 1 (nI o) (D 14 14) := rfl
      rw [ep, nI_clamp (by omega)] at c5
      rw [p7 p hp'] at e47
      have q1 := (mj_Sch_pl hS hp').1
      exact (main hl p hp' (mj_nI_inj (by omega) (by omega) e47)).mp c5
  · rintro ⟨hl, hW⟩
    have hp0 := (mj_hp0_D (set := set) hD hk hb).mpr hl
    obtain ⟨x', A, a1, a2, a3⟩ := mj_DW_at (12 - D 14 17) 0 (D 25) (by omega) hW h (by omega) hh
    have ai := a2.2 rfl
    obtain ⟨-, op, -⟩ := a1.1 i ai
    obtain ⟨o1, o2, o3, o4, o5, o6, -⟩ := op
    have hcv : mj_cvD D i h = true := o4
    have hS := mj_pr_Sch hD hk hc (gr := 1) (Or.inl rfl) ho hp0 hw12
    rw [esg] at hS
    have n6 := mj_Sch_len hS
    have hiL : i ∈ mj_plL (mj_q3 σ set 1 (nI o) (D 14 14)) (D 14 14) := by
      refine (mj_L_in hS).mpr ⟨hi, ?_⟩
      unfold mj_plD
      unfold mj_cvD at hcv
      rw [Bool.and_eq_true, decide_eq_true_eq, decide_eq_true_eq] at hcv
      have := a3 i
      have m := mj_ka_ma o5
      rw [o1, decide_eq_true o2, decide_eq_true (show 0 < D 25 i by omega), decide_eq_true (show D 14 17 ≤ D 17 i by omega)]
      unfold mj_maV at m ⊢
      rw [if_pos rfl] at m ⊢
      rw [m]
      rfl
    obtain ⟨p, hp, ep⟩ := mj_L_mem hiL
    obtain ⟨-, -, p7, -⟩ := mj_prT (gr := 1) (o := nI o) hc (Or.inl rfl) hp0 hw12
    have en : (mj_plL (mj_q3 σ set 1 (nI o) (D 14 14)) (D 14 14)).length = mj_qn σ set 1 (nI o) (D 14 14) := rfl
    have hplc : mj_plc (mj_prS σ set 1 (nI o) (D 14 14) (D 14 17)) (nI i) (mj_qn σ set 1 (nI o) (D 14 14)) 0 = nI p := mj_plc_of (by omega) (fun a b ha hb2 e => by
      rw [p7 a ha, p7 b hb2] at e
      have qa := (mj_Sch_pl hS (p := a) ha).1
      have qb := (mj_Sch_pl hS (p := b) hb2).1
      exact mj_L_inj hS ha hb2 (mj_nI_inj (by omega) (by omega) e)) hp (by rw [p7 p hp, ep])
    have hsuc : mj_ckg σ set 1 (nI o) (D 14 14) (D 14 17) = true := hck.mpr ⟨hl, mj_DW_mono (fun _ _ _ => trivial) _ _ _ hW⟩
    refine ⟨hcv, hp0, ?_, ?_, ?_⟩
    · unfold mj_ckg mj_suc at hsuc
      rw [Bool.and_eq_true, Bool.or_eq_true, decide_eq_true_eq, Bool.and_eq_true, decide_eq_true_eq] at hsuc
      rcases hsuc.2 with z | z
      · omega
      · exact z.1
    · rw [hplc]
      intro z
      have := congrArg Int32.toInt z
      rw [nI_toInt (show p < 2 ^ 31 by omega)] at this
      have e : (-2 : Int32).toInt = -2 := by decide
      omega
    · rw [hplc, nI_clamp (by omega)]
      exact (main hl p hp ep).mpr hW
end
