section
variable {σ τ π : mj_St} {D : Nat → Nat → Nat}
/-! the tables of a search are in order -/
/-- who gets a place -/
def mj_plD (D : Nat → Nat → Nat) (mt : Nat → Bool) (gr o sg i : Nat) : Bool := mt i && (decide (D 15 i < 5) && (decide (0 < D 25 i) && (decide (D 14 17 ≤ D 17 i) && mj_maV D gr o sg (D 14 17) i)))
def mj_Sch (π : mj_St) (D : Nat → Nat → Nat) (mt : Nat → Bool) (gr o sg : Nat) (L : List Nat) : Prop :=
  mj_isD π D ∧ mj_okD D ∧ (gr = 1 ∨ gr = 8) ∧ o < 8 ∧ sg < gr ∧ D 14 17 < 12 ∧ (∀ i, i < D 14 14 → mj_b (π.1 46 1) i = mt i) ∧ π.1 46 2 = nI gr ∧ π.1 46 3 = nI o ∧ (∀ p, p < L.length → π.1 47 p = nI (L.getD p 0)) ∧ L = (List.range (D 14 14)).filter (mj_plD D mt gr o sg)
theorem mj_filter_len {p q : Nat → Bool} (h : ∀ i, p i = true → q i = true) : ∀ l : List Nat, (l.filter p).length ≤ (l.filter q).length := by
  intro l
  induction l with
  | nil => exact Nat.le_refl _
  | cons a l ih =>
    by_cases c : p a = true
    · rw [List.filter_cons_of_pos c, List.filter_cons_of_pos (h a c), List.length_cons, List.length_cons]
      omega
    · rw [List.filter_cons_of_neg c]
      by_cases c2 : q a = true
      · rw [List.filter_cons_of_pos c2, List.length_cons]
        omega
      · rw [List.filter_cons_of_neg c2]
        exact ih
theorem mj_Sch_len {mt : Nat → Bool} {gr o sg : Nat} {L : List Nat} (h : mj_Sch π D mt gr o sg L) : L.length ≤ 6 := by
  obtain ⟨-, k, -, -, -, -, -, -, -, -, e⟩ := h
  have h1 := k.2.2.2.2.2.2.2.1
  have h2 := mj_filter_len (p := mj_plD D mt gr o sg) (q := fun i => decide (D 15 i < 5)) (fun i hi => by
    unfold mj_plD at hi
    simp only [Bool.and_eq_true] at hi
    exact hi.2.1) (List.range (D 14 14))
  rw [e]
  omega
theorem mj_getD_mem {L : List Nat} {p : Nat} (hp : p < L.length) : L.getD p 0 ∈ L := by
  rw [List.getD_eq_getElem?_getD, List.getElem?_eq_getElem hp]
  exact List.getElem_mem hp
theorem mj_Sch_pl {mt : Nat → Bool} {gr o sg p : Nat} {L : List Nat} (h : mj_Sch π D mt gr o sg L) (hp : p < L.length) : L.getD p 0 < D 14 14 ∧ mt (L.getD p 0) = true ∧ D 15 (L.getD p 0) < 5 ∧ 0 < D 25 (L.getD p 0) ∧ D 14 17 ≤ D 17 (L.getD p 0) ∧ mj_maV D gr o sg (D 14 17) (L.getD p 0) = true := by
  have e := h.2.2.2.2.2.2.2.2.2.2
  have h1 := mj_getD_mem hp
  generalize L.getD p 0 = q at *
  rw [e, List.mem_filter, List.mem_range] at h1
  have h2 := h1.2
  unfold mj_plD at h2
  simp only [Bool.and_eq_true, decide_eq_true_eq] at h2
  exact ⟨h1.1, h2.1, h2.2.1, h2.2.2.1, h2.2.2.2.1, h2.2.2.2.2⟩
/-- the bits of the standings; px: what a pin takes away -/
def mj_Bt (π : mj_St) (D : Nat → Nat → Nat) (mt : Nat → Bool) (gr o : Nat) (L : List Nat) (px : Nat → Nat → Bool) : Prop := ∀ g h, g < gr → D 14 17 ≤ h → h < 12 → mj_frw π g h = (if gr = 8 then mj_frs π (nI h) (D 14 14) else 0) ∧ ∀ p, p < L.length →
  mj_b (mj_sts π g h) p = ((mj_kaV D gr o g h (L.getD p 0) && (mj_cvD D (L.getD p 0) h && (!(mj_clD D mt gr o g h (L.getD p 0)) && !(decide (π.1 48 p = -2))))) && !(px h p)) ∧
  mj_b (mj_sts π g h) (p + 6) = mj_maV D gr o g h (L.getD p 0) ∧ mj_b ((mj_sts π g h >>> (12 &&& 31)) &&& 63) p = mj_suV D gr o g h (L.getD p 0)
theorem mj_b_12 {x : Int32} {p : Nat} (hp : p < 6) : mj_b ((x >>> (12 &&& 31)) &&& 63) p = mj_b x (p + 12) := by
  rw [mj_b_and, show (12 : Int32) &&& 31 = nI 12 &&& 31 from rfl, mj_b_shr (by decide) (by omega), show (63 : Int32) = nI (2 ^ 6 - 1) from rfl, mj_b_nI (by decide), Nat.testBit_two_pow_sub_one, decide_eq_true hp, Bool.and_true, Nat.add_comm]
theorem mj_Bt_pr {mt : Nat → Bool} {gr o sg : Nat} {L : List Nat} (h : mj_Sch π D mt gr o sg L) (hT : mj_Tbl π (D 14 14) L.length (D 14 17) gr) : mj_Bt π D mt gr o L (fun _ _ => false) := by
  have n6 := mj_Sch_len h
  have pl := fun p hp => mj_Sch_pl h (p := p) hp
  obtain ⟨hD, hk, hgr, ho, hsg, hw, h1, h2, h3, h47, -⟩ := h
  have N9 := hk.1
  obtain ⟨-, -, -, t51, -⟩ := hT
  intro g hh hg hwh hh12
  have g8 : g < 8 := by rcases hgr with z | z <;> omega
  have e51 : mj_sts π g hh = mj_sw π (D 14 14) L.length gr g hh := t51 g hh hg hwh hh12
  refine ⟨?_, fun p hp => ?_⟩
  · unfold mj_frw
    rw [e51]
    exact mj_sw_fr n6
  · obtain ⟨q1, q2, q3, q4, q5, q6⟩ := pl p hp
    have e47 := h47 p hp
    obtain ⟨b1, b2, b3⟩ := mj_stv_b (σ := π) (g := nI g) (h := nI hh) (cl := mj_clo π (nI g) (nI hh) L.length (D 14 14)) L.length n6 p (by omega)
    have cl := mj_clo_D hD hk hgr h1 h2 h3 ho g8 (h := hh) (by omega) n6 hp e47 q1
    generalize L.getD p 0 = q at *
    obtain ⟨s1, s2, s3, -⟩ := mj_stg_D hD hk hgr h2 h3 q1 ho g8 (h := hh) (by omega)
    have cv := mj_cov_D hD hk q1 (h := hh) (by omega)
    have ecl : decide (q < q) = false := decide_eq_false (Nat.lt_irrefl _)
    rw [mj_b_12 (by omega), e51, mj_sw_b n6 (by omega), mj_sw_b n6 (by omega), mj_sw_b n6 (by omega), b1, b2, b3, decide_eq_true hp, Bool.true_and, Bool.true_and, Bool.true_and, e47, nI_clamp (by omega), s2, s3]
    refine ⟨?_, rfl, rfl⟩
    unfold mj_stb
    rw [e47, nI_clamp (by omega), s1, cv, Bool.not_false, Bool.and_true]
    have e1 : decide (mj_clo π (nI g) (nI hh) L.length (D 14 14) &&& 1 <<< (nI p &&& 31) = 0) = !(mj_clD D mt gr o g hh q) := by
      rw [← cl]
      have := mj_andbit (x := mj_clo π (nI g) (nI hh) L.length (D 14 14)) (p := p) (by omega)
      cases z : mj_b (mj_clo π (nI g) (nI hh) L.length (D 14 14)) p
      · rw [z] at this
        exact decide_eq_true (this.mpr rfl)
      · rw [z] at this
        exact decide_eq_false (fun y => absurd (this.mp y) (by decide))
    have e2 : decide (¬ π.1 48 p = -2) = !(decide (π.1 48 p = -2)) := by simp
    rw [e1, e2]
/-- the news are of forks that get known then -/
theorem mj_frs_f {h f N : Nat} (hD : mj_isD π D) (hk : mj_okD D) (hf : f < 3) (hh : h < 2147483648) (hb : mj_b (mj_frs π (nI h) N) f = true) : D 28 f = h := by
  unfold mj_frs at hb
  rw [mj_b_and, Bool.and_eq_true] at hb
  have hb1 := hb.1
  have e : ∀ j, j ≤ 3 → mj_b (mj_it (fun f u => u ||| (if π.1 28 f = nI h then (1 : Int32) <<< (nI f &&& 31) else 0)) 0 j) f = true → π.1 28 f = nI h := by
    intro j
    induction j with
    | zero =>
      intro _ z
      exact absurd z (by show ¬ mj_b 0 f = true; rw [mj_b_0]; decide)
    | succ j ih =>
      intro hj z
      simp only [mj_it] at z
      rw [mj_b_or, Bool.or_eq_true] at z
      rcases z with z | z
      · exact ih (by omega) z
      · by_cases c : π.1 28 j = nI h
        · rw [if_pos c, mj_b_sh1 (by omega) (by omega)] at z
          rw [of_decide_eq_true z]
          exact c
        · rw [if_neg c, mj_b_0] at z
          exact absurd z (by decide)
  have h1 := e 3 (by decide) hb1
  rw [hD.2.2.2.2.2.2 f hf] at h1
  have := hk.2.2.2.2.2.2.1 f hf
  exact mj_nI_inj (by omega) hh h1
theorem mj_asD_or {i g u : Nat} (h : ∀ f, D 20 i = f + 1 → u.testBit f = false) : mj_asD D i (g ||| u) = mj_asD D i g := by
  unfold mj_asD
  by_cases c : D 20 i = 0
  · rw [decide_eq_true c, Bool.true_or, Bool.true_or]
  · congr 1
    have h1 := h (D 20 i - 1) (by omega)
    have h2 : (g ||| u).testBit (D 20 i - 1) = g.testBit (D 20 i - 1) := by rw [Nat.testBit_or, h1, Bool.or_false]
    rw [Nat.testBit_eq_decide_div_mod_eq, Nat.testBit_eq_decide_div_mod_eq] at h2
    have a := Nat.mod_lt ((g ||| u) / 2 ^ (D 20 i - 1)) (show 0 < 2 by decide)
    have b := Nat.mod_lt (g / 2 ^ (D 20 i - 1)) (show 0 < 2 by decide)
    have e : (g ||| u) / 2 ^ (D 20 i - 1) % 2 = g / 2 ^ (D 20 i - 1) % 2 := by
      have h3 := decide_eq_decide.mp h2
      omega
    rw [e]
theorem mj_kn_mono {i h h' : Nat} (hh : h ≤ h') (hk : mj_knD D i h = true) : mj_knD D i h' = true := by
  unfold mj_knD at hk ⊢
  rw [Bool.or_eq_true, decide_eq_true_eq, decide_eq_true_eq] at hk ⊢
  rcases hk with z | z
  · exact Or.inl z
  · exact Or.inr (by omega)
theorem mj_su_ma {gr o g h t i : Nat} (ht : h ≤ t) (hs : mj_suV D gr o g h i = true) : mj_maV D gr o g t i = true := by
  unfold mj_suV at hs
  unfold mj_maV
  by_cases c : gr = 1
  · rw [if_pos c] at hs ⊢; exact hs
  · rw [if_neg c] at hs ⊢
    rw [Bool.and_eq_true] at hs
    rw [hs.2, Bool.or_true]
theorem mj_nws_u {mt : Nat → Bool} {gr o sg : Nat} {L : List Nat} {px : Nat → Nat → Bool} (h : mj_Sch π D mt gr o sg L) (hB : mj_Bt π D mt gr o L px) {g u t : Nat} (hg : g < gr) (hw : D 14 17 ≤ t) (ht : t < 12) (hu : mj_nws π g t u) : (gr = 1 → u = 0) ∧ u < 8 ∧ ∀ f, u.testBit f = true → f < 3 ∧ D 28 f = t := by
  obtain ⟨e, -⟩ := hB g t hg hw ht
  rcases hu with z | z
  · rw [z.2]
    exact ⟨fun _ => rfl, by decide, fun f q => by rw [Nat.zero_testBit] at q; exact absurd q (by decide)⟩
  · refine ⟨fun g1 => ?_, z.2.1, fun f q => ?_⟩
    · rw [e, if_neg (by omega)] at z
      exact absurd rfl z.1
    · have hf : f < 3 := by
        by_cases c : f < 3
        · exact c
        · rw [Nat.testBit_lt_two_pow (Nat.lt_of_lt_of_le (show u < 2 ^ 3 by omega) (Nat.pow_le_pow_right (n := 2) (by decide) (by omega)))] at q
          exact absurd q (by decide)
      refine ⟨hf, ?_⟩
      have h1 := mj_sub_b (k := f) z.2.2 (by rw [mj_b_nI (by omega)]; exact q)
      rw [e] at h1
      by_cases c : gr = 8
      · rw [if_pos c] at h1
        exact mj_frs_f h.1 h.2.1 hf (by omega) h1
      · rw [if_neg c, mj_b_0] at h1
        exact absurd h1 (by decide)
theorem mj_pairs0 : ∀ k, k < 22 → ∀ p, p < 6 → ∀ q, q < 6 → (decide (p = q) || (!((mj_sK k).testBit p) || (!((mj_sK k).testBit q) || (decide (mj_pop (nI (mj_sK k)) = 2) && (decide (p = mj_slo k ∧ q = mj_shi k) || decide (p = mj_shi k ∧ q = mj_slo k)))))) = true := by decide +kernel
theorem mj_pairs (k : Nat) (hk : k < 22) (p : Nat) (hp : p < 6) (q : Nat) (hq : q < 6) (hpq : p ≠ q) (bp : (mj_sK k).testBit p = true) (bq : (mj_sK k).testBit q = true) : mj_pop (nI (mj_sK k)) = 2 ∧ (p = mj_slo k ∧ q = mj_shi k ∨ p = mj_shi k ∧ q = mj_slo k) := by
  have h := mj_pairs0 k hk p hp q hq
  rw [decide_eq_false hpq, bp, bq, Bool.not_true, Bool.false_or, Bool.false_or, Bool.false_or, Bool.and_eq_true, Bool.or_eq_true, decide_eq_true_eq, decide_eq_true_eq, decide_eq_true_eq] at h
  exact h
theorem mj_pairs_lt : ∀ n, n < 7 → ∀ k, k < 22 → mj_pop (nI (mj_sK k)) = 2 → mj_slo k < n → mj_shi k < n → mj_sK k < 2 ^ n := by decide +kernel
theorem mj_TH_of {mt : Nat → Bool} {gr o sg : Nat} {L : List Nat} {px : Nat → Nat → Bool} (h : mj_Sch π D mt gr o sg L) (hB : mj_Bt π D mt gr o L px) (t48 : ∀ p, p < L.length → π.1 48 p < 0 ∨ mj_inb (π.1 48 p) L.length = true)
    (t50 : ∃ κ : mj_St, π.1 50 = mj_dl κ L.length L.length ∧ π.1 49 = mj_ord (mj_dl κ L.length L.length) (κ.1 49) L.length ∧ κ.1 17 = π.1 17 ∧ κ.1 25 = π.1 25 ∧ κ.1 47 = π.1 47 ∧ κ.1 48 = π.1 48 ∧ κ.1 20 = π.1 20 ∧ κ.1 46 2 = π.1 46 2) (t8 : π.1 46 8 = mj_sam π L.length 22)
    (t53 : ∀ p h, p < L.length → D 14 17 ≤ h → h < 12 → π.1 53 (p * 12 + h) = mj_laf π p h) (t54 : ∀ k, D 14 17 + k ≤ 12 → π.1 54 (D 14 17 + k) = mj_rb π (D 14 17) gr k) (tp : ∀ h p, p < 32 → 6 ≤ p → mj_b (mj_pin π h) p = false) :
    ∃ R, mj_TH π L.length (D 14 17) gr (fun p => D 25 (L.getD p 0)) (fun p => D 17 (L.getD p 0)) R := by
  have n6 := mj_Sch_len h
  have pl := fun p hp => mj_Sch_pl h (p := p) hp
  have nu := fun {g u t : Nat} (hg : g < gr) (hw : D 14 17 ≤ t) (ht : t < 12) (hu : mj_nws π g t u) => mj_nws_u h hB hg hw ht hu
  obtain ⟨hD, hk, hgr, ho, hsg, hw, h1, h2, h3, h47, -⟩ := h
  have k5 := hk.2.2.2.2.1
  have hands := hk.2.2.2.2.2.1
  obtain ⟨-, -, -, -, d5, d27, -⟩ := id hD
  have num : ∀ p, p < L.length → (π.1 47 p).toNatClampNeg = L.getD p 0 := fun p hp => by
    rw [h47 p hp]
    exact nI_clamp (by have := (pl p hp).1; have := hk.1; omega)
  obtain ⟨R, r1, r2, r3⟩ := mj_room (σ := π) (n := L.length) (w := D 14 17) (gr := gr) n6 (fun t ht => ⟨D 27 t, hands t ht, d27 t ht⟩)
  obtain ⟨κ, e50, e49, k17, k25, k47, k48, k20, k2⟩ := t50
  have sam : ∀ k, k < 22 → (π.1 46 8 >>> (nI k &&& 31)) &&& 1 = mj_z (mj_smt π L.length k) := fun k hk => by
    rw [mj_bt (by omega), t8]
    have : mj_b (mj_sam π L.length 22) k = (mj_b 0 k || (decide (k < 22) && mj_smt π L.length k)) := mj_fbi_b (b := 0) (p := mj_smt π L.length) (by omega) 22 (by decide)
    rw [this, mj_b_0, decide_eq_true hk, Bool.false_or, Bool.true_and]
  refine ⟨R, n6, fun p hp => ?_, fun g u t hg hw' ht hu => ?_, fun g t p hg hw' ht hp hs t' ha hb => ?_, fun p hp hd => ?_, fun p hp => ?_, ⟨κ, fun i _ => by rw [e50], k17, k25, k47, k48, k20, k2⟩, ?_, ⟨fun t ha hb => ?_, r2, r3⟩, fun q hq => ?_, fun k hk22 hs p q hp hq bp bq he hm => ?_, tp⟩
  · obtain ⟨q1, q2, q3, q4, q5, q6⟩ := pl p hp
    obtain ⟨-, -, e17, -⟩ := d5 _ q1
    obtain ⟨-, c17, -⟩ := k5 _ q1
    refine ⟨c17.2, by rw [num p hp]; exact e17, fun hw' => ?_⟩
    show π.1 53 (p * 12 + D 17 (L.getD p 0)) = 0
    rw [t53 p _ hp q5 c17.2]
    unfold mj_laf
    rw [num p hp, e17, if_pos rfl]
  · obtain ⟨u1, u2, u3⟩ := nu hg (by omega) ht hu
    refine ⟨?_, fun p hp hm => ?_⟩
    · rcases hgr with z | z
      · rw [u1 z, Nat.or_zero]; exact hg
      · rw [z]
        exact Nat.or_lt_two_pow (n := 3) (by omega) (by omega)
    · have hg' : g ||| u < gr := by
        rcases hgr with z | z
        · rw [u1 z, Nat.or_zero]; exact hg
        · rw [z]
          exact Nat.or_lt_two_pow (n := 3) (by omega) (by omega)
      rw [((hB (g ||| u) (t + 1) hg' (by omega) ht).2 p hp).2.1] at hm
      rw [((hB g t hg hw' (by omega)).2 p hp).2.1]
      unfold mj_maV at hm ⊢
      by_cases c : gr = 1
      · rw [if_pos c] at hm ⊢; exact hm
      · rw [if_neg c] at hm ⊢
        cases kn : mj_knD D (L.getD p 0) t
        · rfl
        · rw [mj_kn_mono (show t ≤ t + 1 by omega) kn, Bool.not_true, Bool.false_or] at hm
          rw [Bool.not_true, Bool.false_or, ← hm]
          refine (mj_asD_or (fun f hf => ?_)).symm
          cases z : u.testBit f
          · rfl
          · obtain ⟨-, z2⟩ := u3 f z
            unfold mj_knD at kn
            rw [hf, Nat.add_sub_cancel, Bool.or_eq_true, decide_eq_true_eq, decide_eq_true_eq] at kn
            omega
  · rw [((hB g t hg hw' ht).2 p hp).2.2] at hs
    rw [((hB g t' hg (by omega) hb).2 p hp).2.1]
    exact mj_su_ma ha hs
  · unfold mj_dcc at hd
    rw [Bool.and_eq_true] at hd
    obtain ⟨hd1, hd2⟩ := hd
    have m0 : ¬ π.1 48 p < 0 := by
      unfold mj_lt0 at hd2
      simp only [Bool.and_eq_true, Bool.not_eq_true', decide_eq_false_iff_not] at hd2
      exact hd2.1
    refine ⟨⟨m0, ?_⟩, fun g t hg hw' ht => ?_⟩
    · rcases t48 p hp with z | z
      · exact absurd z m0
      · exact mj_in_lt z
    · rw [((hB g t hg hw' ht).2 p hp).2.2]
      obtain ⟨q1, q2, q3, q4, q5, q6⟩ := pl p hp
      unfold mj_suV
      unfold mj_maV at q6
      rcases hgr with z | z
      · rw [if_pos z] at q6 ⊢; exact q6
      · rw [if_neg (by omega)] at q6 ⊢
        rw [num p hp, h2, z] at hd1
        have n81 : ¬ nI 8 = (1 : Int32) := by decide
        rw [decide_eq_false n81, Bool.false_or] at hd1
        have hd3 := of_decide_eq_true hd1
        obtain ⟨-, -, -, -, -, e20, -⟩ := d5 _ q1
        rw [e20, mj_oi_m1 (by have := (k5 _ q1).2.2.2.2.1; omega)] at hd3
        unfold mj_knD mj_asD
        rw [decide_eq_true hd3, Bool.true_or, Bool.true_or]
        rfl
  · obtain ⟨q1, q2, q3, q4, q5, q6⟩ := pl p hp
    obtain ⟨-, -, -, -, -, -, -, -, e25, -⟩ := d5 _ q1
    have c := (k5 _ q1).2.2.2.2.2.2.1
    refine ⟨q4, by have := c.1; have := c.2; show D 25 (L.getD p 0) ≤ 3; omega, by rw [num p hp]; exact e25⟩
  · rw [e49]
    exact mj_SO_D (fun i _ => by rw [e50]) n6 (mj_ord_SO L.length n6)
  · have e : t = D 14 17 + (t - D 14 17) := by omega
    rw [e, t54 _ (by omega), r1 _ (by omega)]
  · obtain ⟨q1, -⟩ := pl q hq
    obtain ⟨-, -, -, e18, -⟩ := d5 _ q1
    have c := (k5 _ q1).2.2.1
    unfold mj_th
    rw [num q hq, e18]
    by_cases z : D 18 (L.getD q 0) = 0
    · exact Or.inl ((mj_oi_m1 (by omega)).mpr z)
    · exact Or.inr ⟨_, by omega, mj_oi_pos (by omega)⟩
  · apply Classical.byContradiction
    intro hpq
    obtain ⟨g1, g2⟩ := mj_pairs k hk22 p (by omega) q (by omega) hpq bp bq
    rw [sam k hk22] at hs
    have hs2 : mj_smt π L.length k = false := by
      cases z : mj_smt π L.length k
      · rfl
      · rw [z] at hs
        exact absurd hs (by decide)
    unfold mj_th at he hm
    have lt : mj_sK k < 2 ^ L.length := by
      refine mj_pairs_lt L.length (by omega) k hk22 g1 ?_ ?_
      · rcases g2 with z | z
        · rw [← z.1]; exact hp
        · rw [← z.2]; exact hq
      · rcases g2 with z | z
        · rw [← z.2]; exact hq
        · rw [← z.1]; exact hp
    unfold mj_smt at hs2
    rw [decide_eq_true g1, decide_eq_true lt, Bool.true_and, Bool.true_and, Bool.and_eq_false_iff] at hs2
    rcases g2 with z | z
    · rw [← z.1, ← z.2] at hs2
      rcases hs2 with y | y
      · exact (of_decide_eq_false y) hm
      · exact (of_decide_eq_false y) he
    · rw [← z.1, ← z.2] at hs2
      rcases hs2 with y | y
      · exact (of_decide_eq_false y) (by rw [← he]; exact hm)
      · exact (of_decide_eq_false y) he.symm
end
