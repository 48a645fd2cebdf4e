section
variable {σ τ μ : mj_St} {D : Nat → Nat → Nat}
/-- an hour as both sides come to it: a the cell of what is left, G who is lost -/
def mk_HR (σ μ : mj_St) (D : Nat → Nat → Nat) (a : Nat) (x y : Nat → Nat) (G : Nat) (l : Nat → Int32) (mt : Int32) : Prop :=
  mj_isD σ D ∧ mk_isM μ D ∧ mj_okD D ∧ μ.1 61 46 = mj_ring σ (D 14 14) ∧ (∀ b, b < 32 → mj_b mt b = decide (b < D 14 14)) ∧ (∀ i, i < D 14 14 → σ.1 a i = nI (x i) ∧ x i ≤ D 24 i) ∧ G < 512 ∧ (∀ i, G.testBit i = true → i < D 14 14 ∧ D 15 i < 5) ∧ ∀ i, i < D 14 14 → D 15 i < 5 → l i = nI (y i) ∧ y i = if G.testBit i = true then 4 else x i
theorem mk_HR_L {a G : Nat} {x y : Nat → Nat} {l : Nat → Int32} {mt : Int32} (h : mk_HR σ μ D a x y G l mt) : mk_Ly D (mj_b mt) l y := fun i hi h5 _ => by
  obtain ⟨a1, a2⟩ := h.2.2.2.2.2.2.2.2 i hi h5
  refine ⟨a1, ?_⟩
  rw [a2]
  by_cases c : G.testBit i = true
  · rw [if_pos c]; exact Or.inl rfl
  · rw [if_neg c]; exact Or.inr (h.2.2.2.2.2.1 i hi).2
theorem mk_opn_D {a G h o i : Nat} {x y : Nat → Nat} {l : Nat → Int32} {mt : Int32} (hr : mk_HR σ μ D a x y G l mt) (hi : i < D 14 14) (h5 : D 15 i < 5) (hrg : mj_b (μ.1 61 46) i = false) (hh : h < 12) (ho : o < 8) :
    mj_opn σ a (nI G) (nI h) (nI o) i = true ↔ mk_opE D (mj_b mt) (mj_b (μ.1 61 46)) o h y i ∧ y i ≠ 4 := by
  obtain ⟨hD, hM, hk, r1, r2, r3, r4, r5, r6⟩ := hr
  have N9 := hk.1
  obtain ⟨e15, e16, e17, e18, e19, e20, e21, e24, e25, e26⟩ := hD.2.2.2.2.1 i hi
  obtain ⟨k15, ⟨k16, k17⟩, k18, ⟨k19, k19'⟩, k20, k21, ⟨k24, k25⟩, k3, k5⟩ := hk.2.2.2.2.1 i hi
  obtain ⟨x1, x2⟩ := r3 i hi
  obtain ⟨y1, y2⟩ := r6 i hi h5
  have kn := mj_kn_D hD hk hi (h := h) (by omega)
  unfold mj_kn at kn
  have d1 : decide (0 < nI (x i)) = decide (0 < x i) := mj_dec (mk_nI_lt (a := 0) (by omega) (by omega))
  have hmt : mj_b mt i = true := by rw [r2 i (by omega)]; exact decide_eq_true hi
  unfold mj_opn mk_opE
  rw [mj_cov_D hD hk hi (by omega), mj_ask_D hD hk hi (by omega), kn, x1, d1, mj_b_nI (by omega)]
  simp only [Bool.and_eq_true, Bool.or_eq_true, Bool.not_eq_true', decide_eq_true_eq, decide_eq_false_iff_not]
  have af : (mj_lt0 (σ.1 19 i) (σ.1 14 14) && (decide (0 < σ.1 a (σ.1 19 i).toNatClampNeg) || mj_b (nI G) (σ.1 19 i).toNatClampNeg)) = false ↔ (D 19 i = 0 ∨ mj_b mt (D 19 i - 1) = true ∧ y (D 19 i - 1) = 0) := by
    rw [e19, hD.1, mk_oi_lt (by omega) k19]
    by_cases c : D 19 i = 0
    · rw [decide_eq_false (not_not_intro c), Bool.false_and]
      exact ⟨fun _ => Or.inl c, fun _ => rfl⟩
    · have w5 := k19' (by omega)
      obtain ⟨xa, xb⟩ := r3 (D 19 i - 1) (by omega)
      obtain ⟨ya, yb⟩ := r6 (D 19 i - 1) (by omega) w5
      have k24' := (hk.2.2.2.2.1 (D 19 i - 1) (by omega)).2.2.2.2.2.2.1
      have d2 : decide (0 < nI (x (D 19 i - 1))) = decide (0 < x (D 19 i - 1)) := mj_dec (mk_nI_lt (a := 0) (by omega) (by omega))
      rw [decide_eq_true c, Bool.true_and, mj_oi_pos (by omega), nI_clamp (by omega), xa, d2, mj_b_nI (by omega), r2 _ (by omega), decide_eq_true (show D 19 i - 1 < D 14 14 by omega), yb]
      cases g : G.testBit (D 19 i - 1)
      · rw [if_neg (by decide), Bool.or_false, decide_eq_false_iff_not]
        exact ⟨fun z => Or.inr ⟨rfl, by omega⟩, fun z => by rcases z with z | z; exact absurd z c; omega⟩
      · rw [if_pos rfl, Bool.or_true]
        exact ⟨fun z => absurd z (by decide), fun z => by rcases z with z | z; exact absurd z c; exact absurd z.2 (by decide)⟩
  have af' : (mj_lt0 (σ.1 19 i) (σ.1 14 14) && (decide (0 < σ.1 a (σ.1 19 i).toNatClampNeg) || mj_b (nI G) (σ.1 19 i).toNatClampNeg)) = false ↔ (D 19 i = 0 ∨ mj_b mt (D 19 i - 1) = true ∧ y (D 19 i - 1) = 0) := af
  rw [af']
  have yx : (0 < x i ∧ G.testBit i = false) ↔ (y i ≠ 0 ∧ y i ≠ 4) := by
    rw [y2]
    cases g : G.testBit i
    · rw [if_neg (by decide)]
      exact ⟨fun z => ⟨by omega, by omega⟩, fun z => ⟨by omega, rfl⟩⟩
    · rw [if_pos rfl]
      exact ⟨fun z => absurd z.2 (by decide), fun z => absurd rfl z.2⟩
  have kd3 : σ.1 15 i = 3 ↔ D 15 i = 3 := by
    rw [e15]
    exact nI_eq (b := 3) (by omega) (by omega)
  rw [kd3]
  have ag : mj_cvD D i h = true → y i ≠ 4 → ((¬ D 15 i = 3 ∨ σ.1 24 i - nI (x i) = mj_spn (σ.1 26 i) (σ.1 16 i) (nI h)) ↔ (D 15 i = 3 → D 24 i = y i + (h - D 16 i) / D 26 i)) := fun cv n4 => by
    have cv' := mk_cv.mp cv
    have yi : y i = x i := by
      rw [y2] at n4 ⊢
      cases g : G.testBit i
      · rw [if_neg (by decide)]
      · rw [g, if_pos rfl] at n4
        exact absurd rfl n4
    by_cases c : D 15 i = 3
    · obtain ⟨s1, s2, s3⟩ := k3 c
      have q1 := Nat.div_le_self (h - D 16 i) (D 26 i)
      rw [e24, e26, e16, mj_spn_n (by omega) cv'.1 (by omega), mj_nI_sub x2, nI_eq (by omega) (by omega), yi]
      exact ⟨fun z _ => by rcases z with z | z; exact absurd c z; omega, fun z => Or.inr (by have := z c; omega)⟩
    · exact ⟨fun _ z => absurd z c, fun _ => Or.inl c⟩
  constructor
  · rintro ⟨b1, b2, b3, b4, b5, b6, b7⟩
    obtain ⟨y0, y4⟩ := yx.mp ⟨b4, b5⟩
    exact ⟨⟨hmt, h5, hrg, b1, ⟨b3, b2⟩, y0, b6, (ag b1 y4).mp b7⟩, y4⟩
  · rintro ⟨⟨-, -, -, b1, ⟨b3, b2⟩, y0, b6, b7⟩, y4⟩
    obtain ⟨b4, b5⟩ := yx.mpr ⟨y0, y4⟩
    exact ⟨b1, b2, b3, b4, b5, b6, (ag b1 y4).mpr b7⟩
/-- a set is open: both sides say the same -/
theorem mk_aOpen_eq {a G h o : Nat} {x y : Nat → Nat} {l : Nat → Int32} {mt set : Int32} (hr : mk_HR σ μ D a x y G l mt) (hh : h < 12) (ho : o < 8) : mj_aOpen σ a set (nI h) (nI o) (nI G) (D 14 14) = true ↔ set &&& (mj_Gset μ (nI h) (nI o) mt l (D 14 14) ^^^ -1) = 0 := by
  have hL := mk_HR_L hr
  have op := fun {i} hi h5 hrg => mk_opn_D (h := h) (o := o) (i := i) hr hi h5 hrg hh ho
  obtain ⟨hD, hM, hk, r1, r2, r3, r4, r5, r6⟩ := hr
  have N9 := hk.1
  have ev : ∀ b, b < 32 → mj_b ((1 <<< (σ.1 14 14 &&& 31)) - 1) b = decide (b < D 14 14) := fun b hb => mk_ev_b hD hk hb
  unfold mj_aOpen
  rw [Bool.and_eq_true, Bool.and_eq_true, decide_eq_true_eq, decide_eq_true_eq, Bool.not_eq_true']
  constructor
  · rintro ⟨z1, z2, z3⟩
    refine mj_sub_of (fun i hi hb => ?_)
    have hN : i < D 14 14 := by
      have := mj_sub_b z1 hb
      rw [ev i hi] at this
      exact of_decide_eq_true this
    have rg : mj_b (mj_ring σ (D 14 14)) i = false := by
      have := congrArg (fun v => mj_b v i) z2
      simp only [mj_b_and, mj_b_0] at this
      rw [hb, Bool.true_and] at this
      exact this
    have q : (mj_wk (σ.1 15 i) && mj_opn σ a (nI G) (nI h) (nI o) i) = true := by
      cases c : (mj_wk (σ.1 15 i) && mj_opn σ a (nI G) (nI h) (nI o) i)
      · have : mj_anyF (fun i => mj_b set i && !(mj_wk (σ.1 15 i) && mj_opn σ a (nI G) (nI h) (nI o) i)) 0 (D 14 14) = true := (mj_anyF_iff _ _).mpr ⟨i, Nat.zero_le _, by omega, by rw [hb, c]; rfl⟩
        rw [this] at z3
        exact absurd z3 (by decide)
      · rfl
    rw [Bool.and_eq_true, mj_wk_D hD hk hN, decide_eq_true_eq] at q
    have := (op hN q.1 (by rw [r1]; exact rg)).mp q.2
    rw [mj_Gset_fb, mj_fb_b hi _ (by omega), decide_eq_true hN, (mk_Gopn_y hM hk hL hN hh ho).mpr this]
    rfl
  · intro z
    have all : ∀ i, i < 32 → mj_b set i = true → i < D 14 14 ∧ mk_opE D (mj_b mt) (mj_b (μ.1 61 46)) o h y i ∧ y i ≠ 4 := fun i hi hb => by
      have := mj_sub_b z hb
      rw [mj_Gset_fb, mj_fb_b hi _ (by omega), Bool.and_eq_true, decide_eq_true_eq] at this
      exact ⟨this.1, (mk_Gopn_y hM hk hL this.1 hh ho).mp this.2⟩
    refine ⟨mj_sub_of (fun i hi hb => by rw [ev i hi]; exact decide_eq_true (all i hi hb).1), ?_, ?_⟩
    · apply mj_b_ext
      intro i hi
      rw [mj_b_and, mj_b_0]
      cases c : mj_b set i
      · rfl
      · have := (all i hi c).2.1.2.2.1
        rw [r1] at this
        rw [this]
        rfl
    · cases c : mj_anyF (fun i => mj_b set i && !(mj_wk (σ.1 15 i) && mj_opn σ a (nI G) (nI h) (nI o) i)) 0 (D 14 14)
      · rfl
      · obtain ⟨i, -, hi, hb⟩ := (mj_anyF_iff _ _).mp c
        rw [Bool.and_eq_true] at hb
        obtain ⟨q1, q2⟩ := all i (by omega) hb.1
        have h5 := q2.1.2.1
        have := (op q1 h5 q2.1.2.2.1).mpr q2
        rw [mj_wk_D hD hk q1, decide_eq_true h5, this] at hb
        exact absurd hb.2 (by decide)
theorem mk_things_b {s v : Nat} {B : Nat → Bool} (hD : mj_isD σ D) (hk : mj_okD D) (hB : ∀ i, i < D 14 14 → B i = s.testBit i) (hv : v < 4) : mj_b (mj_things (σ.1 18) B (D 14 14)) v = true ↔ ∃ i, i < D 14 14 ∧ s.testBit i = true ∧ D 18 i = v + 1 := by
  have N9 := hk.1
  have key : ∀ n, n ≤ D 14 14 → (mj_b (mj_things (σ.1 18) B n) v = true ↔ ∃ i, i < n ∧ s.testBit i = true ∧ D 18 i = v + 1) := by
    intro n
    induction n with
    | zero => intro _; exact ⟨fun z => by rw [show mj_things (σ.1 18) B 0 = 0 from rfl, mj_b_0] at z; exact absurd z (by decide), fun ⟨i, h, _⟩ => absurd h (Nat.not_lt_zero i)⟩
    | succ n ih =>
      intro hn
      have ih' := ih (by omega)
      have e18 := (hD.2.2.2.2.1 n (by omega)).2.2.2.1
      have k18 := (hk.2.2.2.2.1 n (by omega)).2.2.1
      unfold mj_things at ih' ⊢
      rw [mj_it_s, hB n (by omega), e18]
      by_cases c : s.testBit n = true ∧ ¬ mj_oi (D 18 n) = -1
      · have c2 := c.2
        rw [mj_oi_m1 (by omega)] at c2
        rw [if_pos c, mj_b_or, Bool.or_eq_true, ih', mj_oi_pos (by omega), mj_b_sh1 (by omega) (by omega), decide_eq_true_eq]
        constructor
        · rintro (⟨i, a, b, e⟩ | z)
          · exact ⟨i, by omega, b, e⟩
          · exact ⟨n, by omega, c.1, by omega⟩
        · rintro ⟨i, a, b, e⟩
          by_cases q : i = n
          · rw [q] at e
            exact Or.inr (by omega)
          · exact Or.inl ⟨i, by omega, b, e⟩
      · rw [if_neg c, ih']
        constructor
        · rintro ⟨i, a, b, e⟩
          exact ⟨i, by omega, b, e⟩
        · rintro ⟨i, a, b, e⟩
          by_cases q : i = n
          · rw [q] at b e
            exact absurd ⟨b, by rw [mj_oi_m1 (by omega)]; omega⟩ c
          · exact ⟨i, by omega, b, e⟩
  exact key _ (Nat.le_refl _)
theorem mk_things_hi {v : Nat} {B : Nat → Bool} (hD : mj_isD σ D) (hk : mj_okD D) (hv : 4 ≤ v) (hv2 : v < 32) : mj_b (mj_things (σ.1 18) B (D 14 14)) v = false := by
  have N9 := hk.1
  have key : ∀ n, n ≤ D 14 14 → mj_b (mj_things (σ.1 18) B n) v = false := by
    intro n
    induction n with
    | zero => intro _; exact mj_b_0
    | succ n ih =>
      intro hn
      have ih' := ih (by omega)
      have e18 := (hD.2.2.2.2.1 n (by omega)).2.2.2.1
      have k18 := (hk.2.2.2.2.1 n (by omega)).2.2.1
      unfold mj_things at ih' ⊢
      rw [mj_it_s, e18]
      by_cases c : B n = true ∧ ¬ mj_oi (D 18 n) = -1
      · have c2 := c.2
        rw [mj_oi_m1 (by omega)] at c2
        rw [if_pos c, mj_b_or, ih', mj_oi_pos (by omega), mj_b_sh1 (by omega) (by omega), decide_eq_false (by omega)]
        rfl
      · rw [if_neg c]
        exact ih'
  exact key _ (Nat.le_refl _)
/-- a thing is needed twice -/
theorem mk_twc_D {s : Nat} (hD : mj_isD σ D) (hk : mj_okD D) (hs : s < 512) (hsN : ∀ i, s.testBit i = true → i < D 14 14) : ∀ (j k : Nat) (t : Int32), k + j ≤ D 14 14 → (∀ v, 4 ≤ v → v < 32 → mj_b t v = false) → (mj_twc (σ.1 18) (nI s) (D 14 14) k j t = true ↔ ¬ mk_fre D s t k j) := by
  have N9 := hk.1
  intro j
  induction j with
  | zero =>
    intro k t _ _
    exact ⟨fun z => absurd (show false = true from z) (by decide), fun z => absurd ⟨fun i a b => by omega, fun i i' a b => by omega⟩ z⟩
  | succ j ih =>
    intro k t hkj ht
    have k18 := (hk.2.2.2.2.1 k (by omega)).2.2.1
    have hB : ∀ i, i < D 14 14 → mj_b (nI s &&& (1 <<< (nI k &&& 31))) i = (if s.testBit k = true then 2 ^ k else 0).testBit i := fun i hi => by
      rw [mj_b_and, mj_b_sh1 (by omega) (by omega), mj_b_nI (by omega)]
      by_cases e : i = k
      · rw [e, decide_eq_true rfl, Bool.and_true]
        cases c : s.testBit k
        · rw [if_neg (by decide), Nat.zero_testBit]
        · rw [if_pos rfl, Nat.testBit_two_pow]; exact (decide_eq_true rfl).symm
      · rw [decide_eq_false e, Bool.and_false]
        split
        · rw [Nat.testBit_two_pow]; exact (decide_eq_false (fun z => e z.symm)).symm
        · rw [Nat.zero_testBit]
    have bO : ∀ v, v < 4 → (mj_b (mj_things (σ.1 18) (mj_b (nI s &&& (1 <<< (nI k &&& 31)))) (D 14 14)) v = true ↔ s.testBit k = true ∧ D 18 k = v + 1) := fun v hv => by
      rw [mk_things_b hD hk hB hv]
      constructor
      · rintro ⟨i, a, b, e⟩
        cases c : s.testBit k
        · rw [c, if_neg (by decide), Nat.zero_testBit] at b
          exact absurd b (by decide)
        · rw [c, if_pos rfl, Nat.testBit_two_pow] at b
          rw [of_decide_eq_true b]
          exact ⟨rfl, e⟩
      · rintro ⟨a, e⟩
        exact ⟨k, by omega, by rw [a, if_pos rfl, Nat.testBit_two_pow]; exact decide_eq_true rfl, e⟩
    have bH := fun v (h4 : 4 ≤ v) h32 => mk_things_hi (B := mj_b (nI s &&& (1 <<< (nI k &&& 31)))) (v := v) hD hk h4 h32
    show (!(decide (t &&& mj_things (σ.1 18) (mj_b (nI s &&& (1 <<< (nI k &&& 31)))) (D 14 14) = 0)) || mj_twc (σ.1 18) (nI s) (D 14 14) (k + 1) j (t ||| mj_things (σ.1 18) (mj_b (nI s &&& (1 <<< (nI k &&& 31)))) (D 14 14))) = true ↔ _
    generalize mj_things (σ.1 18) (mj_b (nI s &&& (1 <<< (nI k &&& 31)))) (D 14 14) = O at *
    have ih' := ih (k + 1) (t ||| O) (by omega) (fun v a b => by rw [mj_b_or, ht v a b, bH v a b]; rfl)
    rw [Bool.or_eq_true, ih', Bool.not_eq_true', decide_eq_false_iff_not]
    have bt : ∀ i, i < D 14 14 → D 18 i ≠ 0 → mj_b (t ||| O) (D 18 i - 1) = (mj_b t (D 18 i - 1) || decide (s.testBit k = true ∧ D 18 k = D 18 i)) := fun i hi h0 => by
      have k18i := (hk.2.2.2.2.1 i hi).2.2.1
      rw [mj_b_or]
      congr 1
      refine mk_beq ?_
      rw [bO _ (by omega), decide_eq_true_eq]
      refine and_congr_right (fun _ => by omega)
    have tz : ¬ t &&& O = 0 ↔ s.testBit k = true ∧ D 18 k ≠ 0 ∧ mj_b t (D 18 k - 1) = true := by
      constructor
      · intro z
        apply Classical.byContradiction
        intro y
        refine z (mj_b_ext (fun v hv => ?_))
        rw [mj_b_and, mj_b_0]
        by_cases c : v < 4
        · cases q : mj_b t v
          · rfl
          · cases q2 : mj_b O v
            · rfl
            · obtain ⟨w1, w2⟩ := (bO v c).mp q2
              exact absurd ⟨w1, by omega, by rw [w2, Nat.add_sub_cancel]; exact q⟩ y
        · rw [ht v (by omega) hv, Bool.false_and]
      · rintro ⟨z1, z2, z3⟩ y
        have := congrArg (fun v => mj_b v (D 18 k - 1)) y
        simp only [mj_b_and, mj_b_0] at this
        rw [z3, (bO (D 18 k - 1) (by omega)).mpr ⟨z1, by omega⟩] at this
        exact absurd this (by decide)
    rw [tz]
    constructor
    · rintro (⟨z1, z2, z3⟩ | z) hf
      · rw [hf.1 k (Nat.le_refl _) (by omega) z1 z2] at z3
        exact absurd z3 (by decide)
      · refine z ⟨fun i a b e g => ?_, fun i i' a b a' b' => hf.2 i i' (by omega) (by omega) (by omega) (by omega)⟩
        rw [bt i (by omega) g, hf.1 i (by omega) (by omega) e g, Bool.false_or]
        refine decide_eq_false (fun w => ?_)
        have := hf.2 i k (by omega) (by omega) (Nat.le_refl _) (by omega) e w.1 w.2.symm g
        omega
    · intro z
      apply Classical.byContradiction
      intro y
      have y1 : ¬ (s.testBit k = true ∧ D 18 k ≠ 0 ∧ mj_b t (D 18 k - 1) = true) := fun w => y (Or.inl w)
      obtain ⟨f1, f2⟩ := Classical.not_not.mp (fun w => y (Or.inr w))
      refine z ⟨fun i a b e g => ?_, fun i i' a b a' b' e e' g g' => ?_⟩
      · by_cases q : i = k
        · rw [q] at e g ⊢
          cases w : mj_b t (D 18 k - 1)
          · rfl
          · exact absurd ⟨e, g, w⟩ y1
        · have := f1 i (by omega) (by omega) e g
          rw [bt i (by omega) g, Bool.or_eq_false_iff] at this
          exact this.1
      · by_cases q : i = k
        · by_cases q' : i' = k
          · rw [q, q']
          · have := f1 i' (by omega) (by omega) e' (by omega)
            rw [bt i' (by omega) (by omega), decide_eq_true ⟨by rw [← q]; exact e, by rw [← q]; exact g⟩, Bool.or_true] at this
            exact absurd this (by decide)
        · by_cases q' : i' = k
          · have := f1 i (by omega) (by omega) e (by omega)
            rw [bt i (by omega) (by omega), decide_eq_true ⟨by rw [← q']; exact e', by rw [← q']; exact g.symm⟩, Bool.or_true] at this
            exact absurd this (by decide)
          · exact f2 i i' (by omega) (by omega) (by omega) (by omega) e e' g g'
/-- what a set would break -/
theorem mk_brk_D {s h o j k : Nat} (hD : mj_isD σ D) (hM : mk_isM μ D) (hk : mj_okD D) (hs : s < 512) (hh : h < 12) (ho : o < 8) (hj : j < D 14 14) (hk56 : k = 5 ∨ k = 6) : mj_brk σ (nI k) (nI s) (nI h) (nI o) (D 14 14) j = true ↔ D 15 j = k ∧ mj_cvD D j h = true ∧ mj_asD D j o = true ∧ (k = 6 ∨ ∃ i, i < D 14 14 ∧ s.testBit i = true ∧ D 18 i = D 18 j) := by
  have N9 := hk.1
  obtain ⟨e15, e16, e17, e18, -⟩ := hD.2.2.2.2.1 j hj
  obtain ⟨k15, ⟨k16, k17⟩, k18, -, -, -, -, -, k5⟩ := hk.2.2.2.2.1 j hj
  unfold mj_brk
  rw [mj_cov_D hD hk hj (by omega), mj_ask_D hD hk hj (by omega)]
  simp only [Bool.and_eq_true, Bool.or_eq_true, decide_eq_true_eq]
  rw [e15, nI_eq (by omega) (by omega), show (6 : Int32) = nI 6 from rfl, nI_eq (by omega) (by omega)]
  refine and_congr_right (fun hkd => and_congr_right (fun _ => and_congr_right (fun _ => ?_)))
  rcases hk56 with e | e
  · have p := k5 (by omega)
    rw [e18, mj_oi_pos (by omega), mj_bt (by omega)]
    have := mk_things_b (s := s) (v := D 18 j - 1) (B := mj_b (nI s)) hD hk (fun i hi => mj_b_nI (by omega)) (by omega)
    rw [show D 18 j - 1 + 1 = D 18 j by omega] at this
    rw [← this]
    cases mj_b (mj_things (σ.1 18) (mj_b (nI s)) (D 14 14)) (D 18 j - 1) <;> simp [mj_z, e]
  · exact ⟨fun _ => Or.inl e, fun _ => Or.inl e⟩
theorem mk_brn_b {s h o k b : Nat} (hk : mj_okD D) (hb : b < 32) : mj_b (mj_broken σ (nI k) (nI s) (nI h) (nI o) (D 14 14) (D 14 14)) b = (decide (b < D 14 14) && mj_brk σ (nI k) (nI s) (nI h) (nI o) (D 14 14) b) := mk_fbt hb (by have := hk.1; omega)
/-- why a set may not be done: both sides say the same -/
theorem mk_why_eq {a G h o : Nat} {x y : Nat → Nat} {l : Nat → Int32} {mt set : Int32} (hr : mk_HR σ μ D a x y G l mt) (hh : h < 12) (ho : o < 8) : mj_why σ a set (nI h) (nI o) (nI G) (D 14 14) = mj_pwy μ (nI h) set (nI o) mt (D 14 14) l := by
  have hL := mk_HR_L hr
  have hop := mk_aOpen_eq (set := set) hr hh ho
  obtain ⟨hD, hM, hk, r1, r2, r3, r4, r5, r6⟩ := hr
  have N9 := hk.1
  unfold mj_why mj_pwy
  by_cases c : set &&& (mj_Gset μ (nI h) (nI o) mt l (D 14 14) ^^^ -1) = 0
  · rw [if_pos (hop.mpr c), if_pos c]
    have all : ∀ i, i < 32 → mj_b set i = true → i < D 14 14 := fun i hi hb => by
      have := mj_sub_b c hb
      rw [mj_Gset_fb, mj_fb_b hi _ (by omega), Bool.and_eq_true, decide_eq_true_eq] at this
      exact this.1
    obtain ⟨s, s1, s2⟩ := mj_b_lt (a := set) (n := 9) (by decide) (fun i hi h9 => by
      cases z : mj_b set i
      · rfl
      · have := all i hi z
        omega)
    have s9 : s < 512 := s1
    have sN : ∀ i, s.testBit i = true → i < D 14 14 := fun i hi => by
      have h32 : i < 32 := by
        by_cases q : i < 32
        · exact q
        · rw [Nat.testBit_lt_two_pow (Nat.lt_of_lt_of_le s1 (Nat.pow_le_pow_right (by decide) (by omega)))] at hi
          exact absurd hi (by decide)
      refine all i h32 ?_
      rw [s2, mj_b_nI (by omega)]
      exact hi
    have k27 := hk.2.2.2.2.2.1 h hh
    have b9 : mj_sgm (fun i => if s.testBit i = true then 1 else 0) 9 ≤ 9 * 1 := mj_sgm_bnd _ (fun i _ => by split <;> omega)
    unfold mj_Mbars
    rw [s2, nI_clamp (by omega), hD.2.2.2.2.2.1 h hh, hM.2.2.2.2.1 h hh, mk_pop512 s s9, mk_cnt_n s9 9 (Nat.le_refl _)]
    have tw := mk_twc_D hD hk s9 sN (D 14 14) 0 0 (by omega) (fun _ _ _ => mj_b_0)
    have brn : ∀ k, k = 5 ∨ k = 6 → (mj_broken σ (nI k) (nI s) (nI h) (nI o) (D 14 14) (D 14 14) = 0 ↔ ∀ j, j < D 14 14 → ¬ (D 15 j = k ∧ mj_cvD D j h = true ∧ mj_asD D j o = true ∧ (k = 6 ∨ ∃ i, i < D 14 14 ∧ s.testBit i = true ∧ D 18 i = D 18 j))) := fun k h56 => by
      rw [mj_b_eq0]
      constructor
      · intro z j hj w
        have := z j (by omega)
        rw [mk_brn_b hk (by omega), decide_eq_true hj, (mk_brk_D hD hM hk s9 hh ho hj h56).mpr w] at this
        exact absurd this (by decide)
      · intro z b hb
        rw [mk_brn_b hk hb]
        by_cases q : b < D 14 14
        · rw [decide_eq_true q, Bool.true_and]
          cases w : mj_brk σ (nI k) (nI s) (nI h) (nI o) (D 14 14) b
          · rfl
          · exact absurd ((mk_brk_D hD hM hk s9 hh ho q h56).mp w) (z b q)
        · rw [decide_eq_false q, Bool.false_and]
    have bar : ∀ j, j < D 14 14 → (mj_bar μ (nI h) (nI o) mt j = true ↔ ¬ D 15 j < 5 ∧ mj_cvD D j h = true ∧ mj_asD D j o = true) := fun j hj => by
      rw [mk_bar_D hM hk hj hh ho, r2 j (by omega), decide_eq_true hj]
      exact ⟨fun w => w.2, fun w => ⟨rfl, w⟩⟩
    by_cases s0 : s = 0
    · subst s0
      have t0 : mj_sgm (fun i => if Nat.testBit 0 i = true then 1 else 0) 9 = 0 := mj_sgm_0 9 (fun i _ => by rw [Nat.zero_testBit]; rfl)
      have f0 : ¬ mj_twc (σ.1 18) (nI 0) (D 14 14) 0 (D 14 14) 0 = true := fun w => tw.mp w ⟨fun i _ _ e => by rw [Nat.zero_testBit] at e; exact absurd e (by decide), fun i i' _ _ _ _ e => by rw [Nat.zero_testBit] at e; exact absurd e (by decide)⟩
      rw [t0, if_neg (nI_nlt (Nat.zero_le _) (by omega)), if_neg f0, if_neg (fun w => w.1 rfl), if_pos (show nI 0 = 0 from rfl)]
      refine if_pos ?_
      have := (brn 5 (Or.inl rfl)).mpr (fun j hj w => by
        rcases w.2.2.2 with q | ⟨i, _, q, _⟩
        · exact absurd q (by decide)
        · rw [Nat.zero_testBit] at q
          exact absurd q (by decide))
      exact this
    · have n0 : ¬ nI s = 0 := fun z => s0 ((nI_eq (b := 0) (by omega) (by omega)).mp z)
      rw [if_neg n0]
      by_cases c1 : nI (D 27 h) < nI (mj_sgm (fun i => if s.testBit i = true then 1 else 0) 9)
      · rw [if_pos c1, if_pos c1]
      · rw [if_neg c1, if_neg c1]
        rcases mk_tl_D hM hk s9 (D 14 14) 0 0 (by omega) with ⟨t', i1, i2, i3⟩ | ⟨i1, i2⟩
        · rw [i1, if_neg (fun w => tw.mp w i2)]
          show (if ¬ nI s = 0 ∧ ¬ mj_broken σ 6 (nI s) (nI h) (nI o) (D 14 14) (D 14 14) = 0 then (4 : Int32) else if mj_broken σ 5 (nI s) (nI h) (nI o) (D 14 14) (D 14 14) = 0 then 0 else 5) = (if mj_anyF (fun j => decide (μ.1 65 j = 6) && mj_bar μ (nI h) (nI o) mt j) 0 (D 14 14) = true then (4 : Int32) else if mj_anyF (fun j => decide (μ.1 65 j = 5) && (mj_bar μ (nI h) (nI o) mt j && mj_b t' (μ.1 68 j).toNatClampNeg)) 0 (D 14 14) = true then 5 else 0)
          have b6 : mj_broken σ 6 (nI s) (nI h) (nI o) (D 14 14) (D 14 14) = 0 ↔ ¬ mj_anyF (fun j => decide (μ.1 65 j = 6) && mj_bar μ (nI h) (nI o) mt j) 0 (D 14 14) = true := by
            have := brn 6 (Or.inr rfl)
            rw [show (6 : Int32) = nI 6 from rfl, this, mj_anyF_iff]
            constructor
            · rintro z ⟨j, -, hj, hb⟩
              rw [Bool.and_eq_true, decide_eq_true_eq] at hb
              have hj' : j < D 14 14 := by omega
              have kd := (mk_kd_M hM hk hj' (k := 6) (by omega)).mp hb.1
              exact z j hj' ⟨kd, ((bar j hj').mp hb.2).2.1, ((bar j hj').mp hb.2).2.2, Or.inl rfl⟩
            · intro z j hj w
              refine z ⟨j, Nat.zero_le _, by omega, ?_⟩
              rw [Bool.and_eq_true, decide_eq_true_eq]
              exact ⟨(mk_kd_M hM hk hj (k := 6) (by omega)).mpr w.1, (bar j hj).mpr ⟨by omega, w.2.1, w.2.2.1⟩⟩
          have b5 : mj_broken σ 5 (nI s) (nI h) (nI o) (D 14 14) (D 14 14) = 0 ↔ ¬ mj_anyF (fun j => decide (μ.1 65 j = 5) && (mj_bar μ (nI h) (nI o) mt j && mj_b t' (μ.1 68 j).toNatClampNeg)) 0 (D 14 14) = true := by
            have := brn 5 (Or.inl rfl)
            rw [show (5 : Int32) = nI 5 from rfl, this, mj_anyF_iff]
            have th : ∀ j, j < D 14 14 → D 15 j = 5 → (mj_b t' (μ.1 68 j).toNatClampNeg = true ↔ ∃ i, i < D 14 14 ∧ s.testBit i = true ∧ D 18 i = D 18 j) := fun j hj h5 => by
              have k5 := (hk.2.2.2.2.1 j hj).2.2.2.2.2.2.2.2 h5
              have k18 := (hk.2.2.2.2.1 j hj).2.2.1
              rw [(hM.2.2.2.1 j hj).2.2.2.1, mj_oi_pos (by omega), nI_clamp (by omega), i3 _ (by omega), mj_b_0]
              constructor
              · rintro (z | ⟨i, -, a, e, g⟩)
                · exact absurd z (by decide)
                · exact ⟨i, by omega, e, by omega⟩
              · rintro ⟨i, a, e, g⟩
                exact Or.inr ⟨i, Nat.zero_le _, by omega, e, by omega⟩
            constructor
            · rintro z ⟨j, -, hj, hb⟩
              rw [Bool.and_eq_true, Bool.and_eq_true, decide_eq_true_eq] at hb
              have hj' : j < D 14 14 := by omega
              have kd := (mk_kd_M hM hk hj' (k := 5) (by omega)).mp hb.1
              exact z j hj' ⟨kd, ((bar j hj').mp hb.2.1).2.1, ((bar j hj').mp hb.2.1).2.2, Or.inr ((th j hj' kd).mp hb.2.2)⟩
            · intro z j hj w
              refine z ⟨j, Nat.zero_le _, by omega, ?_⟩
              rw [Bool.and_eq_true, Bool.and_eq_true, decide_eq_true_eq]
              exact ⟨(mk_kd_M hM hk hj (k := 5) (by omega)).mpr w.1, (bar j hj).mpr ⟨by omega, w.2.1, w.2.2.1⟩, (th j hj w.1).mpr (w.2.2.2.resolve_left (by decide))⟩
          by_cases c6 : mj_anyF (fun j => decide (μ.1 65 j = 6) && mj_bar μ (nI h) (nI o) mt j) 0 (D 14 14) = true
          · rw [if_pos c6, if_pos ⟨n0, fun w => (b6.mp w) c6⟩]
          · rw [if_neg c6, if_neg (fun w => w.2 (b6.mpr c6))]
            by_cases c5 : mj_anyF (fun j => decide (μ.1 65 j = 5) && (mj_bar μ (nI h) (nI o) mt j && mj_b t' (μ.1 68 j).toNatClampNeg)) 0 (D 14 14) = true
            · rw [if_pos c5, if_neg (fun w => (b5.mp w) c5)]
            · rw [if_neg c5, if_pos (b5.mpr c5)]
        · rw [i1, if_pos (tw.mpr i2)]
  · rw [if_neg (fun w => c (hop.mp w)), if_neg c]
end
