section
variable {σ τ μ : mj_St} {D : Nat → Nat → Nat}
/-- no thing twice, and none that is taken -/
def mk_fre (D : Nat → Nat → Nat) (s : Nat) (t : Int32) (k j : Nat) : Prop := (∀ i, k ≤ i → i < k + j → s.testBit i = true → D 18 i ≠ 0 → mj_b t (D 18 i - 1) = false) ∧ ∀ i i', k ≤ i → i < k + j → k ≤ i' → i' < k + j → s.testBit i = true → s.testBit i' = true → D 18 i = D 18 i' → D 18 i ≠ 0 → i = i'
theorem mk_tl_D {s : Nat} (hM : mk_isM μ D) (hk : mj_okD D) (hs : s < 512) : ∀ (j k : Nat) (t : Int32), k + j ≤ D 14 14 →
    (∃ t', mj_tl (μ.1 68) (nI s) k j t = some t' ∧ mk_fre D s t k j ∧ ∀ v, v < 4 → (mj_b t' v = true ↔ mj_b t v = true ∨ ∃ i, k ≤ i ∧ i < k + j ∧ s.testBit i = true ∧ D 18 i = v + 1)) ∨ (mj_tl (μ.1 68) (nI s) k j t = none ∧ ¬ mk_fre D s t k j) := by
  have N9 := hk.1
  intro j
  induction j with
  | zero =>
    intro k t _
    refine Or.inl ⟨t, rfl, ⟨fun i a b => by omega, fun i i' a b => by omega⟩, fun v _ => ⟨fun z => Or.inl z, fun z => ?_⟩⟩
    rcases z with z | ⟨i, a, b, -⟩
    · exact z
    · omega
  | succ j ih =>
    intro k t hkj
    have e18 := (hM.2.2.2.1 k (by omega)).2.2.2.1
    have k18 := (hk.2.2.2.2.1 k (by omega)).2.2.1
    have eb : mj_b (nI s) k = s.testBit k := mj_b_nI (by omega)
    by_cases c : s.testBit k = true ∧ D 18 k ≠ 0
    · have et : μ.1 68 k = nI (D 18 k - 1) := by rw [e18, mj_oi_pos (by omega)]
      have c' : mj_b (nI s) k = true ∧ ¬ μ.1 68 k = -1 := ⟨by rw [eb]; exact c.1, by rw [et]; exact mj_nI_m1 (by omega)⟩
      have eq : mj_tl (μ.1 68) (nI s) k (j + 1) t = if mj_b t (D 18 k - 1) = true then none else mj_tl (μ.1 68) (nI s) (k + 1) j (t ||| 1 <<< (nI (D 18 k - 1) &&& 31)) := by
        show (if mj_b (nI s) k = true ∧ ¬ μ.1 68 k = -1 then (if mj_b t (μ.1 68 k).toNatClampNeg = true then none else mj_tl (μ.1 68) (nI s) (k + 1) j (t ||| 1 <<< (μ.1 68 k &&& 31))) else mj_tl (μ.1 68) (nI s) (k + 1) j t) = _
        rw [if_pos c', et, nI_clamp (by omega)]
      rw [eq]
      cases d : mj_b t (D 18 k - 1)
      · rw [if_neg (by decide)]
        have bt : ∀ v, v < 4 → mj_b (t ||| 1 <<< (nI (D 18 k - 1) &&& 31)) v = (mj_b t v || decide (v = D 18 k - 1)) := fun v hv => by
          rw [mj_b_or, mj_b_sh1 (by omega) (by omega)]
        rcases ih (k + 1) (t ||| 1 <<< (nI (D 18 k - 1) &&& 31)) (by omega) with ⟨t', i1, ⟨f1, f2⟩, i3⟩ | ⟨i1, i2⟩
        · refine Or.inl ⟨t', i1, ⟨fun i a b e g => ?_, fun i i' a b a' b' e e' g g' => ?_⟩, fun v hv => ?_⟩
          · by_cases ik : i = k
            · rw [ik]; exact d
            · have k18i := (hk.2.2.2.2.1 i (by omega)).2.2.1
              have := f1 i (by omega) (by omega) e g
              rw [bt _ (by omega), Bool.or_eq_false_iff] at this
              exact this.1
          · have k18i := (hk.2.2.2.2.1 i (by omega)).2.2.1
            have k18i' := (hk.2.2.2.2.1 i' (by omega)).2.2.1
            by_cases ik : i = k
            · by_cases ik' : i' = k
              · rw [ik, ik']
              · have := f1 i' (by omega) (by omega) e' (by omega)
                rw [bt _ (by omega), ← g, ik, decide_eq_true rfl, Bool.or_true] at this
                exact absurd this (by decide)
            · by_cases ik' : i' = k
              · have := f1 i (by omega) (by omega) e (by omega)
                rw [bt _ (by omega), g, ik', decide_eq_true rfl, Bool.or_true] at this
                exact absurd this (by decide)
              · exact f2 i i' (by omega) (by omega) (by omega) (by omega) e e' g g'
          · rw [i3 v hv, bt v hv, Bool.or_eq_true, decide_eq_true_eq]
            constructor
            · rintro ((z | z) | ⟨i, a, b, e, g⟩)
              · exact Or.inl z
              · exact Or.inr ⟨k, Nat.le_refl _, by omega, c.1, by omega⟩
              · exact Or.inr ⟨i, by omega, by omega, e, g⟩
            · rintro (z | ⟨i, a, b, e, g⟩)
              · exact Or.inl (Or.inl z)
              · by_cases ik : i = k
                · rw [ik] at g
                  exact Or.inl (Or.inr (by omega))
                · exact Or.inr ⟨i, by omega, by omega, e, g⟩
        · refine Or.inr ⟨i1, fun z => i2 ⟨fun i a b e g => ?_, fun i i' a b a' b' => z.2 i i' (by omega) (by omega) (by omega) (by omega)⟩⟩
          have k18i := (hk.2.2.2.2.1 i (by omega)).2.2.1
          rw [bt _ (by omega), z.1 i (by omega) (by omega) e g, Bool.false_or]
          refine decide_eq_false (fun y => ?_)
          have := z.2 i k (by omega) (by omega) (Nat.le_refl _) (by omega) e c.1 (by omega) g
          omega
      · rw [if_pos rfl]
        refine Or.inr ⟨rfl, fun z => ?_⟩
        have := z.1 k (Nat.le_refl _) (by omega) c.1 c.2
        rw [d] at this
        exact absurd this (by decide)
    · have c' : ¬ (mj_b (nI s) k = true ∧ ¬ μ.1 68 k = -1) := fun z => c ⟨by rw [← eb]; exact z.1, fun y => z.2 (by rw [e18, y]; rfl)⟩
      have eq : mj_tl (μ.1 68) (nI s) k (j + 1) t = mj_tl (μ.1 68) (nI s) (k + 1) j t := by
        show (if mj_b (nI s) k = true ∧ ¬ μ.1 68 k = -1 then (if mj_b t (μ.1 68 k).toNatClampNeg = true then none else mj_tl (μ.1 68) (nI s) (k + 1) j (t ||| 1 <<< (μ.1 68 k &&& 31))) else mj_tl (μ.1 68) (nI s) (k + 1) j t) = _
        rw [if_neg c']
      have ne : ∀ i, s.testBit i = true → D 18 i ≠ 0 → i ≠ k := fun i a b e => c ⟨by rw [← e]; exact a, by rw [← e]; exact b⟩
      rw [eq]
      rcases ih (k + 1) t (by omega) with ⟨t', i1, ⟨f1, f2⟩, i3⟩ | ⟨i1, i2⟩
      · refine Or.inl ⟨t', i1, ⟨fun i a b e g => f1 i (by have := ne i e g; omega) (by omega) e g, fun i i' a b a' b' e e' g g' => f2 i i' (by have := ne i e g'; omega) (by omega) (by have := ne i' e' (by omega); omega) (by omega) e e' g g'⟩, fun v hv => ?_⟩
        rw [i3 v hv]
        refine or_congr Iff.rfl ⟨?_, ?_⟩
        · rintro ⟨i, a, b, e, g⟩
          exact ⟨i, by omega, by omega, e, g⟩
        · rintro ⟨i, a, b, e, g⟩
          exact ⟨i, by have := ne i e (by omega); omega, by omega, e, g⟩
      · exact Or.inr ⟨i1, fun z => i2 ⟨fun i a b e g => z.1 i (by omega) (by omega) e g, fun i i' a b a' b' => z.2 i i' (by omega) (by omega) (by omega) (by omega)⟩⟩
theorem mk_cnt_n {s : Nat} (hs : s < 512) : ∀ n, n ≤ 9 → mj_cnt (nI s) n = nI (mj_sgm (fun i => if s.testBit i = true then 1 else 0) n) := by
  intro n
  induction n with
  | zero => intro _; rfl
  | succ n ih =>
    intro hn
    have ih' := ih (by omega)
    unfold mj_cnt at ih' ⊢
    rw [mj_it_s, ih', mj_b_nI (by omega)]
    show nI _ + mj_z _ = nI (mj_sgm _ n + (if s.testBit n = true then 1 else 0))
    rw [← nI_add]
    cases s.testBit n <;> rfl
/-- what one outcome wants of a set -/
def mk_vo1 (D : Nat → Nat → Nat) (mt : Nat → Bool) (h : Nat) (x : Nat → Nat) (A : Nat → Bool) (o : Nat) : Prop :=
  ((∃ i, A i = true) → mj_sbt A ≤ D 27 h ∧ (∀ i j, A i = true → A j = true → D 18 i = D 18 j → D 18 i ≠ 0 → i = j) ∧ ∀ j, j < D 14 14 → mt j = true → ¬ D 15 j < 5 → mj_cvD D j h = true → mj_asD D j o = true → D 15 j ≠ 6 ∧ ∀ i, A i = true → D 18 i ≠ D 18 j) ∧
  ∀ i, i < D 14 14 → mt i = true → D 15 i < 5 → mj_asD D i o = true → ¬ mj_beh D h (x i) (A i) i
theorem mk_bar_D {j h o : Nat} {mt : Int32} (hM : mk_isM μ D) (hk : mj_okD D) (hj : j < D 14 14) (hh : h < 12) (ho : o < 8) : mj_bar μ (nI h) (nI o) mt j = true ↔ mj_b mt j = true ∧ ¬ D 15 j < 5 ∧ mj_cvD D j h = true ∧ mj_asD D j o = true := by
  unfold mj_bar
  rw [mk_ask_M hM hk hj (by omega), mk_cov_M hM hk hj (by omega)]
  simp only [Bool.and_eq_true, decide_eq_true_eq]
  rw [(mk_wk_M hM hk hj).1]
  exact ⟨fun ⟨a, b, c, d⟩ => ⟨a, b, d, c⟩, fun ⟨a, b, c, d⟩ => ⟨a, b, d, c⟩⟩
/-- nothing bars a set: hands, things, those that want the hour free or a thing left alone -/
theorem mk_Mbars_D {s h o : Nat} {mt : Int32} (hM : mk_isM μ D) (hk : mj_okD D) (hs : s < 512) (hsN : ∀ i, s.testBit i = true → i < D 14 14) (hh : h < 12) (ho : o < 8) :
    mj_Mbars μ (nI s) (nI h) (nI o) mt (D 14 14) = 0 ↔ ((∃ i, mj_sb s i = true) → mj_sbt (mj_sb s) ≤ D 27 h ∧ (∀ i j, mj_sb s i = true → mj_sb s j = true → D 18 i = D 18 j → D 18 i ≠ 0 → i = j) ∧ ∀ j, j < D 14 14 → mj_b mt j = true → ¬ D 15 j < 5 → mj_cvD D j h = true → mj_asD D j o = true → D 15 j ≠ 6 ∧ ∀ i, mj_sb s i = true → D 18 i ≠ D 18 j) := by
  have N9 := hk.1
  have k27 := hk.2.2.2.2.2.1 h hh
  unfold mj_Mbars
  rw [nI_clamp (by omega), hM.2.2.2.2.1 h hh, mk_cnt_n hs 9 (Nat.le_refl _)]
  by_cases s0 : s = 0
  · subst s0
    rw [if_pos (show nI 0 = 0 from rfl)]
    refine ⟨fun _ z => ?_, fun _ => rfl⟩
    obtain ⟨i, hi⟩ := z
    unfold mj_sb at hi
    rw [Nat.zero_testBit] at hi
    exact absurd hi (by decide)
  · have ex : ∃ i, mj_sb s i = true := by
      obtain ⟨i, hi⟩ := Nat.exists_testBit_of_ne_zero s0
      exact ⟨i, hi⟩
    rw [if_neg (show ¬ nI s = 0 from fun z => s0 ((nI_eq (b := 0) (by omega) (by omega)).mp z))]
    have eb : mj_sgm (fun i => if s.testBit i = true then 1 else 0) 9 = mj_sbt (mj_sb s) := rfl
    rw [eb]
    have b9 : mj_sbt (mj_sb s) ≤ 9 * 1 := mj_sgm_bnd _ (fun i _ => by split <;> omega)
    have lt : nI (D 27 h) < nI (mj_sbt (mj_sb s)) ↔ D 27 h < mj_sbt (mj_sb s) := ⟨fun z => Classical.byContradiction (fun y => nI_nlt (by omega) (by omega) z), fun z => nI_lt z (by omega)⟩
    by_cases c1 : D 27 h < mj_sbt (mj_sb s)
    · rw [if_pos (lt.mpr c1)]
      exact ⟨fun z => absurd z (by decide), fun z => by have := (z ex).1; omega⟩
    · rw [if_neg (fun z => c1 (lt.mp z))]
      rcases mk_tl_D hM hk hs (D 14 14) 0 0 (by omega) with ⟨t', i1, i2, i3⟩ | ⟨i1, i2⟩
      · rw [i1]
        have fr : ∀ i j, mj_sb s i = true → mj_sb s j = true → D 18 i = D 18 j → D 18 i ≠ 0 → i = j := fun i j a b e g => i2.2 i j (Nat.zero_le _) (by have := hsN i a; omega) (Nat.zero_le _) (by have := hsN j b; omega) a b e g
        show (if mj_anyF (fun j => decide (μ.1 65 j = 6) && mj_bar μ (nI h) (nI o) mt j) 0 (D 14 14) = true then (4 : Int32) else if mj_anyF (fun j => decide (μ.1 65 j = 5) && (mj_bar μ (nI h) (nI o) mt j && mj_b t' (μ.1 68 j).toNatClampNeg)) 0 (D 14 14) = true then 5 else 0) = 0 ↔ _
        have th : ∀ j, j < D 14 14 → D 15 j = 5 → (mj_b t' (μ.1 68 j).toNatClampNeg = true ↔ ∃ i, s.testBit i = true ∧ D 18 i = D 18 j) := fun j hj h5 => by
          have k5 := (hk.2.2.2.2.1 j hj).2.2.2.2.2.2.2.2 h5
          have k18 := (hk.2.2.2.2.1 j hj).2.2.1
          rw [(hM.2.2.2.1 j hj).2.2.2.1, mj_oi_pos (by omega), nI_clamp (by omega), i3 _ (by omega), mj_b_0]
          constructor
          · rintro (z | ⟨i, -, -, e, g⟩)
            · exact absurd z (by decide)
            · exact ⟨i, e, by omega⟩
          · rintro ⟨i, e, g⟩
            exact Or.inr ⟨i, Nat.zero_le _, by have := hsN i e; omega, e, by omega⟩
        by_cases c2 : mj_anyF (fun j => decide (μ.1 65 j = 6) && mj_bar μ (nI h) (nI o) mt j) 0 (D 14 14) = true
        · rw [if_pos c2]
          refine ⟨fun z => absurd z (by decide), fun z => ?_⟩
          obtain ⟨j, -, hj, hb⟩ := (mj_anyF_iff _ _).mp c2
          rw [Bool.and_eq_true, decide_eq_true_eq] at hb
          have hj' : j < D 14 14 := by omega
          obtain ⟨b1, b2, b3, b4⟩ := (mk_bar_D hM hk hj' hh ho).mp hb.2
          exact absurd ((mk_kd_M hM hk hj' (k := 6) (by omega)).mp hb.1) ((z ex).2.2 j hj' b1 b2 b3 b4).1
        · rw [if_neg c2]
          by_cases c3 : mj_anyF (fun j => decide (μ.1 65 j = 5) && (mj_bar μ (nI h) (nI o) mt j && mj_b t' (μ.1 68 j).toNatClampNeg)) 0 (D 14 14) = true
          · rw [if_pos c3]
            refine ⟨fun z => absurd z (by decide), fun z => ?_⟩
            obtain ⟨j, -, hj, hb⟩ := (mj_anyF_iff _ _).mp c3
            rw [Bool.and_eq_true, Bool.and_eq_true, decide_eq_true_eq] at hb
            have hj' : j < D 14 14 := by omega
            obtain ⟨b1, b2, b3, b4⟩ := (mk_bar_D hM hk hj' hh ho).mp hb.2.1
            obtain ⟨i, e, g⟩ := (th j hj' ((mk_kd_M hM hk hj' (k := 5) (by omega)).mp hb.1)).mp hb.2.2
            exact absurd g (((z ex).2.2 j hj' b1 b2 b3 b4).2 i e)
          · rw [if_neg c3]
            refine ⟨fun _ _ => ⟨by omega, fr, fun j hj b1 b2 b3 b4 => ?_⟩, fun _ => rfl⟩
            have k15 := (hk.2.2.2.2.1 j hj).1
            have bar := (mk_bar_D (o := o) hM hk hj hh ho).mpr ⟨b1, b2, b3, b4⟩
            have n6 : D 15 j ≠ 6 := fun z => c2 ((mj_anyF_iff _ _).mpr ⟨j, Nat.zero_le _, by omega, by
              rw [bar, Bool.and_true]
              exact decide_eq_true ((mk_kd_M hM hk hj (k := 6) (by omega)).mpr z)⟩)
            refine ⟨n6, fun i e g => c3 ((mj_anyF_iff _ _).mpr ⟨j, Nat.zero_le _, by omega, ?_⟩)⟩
            rw [bar, Bool.true_and, (th j hj (by omega)).mpr ⟨i, e, g⟩, Bool.and_true]
            exact decide_eq_true ((mk_kd_M hM hk hj (k := 5) (by omega)).mpr (by omega))
      · rw [i1]
        show (3 : Int32) = 0 ↔ _
        refine ⟨fun z => absurd z (by decide), fun z => ?_⟩
        refine absurd ⟨fun i _ _ _ _ => mj_b_0, fun i i' _ _ _ _ e e' g g' => (z ex).2.1 i i' e e' g g'⟩ i2
/-- one outcome is well with a set -/
theorem mk_bo1_D {s h o : Nat} {mt : Int32} {l : Nat → Int32} {x : Nat → Nat} (hM : mk_isM μ D) (hk : mj_okD D) (hL : mk_Lx D (mj_b mt) l x) (hs : s < 512) (hsN : ∀ i, s.testBit i = true → i < D 14 14) (hsx : ∀ i, s.testBit i = true → x i ≠ 0) (hh : h < 12) (ho : o < 8) :
    mj_bo1 μ (nI h) mt (D 14 14) l s o = true ↔ mk_vo1 D (mj_b mt) h x (mj_sb s) o := by
  have N9 := hk.1
  unfold mj_bo1 mk_vo1
  rw [Bool.and_eq_true, decide_eq_true_eq, decide_eq_true_eq, mk_Mbars_D hM hk hs hsN hh ho]
  refine and_congr Iff.rfl ?_
  have ebs : ∀ i, i < D 14 14 → mj_b (nI s) i = mj_sb s i := fun i hi => mj_b_nI (by omega)
  have beh : ∀ i, i < D 14 14 → D 15 i < 5 → (mj_bhf μ (nI h) (nI s) (nI o) mt (l i) i = true ↔ mj_b mt i = true ∧ mj_asD D i o = true ∧ mj_beh D h (x i) (mj_sb s i) i) := fun i hi h5 => by
    have := mk_bhf_D (set := nI s) hM hk hL hi h5 hh ho (fun _ z => hsx i (by rw [ebs i hi] at z; exact z))
    rw [ebs i hi] at this
    exact this
  constructor
  · intro z i hi hm h5 ha hb
    have := mj_nxl_0 N9 z hi ((mk_wk_M hM hk hi).2.mpr h5)
    rw [(beh i hi h5).mpr ⟨hm, ha, hb⟩] at this
    exact absurd this (by decide)
  · intro z
    rw [mj_nxl_fb, mj_b_eq0]
    intro k hk2
    rw [mj_fb_b hk2 _ (by omega)]
    by_cases c : k < D 14 14
    · rw [decide_eq_true c, Bool.true_and]
      by_cases c5 : D 15 k < 5
      · rw [decide_eq_true ((mk_wk_M hM hk c).2.mpr c5), Bool.true_and]
        cases y : mj_bhf μ (nI h) (nI s) (nI o) mt (l k) k
        · rfl
        · obtain ⟨a, b, e⟩ := (beh k c c5).mp y
          exact absurd e (z k c a c5 b)
      · rw [decide_eq_false (fun y => c5 ((mk_wk_M hM hk c).2.mp y)), Bool.false_and]
    · rw [decide_eq_false c, Bool.false_and]
/-- a set of open ones -/
theorem mk_sub_D {s h o : Nat} {mt : Int32} {l : Nat → Int32} {x : Nat → Nat} (hM : mk_isM μ D) (hk : mj_okD D) (hL : mk_Lx D (mj_b mt) l x) (hs : s < 512) (hh : h < 12) (ho : o < 8) :
    nI s &&& (mj_Gset μ (nI h) (nI o) mt l (D 14 14) ^^^ -1) = 0 ↔ ∀ i, mj_sb s i = true → i < D 14 14 ∧ mk_opE D (mj_b mt) (mj_b (μ.1 61 46)) o h x i := by
  have N9 := hk.1
  constructor
  · intro z i hi
    have hi9 : i < 9 := by
      by_cases c : i < 9
      · exact c
      · unfold mj_sb at hi
        rw [Nat.testBit_lt_two_pow (Nat.lt_of_lt_of_le (show s < 2 ^ 9 from hs) (Nat.pow_le_pow_right (by decide) (by omega)))] at hi
        exact absurd hi (by decide)
    have hb := mj_sub_b (k := i) z (by rw [mj_b_nI (by omega)]; exact hi)
    rw [mj_Gset_fb, mj_fb_b (by omega) _ (by omega), Bool.and_eq_true, decide_eq_true_eq] at hb
    exact ⟨hb.1, (mk_Gopn_D hM hk hL hb.1 hh ho).mp hb.2⟩
  · intro z
    refine mj_sub_of (fun k hk2 hb => ?_)
    rw [mj_b_nI (by omega)] at hb
    obtain ⟨a, b⟩ := z k hb
    rw [mj_Gset_fb, mj_fb_b hk2 _ (by omega), decide_eq_true a, (mk_Gopn_D hM hk hL a hh ho).mpr b]
    rfl
/-- what a move must be, told by the outcomes that count -/
theorem mk_vok_P {mt rg : Nat → Bool} {gr o g h : Nat} {x : Nat → Nat} {A : Nat → Bool} {P : Nat → Prop} (hP : ∀ i, i < D 14 14 → (mj_maV D gr o g h i = true ↔ ∃ o', P o' ∧ mj_asD D i o' = true)) (hne : ∃ o', P o') :
    mj_vok D mt rg gr o g h x A ↔ (∀ i, A i = true → i < D 14 14 ∧ mj_opD D mt rg gr o g h x i) ∧ ∀ o', P o' → mk_vo1 D mt h x A o' := by
  have cl : ∀ q, mj_clD D mt gr o g h q = true ↔ ∃ i, i < D 14 14 ∧ mt i = true ∧ ¬ D 15 i < 5 ∧ mj_cvD D i h = true ∧ mj_maV D gr o g h i = true ∧ (D 15 i = 6 ∨ D 18 q = D 18 i) := fun q => by
    unfold mj_clD
    rw [mj_anyF_iff]
    constructor
    · rintro ⟨i, -, hi, z⟩
      simp only [Bool.and_eq_true, Bool.or_eq_true, Bool.not_eq_true', decide_eq_true_eq, decide_eq_false_iff_not] at z
      exact ⟨i, by omega, z⟩
    · rintro ⟨i, hi, z⟩
      refine ⟨i, Nat.zero_le _, by omega, ?_⟩
      simp only [Bool.and_eq_true, Bool.or_eq_true, Bool.not_eq_true', decide_eq_true_eq, decide_eq_false_iff_not]
      exact z
  constructor
  · rintro ⟨v1, v2, v3, v4⟩
    refine ⟨fun i hi => ⟨(v1 i hi).1, (v1 i hi).2.1⟩, fun o' ho' => ⟨fun _ => ⟨v2, v3, fun j hj b1 b2 b3 b4 => ?_⟩, fun i hi b1 b2 b3 => v4 i hi b1 b2 ((hP i hi).mpr ⟨o', ho', b3⟩)⟩⟩
    have m := (hP j hj).mpr ⟨o', ho', b4⟩
    rename_i ex
    obtain ⟨q, hq⟩ := ex
    refine ⟨fun z => ?_, fun i hi z => ?_⟩
    · have := (cl q).mpr ⟨j, hj, b1, b2, b3, m, Or.inl z⟩
      rw [(v1 q hq).2.2] at this
      exact absurd this (by decide)
    · have := (cl i).mpr ⟨j, hj, b1, b2, b3, m, Or.inr z⟩
      rw [(v1 i hi).2.2] at this
      exact absurd this (by decide)
  · rintro ⟨v1, v2⟩
    obtain ⟨o0, ho0⟩ := hne
    have v20 := v2 o0 ho0
    refine ⟨fun i hi => ⟨(v1 i hi).1, (v1 i hi).2, ?_⟩, ?_, fun i j hi => ?_, fun i hi b1 b2 b3 => ?_⟩
    · cases z : mj_clD D mt gr o g h i
      · rfl
      · obtain ⟨j, hj, b1, b2, b3, b4, b5⟩ := (cl i).mp z
        obtain ⟨o', ho', b4'⟩ := (hP j hj).mp b4
        obtain ⟨c1, c2⟩ := (((v2 o' ho').1 ⟨i, hi⟩).2.2) j hj b1 b2 b3 b4'
        rcases b5 with b5 | b5
        · exact absurd b5 c1
        · exact absurd b5 (c2 i hi)
    · by_cases c : ∃ i, A i = true
      · exact (v20.1 c).1
      · have : mj_sbt A = 0 := mj_sgm_0 9 (fun i _ => if_neg (fun z => c ⟨i, z⟩))
        rw [this]
        exact Nat.zero_le _
    · exact (v20.1 ⟨i, hi⟩).2.1 i j hi
    · obtain ⟨o', ho', b3'⟩ := (hP i hi).mp b3
      exact (v2 o' ho').2 i hi b1 b2 b3'
end
