section
variable {D : Nat → Nat → Nat}
/-- those that may be given up -/
def mk_li (D : Nat → Nat → Nat) (o i : Nat) : Prop := mj_asD D i o = true ∧ (D 14 16).testBit i = false ∧ D 14 17 ≤ D 17 i ∧ (¬ D 15 i < 5 ∨ 0 < D 25 i)
/-- whoever is after one that is given up is given up, too -/
def mk_whl (D : Nat → Nat → Nat) (o : Nat) (T : Nat → Bool) : Prop := ∀ i, i < D 14 14 → mk_li D o i → T i = false → D 19 i ≠ 0 → T (D 19 i - 1) = false
/-- those that are left -/
def mk_rst (D : Nat → Nat → Nat) (T : Nat → Bool) (i : Nat) : Bool := decide (i < D 14 14) && (!((D 14 16).testBit i) && !(T i))
theorem mk_rst_i {T : Nat → Bool} {i : Nat} : mk_rst D T i = true ↔ i < D 14 14 ∧ (D 14 16).testBit i = false ∧ T i = false := by
  unfold mk_rst
  rw [Bool.and_eq_true, Bool.and_eq_true, decide_eq_true_eq, Bool.not_eq_true', Bool.not_eq_true']
theorem mk_op1 {mt rg : Nat → Bool} {o g h i : Nat} {x : Nat → Nat} : mj_opD D mt rg 1 o g h x i ↔ mk_opE D mt rg o h x i := by
  unfold mk_opE mj_opD mj_kaV
  rw [if_pos rfl]
theorem mk_cl1 {mt : Nat → Bool} {o g h q : Nat} : mj_clD D mt 1 o g h q = true ↔ ∃ i, i < D 14 14 ∧ mt i = true ∧ ¬ D 15 i < 5 ∧ mj_cvD D i h = true ∧ mj_asD D i o = true ∧ (D 15 i = 6 ∨ D 18 q = D 18 i) := by
  unfold mj_clD mj_maV
  rw [mj_anyF_iff]
  constructor
  · rintro ⟨i, -, hi, z⟩
    rw [if_pos rfl] at z
    simp only [Bool.and_eq_true, Bool.or_eq_true, Bool.not_eq_true', decide_eq_true_eq, decide_eq_false_iff_not] at z
    exact ⟨i, by omega, z⟩
  · rintro ⟨i, hi, z⟩
    refine ⟨i, Nat.zero_le _, by omega, ?_⟩
    rw [if_pos rfl]
    simp only [Bool.and_eq_true, Bool.or_eq_true, Bool.not_eq_true', decide_eq_true_eq, decide_eq_false_iff_not]
    exact z
theorem mk_ma1 {o g h i : Nat} : mj_maV D 1 o g h i = mj_asD D i o := by
  unfold mj_maV
  rw [if_pos rfl]
theorem mk_cv {i h : Nat} : mj_cvD D i h = true ↔ D 16 i ≤ h ∧ h ≤ D 17 i := by
  unfold mj_cvD
  rw [Bool.and_eq_true, decide_eq_true_eq, decide_eq_true_eq]
theorem mk_sbt_and {A B : Nat → Bool} : mj_sbt (fun i => A i && B i) ≤ mj_sbt A := mj_sgm_le 9 (fun i _ => by
  show (if (A i && B i) = true then 1 else 0) ≤ (if A i = true then 1 else 0)
  cases A i <;> cases B i <;> decide)
/-- fewer promises, those that wait for one of them gone with it -/
theorem mk_DW_less {mt mt' rg : Nat → Bool} {o : Nat} (hk : mj_okD D) (hsub : ∀ i, mt' i = true → mt i = true)
    (hcl : ∀ i, i < D 14 14 → mt' i = true → D 15 i < 5 → mj_asD D i o = true → D 14 17 ≤ D 17 i → 0 < D 25 i → D 19 i ≠ 0 → mt (D 19 i - 1) = true → mt' (D 19 i - 1) = true) :
    ∀ (r g : Nat) (x x' : Nat → Nat), r ≤ 12 - D 14 17 → (∀ i, x i ≤ D 25 i) → (∀ i, i < D 14 14 → mt' i = true → D 15 i < 5 → x' i = x i) → mj_DW D mt rg 1 o mj_Qno r g x → mj_DW D mt' rg 1 o mj_Qno r g x' := by
  intro r
  induction r with
  | zero => intro g x x' _ _ _ _; trivial
  | succ r ih =>
    intro g x x' hr hx hxx hW
    obtain ⟨A, ⟨v1, v2, v3, v4⟩, -, a3⟩ := hW
    refine ⟨fun i => A i && mt' i, ⟨fun i hi => ?_, Nat.le_trans mk_sbt_and v2, fun i j hi hj => ?_, fun i hi hm h5 ma => ?_⟩, trivial, fun u hu => ?_⟩
    · rw [Bool.and_eq_true] at hi
      obtain ⟨b1, b2, b3⟩ := v1 i hi.1
      obtain ⟨c1, c2, c3, c4, c5, c6, c7, c8⟩ := mk_op1.mp b2
      have cv := mk_cv.mp c4
      rw [Bool.and_eq_true] at c5
      have := hx i
      refine ⟨b1, mk_op1.mpr ⟨hi.2, c2, c3, c4, by rw [c5.1, c5.2]; rfl, by rw [hxx i b1 hi.2 c2]; exact c6, ?_, fun z => by rw [hxx i b1 hi.2 c2]; exact c8 z⟩, ?_⟩
      · rcases c7 with z | z
        · exact Or.inl z
        · by_cases z0 : D 19 i = 0
          · exact Or.inl z0
          · have k19 := (hk.2.2.2.2.1 i b1).2.2.2.1
            have m' := hcl i b1 hi.2 c2 c5.2 (by omega) (by omega) z0 z.1
            exact Or.inr ⟨m', by rw [hxx _ (by omega) m' (k19.2 (by omega))]; exact z.2⟩
      · cases z : mj_clD D mt' 1 o g (11 - r) i
        · rfl
        · obtain ⟨j, j1, j2, j3⟩ := mk_cl1.mp z
          rw [mk_cl1.mpr ⟨j, j1, hsub j j2, j3⟩] at b3
          exact absurd b3 (by decide)
    · rw [Bool.and_eq_true] at hi hj
      exact v3 i j hi.1 hj.1
    · have e : (A i && mt' i) = A i := by rw [hm, Bool.and_true]
      show ¬ mj_beh D (11 - r) (x' i) (A i && mt' i) i
      rw [e, hxx i hi hm h5]
      exact v4 i hi (hsub i hm) h5 ma
    · refine ih _ (mj_less x A) _ (by omega) (fun i => ?_) (fun i hi hm h5 => ?_) (a3 u hu)
      · have := hx i
        unfold mj_less
        omega
      · have e : (A i && mt' i) = A i := by rw [hm, Bool.and_true]
        show x' i - (if (A i && mt' i) = true then 1 else 0) = x i - (if A i = true then 1 else 0)
        rw [e, hxx i hi hm h5]
/-- with all given up the rest is kept -/
theorem mk_DW_full {rg T : Nat → Bool} {o : Nat} (hk : mj_okD D) (hT : ∀ i, i < D 14 14 → mk_li D o i → T i = true) : ∀ (r g : Nat), r ≤ 12 - D 14 17 → mj_DW D (mk_rst D T) rg 1 o mj_Qno r g (D 25) := by
  intro r
  induction r with
  | zero => intro g _; trivial
  | succ r ih =>
    intro g hr
    have ft : ∀ i : Nat, ¬ (fun _ : Nat => false) i = true := fun i z => Bool.false_ne_true z
    refine ⟨fun _ => false, ⟨fun i hi => absurd hi (ft i), ?_, fun i j hi => absurd hi (ft i), fun i hi hm h5 ma hb => ?_⟩, trivial, fun u _ => ?_⟩
    · have : mj_sbt (fun _ => false) = 0 := mj_sgm_0 9 (fun i _ => rfl)
      rw [this]
      exact Nat.zero_le _
    · rw [mk_ma1] at ma
      obtain ⟨-, hl, hTi⟩ := mk_rst_i.mp hm
      obtain ⟨b1, b2⟩ := hb
      have b1' : D 25 i ≠ 0 := b1
      by_cases c : D 14 17 ≤ D 17 i
      · rw [hT i hi ⟨ma, hl, c, Or.inr (by omega)⟩] at hTi
        exact absurd hTi (by decide)
      · rcases b2 with z | z | z
        · omega
        · rw [hk.2.2.2.2.2.2.2.2 i hi z.1 (by omega) z.2.1 (by omega)] at hl
          exact absurd hl (by decide)
        · have := (mk_cv.mp z.2.1.1).2
          omega
    · have e : mj_less (D 25) (fun _ => false) = D 25 := by
        funext i
        unfold mj_less
        rw [if_neg (ft i)]
        rfl
      rw [e]
      exact ih _ (by omega)
/-- what the reference means when some that aren't works are broken -/
def mk_mtB (D : Nat → Nat → Nat) (B : Nat → Bool) (i : Nat) : Bool := decide (i < D 14 14) && !(B i)
theorem mk_mtB_i {B : Nat → Bool} {i : Nat} : mk_mtB D B i = true ↔ i < D 14 14 ∧ B i = false := by
  unfold mk_mtB
  rw [Bool.and_eq_true, decide_eq_true_eq, Bool.not_eq_true']
/-- who keeps the rest has a way that costs no more -/
theorem mk_play_of {rg T B : Nat → Bool} {o : Nat} {pr : Nat → Nat} (hk : mj_okD D) (hlw : ∀ i, (D 14 16).testBit i = true → i < D 14 14 ∧ D 15 i < 5) (hB : ∀ i, i < D 14 14 → B i = (T i && !(decide (D 15 i < 5)))) :
    ∀ (r g : Nat) (x y : Nat → Nat), (∀ i, x i ≤ D 25 i) → (∀ i, i < D 14 14 → D 15 i < 5 → mk_rst D T i = true → y i = x i) → (∀ i, i < D 14 14 → D 15 i < 5 → y i ≤ 4 ∧ (y i = 4 → mk_rst D T i = false)) → mj_DW D (mk_rst D T) rg 1 o mj_Qno r g x →
    ∃ c, mk_play D (mk_mtB D B) rg o pr r y c ∧ c ≤ mj_sgm (fun i => if D 15 i < 5 ∧ mj_asD D i o = true ∧ mk_rst D T i = false then pr i else 0) (D 14 14) := by
  intro r
  induction r with
  | zero =>
    intro g x y _ _ hy _
    refine ⟨_, rfl, mj_sgm_le _ (fun i hi => ?_)⟩
    by_cases c : D 15 i < 5 ∧ mj_asD D i o = true ∧ y i = 4
    · rw [if_pos c, if_pos ⟨c.1, c.2.1, (hy i hi c.1).2 c.2.2⟩]
      exact Nat.le_refl _
    · rw [if_neg c]
      exact Nat.zero_le _
  | succ r ih =>
    intro g x y hx hxy hy hW
    obtain ⟨A, ⟨v1, v2, v3, v4⟩, -, a3⟩ := hW
    have works : ∀ i, i < D 14 14 → D 15 i < 5 → mk_mtB D B i = true := fun i hi h5 => mk_mtB_i.mpr ⟨hi, by rw [hB i hi, decide_eq_true h5]; cases T i <;> rfl⟩
    have cok : mk_cokD D (mk_mtB D B) rg o (11 - r) y A := by
      refine ⟨fun i hi => ?_, fun hex => ⟨v2, v3, fun j hj b1 b2 b3 b4 => ?_⟩⟩
      · obtain ⟨b1, b2, b3⟩ := v1 i hi
        obtain ⟨c1, c2, c3, c4, c5, c6, c7, c8⟩ := mk_op1.mp b2
        have ey := hxy i b1 c2 c1
        have k24 := (hk.2.2.2.2.1 i b1).2.2.2.2.2.2.1
        have := hx i
        refine ⟨b1, ⟨works i b1 c2, c2, c3, c4, c5, by rw [ey]; exact c6, ?_, fun z => by rw [ey]; exact c8 z⟩, by rw [ey]; omega⟩
        rcases c7 with z | z
        · exact Or.inl z
        · by_cases z0 : D 19 i = 0
          · exact Or.inl z0
          · have k19 := (hk.2.2.2.2.1 i b1).2.2.2.1
            have w5 := k19.2 (by omega)
            exact Or.inr ⟨works _ (by omega) w5, by rw [hxy _ (by omega) w5 z.1]; exact z.2⟩
      · have nT : mk_rst D T j = true := by
          refine mk_rst_i.mpr ⟨hj, ?_, ?_⟩
          · cases z : (D 14 16).testBit j
            · rfl
            · exact absurd (hlw j z).2 b2
          · have := (mk_mtB_i.mp b1).2
            rw [hB j hj, decide_eq_false b2] at this
            cases z : T j
            · rfl
            · rw [z] at this; exact absurd this (by decide)
        have no : ∀ i, A i = true → ¬ (D 15 j = 6 ∨ D 18 i = D 18 j) := fun i hi z => by
          have := (v1 i hi).2.2
          rw [mk_cl1.mpr ⟨j, hj, nT, b2, b3, b4, z⟩] at this
          exact absurd this (by decide)
        obtain ⟨q, hq⟩ := hex
        exact ⟨fun z => no q hq (Or.inl z), fun i hi z => no i hi (Or.inr z)⟩
    have hyn : mk_ynx D (mk_mtB D B) o (11 - r) y A (fun i => @ite _ (mk_lc D (mk_mtB D B) o (11 - r) y A i) (Classical.propDecidable _) 4 (y i - if A i = true then 1 else 0)) := fun i hi h5 => ⟨fun z => if_pos z, fun z => if_neg z⟩
    revert hyn
    generalize (fun i => @ite _ (mk_lc D (mk_mtB D B) o (11 - r) y A i) (Classical.propDecidable _) 4 (y i - if A i = true then 1 else 0)) = y'
    intro hyn
    have nlc : ∀ i, i < D 14 14 → D 15 i < 5 → mk_rst D T i = true → ¬ mk_lc D (mk_mtB D B) o (11 - r) y A i := fun i hi h5 hm z => by
      have := v4 i hi hm h5 (by rw [mk_ma1]; exact z.2.2.1)
      have zb := z.2.2.2
      rw [hxy i hi h5 hm] at zb
      exact this zb
    obtain ⟨c, c1, c2⟩ := ih _ (mj_less x A) y' (fun i => by
      have := hx i
      unfold mj_less
      omega) (fun i hi h5 hm => by
      rw [(hyn i hi h5).2 (nlc i hi h5 hm), hxy i hi h5 hm]
      rfl) (fun i hi h5 => by
      obtain ⟨q1, q2⟩ := hy i hi h5
      by_cases z : mk_lc D (mk_mtB D B) o (11 - r) y A i
      · rw [(hyn i hi h5).1 z]
        refine ⟨Nat.le_refl _, fun _ => ?_⟩
        cases w : mk_rst D T i
        · rfl
        · exact absurd z (nlc i hi h5 w)
      · rw [(hyn i hi h5).2 z]
        refine ⟨by omega, fun e => q2 ?_⟩
        split at e <;> omega) (a3 0 mj_newD_0)
    exact ⟨c, ⟨A, y', cok, hyn, c1⟩, c2⟩
/-- a way, and who is lost in its end: the others can be kept -/
theorem mk_play_to {rg B : Nat → Bool} {o : Nat} {pr : Nat → Nat} (hk : mj_okD D) (hB : ∀ i, i < D 14 14 → D 15 i < 5 → B i = false) :
    ∀ (r : Nat) (y : Nat → Nat) (c : Nat), r ≤ 12 - D 14 17 → mk_play D (mk_mtB D B) rg o pr r y c → ∃ z : Nat → Bool, c = mj_sgm (fun i => if D 15 i < 5 ∧ mj_asD D i o = true ∧ z i = true then pr i else 0) (D 14 14) ∧
      (∀ i, i < D 14 14 → D 15 i < 5 → (y i = 4 → z i = true) ∧ (y i = 0 → z i = false) ∧ (mj_asD D i o = false → y i ≠ 4 → z i = false) ∧ (D 17 i < 12 - r → ¬ (D 15 i = 2 ∧ y i < D 24 i) → y i ≠ 4 → z i = false) ∧
        (mj_asD D i o = true → y i ≠ 0 → 12 - r ≤ D 17 i → D 19 i ≠ 0 → z (D 19 i - 1) = true → z i = true)) ∧
      ∀ (mt : Nat → Bool) (x : Nat → Nat) (g : Nat), (∀ i, mt i = true → i < D 14 14) → (∀ i, i < D 14 14 → mt i = true → D 15 i < 5 → z i = false ∧ x i = y i) → (∀ j, j < D 14 14 → mt j = true → ¬ D 15 j < 5 → mj_asD D j o = true → D 14 17 ≤ D 17 j → B j = false) →
        (∀ i, i < D 14 14 → mt i = true → D 15 i < 5 → mj_asD D i o = true → D 14 17 ≤ D 17 i → D 19 i ≠ 0 → z (D 19 i - 1) = false → mt (D 19 i - 1) = true) → mj_DW D mt rg 1 o mj_Qno r g x := by
  intro r
  induction r with
  | zero =>
    intro y c _ hc
    have hc' : c = mk_cs D pr o y := hc
    refine ⟨fun i => decide (y i = 4), ?_, fun i hi h5 => ⟨fun e => decide_eq_true e, fun e => decide_eq_false (by omega), fun _ e => decide_eq_false e, fun _ _ e => decide_eq_false e, fun _ _ e => ?_⟩, fun _ _ _ _ _ _ _ => trivial⟩
    · rw [hc']
      refine mj_sgm_congr _ (fun i _ => ?_)
      by_cases c : D 15 i < 5 ∧ mj_asD D i o = true ∧ y i = 4
      · rw [if_pos c, if_pos ⟨c.1, c.2.1, decide_eq_true c.2.2⟩]
      · rw [if_neg c, if_neg (fun z => c ⟨z.1, z.2.1, of_decide_eq_true z.2.2⟩)]
    · have := (hk.2.2.2.2.1 i hi).2.1.2
      omega
  | succ r ih =>
    intro y c hr hc
    obtain ⟨A, y', a1, a2, a3⟩ := hc
    obtain ⟨z, z1, z2, z3⟩ := ih y' c (by omega) a3
    have works : ∀ i, i < D 14 14 → D 15 i < 5 → mk_mtB D B i = true := fun i hi h5 => mk_mtB_i.mpr ⟨hi, hB i hi h5⟩
    have stay4 : ∀ i, i < D 14 14 → D 15 i < 5 → y i = 4 → y' i = 4 := fun i hi h5 e => by
      rw [(a2 i hi h5).2 (fun w => w.2.1 e), e]
      have : A i = false := by
        cases w : A i
        · rfl
        · exact absurd e (a1.1 i w).2.2
      rw [this]
      rfl
    have stay0 : ∀ i, i < D 14 14 → D 15 i < 5 → y i = 0 → y' i = 0 := fun i hi h5 e => by
      rw [(a2 i hi h5).2 (fun w => by
        have := w.2.2.2.1
        rw [e] at this
        omega), e]
      omega
    have p1 : ∀ i, i < D 14 14 → D 15 i < 5 → y i = 4 → z i = true := fun i hi h5 e => (z2 i hi h5).1 (stay4 i hi h5 e)
    have p0 : ∀ i, i < D 14 14 → D 15 i < 5 → y i = 0 → z i = false := fun i hi h5 e => (z2 i hi h5).2.1 (stay0 i hi h5 e)
    -- one that isn't lost in the end isn't lost in this hour
    have nl : ∀ i, i < D 14 14 → D 15 i < 5 → z i = false → ¬ mk_lc D (mk_mtB D B) o (11 - r) y A i := fun i hi h5 e w => by
      rw [(z2 i hi h5).1 ((a2 i hi h5).1 w)] at e
      exact absurd e (by decide)
    have yb : ∀ i, i < D 14 14 → D 15 i < 5 → y i ≠ 4 → ¬ mk_lc D (mk_mtB D B) o (11 - r) y A i → A i = false → y' i = y i := fun i hi h5 _ w q => by
      rw [(a2 i hi h5).2 w, q]
      rfl
    refine ⟨z, z1, fun i hi h5 => ⟨p1 i hi h5, p0 i hi h5, fun ha h4 => ?_, fun ht hwb h4 => ?_, fun ha h0 ht h19 hz => ?_⟩, fun mt x g m1 m2 m3 m4 => ?_⟩
    · have w : ¬ mk_lc D (mk_mtB D B) o (11 - r) y A i := fun w => by
        rw [w.2.2.1] at ha
        exact absurd ha (by decide)
      have q : A i = false := by
        cases q : A i
        · rfl
        · have := (a1.1 i q).2.1.2.2.2.2.1
          rw [ha, Bool.and_false] at this
          exact absurd this (by decide)
      exact (z2 i hi h5).2.2.1 ha (by rw [yb i hi h5 h4 w q]; exact h4)
    · have q : A i = false := by
        cases q : A i
        · rfl
        · have := (mk_cv.mp (a1.1 i q).2.1.2.2.2.1).2
          omega
      have w : ¬ mk_lc D (mk_mtB D B) o (11 - r) y A i := fun w => by
        rcases w.2.2.2.2 with e | e | e
        · omega
        · exact hwb ⟨e.1, e.2.1⟩
        · have := (mk_cv.mp e.2.1.1).2
          omega
      have e := yb i hi h5 h4 w q
      exact (z2 i hi h5).2.2.2.1 (by omega) (by rw [e]; exact hwb) (by rw [e]; exact h4)
    · by_cases h4 : y i = 4
      · exact p1 i hi h5 h4
      · have k19 := (hk.2.2.2.2.1 i hi).2.2.2.1
        have w5 := k19.2 (by omega)
        have q : A i = false := by
          cases q : A i
          · rfl
          · rcases (a1.1 i q).2.1.2.2.2.2.2.2.1 with e | e
            · exact absurd e h19
            · rw [p0 _ (by omega) w5 e.2] at hz
              exact absurd hz (by decide)
        by_cases w : mk_lc D (mk_mtB D B) o (11 - r) y A i
        · exact (z2 i hi h5).1 ((a2 i hi h5).1 w)
        · have e := yb i hi h5 h4 w q
          refine (z2 i hi h5).2.2.2.2 ha (by rw [e]; exact h0) ?_ h19 hz
          have : D 17 i ≠ 11 - r := fun eh => w ⟨works i hi h5, h4, ha, by rw [q]; exact h0, Or.inl eh⟩
          omega
    · refine ⟨fun i => A i && mt i, ⟨fun i hi => ?_, ?_, fun i j hi hj => ?_, fun i hi hm h5 ma => ?_⟩, trivial, fun u hu => ?_⟩
      · rw [Bool.and_eq_true] at hi
        obtain ⟨b1, ⟨c1, c2, c3, c4, c5, c6, c7, c8⟩, b3⟩ := a1.1 i hi.1
        have ex := (m2 i b1 hi.2 c2).2
        have cv := mk_cv.mp c4
        rw [Bool.and_eq_true] at c5
        refine ⟨b1, mk_op1.mpr ⟨hi.2, c2, c3, c4, by rw [c5.1, c5.2]; rfl, by rw [ex]; exact c6, ?_, fun e => by rw [ex]; exact c8 e⟩, ?_⟩
        · rcases c7 with e | e
          · exact Or.inl e
          · by_cases e0 : D 19 i = 0
            · exact Or.inl e0
            · have k19 := (hk.2.2.2.2.1 i b1).2.2.2.1
              have w5 := k19.2 (by omega)
              have zf := p0 _ (by omega) w5 e.2
              have mm := m4 i b1 hi.2 c2 c5.2 (by omega) e0 zf
              exact Or.inr ⟨mm, by rw [(m2 _ (by omega) mm w5).2]; exact e.2⟩
        · cases w : mj_clD D mt 1 o g (11 - r) i
          · rfl
          · obtain ⟨j, j1, j2, j3, j4, j5, j6⟩ := mk_cl1.mp w
            have cvj := mk_cv.mp j4
            have bj := m3 j j1 j2 j3 j5 (by omega)
            obtain ⟨q1, q2⟩ := (a1.2 ⟨i, hi.1⟩).2.2 j j1 (mk_mtB_i.mpr ⟨j1, bj⟩) j3 j4 j5
            rcases j6 with e | e
            · exact absurd e q1
            · exact absurd e (q2 i hi.1)
      · by_cases e : ∃ i, A i = true
        · exact Nat.le_trans mk_sbt_and (a1.2 e).1
        · have : mj_sbt (fun i => A i && mt i) = 0 := mj_sgm_0 9 (fun i _ => if_neg (fun w => by
            rw [Bool.and_eq_true] at w
            exact e ⟨i, w.1⟩))
          rw [this]
          exact Nat.zero_le _
      · rw [Bool.and_eq_true] at hi hj
        exact (a1.2 ⟨i, hi.1⟩).2.1 i j hi.1 hj.1
      · rw [mk_ma1] at ma
        obtain ⟨zf, ex⟩ := m2 i hi hm h5
        have e : (A i && mt i) = A i := by rw [hm, Bool.and_true]
        show ¬ mj_beh D (11 - r) (x i) (A i && mt i) i
        rw [e, ex]
        intro w
        refine nl i hi h5 zf ⟨works i hi h5, fun e4 => ?_, ma, w⟩
        rw [p1 i hi h5 e4] at zf
        exact absurd zf (by decide)
      · refine z3 mt _ _ m1 (fun i hi hm h5 => ?_) m3 m4
        obtain ⟨zf, ex⟩ := m2 i hi hm h5
        have e : (A i && mt i) = A i := by rw [hm, Bool.and_true]
        refine ⟨zf, ?_⟩
        show x i - (if (A i && mt i) = true then 1 else 0) = y' i
        rw [(a2 i hi h5).2 (nl i hi h5 zf), e, ex]
end
