section
variable {σ τ μ : mj_St} {D : Nat → Nat → Nat}
def mk_usf (D : Nat → Nat → Nat) (f : Nat) : Bool := mj_anyF (fun i => decide (D 20 i = f + 1)) 0 (D 14 14)
theorem mk_usf_i {f : Nat} : mk_usf D f = true ↔ ∃ i, i < D 14 14 ∧ D 20 i = f + 1 := by
  unfold mk_usf
  rw [mj_anyF_iff]
  constructor
  · rintro ⟨i, -, a, b⟩
    exact ⟨i, by omega, of_decide_eq_true b⟩
  · rintro ⟨i, a, b⟩
    exact ⟨i, Nat.zero_le _, by omega, decide_eq_true b⟩
/-- a way and a group go together at an hour -/
def mk_ug (D : Nat → Nat → Nat) (h u g : Nat) : Prop := ∀ f, f < 3 → mk_usf D f = true → (D 28 f ≤ h → u.testBit f = g.testBit f) ∧ (h < D 28 f → g.testBit f = false)
theorem mk_ug_as {h u g i : Nat} (hk : mj_okD D) (hU : mk_ug D h u g) (hi : i < D 14 14) (hn : mj_knD D i h = true) : mj_asD D i u = mj_asD D i g := by
  have k20 := (hk.2.2.2.2.1 i hi).2.2.2.2.1
  refine mj_asD_eq (fun f hf => ?_)
  unfold mj_knD at hn
  rw [hf, Nat.add_sub_cancel, Bool.or_eq_true, decide_eq_true_eq, decide_eq_true_eq] at hn
  exact (hU f (by omega) (mk_usf_i.mpr ⟨i, hi, hf⟩)).1 (by omega)
theorem mk_asD_b {i o f : Nat} (hf : D 20 i = f + 1) (h1 : D 21 i ≤ 1) : mj_asD D i o = true ↔ o.testBit f = decide (D 21 i = 1) := by
  unfold mj_asD
  rw [hf, decide_eq_false (Nat.succ_ne_zero f), Bool.false_or, Nat.add_sub_cancel, decide_eq_true_eq, Nat.testBit_eq_decide_div_mod_eq]
  have a := Nat.mod_lt (o / 2 ^ f) (show 0 < 2 by decide)
  constructor
  · intro z
    exact mj_dec (by omega)
  · intro z
    have := decide_eq_decide.mp z
    omega
theorem mk_Mkb_b {h f : Nat} (hM : mk_isM μ D) (hk : mj_okD D) (hh : h < 100) (hf : f < 32) : mj_b (mj_Mkb μ (nI h) 3) f = (decide (f < 3) && decide (D 28 f ≤ h)) := by
  have e : ∀ n, n ≤ 3 → mj_b (mj_Mkb μ (nI h) n) f = (decide (f < n) && decide (D 28 f ≤ h)) := by
    intro n
    induction n with
    | zero => intro _; rw [decide_eq_false (Nat.not_lt_zero f), Bool.false_and]; exact mj_b_0
    | succ n ih =>
      intro hn
      have ih' := ih (by omega)
      have e64 := hM.2.2.2.2.2 n (by omega)
      have k28 := hk.2.2.2.2.2.2.1 n (by omega)
      unfold mj_Mkb at ih' ⊢
      rw [mj_it_s]
      have lt : nI h < μ.1 64 n ↔ h < D 28 n := by
        rw [e64]
        exact ⟨fun z => Classical.byContradiction (fun y => nI_nlt (by omega) (by omega) z), fun z => nI_lt z (by omega)⟩
      by_cases c : nI h < μ.1 64 n
      · rw [if_pos c, ih']
        by_cases e : f = n
        · subst e
          rw [decide_eq_false (Nat.lt_irrefl f), decide_eq_true (Nat.lt_succ_self f), decide_eq_false (show ¬ D 28 f ≤ h by have := lt.mp c; omega)]
          rfl
        · rw [show decide (f < n + 1) = decide (f < n) from mj_dec (by omega)]
      · rw [if_neg c, mj_b_or, ih', mj_b_sh1 (by omega) hf]
        by_cases e : f = n
        · subst e
          rw [decide_eq_false (Nat.lt_irrefl f), decide_eq_true (Nat.lt_succ_self f), decide_eq_true (Nat.le_of_not_lt (fun z => c (lt.mpr z))), decide_eq_true rfl]
          rfl
        · rw [decide_eq_false e, Bool.or_false, show decide (f < n + 1) = decide (f < n) from mj_dec (by omega)]
  exact e 3 (Nat.le_refl _)
/-- only forks that are known by an hour -/
def mk_wy (D : Nat → Nat → Nat) (h u : Nat) : Prop := u < 8 ∧ ∀ f, u.testBit f = true → f < 3 ∧ D 28 f ≤ h
theorem mk_tb8 {u f : Nat} (hu : u < 8) (hf : 3 ≤ f) : u.testBit f = false := Nat.testBit_lt_two_pow (Nat.lt_of_lt_of_le (show u < 2 ^ 3 from hu) (Nat.pow_le_pow_right (by decide) hf))
theorem mk_agr {h o u : Nat} (hM : mk_isM μ D) (hk : mj_okD D) (hh : h < 100) (ho : o < 8) (hu : u < 8) : nI o &&& mj_Mkb μ (nI h) 3 = nI u &&& mj_Mkb μ (nI h) 3 ↔ ∀ f, f < 3 → D 28 f ≤ h → o.testBit f = u.testBit f := by
  constructor
  · intro z f hf hd
    have := congrArg (fun x => mj_b x f) z
    simp only [mj_b_and] at this
    rw [mk_Mkb_b hM hk hh (by omega), decide_eq_true hf, decide_eq_true hd, mj_b_nI (by omega), mj_b_nI (by omega)] at this
    simpa using this
  · intro z
    apply mj_b_ext
    intro f hf
    rw [mj_b_and, mj_b_and, mk_Mkb_b hM hk hh hf, mj_b_nI (by omega), mj_b_nI (by omega)]
    by_cases c : f < 3
    · by_cases d : D 28 f ≤ h
      · rw [z f c d]
      · rw [decide_eq_false d, Bool.and_false, Bool.and_false, Bool.and_false]
    · rw [decide_eq_false c, Bool.false_and, Bool.and_false, Bool.and_false]
theorem mk_wy_and {h u : Nat} (hM : mk_isM μ D) (hk : mj_okD D) (hh : h < 100) (hu : mk_wy D h u) : nI u &&& mj_Mkb μ (nI h) 3 = nI u := by
  obtain ⟨u8, hu⟩ := hu
  apply mj_b_ext
  intro f hf
  rw [mj_b_and, mk_Mkb_b hM hk hh hf, mj_b_nI (by omega)]
  cases z : u.testBit f
  · rw [Bool.false_and]
  · obtain ⟨a, b⟩ := hu f z
    rw [decide_eq_true a, decide_eq_true b]
    rfl
theorem mk_wy_sub {h u : Nat} (hM : mk_isM μ D) (hk : mj_okD D) (hh : h < 100) (hu : u < 8) : nI u &&& (mj_Mkb μ (nI h) 3 ^^^ -1) = 0 ↔ mk_wy D h u := by
  constructor
  · intro z
    refine ⟨hu, fun f hf => ?_⟩
    have f3 : f < 3 := by
      by_cases c : f < 3
      · exact c
      · rw [mk_tb8 hu (by omega)] at hf
        exact absurd hf (by decide)
    have := mj_sub_b (k := f) z (by rw [mj_b_nI (by omega)]; exact hf)
    rw [mk_Mkb_b hM hk hh (by omega), Bool.and_eq_true, decide_eq_true_eq, decide_eq_true_eq] at this
    exact this
  · intro z
    refine mj_sub_of (fun k hk2 hb => ?_)
    rw [mj_b_nI (by omega)] at hb
    obtain ⟨a, b⟩ := z.2 k hb
    rw [mk_Mkb_b hM hk hh hk2, decide_eq_true a, decide_eq_true b]
    rfl
/-- a set that serves whatever comes -/
theorem mk_bok_D {s h u g : Nat} {mt : Int32} {l : Nat → Int32} {x : Nat → Nat} (hM : mk_isM μ D) (hk : mj_okD D) (hL : mk_Lx D (mj_b mt) l x) (hs : s < 512) (hh : h < 12) (hu : mk_wy D h u) (hU : mk_ug D h u g) :
    mj_bok μ (nI h) (mj_Mkb μ (nI h) 3) (nI u) mt (D 14 14) l s = true ↔ mj_vok D (mj_b mt) (mj_b (μ.1 61 46)) 8 0 g h x (mj_sb s) := by
  have u8 := hu.1
  have eP : ∀ o', o' < 8 → (nI o' &&& mj_Mkb μ (nI h) 3 = nI u ↔ ∀ f, f < 3 → D 28 f ≤ h → o'.testBit f = u.testBit f) := fun o' ho' => by
    have := mk_agr (h := h) (o := o') (u := u) hM hk (by omega) ho' u8
    rw [mk_wy_and hM hk (by omega) hu] at this
    exact this
  have hP : ∀ i, i < D 14 14 → (mj_maV D 8 0 g h i = true ↔ ∃ o', (o' < 8 ∧ nI o' &&& mj_Mkb μ (nI h) 3 = nI u) ∧ mj_asD D i o' = true) := fun i hi => by
    obtain ⟨-, -, -, -, k20, k21, -⟩ := hk.2.2.2.2.1 i hi
    unfold mj_maV
    rw [if_neg (by decide), Bool.or_eq_true, Bool.not_eq_true']
    constructor
    · intro z
      cases kn : mj_knD D i h
      · unfold mj_knD at kn
        rw [Bool.or_eq_false_iff, decide_eq_false_iff_not, decide_eq_false_iff_not] at kn
        have ef : D 20 i = (D 20 i - 1) + 1 := by omega
        have ub : u.testBit (D 20 i - 1) = false := by
          cases y : u.testBit (D 20 i - 1)
          · rfl
          · have := (hu.2 _ y).2
            omega
        by_cases c : D 21 i = 1
        · refine ⟨u ||| 2 ^ (D 20 i - 1), ⟨Nat.or_lt_two_pow (n := 3) u8 (Nat.pow_lt_pow_right (by decide) (by omega)), (eP _ (Nat.or_lt_two_pow (n := 3) u8 (Nat.pow_lt_pow_right (by decide) (by omega)))).mpr (fun f hf hd => ?_)⟩, (mk_asD_b ef k21).mpr ?_⟩
          · rw [Nat.testBit_or, Nat.testBit_two_pow, decide_eq_false (show ¬ D 20 i - 1 = f from fun y => by rw [y] at kn; omega), Bool.or_false]
          · rw [Nat.testBit_or, Nat.testBit_two_pow, decide_eq_true rfl, Bool.or_true, decide_eq_true c]
        · refine ⟨u, ⟨u8, (eP u u8).mpr (fun _ _ _ => rfl)⟩, (mk_asD_b ef k21).mpr ?_⟩
          rw [ub, decide_eq_false c]
      · rcases z with z | z
        · rw [kn] at z; exact absurd z (by decide)
        · refine ⟨u, ⟨u8, (eP u u8).mpr (fun _ _ _ => rfl)⟩, ?_⟩
          rw [mk_ug_as hk hU hi kn]
          exact z
    · rintro ⟨o', ⟨o8, e⟩, ha⟩
      cases kn : mj_knD D i h
      · exact Or.inl rfl
      · refine Or.inr ?_
        have e2 := (eP o' o8).mp e
        have e3 : mj_asD D i o' = mj_asD D i u := mj_asD_eq (fun f hf => by
          unfold mj_knD at kn
          rw [hf, Nat.add_sub_cancel, Bool.or_eq_true, decide_eq_true_eq, decide_eq_true_eq] at kn
          exact e2 f (by omega) (by omega))
        rw [← mk_ug_as hk hU hi kn, ← e3]
        exact ha
  rw [mk_vok_P (P := fun o' => o' < 8 ∧ nI o' &&& mj_Mkb μ (nI h) 3 = nI u) hP ⟨u, u8, mk_wy_and hM hk (by omega) hu⟩]
  unfold mj_bok
  rw [Bool.and_eq_true, decide_eq_true_eq, mk_sub_D hM hk hL hs hh u8, Bool.not_eq_true']
  have op : ∀ i, i < D 14 14 → (mk_opE D (mj_b mt) (mj_b (μ.1 61 46)) u h x i ↔ mj_opD D (mj_b mt) (mj_b (μ.1 61 46)) 8 0 g h x i) := fun i hi => by
    unfold mk_opE mj_opD mj_kaV
    rw [if_neg (show ¬ (8 : Nat) = 1 by decide)]
    have e : (mj_knD D i h && mj_asD D i u) = (mj_knD D i h && mj_asD D i g) := by
      cases kn : mj_knD D i h
      · rfl
      · rw [mk_ug_as hk hU hi kn]
    rw [e]
  have b1 : (∀ i, mj_sb s i = true → i < D 14 14 ∧ mk_opE D (mj_b mt) (mj_b (μ.1 61 46)) u h x i) → ∀ o', o' < 8 → (mj_bo1 μ (nI h) mt (D 14 14) l s o' = true ↔ mk_vo1 D (mj_b mt) h x (mj_sb s) o') := fun a o' ho' => mk_bo1_D hM hk hL hs (fun i hi => (a i hi).1) (fun i hi => (a i hi).2.2.2.2.2.2.1) hh ho'
  constructor
  · rintro ⟨a, b⟩
    refine ⟨fun i hi => ⟨(a i hi).1, (op i (a i hi).1).mp (a i hi).2⟩, fun o' ho' => ?_⟩
    refine (b1 a o' ho'.1).mp ?_
    cases z : mj_bo1 μ (nI h) mt (D 14 14) l s o'
    · have : mj_anyF (fun o => decide (nI o &&& mj_Mkb μ (nI h) 3 = nI u) && !(mj_bo1 μ (nI h) mt (D 14 14) l s o)) 0 8 = true := (mj_anyF_iff _ _).mpr ⟨o', Nat.zero_le _, by omega, by rw [z, decide_eq_true ho'.2]; rfl⟩
      rw [this] at b
      exact absurd b (by decide)
    · rfl
  · rintro ⟨a, b⟩
    have a' : ∀ i, mj_sb s i = true → i < D 14 14 ∧ mk_opE D (mj_b mt) (mj_b (μ.1 61 46)) u h x i := fun i hi => ⟨(a i hi).1, (op i (a i hi).1).mpr (a i hi).2⟩
    refine ⟨a', ?_⟩
    cases z : mj_anyF (fun o => decide (nI o &&& mj_Mkb μ (nI h) 3 = nI u) && !(mj_bo1 μ (nI h) mt (D 14 14) l s o)) 0 8
    · rfl
    · obtain ⟨o', -, ho', hb⟩ := (mj_anyF_iff _ _).mp z
      rw [Bool.and_eq_true, decide_eq_true_eq] at hb
      rw [(b1 a' o' (by omega)).mpr (b o' ⟨by omega, hb.1⟩)] at hb
      exact absurd hb.2 (by decide)
/-- what is told of a way in an hour -/
def mk_nwv (D : Nat → Nat → Nat) (h o : Nat) : Nat := mj_nb (fun f => o.testBit f && (decide (D 28 f = h) && mk_usf D f)) 3
theorem mk_nwv_b {h o f : Nat} : (mk_nwv D h o).testBit f = (decide (f < 3) && (o.testBit f && (decide (D 28 f = h) && mk_usf D f))) := mj_nb_b 3
theorem mk_nwv_new {h o : Nat} : mj_newD D 8 h (mk_nwv D h o) := by
  unfold mj_newD
  rw [if_neg (by decide)]
  intro f hf
  rw [mk_nwv_b] at hf
  simp only [Bool.and_eq_true, decide_eq_true_eq] at hf
  exact ⟨hf.1, hf.2.2.1, mk_usf_i.mp hf.2.2.2⟩
theorem mk_ug_nwv {h o g : Nat} (h0 : ∀ f, f < 3 → mk_usf D f = true → (D 28 f ≤ h → o.testBit f = g.testBit f) ∧ (h < D 28 f → g.testBit f = false)) : mk_ug D (h + 1) o (g ||| mk_nwv D (h + 1) o) := fun f hf hu => by
  obtain ⟨a, b⟩ := h0 f hf hu
  rw [Nat.testBit_or, mk_nwv_b, decide_eq_true hf, hu, Bool.true_and, Bool.and_true]
  refine ⟨fun hd => ?_, fun hd => ?_⟩
  · by_cases c : D 28 f = h + 1
    · rw [b (by omega), decide_eq_true c, Bool.false_or, Bool.and_true]
    · rw [decide_eq_false c, Bool.and_false, Bool.or_false]
      exact a (by omega)
  · rw [b (by omega), decide_eq_false (by omega), Bool.and_false, Bool.or_false]
/-- what is borne in the last hours, by the reference: told of the deal -/
theorem mk_Bs_step {mt : Int32} (hM : mk_isM μ D) (hk : mj_okD D) : ∀ r, r + 1 ≤ 12 - D 14 17 →
    (∀ (l : Nat → Int32) (x : Nat → Nat) (u g s : Nat), mk_Lx D (mj_b mt) l x → mk_wy D (11 - r) u → mk_ug D (11 - r) u g → s < 512 → ((mj_bok μ (nI (11 - r)) (mj_Mkb μ (nI (11 - r)) 3) (nI u) mt (D 14 14) l s && mj_Bs μ mt (D 14 14) r (mj_nxb l s) (nI u)) = true ↔ mj_mw D (mj_b mt) (mj_b (μ.1 61 46)) 8 0 r g x (mj_sb s))) := by
  intro r
  induction r with
  | zero =>
    intro hr l x u g s hL hu hU hs
    rw [Bool.and_eq_true, mk_bok_D hM hk hL hs (by omega) hu hU]
    exact ⟨fun z => ⟨z.1, fun _ _ => trivial⟩, fun z => ⟨z.1, rfl⟩⟩
  | succ r ih =>
    intro hr l x u g s hL hu hU hs
    rw [Bool.and_eq_true, mk_bok_D hM hk hL hs (by omega) hu hU]
    refine and_congr_right (fun hv => ?_)
    have hL' := mk_Lx_nxb hk hL hs (fun i hi => (hv.1 i hi).2.1.2.2.2.2.2.1)
    have e1 : nI (11 - r) - 1 = nI (11 - (r + 1)) := by
      rw [show (1 : Int32) = nI 1 from rfl, mj_nI_sub (by omega)]
      congr 1
    have ew : mj_was μ r = mj_Mkb μ (nI (11 - (r + 1))) 3 := by
      unfold mj_was
      rw [hM.2.1, if_neg (fun z => by have := mj_nI_inj (by omega) (by omega) z; omega), e1]
    have h17 := hk.2.2.1
    have eh : 11 - r = 11 - (r + 1) + 1 := by omega
    have one : ∀ o g', o < 8 → mk_wy D (11 - r) o → mk_ug D (11 - r) o g' → (¬ mj_Br μ mt (D 14 14) r (mj_Bs μ mt (D 14 14) r) (mj_nxb l s) (nI o) = -1 ↔ mj_DW D (mj_b mt) (mj_b (μ.1 61 46)) 8 0 mj_Qno (r + 1) g' (mj_less x (mj_sb s))) := fun o g' ho hw hU' => by
      obtain ⟨f1, f2⟩ := mk_fst_lst (g := g') (x := mj_less x (mj_sb s)) hk (fun s' hs' => ih (by omega) (mj_nxb l s) _ o g' s' hL' hw hU' hs')
      rw [mj_mw_DW]
      constructor
      · intro z
        apply Classical.byContradiction
        intro y
        exact z (f2 (fun A hA => y ⟨A, hA⟩))
      · rintro ⟨A, hA⟩ z
        obtain ⟨s', s1, s2⟩ := f1 A hA
        have z' : mj_fst (fun s' => mj_bok μ (nI (11 - r)) (mj_Mkb μ (nI (11 - r)) 3) (nI o) mt (D 14 14) (mj_nxb l s) s' && mj_Bs μ mt (D 14 14) r (mj_nxb (mj_nxb l s) s') (nI o)) 0 512 = -1 := z
        rw [z'] at s2
        exact mj_nI_m1 (by have := s1.1; omega) s2.symm
    have uf : ∀ f, u.testBit f = true → D 28 f ≤ 11 - (r + 1) := fun f hf => (hu.2 f hf).2
    show (!(mj_anyF (fun o => (decide (nI o &&& (mj_Mkb μ (nI (11 - r)) 3 ^^^ -1) = 0) && decide (nI o &&& mj_was μ r = nI u &&& mj_was μ r)) && decide (mj_Br μ mt (D 14 14) r (mj_Bs μ mt (D 14 14) r) (mj_nxb l s) (nI o) = -1)) 0 8)) = true ↔ _
    rw [ew, Bool.not_eq_true', show 12 - (r + 1) = 11 - r by omega]
    constructor
    · intro z v hv2
      have hv3 : ∀ f, v.testBit f = true → f < 3 ∧ D 28 f = 11 - r ∧ ∃ i, i < D 14 14 ∧ D 20 i = f + 1 := by
        unfold mj_newD at hv2
        rw [if_neg (by decide)] at hv2
        exact hv2
      have v8 : v < 2 ^ 3 := Nat.lt_pow_two_of_testBit v (fun i hi => by
        cases y : v.testBit i
        · rfl
        · have := (hv3 i y).1
          omega)
      have o8 : u ||| v < 8 := Nat.or_lt_two_pow (n := 3) hu.1 v8
      have hw : mk_wy D (11 - r) (u ||| v) := ⟨o8, fun f hf => by
        rw [Nat.testBit_or, Bool.or_eq_true] at hf
        rcases hf with y | y
        · have := hu.2 f y
          exact ⟨this.1, by omega⟩
        · have := hv3 f y
          exact ⟨this.1, by omega⟩⟩
      have hU' : mk_ug D (11 - r) (u ||| v) (g ||| v) := fun f hf hus => by
        obtain ⟨a, b⟩ := hU f hf hus
        rw [Nat.testBit_or, Nat.testBit_or]
        refine ⟨fun hd => ?_, fun hd => ?_⟩
        · by_cases c : D 28 f ≤ 11 - (r + 1)
          · rw [a c]
          · have u0 : u.testBit f = false := by
              cases y : u.testBit f
              · rfl
              · exact absurd (uf f y) c
            rw [u0, b (by omega)]
        · rw [b (by omega), Bool.false_or]
          cases y : v.testBit f
          · rfl
          · have := (hv3 f y).2.1
            omega
      refine (one _ _ o8 hw hU').mp (fun y => ?_)
      have : mj_anyF (fun o => (decide (nI o &&& (mj_Mkb μ (nI (11 - r)) 3 ^^^ -1) = 0) && decide (nI o &&& mj_Mkb μ (nI (11 - (r + 1))) 3 = nI u &&& mj_Mkb μ (nI (11 - (r + 1))) 3)) && decide (mj_Br μ mt (D 14 14) r (mj_Bs μ mt (D 14 14) r) (mj_nxb l s) (nI o) = -1)) 0 8 = true := (mj_anyF_iff _ _).mpr ⟨u ||| v, Nat.zero_le _, by omega, by
        rw [decide_eq_true ((mk_wy_sub hM hk (by omega) o8).mpr hw), decide_eq_true ((mk_agr hM hk (by omega) o8 hu.1).mpr (fun f hf hd => by
          rw [Nat.testBit_or]
          cases y : v.testBit f
          · rw [Bool.or_false]
          · have := (hv3 f y).2.1
            omega)), decide_eq_true y]
        rfl⟩
      rw [this] at z
      exact absurd z (by decide)
    · intro z
      cases y : mj_anyF (fun o => (decide (nI o &&& (mj_Mkb μ (nI (11 - r)) 3 ^^^ -1) = 0) && decide (nI o &&& mj_Mkb μ (nI (11 - (r + 1))) 3 = nI u &&& mj_Mkb μ (nI (11 - (r + 1))) 3)) && decide (mj_Br μ mt (D 14 14) r (mj_Bs μ mt (D 14 14) r) (mj_nxb l s) (nI o) = -1)) 0 8
      · rfl
      · obtain ⟨o, -, ho, hb⟩ := (mj_anyF_iff _ _).mp y
        rw [Bool.and_eq_true, Bool.and_eq_true, decide_eq_true_eq, decide_eq_true_eq, decide_eq_true_eq] at hb
        have o8 : o < 8 := by omega
        have hw := (mk_wy_sub hM hk (by omega) o8).mp hb.1.1
        have ag := (mk_agr hM hk (by omega) o8 hu.1).mp hb.1.2
        have hU' : mk_ug D (11 - r) o (g ||| mk_nwv D (11 - r) o) := by
          rw [eh]
          exact mk_ug_nwv (fun f hf hus => ⟨fun hd => by rw [ag f hf hd]; exact (hU f hf hus).1 hd, (hU f hf hus).2⟩)
        exact absurd hb.2 ((one o _ o8 hw hU').mpr (z _ mk_nwv_new))
/-- the start: nothing is told that isn't known -/
theorem mk_Br_D {mt : Int32} {u g : Nat} {l : Nat → Int32} {x : Nat → Nat} (hM : mk_isM μ D) (hk : mj_okD D) (hw : D 14 17 < 12) (hL : mk_Lx D (mj_b mt) l x) (hu : mk_wy D (D 14 17) u) (hU : mk_ug D (D 14 17) u g) :
    (mj_DW D (mj_b mt) (mj_b (μ.1 61 46)) 8 0 mj_Qno (12 - D 14 17) g x → ∃ s, mk_lst D (mj_b mt) (mj_b (μ.1 61 46)) 8 0 (11 - D 14 17) g x s ∧ mj_Br μ mt (D 14 14) (11 - D 14 17) (mj_Bs μ mt (D 14 14) (11 - D 14 17)) l (nI u) = nI s) ∧
    (mj_Bs μ mt (D 14 14) (12 - D 14 17) l (nI u) = true ↔ mj_DW D (mj_b mt) (mj_b (μ.1 61 46)) 8 0 mj_Qno (12 - D 14 17) g x) := by
  have e11 : 11 - (11 - D 14 17) = D 14 17 := by omega
  have e12 : 12 - D 14 17 = 11 - D 14 17 + 1 := by omega
  obtain ⟨f1, f2⟩ := mk_fst_lst (g := g) (x := x) hk (fun s' hs' => mk_Bs_step hM hk (11 - D 14 17) (by omega) l x u g s' hL (by rw [e11]; exact hu) (by rw [e11]; exact hU) hs')
  have f1' : ∀ A, mj_mw D (mj_b mt) (mj_b (μ.1 61 46)) 8 0 (11 - D 14 17) g x A → ∃ s, mk_lst D (mj_b mt) (mj_b (μ.1 61 46)) 8 0 (11 - D 14 17) g x s ∧ mj_Br μ mt (D 14 14) (11 - D 14 17) (mj_Bs μ mt (D 14 14) (11 - D 14 17)) l (nI u) = nI s := f1
  have f2' : (∀ A, ¬ mj_mw D (mj_b mt) (mj_b (μ.1 61 46)) 8 0 (11 - D 14 17) g x A) → mj_Br μ mt (D 14 14) (11 - D 14 17) (mj_Bs μ mt (D 14 14) (11 - D 14 17)) l (nI u) = -1 := f2
  rw [e12, mj_mw_DW]
  refine ⟨fun ⟨A, hA⟩ => f1' A hA, ?_⟩
  show (!(mj_anyF (fun o => (decide (nI o &&& (mj_Mkb μ (nI (11 - (11 - D 14 17))) 3 ^^^ -1) = 0) && decide (nI o &&& mj_was μ (11 - D 14 17) = nI u &&& mj_was μ (11 - D 14 17))) && decide (mj_Br μ mt (D 14 14) (11 - D 14 17) (mj_Bs μ mt (D 14 14) (11 - D 14 17)) l (nI o) = -1)) 0 8)) = true ↔ _
  have ew : mj_was μ (11 - D 14 17) = mj_Mkb μ (nI (D 14 17)) 3 := by
    unfold mj_was
    rw [e11, hM.2.1, if_pos rfl]
  rw [ew, e11, Bool.not_eq_true']
  constructor
  · intro z
    apply Classical.byContradiction
    intro y
    have hbr := f2' (fun A hA => y ⟨A, hA⟩)
    have : mj_anyF (fun o => (decide (nI o &&& (mj_Mkb μ (nI (D 14 17)) 3 ^^^ -1) = 0) && decide (nI o &&& mj_Mkb μ (nI (D 14 17)) 3 = nI u &&& mj_Mkb μ (nI (D 14 17)) 3)) && decide (mj_Br μ mt (D 14 14) (11 - D 14 17) (mj_Bs μ mt (D 14 14) (11 - D 14 17)) l (nI o) = -1)) 0 8 = true := (mj_anyF_iff _ _).mpr ⟨u, Nat.zero_le _, by have := hu.1; omega, by
      rw [decide_eq_true ((mk_wy_sub hM hk (by omega) hu.1).mpr hu), decide_eq_true rfl, decide_eq_true hbr]
      rfl⟩
    rw [this] at z
    exact absurd z (by decide)
  · rintro ⟨A, hA⟩
    cases y : mj_anyF (fun o => (decide (nI o &&& (mj_Mkb μ (nI (D 14 17)) 3 ^^^ -1) = 0) && decide (nI o &&& mj_Mkb μ (nI (D 14 17)) 3 = nI u &&& mj_Mkb μ (nI (D 14 17)) 3)) && decide (mj_Br μ mt (D 14 14) (11 - D 14 17) (mj_Bs μ mt (D 14 14) (11 - D 14 17)) l (nI o) = -1)) 0 8
    · rfl
    · obtain ⟨o, -, ho, hb⟩ := (mj_anyF_iff _ _).mp y
      rw [Bool.and_eq_true, Bool.and_eq_true, decide_eq_true_eq, decide_eq_true_eq, decide_eq_true_eq] at hb
      have o8 : o < 8 := by omega
      have hwo := (mk_wy_sub hM hk (by omega) o8).mp hb.1.1
      have e := hb.1.2
      rw [mk_wy_and hM hk (by omega) hwo, mk_wy_and hM hk (by omega) hu] at e
      obtain ⟨s, s1, s2⟩ := f1' A hA
      rw [e, s2] at hb
      exact absurd hb.2 (mj_nI_m1 (by have := s1.1; omega))
/-- what can be borne whatever comes can be kept by each way -/
theorem mk_DW_81 {mt rg : Nat → Bool} {o : Nat} (hk : mj_okD D) : ∀ (r g g' : Nat) (x : Nat → Nat), r ≤ 12 → mk_ug D (12 - r) o g → mj_DW D mt rg 8 0 mj_Qno r g x → mj_DW D mt rg 1 o mj_Qno r g' x := by
  intro r
  induction r with
  | zero => intro g g' x _ _ _; trivial
  | succ r ih =>
    intro g g' x hr hU hW
    obtain ⟨A, ⟨v1, v2, v3, v4⟩, -, a3⟩ := hW
    have e11 : 12 - (r + 1) = 11 - r := by omega
    rw [e11] at hU
    have ma : ∀ i, i < D 14 14 → mj_maV D 1 o g' (11 - r) i = true → mj_maV D 8 0 g (11 - r) i = true := fun i hi z => by
      unfold mj_maV at z ⊢
      rw [if_pos rfl] at z
      rw [if_neg (by decide)]
      cases kn : mj_knD D i (11 - r)
      · rfl
      · rw [← mk_ug_as hk hU hi kn, z]
        rfl
    refine ⟨A, ⟨fun i hi => ?_, v2, v3, fun i hi b1 b2 b3 => v4 i hi b1 b2 (ma i hi b3)⟩, trivial, fun u hu => ?_⟩
    · obtain ⟨b1, b2, b3⟩ := v1 i hi
      refine ⟨b1, ?_, ?_⟩
      · unfold mj_opD mj_kaV at b2 ⊢
        rw [if_neg (by decide)] at b2
        rw [if_pos rfl]
        obtain ⟨c1, c2, c3, c4, c5, c6⟩ := b2
        refine ⟨c1, c2, c3, c4, ?_, c6⟩
        rw [Bool.and_eq_true] at c5 ⊢
        refine ⟨c5.1, ?_⟩
        rw [mk_ug_as hk hU b1 c5.1]
        exact c5.2
      · cases z : mj_clD D mt 1 o g' (11 - r) i
        · rfl
        · obtain ⟨j, -, hj, hb⟩ := (mj_anyF_iff _ _).mp z
          have hj' : j < D 14 14 := by omega
          have : mj_clD D mt 8 0 g (11 - r) i = true := by
            refine (mj_anyF_iff _ _).mpr ⟨j, Nat.zero_le _, hj, ?_⟩
            simp only [Bool.and_eq_true] at hb ⊢
            exact ⟨hb.1, hb.2.1, hb.2.2.1, ma j hj' hb.2.2.2.1, hb.2.2.2.2⟩
          rw [b3] at this
          exact absurd this (by decide)
    · have e12 : 12 - r = 11 - r + 1 := by omega
      refine ih (g ||| mk_nwv D (12 - r) o) _ _ (by omega) ?_ (a3 _ mk_nwv_new)
      rw [e12]
      exact mk_ug_nwv (fun f hf hus => hU f hf hus)
end
