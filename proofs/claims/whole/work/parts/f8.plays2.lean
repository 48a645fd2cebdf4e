section
variable {σ τ μ : mj_St} {D : Nat → Nat → Nat}
/-- what is left of each, in the reference; 4: lost -/
def mk_Ly (D : Nat → Nat → Nat) (mt : Nat → Bool) (l : Nat → Int32) (y : Nat → Nat) : Prop := ∀ i, i < D 14 14 → D 15 i < 5 → mt i = true → l i = nI (y i) ∧ (y i = 4 ∨ y i ≤ D 24 i)
theorem mk_Gopn_y {i h o : Nat} {mt : Int32} {l : Nat → Int32} {y : Nat → Nat} (hM : mk_isM μ D) (hk : mj_okD D) (hL : mk_Ly D (mj_b mt) l y) (hi : i < D 14 14) (hh : h < 12) (ho : o < 8) :
    mj_Gopn μ (nI h) (nI o) mt l i = true ↔ mk_opE D (mj_b mt) (mj_b (μ.1 61 46)) o h y i ∧ y i ≠ 4 := by
  have eask := mk_ask_M (o := o) hM hk hi (by omega)
  have ecov := mk_cov_M (h := h) hM hk hi (by omega)
  obtain ⟨w1, w2⟩ := mk_wk_M hM hk hi
  obtain ⟨e15, e16, e17, e18, e19, e20, e21, e24, e25, -, e26⟩ := hM.2.2.2.1 i hi
  obtain ⟨k15, ⟨k16, k17⟩, k18, ⟨k19, k19'⟩, k20, k21, ⟨k24, k25⟩, k3, k5⟩ := hk.2.2.2.2.1 i hi
  have N9 := hk.1
  have yb : ∀ i, i < D 14 14 → D 15 i < 5 → mj_b mt i = true → l i = nI (y i) ∧ y i < 5 := fun i hi h5 hm => by
    obtain ⟨a, b⟩ := hL i hi h5 hm
    have := (hk.2.2.2.2.1 i hi).2.2.2.2.2.2.1
    exact ⟨a, by omega⟩
  unfold mj_Gopn mk_opE mj_knD
  rw [eask, ecov]
  simp only [Bool.and_eq_true, Bool.or_eq_true, Bool.not_eq_true', decide_eq_true_eq, decide_eq_false_iff_not]
  rw [w1, Classical.not_not]
  have ekn : (μ.1 70 i = -1 ∨ ¬ nI h < μ.1 64 (μ.1 70 i).toNatClampNeg) ↔ (D 20 i = 0 ∨ D 28 (D 20 i - 1) ≤ h) := by
    rw [e20, mj_oi_m1 (by omega)]
    by_cases c : D 20 i = 0
    · exact ⟨fun _ => Or.inl c, fun _ => Or.inl c⟩
    · refine or_congr Iff.rfl ?_
      have k28 := hk.2.2.2.2.2.2.1 (D 20 i - 1) (by omega)
      rw [mj_oi_pos (by omega), nI_clamp (by omega), hM.2.2.2.2.2 _ (by omega)]
      exact ⟨fun z => Classical.byContradiction (fun y => z (nI_lt (by omega) (by omega))), fun z => nI_nlt z (by omega)⟩
  rw [ekn]
  constructor
  · rintro ⟨a1, a2, a3, a4, a5, a6, a7, a8, a9, a10⟩
    obtain ⟨l1, l2⟩ := yb i hi a1 a2
    have n4 : y i ≠ 4 := fun z => a8 (by rw [l1, z]; rfl)
    have l3 : y i ≤ D 24 i := (hL i hi a1 a2).2.resolve_left n4
    refine ⟨⟨a2, a1, a3, a4, ⟨a6, a5⟩, fun z => a7 (by rw [l1, z]; rfl), ?_, fun z => ?_⟩, n4⟩
    · rcases a9 with z | z
      · rw [e19, mj_oi_m1 (by omega)] at z
        exact Or.inl z
      · by_cases c : D 19 i = 0
        · exact Or.inl c
        · rw [e19, mj_oi_pos (by omega), nI_clamp (by omega)] at z
          obtain ⟨m1, m2⟩ := yb (D 19 i - 1) (by omega) (k19' (by omega)) z.1
          rw [m1] at z
          exact Or.inr ⟨z.1, (nI_eq (b := 0) (by omega) (by omega)).mp z.2⟩
    · rcases a10 with y | y
      · exact absurd ((mk_kd_M hM hk hi (k := 3) (by omega)).mpr z) y
      · unfold mj_cvD at a4
        rw [Bool.and_eq_true, decide_eq_true_eq, decide_eq_true_eq] at a4
        rw [e24, l1, e16, e26 z, mj_nI_sub l3, mj_nI_sub (by omega), mj_nI_div (by omega) (by have := (k3 z).2.1; omega)] at y
        have := mj_nI_inj (by omega) (by have := Nat.div_le_self (h - D 16 i) (D 26 i); omega) y
        omega
  · rintro ⟨⟨a2, a1, a3, a4, ⟨a6, a5⟩, a7, a9, a10⟩, n4⟩
    obtain ⟨l1, l2⟩ := yb i hi a1 a2
    have l3 : y i ≤ D 24 i := (hL i hi a1 a2).2.resolve_left n4
    refine ⟨a1, a2, a3, a4, a5, a6, fun z => a7 ?_, fun z => n4 ?_, ?_, ?_⟩
    · rw [l1] at z
      exact (nI_eq (b := 0) (by omega) (by omega)).mp z
    · rw [l1] at z
      exact (nI_eq (b := 4) (by omega) (by omega)).mp z
    · rcases a9 with z | z
      · exact Or.inl (by rw [e19, mj_oi_m1 (by omega)]; exact z)
      · by_cases c : D 19 i = 0
        · exact Or.inl (by rw [e19, mj_oi_m1 (by omega)]; exact c)
        · refine Or.inr ?_
          rw [e19, mj_oi_pos (by omega), nI_clamp (by omega)]
          obtain ⟨m1, m2⟩ := yb (D 19 i - 1) (by omega) (k19' (by omega)) z.1
          rw [m1, z.2]
          exact ⟨z.1, rfl⟩
    · by_cases z : D 15 i = 3
      · refine Or.inr ?_
        unfold mj_cvD at a4
        rw [Bool.and_eq_true, decide_eq_true_eq, decide_eq_true_eq] at a4
        rw [e24, l1, e16, e26 z, mj_nI_sub l3, mj_nI_sub (by omega), mj_nI_div (by omega) (by have := (k3 z).2.1; omega)]
        have := a10 z
        congr 1
        omega
      · exact Or.inl (fun y => z ((mk_kd_M hM hk hi (k := 3) (by omega)).mp y))
/-- one gets lost in an hour -/
def mk_lc (D : Nat → Nat → Nat) (mt : Nat → Bool) (o h : Nat) (y : Nat → Nat) (A : Nat → Bool) (i : Nat) : Prop := mt i = true ∧ y i ≠ 4 ∧ mj_asD D i o = true ∧ mj_beh D h (y i) (A i) i
/-- what follows an hour -/
def mk_ynx (D : Nat → Nat → Nat) (mt : Nat → Bool) (o h : Nat) (y : Nat → Nat) (A : Nat → Bool) (y' : Nat → Nat) : Prop := ∀ i, i < D 14 14 → D 15 i < 5 → (mk_lc D mt o h y A i → y' i = 4) ∧ (¬ mk_lc D mt o h y A i → y' i = y i - if A i = true then 1 else 0)
/-- a set may be done -/
def mk_cokD (D : Nat → Nat → Nat) (mt rg : Nat → Bool) (o h : Nat) (y : Nat → Nat) (A : Nat → Bool) : Prop := (∀ i, A i = true → i < D 14 14 ∧ mk_opE D mt rg o h y i ∧ y i ≠ 4) ∧
  ((∃ i, A i = true) → mj_sbt A ≤ D 27 h ∧ (∀ i j, A i = true → A j = true → D 18 i = D 18 j → D 18 i ≠ 0 → i = j) ∧ ∀ j, j < D 14 14 → mt j = true → ¬ D 15 j < 5 → mj_cvD D j h = true → mj_asD D j o = true → D 15 j ≠ 6 ∧ ∀ i, A i = true → D 18 i ≠ D 18 j)
/-- what those cost that are lost -/
def mk_cs (D : Nat → Nat → Nat) (pr : Nat → Nat) (o : Nat) (y : Nat → Nat) : Nat := mj_sgm (fun i => if D 15 i < 5 ∧ mj_asD D i o = true ∧ y i = 4 then pr i else 0) (D 14 14)
/-- a way through the last hours, and what it costs in the end -/
def mk_play (D : Nat → Nat → Nat) (mt rg : Nat → Bool) (o : Nat) (pr : Nat → Nat) : Nat → (Nat → Nat) → Nat → Prop
  | 0, y, c => c = mk_cs D pr o y
  | r + 1, y, c => ∃ A y', mk_cokD D mt rg o (11 - r) y A ∧ mk_ynx D mt o (11 - r) y A y' ∧ mk_play D mt rg o pr r y' c
theorem mk_cok_D {s h o : Nat} {mt : Int32} {l : Nat → Int32} {y : Nat → Nat} (hM : mk_isM μ D) (hk : mj_okD D) (hL : mk_Ly D (mj_b mt) l y) (hs : s < 512) (hh : h < 12) (ho : o < 8) : mj_cok μ (nI h) (nI o) mt (D 14 14) l s = true ↔ mk_cokD D (mj_b mt) (mj_b (μ.1 61 46)) o h y (mj_sb s) := by
  have N9 := hk.1
  have sub : nI s &&& (mj_Gset μ (nI h) (nI o) mt l (D 14 14) ^^^ -1) = 0 ↔ ∀ i, mj_sb s i = true → i < D 14 14 ∧ mk_opE D (mj_b mt) (mj_b (μ.1 61 46)) o h y i ∧ y i ≠ 4 := by
    constructor
    · intro z i hi
      have hi9 : i < 9 := by
        by_cases c : i < 9
        · exact c
        · unfold mj_sb at hi
          rw [Nat.testBit_lt_two_pow (Nat.lt_of_lt_of_le (show s < 2 ^ 9 from hs) (Nat.pow_le_pow_right (by decide) (by omega)))] at hi
          exact absurd hi (by decide)
      have hb := mj_sub_b (k := i) z (by rw [mj_b_nI (by omega)]; exact hi)
      rw [mj_Gset_fb, mj_fb_b (by omega) _ (by omega), Bool.and_eq_true, decide_eq_true_eq] at hb
      exact ⟨hb.1, (mk_Gopn_y hM hk hL hb.1 hh ho).mp hb.2⟩
    · intro z
      refine mj_sub_of (fun k hk2 hb => ?_)
      rw [mj_b_nI (by omega)] at hb
      obtain ⟨a, b⟩ := z k hb
      rw [mj_Gset_fb, mj_fb_b hk2 _ (by omega), decide_eq_true a, (mk_Gopn_y hM hk hL a hh ho).mpr b]
      rfl
  unfold mj_cok mk_cokD
  rw [Bool.and_eq_true, decide_eq_true_eq, decide_eq_true_eq, sub]
  constructor
  · rintro ⟨a, b⟩
    exact ⟨a, (mk_Mbars_D hM hk hs (fun i hi => (a i hi).1) hh ho).mp b⟩
  · rintro ⟨a, b⟩
    exact ⟨a, (mk_Mbars_D hM hk hs (fun i hi => (a i hi).1) hh ho).mpr b⟩
theorem mk_Ly_nx {s h o : Nat} {mt : Int32} {l : Nat → Int32} {y y' : Nat → Nat} (hM : mk_isM μ D) (hk : mj_okD D) (hL : mk_Ly D (mj_b mt) l y) (hs : s < 512) (hh : h < 12) (ho : o < 8) (hA : mk_cokD D (mj_b mt) (mj_b (μ.1 61 46)) o h y (mj_sb s)) (hy : mk_ynx D (mj_b mt) o h y (mj_sb s) y') :
    mk_Ly D (mj_b mt) (mj_nxd μ (nI h) (nI s) (nI o) mt l) y' := fun i hi h5 hm => by
  have N9 := hk.1
  obtain ⟨l1, l2⟩ := hL i hi h5 hm
  have k24 := (hk.2.2.2.2.1 i hi).2.2.2.2.2.2.1
  obtain ⟨y1, y2⟩ := hy i hi h5
  have ebs : mj_b (nI s) i = mj_sb s i := mj_b_nI (by omega)
  have hopen : mj_sb s i = true → y i ≠ 0 ∧ y i ≠ 4 := fun z => ⟨(hA.1 i z).2.1.2.2.2.2.2.1, (hA.1 i z).2.2⟩
  have bh : mj_bhf μ (nI h) (nI s) (nI o) mt (l i) i = true ↔ mk_lc D (mj_b mt) o h y (mj_sb s) i := by
    by_cases c : y i = 4
    · have e : mj_bhf μ (nI h) (nI s) (nI o) mt (l i) i = false := by
        unfold mj_bhf
        rw [l1, c, decide_eq_false (show ¬ ¬ nI 4 = 4 from fun z => z rfl), Bool.false_and, Bool.and_false]
      rw [e]
      exact ⟨fun z => absurd z (by decide), fun z => absurd c z.2.1⟩
    · have := mk_bhf_D (mt := mt) (set := nI s) (l := fun j => if j = i then l i else 0) (x := fun j => if j = i then y i else 0) hM hk (fun j hj _ _ => by
        show (if j = i then l i else 0) = nI (if j = i then y i else 0) ∧ (if j = i then y i else 0) ≤ D 24 j
        by_cases e : j = i
        · subst e
          rw [if_pos rfl, if_pos rfl]
          exact ⟨l1, l2.resolve_left c⟩
        · rw [if_neg e, if_neg e]
          exact ⟨rfl, Nat.zero_le _⟩) hi h5 hh ho (fun _ z => by
        show (if i = i then y i else 0) ≠ 0
        rw [if_pos rfl]
        rw [ebs] at z
        exact (hopen z).1)
      have this' : mj_bhf μ (nI h) (nI s) (nI o) mt (if i = i then l i else 0) i = true ↔ mj_b mt i = true ∧ mj_asD D i o = true ∧ mj_beh D h (if i = i then y i else 0) (mj_b (nI s) i) i := this
      rw [if_pos rfl, if_pos rfl, ebs] at this'
      rw [this']
      exact ⟨fun ⟨a, b, e⟩ => ⟨a, c, b, e⟩, fun ⟨a, _, b, e⟩ => ⟨a, b, e⟩⟩
  unfold mj_nxd
  by_cases c : mk_lc D (mj_b mt) o h y (mj_sb s) i
  · rw [if_pos (bh.mpr c), y1 c]
    exact ⟨rfl, Or.inl rfl⟩
  · rw [if_neg (fun z => c (bh.mp z)), y2 c, ebs, l1]
    unfold mj_bis
    cases d : mj_sb s i
    · rw [if_neg (by decide), if_neg (by decide)]
      exact ⟨rfl, by omega⟩
    · obtain ⟨o1, o2⟩ := hopen d
      rw [if_pos rfl, if_pos rfl]
      exact ⟨mj_nI_sub (b := 1) (by omega), by omega⟩
/-- the least of those that count -/
theorem mk_mn {ok : Nat → Bool} {v : Nat → Int32} : ∀ (j s : Nat) (b : Int32), (∀ i, s ≤ i → i < s + j → ok i = true → ∃ c, c ≤ 2000 ∧ v i = nI c) → (b = -1 ∨ ∃ c, c ≤ 2000 ∧ b = nI c) →
    (mj_mn ok v s j b = -1 ∧ b = -1 ∧ ∀ i, s ≤ i → i < s + j → ok i = false) ∨ ∃ m, m ≤ 2000 ∧ mj_mn ok v s j b = nI m ∧ (b = nI m ∨ ∃ i, s ≤ i ∧ i < s + j ∧ ok i = true ∧ v i = nI m) ∧ (∀ i c, s ≤ i → i < s + j → ok i = true → c ≤ 2000 → v i = nI c → m ≤ c) ∧ ∀ c, c ≤ 2000 → b = nI c → m ≤ c := by
  intro j
  induction j with
  | zero =>
    intro s b _ hb
    rcases hb with z | ⟨c, c1, c2⟩
    · exact Or.inl ⟨z, z, fun i a b => by omega⟩
    · exact Or.inr ⟨c, c1, c2, Or.inl c2, fun i c a b => by omega, fun c' h1 h2 => by
        rw [c2] at h2
        have := mj_nI_inj (by omega) (by omega) h2
        omega⟩
  | succ j ih =>
    intro s b hv hb
    show (mj_mn ok v (s + 1) j (if ok s = true then (if b = -1 ∨ v s < b then v s else b) else b) = -1 ∧ _) ∨ ∃ m, m ≤ 2000 ∧ mj_mn ok v (s + 1) j (if ok s = true then (if b = -1 ∨ v s < b then v s else b) else b) = nI m ∧ _
    by_cases c : ok s = true
    · obtain ⟨cs, c1, c2⟩ := hv s (Nat.le_refl _) (by omega) c
      rw [if_pos c]
      by_cases d : b = -1 ∨ v s < b
      · rw [if_pos d]
        rcases ih (s + 1) (v s) (fun i a e f => hv i (by omega) (by omega) f) (Or.inr ⟨cs, c1, c2⟩) with ⟨-, z, -⟩ | ⟨m, m1, m2, m3, m4, m5⟩
        · rw [c2] at z
          exact absurd z (mj_nI_m1 (by omega))
        · refine Or.inr ⟨m, m1, m2, Or.inr ?_, fun i c' a e f g q => ?_, fun c' h1 h2 => ?_⟩
          · rcases m3 with z | ⟨i, a, e, f, g⟩
            · exact ⟨s, Nat.le_refl _, by omega, c, z⟩
            · exact ⟨i, by omega, by omega, f, g⟩
          · by_cases q2 : i = s
            · rw [q2] at q
              exact m5 c' g q
            · exact m4 i c' (by omega) (by omega) f g q
          · have := m5 cs c1 c2
            rcases d with d | d
            · rw [h2] at d
              exact absurd d (mj_nI_m1 (by omega))
            · rw [h2, c2] at d
              have : cs < c' := Nat.lt_of_not_le (fun y => nI_nlt y (by omega) d)
              omega
      · rw [if_neg d]
        rcases ih (s + 1) b (fun i a e f => hv i (by omega) (by omega) f) hb with ⟨-, z, -⟩ | ⟨m, m1, m2, m3, m4, m5⟩
        · exact absurd (Or.inl z) d
        · refine Or.inr ⟨m, m1, m2, ?_, fun i c' a e f g q => ?_, m5⟩
          · rcases m3 with z | ⟨i, a, e, f, g⟩
            · exact Or.inl z
            · exact Or.inr ⟨i, by omega, by omega, f, g⟩
          · by_cases q2 : i = s
            · rw [q2] at q
              rcases hb with z | ⟨cb, b1, b2⟩
              · exact absurd (Or.inl z) d
              · have := m5 cb b1 b2
                have : ¬ c' < cb := fun y => d (Or.inr (by rw [q, b2]; exact nI_lt y (by omega)))
                omega
            · exact m4 i c' (by omega) (by omega) f g q
    · rw [if_neg c]
      rcases ih (s + 1) b (fun i a e f => hv i (by omega) (by omega) f) hb with ⟨z1, z2, z3⟩ | ⟨m, m1, m2, m3, m4, m5⟩
      · refine Or.inl ⟨z1, z2, fun i a e => ?_⟩
        by_cases q2 : i = s
        · rw [q2]; exact Bool.eq_false_iff.mpr c
        · exact z3 i (by omega) (by omega)
      · refine Or.inr ⟨m, m1, m2, ?_, fun i c' a e f g q => ?_, m5⟩
        · rcases m3 with z | ⟨i, a, e, f, g⟩
          · exact Or.inl z
          · exact Or.inr ⟨i, by omega, by omega, f, g⟩
        · by_cases q2 : i = s
          · rw [q2] at f; exact absurd f c
          · exact m4 i c' (by omega) (by omega) f g q
theorem mk_nI_sum {f : Nat → Int32} {g : Nat → Nat} : ∀ n, (∀ i, i < n → f i = nI (g i)) → mj_it (fun i u => u + f i) 0 n = nI (mj_sgm g n) := by
  intro n
  induction n with
  | zero => intro _; rfl
  | succ n ih =>
    intro h
    rw [mj_it_s, ih (fun i hi => h i (by omega)), h n (by omega), nI_add]
    rfl
theorem mk_cs_le {pr : Nat → Nat} {o : Nat} {y : Nat → Nat} (hk : mj_okD D) (hp : ∀ i, i < D 14 14 → pr i ≤ 99) : mk_cs D pr o y ≤ 891 := by
  have := mj_sgm_bnd (f := fun i => if D 15 i < 5 ∧ mj_asD D i o = true ∧ y i = 4 then pr i else 0) (m := 99) (D 14 14) (fun i hi => by
    show (if _ then pr i else 0) ≤ 99
    split
    · exact hp i hi
    · omega)
  have := hk.1
  unfold mk_cs
  omega
/-- the cheapest way through the last hours, by the reference: told of the deal -/
theorem mk_Ch_D {o : Nat} {mt : Int32} {pr : Nat → Nat} (hM : mk_isM μ D) (hk : mj_okD D) (ho : o < 8) (hp : ∀ i, i < D 14 14 → mj_prc μ i = nI (pr i) ∧ pr i ≤ 99) (hwm : ∀ i, i < D 14 14 → D 15 i < 5 → mj_b mt i = true) : ∀ (r : Nat) (l : Nat → Int32) (y : Nat → Nat), r ≤ 12 → mk_Ly D (mj_b mt) l y →
    ∃ c, c ≤ 891 ∧ mj_Ch μ (nI o) mt (D 14 14) r l = nI c ∧ mk_play D (mj_b mt) (mj_b (μ.1 61 46)) o pr r y c ∧ ∀ c', mk_play D (mj_b mt) (mj_b (μ.1 61 46)) o pr r y c' → c ≤ c' := by
  have N9 := hk.1
  intro r
  induction r with
  | zero =>
    intro l y _ hL
    refine ⟨mk_cs D pr o y, mk_cs_le hk (fun i hi => (hp i hi).2), ?_, rfl, fun c' h => Nat.le_of_eq h.symm⟩
    show mj_cst μ (nI o) l (D 14 14) = _
    have key : ∀ n, n ≤ D 14 14 → mj_cst μ (nI o) l n = nI (mj_sgm (fun i => if D 15 i < 5 ∧ mj_asD D i o = true ∧ y i = 4 then pr i else 0) n) := by
      intro n
      induction n with
      | zero => intro _; rfl
      | succ n ih =>
        intro hn
        have ih' := ih (by omega)
        have hi : n < D 14 14 := by omega
        have q : (μ.1 65 n < 5 ∧ mj_ask (μ.1 70 n) (μ.1 71 n) (nI o) = true ∧ l n = 4) ↔ (D 15 n < 5 ∧ mj_asD D n o = true ∧ y n = 4) := by
          rw [(mk_wk_M hM hk hi).2, mk_ask_M hM hk hi (by omega)]
          refine and_congr_right (fun h5 => and_congr Iff.rfl ?_)
          obtain ⟨a, b⟩ := hL n hi h5 (hwm n hi h5)
          have k24 := (hk.2.2.2.2.1 n hi).2.2.2.2.2.2.1
          rw [a]
          exact nI_eq (b := 4) (by omega) (by omega)
        unfold mj_cst at ih' ⊢
        rw [mj_it_s, ih']
        show (if μ.1 65 n < 5 ∧ mj_ask (μ.1 70 n) (μ.1 71 n) (nI o) = true ∧ l n = 4 then nI _ + mj_prc μ n else nI _) = nI (mj_sgm _ n + (if D 15 n < 5 ∧ mj_asD D n o = true ∧ y n = 4 then pr n else 0))
        by_cases c : D 15 n < 5 ∧ mj_asD D n o = true ∧ y n = 4
        · rw [if_pos c, if_pos (q.mpr c), (hp n hi).1, nI_add]
        · rw [if_neg c, if_neg (fun z => c (q.mp z)), Nat.add_zero]
    exact key _ (Nat.le_refl _)
  | succ r ih =>
    intro l y hr hL
    have hh : 11 - r < 12 := by omega
    have cok := fun {s} hs => mk_cok_D (s := s) (h := 11 - r) hM hk hL hs hh ho
    have nx : ∀ s, s < 512 → mk_cokD D (mj_b mt) (mj_b (μ.1 61 46)) o (11 - r) y (mj_sb s) → ∃ y', mk_ynx D (mj_b mt) o (11 - r) y (mj_sb s) y' ∧ mk_Ly D (mj_b mt) (mj_nxd μ (nI (11 - r)) (nI s) (nI o) mt l) y' := fun s hs hA => by
      have hy : mk_ynx D (mj_b mt) o (11 - r) y (mj_sb s) (fun i => @ite _ (mk_lc D (mj_b mt) o (11 - r) y (mj_sb s) i) (Classical.propDecidable _) 4 (y i - if mj_sb s i = true then 1 else 0)) := fun i hi h5 => ⟨fun z => if_pos z, fun z => if_neg z⟩
      exact ⟨_, hy, mk_Ly_nx hM hk hL hs hh ho hA hy⟩
    show ∃ c, c ≤ 891 ∧ mj_mn (mj_cok μ (nI (11 - r)) (nI o) mt (D 14 14) l) (fun s => mj_Ch μ (nI o) mt (D 14 14) r (mj_nxd μ (nI (11 - r)) (nI s) (nI o) mt l)) 0 512 (-1) = nI c ∧ _
    have v0 : mj_cok μ (nI (11 - r)) (nI o) mt (D 14 14) l 0 = true := (cok (by decide)).mpr ⟨fun i hi => by
      unfold mj_sb at hi
      rw [Nat.zero_testBit] at hi
      exact absurd hi (by decide), fun ⟨i, hi⟩ => by
      unfold mj_sb at hi
      rw [Nat.zero_testBit] at hi
      exact absurd hi (by decide)⟩
    rcases mk_mn (ok := mj_cok μ (nI (11 - r)) (nI o) mt (D 14 14) l) (v := fun s => mj_Ch μ (nI o) mt (D 14 14) r (mj_nxd μ (nI (11 - r)) (nI s) (nI o) mt l)) 512 0 (-1) (fun s _ hs hok => by
      obtain ⟨y', -, hL'⟩ := nx s (by omega) ((cok (by omega)).mp hok)
      obtain ⟨c, c1, c2, -⟩ := ih _ y' (by omega) hL'
      exact ⟨c, by omega, c2⟩) (Or.inl rfl) with ⟨-, -, z⟩ | ⟨m, m1, m2, m3, m4, -⟩
    · rw [z 0 (Nat.le_refl _) (by decide)] at v0
      exact absurd v0 (by decide)
    · rcases m3 with z | ⟨s, -, hs, hok, hv⟩
      · exact absurd z.symm (mj_nI_m1 (by omega))
      · have hA := (cok (by omega)).mp hok
        obtain ⟨y', hy, hL'⟩ := nx s (by omega) hA
        obtain ⟨c, c1, c2, c3, c4⟩ := ih _ y' (by omega) hL'
        have hv' : mj_Ch μ (nI o) mt (D 14 14) r (mj_nxd μ (nI (11 - r)) (nI s) (nI o) mt l) = nI m := hv
        have e : c = m := mj_nI_inj (by omega) (by omega) (c2.symm.trans hv')
        subst e
        refine ⟨c, c1, m2, ⟨mj_sb s, y', hA, hy, c3⟩, fun c' hc' => ?_⟩
        obtain ⟨A, z', a1, a2, a3⟩ := hc'
        have eA := mk_sb_nb (A := A) (fun i hi => by have := (a1.1 i hi).1; omega)
        have s9 := mj_nb_lt (A := A) (n := 9)
        rw [← eA] at a1 a2
        have hL2 := mk_Ly_nx hM hk hL s9 hh ho a1 a2
        obtain ⟨e, e1, e2, -, e4⟩ := ih _ z' (by omega) hL2
        have := m4 _ e (Nat.zero_le _) (by omega) ((cok s9).mpr a1) (by omega) e2
        have := e4 c' a3
        omega
end
