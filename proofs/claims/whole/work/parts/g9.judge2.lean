section
variable {X : mj_X} {σ τ μ : mj_St} {D : Nat → Nat → Nat} {R B : Nat}
/-- one gets lost in an hour, by the reference -/
theorem mk_bhf_y {h o i : Nat} {mt set : Int32} {l : Nat → Int32} {y : Nat → Nat} (hM : mk_isM μ D) (hk : mj_okD D) (hL : mk_Ly D (mj_b mt) l y) (hi : i < D 14 14) (h5 : D 15 i < 5) (hm : mj_b mt i = true) (hh : h < 12) (ho : o < 8) (hopen : mj_b set i = true → y i ≠ 0 ∧ y i ≠ 4) :
    mj_bhf μ (nI h) set (nI o) mt (l i) i = true ↔ mk_lc D (mj_b mt) o h y (mj_b set) i := by
  obtain ⟨l1, l2⟩ := hL i hi h5 hm
  by_cases c : y i = 4
  · have e : mj_bhf μ (nI h) set (nI o) mt (l i) i = false := by
      unfold mj_bhf
      rw [l1, c, decide_eq_false (show ¬ ¬ nI 4 = 4 from fun z => z rfl), Bool.false_and, Bool.and_false]
    rw [e]
    exact ⟨fun z => absurd z (by decide), fun z => absurd c z.2.1⟩
  · have := mk_bhf_D (mt := mt) (set := set) (l := fun j => if j = i then l i else 0) (x := fun j => if j = i then y i else 0) hM hk (fun j hj _ _ => by
      show (if j = i then l i else 0) = nI (if j = i then y i else 0) ∧ (if j = i then y i else 0) ≤ D 24 j
      by_cases e : j = i
      · subst e
        rw [if_pos rfl, if_pos rfl]
        exact ⟨l1, l2.resolve_left c⟩
      · rw [if_neg e, if_neg e]
        exact ⟨rfl, Nat.zero_le _⟩) hi h5 hh ho (fun _ z => by
      show (if i = i then y i else 0) ≠ 0
      rw [if_pos rfl]
      exact (hopen z).1)
    have this' : mj_bhf μ (nI h) set (nI o) mt (if i = i then l i else 0) i = true ↔ mj_b mt i = true ∧ mj_asD D i o = true ∧ mj_beh D h (if i = i then y i else 0) (mj_b set i) i := this
    rw [if_pos rfl, if_pos rfl] at this'
    rw [this']
    exact ⟨fun ⟨a, b, e⟩ => ⟨a, c, b, e⟩, fun ⟨a, _, b, e⟩ => ⟨a, b, e⟩⟩
/-- one gets lost in an hour, by the class -/
theorem mk_pl_D {a G h o i : Nat} {x y : Nat → Nat} {l : Nat → Int32} {mt set : Int32} (hr : mk_HR σ μ D a x y G l mt) (hi : i < D 14 14) (hh : h < 12) (ho : o < 8) (hopen : mj_b set i = true → x i ≠ 0 ∧ G.testBit i = false) :
    mj_pl σ a set (nI h) (nI o) (nI G) i = true ↔ D 15 i < 5 ∧ mk_lc D (mj_b mt) o h y (mj_b set) i := by
  obtain ⟨hD, hM, hk, r1, r2, r3, r4, r5, r6⟩ := hr
  have N9 := hk.1
  obtain ⟨e15, e16, e17, e18, e19, e20, e21, e24, e25, e26⟩ := hD.2.2.2.2.1 i hi
  obtain ⟨k15, ⟨k16, k17⟩, k18, k19, k20, k21, ⟨k24, k25⟩, k3, k5⟩ := hk.2.2.2.2.1 i hi
  obtain ⟨x1, x2⟩ := r3 i hi
  have hmt : mj_b mt i = true := by rw [r2 i (by omega)]; exact decide_eq_true hi
  have es : σ.1 a i - mj_z (mj_b set i) = nI (x i - if mj_b set i = true then 1 else 0) := by
    rw [x1]
    cases c : mj_b set i
    · exact mj_nI_sub (a := x i) (b := 0) (Nat.zero_le _)
    · rw [if_pos rfl]
      exact mj_nI_sub (b := 1) (by have := (hopen c).1; omega)
  unfold mj_pl mk_lc
  rw [mj_wk_D hD hk hi, mj_ask_D hD hk hi (by omega), es, mj_b_nI (by omega)]
  simp only [Bool.and_eq_true, Bool.or_eq_true, Bool.not_eq_true', decide_eq_true_eq]
  refine and_congr_right (fun h5 => ?_)
  obtain ⟨y1, y2⟩ := r6 i hi h5
  have p0 : 0 < nI (x i - if mj_b set i = true then 1 else 0) ↔ x i - (if mj_b set i = true then 1 else 0) ≠ 0 := by
    have := mk_nI_lt (a := 0) (b := x i - if mj_b set i = true then 1 else 0) (by omega) (by omega)
    rw [show (0 : Int32) = nI 0 from rfl, this]
    omega
  have kd2 : σ.1 15 i = 2 ↔ D 15 i = 2 := by rw [e15]; exact nI_eq (b := 2) (by omega) (by omega)
  have kd3 : σ.1 15 i = 3 ↔ D 15 i = 3 := by rw [e15]; exact nI_eq (b := 3) (by omega) (by omega)
  have e17' : σ.1 17 i = nI h ↔ D 17 i = h := by rw [e17, nI_eq (by omega) (by omega)]
  have lt2 : σ.1 a i < σ.1 24 i ↔ x i < D 24 i := by rw [x1, e24]; exact mk_nI_lt (by omega) (by omega)
  have en : D 15 i = 3 → ((mj_ends (σ.1 26 i) (σ.1 16 i) (σ.1 17 i) (nI h) = true ∧ ¬ mj_spn (σ.1 26 i) (σ.1 16 i) (nI h) < σ.1 24 i - nI (x i - if mj_b set i = true then 1 else 0)) ↔ (mj_enD D i h ∧ D 24 i - (x i - if mj_b set i = true then 1 else 0) ≤ (h - D 16 i) / D 26 i)) := fun c3 => by
    obtain ⟨s1, s2, s3⟩ := k3 c3
    unfold mj_ends mj_enD
    rw [Bool.and_eq_true, mj_cov_D hD hk hi (by omega), and_assoc, and_assoc]
    refine and_congr_right (fun cv => ?_)
    have cv' := mk_cv.mp cv
    have a1 : mj_spn (σ.1 26 i) (σ.1 16 i) (nI h) = nI ((h - D 16 i) / D 26 i) := by
      rw [e26, e16]
      exact mj_spn_n (by omega) cv'.1 (by omega)
    have a2 : mj_spn (σ.1 26 i) (σ.1 16 i) (nI h + 1) = nI ((h + 1 - D 16 i) / D 26 i) := by
      rw [e26, e16, nI_1]
      exact mj_spn_n (by omega) (by omega) (by omega)
    have q1 := Nat.div_le_self (h - D 16 i) (D 26 i)
    have q2 := Nat.div_le_self (h + 1 - D 16 i) (D 26 i)
    rw [a1, a2, e17, e24, mj_nI_sub (show x i - (if mj_b set i = true then 1 else 0) ≤ D 24 i by omega), mk_nI_lt (by omega) (by omega), Bool.or_eq_true, decide_eq_true_eq, Bool.not_eq_true', decide_eq_false_iff_not, nI_eq (by omega) (by omega), nI_eq (by omega) (by omega)]
    constructor
    · rintro ⟨z1, z2⟩
      refine ⟨?_, by omega⟩
      rcases z1 with z1 | z1
      · exact Or.inl z1.symm
      · exact Or.inr z1
    · rintro ⟨z1, z2⟩
      refine ⟨?_, by omega⟩
      rcases z1 with z1 | z1
      · exact Or.inl z1.symm
      · exact Or.inr z1
  rw [p0, kd2, kd3, e17', lt2]
  unfold mj_beh
  have y4 : y i ≠ 4 ↔ G.testBit i = false := by
    rw [y2]
    cases g : G.testBit i
    · rw [if_neg (by decide)]
      exact ⟨fun _ => rfl, fun _ => by omega⟩
    · rw [if_pos rfl]
      exact ⟨fun z => absurd rfl z, fun z => absurd z (by decide)⟩
  constructor
  · rintro ⟨b1, b2, b3, b4⟩
    have yi : y i = x i := by rw [y2, b3, if_neg (by decide)]
    rw [yi]
    refine ⟨hmt, by rw [← yi]; exact y4.mpr b3, b1, b2, ?_⟩
    rcases b4 with b4 | b4 | b4
    · exact Or.inl b4
    · exact Or.inr (Or.inl b4)
    · exact Or.inr (Or.inr ⟨b4.1, (en b4.1).mp b4.2⟩)
  · rintro ⟨-, b3, b1, b2, b4⟩
    have b3' := y4.mp b3
    have yi : y i = x i := by rw [y2, b3', if_neg (by decide)]
    rw [yi] at b2 b4
    refine ⟨b1, b2, b3', ?_⟩
    rcases b4 with b4 | b4 | b4
    · exact Or.inl b4
    · exact Or.inr (Or.inl b4)
    · exact Or.inr (Or.inr ⟨b4.1, (en b4.1).mpr b4.2⟩)
/-- an hour goes by: both sides alike -/
theorem mk_pass_eq {a G h o : Nat} {x y : Nat → Nat} {l : Nat → Int32} {mt set : Int32} (hr : mk_HR σ μ D a x y G l mt) (hh : h < 12) (ho : o < 8) (hs : set &&& (mj_Gset μ (nI h) (nI o) mt l (D 14 14) ^^^ -1) = 0) :
    ∃ P, P < 512 ∧ mj_pls σ a set (nI h) (nI o) (nI G) (D 14 14) = nI P ∧ mj_nxl μ (nI h) set (nI o) mt l (D 14 14) = nI P ∧ (∀ i, P.testBit i = true ↔ i < D 14 14 ∧ D 15 i < 5 ∧ mk_lc D (mj_b mt) o h y (mj_b set) i) ∧
    (∀ i, i < D 14 14 → mj_b set i = true → D 15 i < 5 ∧ x i ≠ 0 ∧ G.testBit i = false ∧ D 16 i ≤ h ∧ h ≤ D 17 i ∧ mj_asD D i o = true) ∧
    (∀ i, i < D 14 14 → σ.1 a i - mj_z (mj_b set i) = nI (x i - if mj_b set i = true then 1 else 0)) ∧
    ∀ i, i < D 14 14 → D 15 i < 5 → mj_nxd μ (nI h) set (nI o) mt l i = nI (if (G ||| P).testBit i = true then 4 else x i - if mj_b set i = true then 1 else 0) := by
  have hL := mk_HR_L hr
  have pl := fun {i} hi hopen => mk_pl_D (h := h) (o := o) (i := i) (set := set) hr hi hh ho hopen
  obtain ⟨hD, hM, hk, r1, r2, r3, r4, r5, r6⟩ := hr
  have N9 := hk.1
  have hop : ∀ i, i < D 14 14 → mj_b set i = true → D 15 i < 5 ∧ x i ≠ 0 ∧ G.testBit i = false ∧ D 16 i ≤ h ∧ h ≤ D 17 i ∧ mj_asD D i o = true := fun i hi hb => by
    have := mj_sub_b hs hb
    rw [mj_Gset_fb, mj_fb_b (by omega) _ (by omega), Bool.and_eq_true, decide_eq_true_eq] at this
    obtain ⟨⟨-, c2, -, c4, c5, c6, -⟩, y4⟩ := (mk_Gopn_y hM hk hL hi hh ho).mp this.2
    obtain ⟨y1, y2⟩ := r6 i hi c2
    have cv := mk_cv.mp c4
    rw [Bool.and_eq_true] at c5
    cases g : G.testBit i
    · rw [g, if_neg (by decide)] at y2
      rw [y2] at c6
      exact ⟨c2, c6, rfl, cv.1, cv.2, c5.2⟩
    · rw [g, if_pos rfl] at y2
      exact absurd y2 y4
  have hmt : ∀ i, i < D 14 14 → mj_b mt i = true := fun i hi => by rw [r2 i (by omega)]; exact decide_eq_true hi
  have yx : ∀ i, i < D 14 14 → mj_b set i = true → y i ≠ 0 ∧ y i ≠ 4 := fun i hi hb => by
    obtain ⟨c2, c6, g, -⟩ := hop i hi hb
    obtain ⟨y1, y2⟩ := r6 i hi c2
    have k24 := (hk.2.2.2.2.1 i hi).2.2.2.2.2.2.1
    have := (r3 i hi).2
    rw [g, if_neg (by decide)] at y2
    omega
  have bp : ∀ b, b < 32 → (mj_b (mj_pls σ a set (nI h) (nI o) (nI G) (D 14 14)) b = true ↔ b < D 14 14 ∧ D 15 b < 5 ∧ mk_lc D (mj_b mt) o h y (mj_b set) b) := fun b hb => by
    unfold mj_pls
    rw [mk_fbt hb (by omega), Bool.and_eq_true, decide_eq_true_eq]
    exact and_congr_right (fun hbN => pl hbN (fun z => ⟨(hop b hbN z).2.1, (hop b hbN z).2.2.1⟩))
  have bn : ∀ b, b < 32 → (mj_b (mj_nxl μ (nI h) set (nI o) mt l (D 14 14)) b = true ↔ b < D 14 14 ∧ D 15 b < 5 ∧ mk_lc D (mj_b mt) o h y (mj_b set) b) := fun b hb => by
    rw [mj_nxl_fb, mj_fb_b hb _ (by omega), Bool.and_eq_true, Bool.and_eq_true, decide_eq_true_eq, decide_eq_true_eq]
    refine and_congr_right (fun hbN => ?_)
    rw [(mk_wk_M hM hk hbN).2]
    exact and_congr_right (fun h5 => mk_bhf_y hM hk hL hbN h5 (hmt b hbN) hh ho (yx b hbN))
  obtain ⟨P, P1, P2⟩ := mj_b_lt (a := mj_pls σ a set (nI h) (nI o) (nI G) (D 14 14)) (n := 9) (by decide) (fun k hk2 h9 => by
    cases z : mj_b (mj_pls σ a set (nI h) (nI o) (nI G) (D 14 14)) k
    · rfl
    · have := ((bp k hk2).mp z).1
      omega)
  have P9 : P < 512 := P1
  have ePn : mj_nxl μ (nI h) set (nI o) mt l (D 14 14) = nI P := by
    rw [← P2]
    apply mj_b_ext
    intro b hb
    rw [Bool.eq_iff_iff, bn b hb, bp b hb]
  have Pb : ∀ i, P.testBit i = true ↔ i < D 14 14 ∧ D 15 i < 5 ∧ mk_lc D (mj_b mt) o h y (mj_b set) i := fun i => by
    by_cases c : i < 32
    · rw [← bp i c, P2, mj_b_nI (by omega)]
    · rw [Nat.testBit_lt_two_pow (Nat.lt_of_lt_of_le P1 (Nat.pow_le_pow_right (by decide) (by omega)))]
      exact ⟨fun z => absurd z (by decide), fun z => by omega⟩
  refine ⟨P, P9, P2, ePn, Pb, hop, fun i hi => ?_, fun i hi h5 => ?_⟩
  · obtain ⟨x1, x2⟩ := r3 i hi
    rw [x1]
    cases c : mj_b set i
    · exact mj_nI_sub (a := x i) (b := 0) (Nat.zero_le _)
    · rw [if_pos rfl]
      exact mj_nI_sub (b := 1) (by have := (hop i hi c).2.1; omega)
  · obtain ⟨y1, y2⟩ := r6 i hi h5
    have bh := mk_bhf_y (set := set) hM hk hL hi h5 (hmt i hi) hh ho (yx i hi)
    unfold mj_nxd
    rw [Nat.testBit_or]
    by_cases c : mk_lc D (mj_b mt) o h y (mj_b set) i
    · rw [if_pos (bh.mpr c), (Pb i).mpr ⟨hi, h5, c⟩, Bool.or_true, if_pos rfl]
      rfl
    · have np : P.testBit i = false := by
        cases z : P.testBit i
        · rfl
        · exact absurd ((Pb i).mp z).2.2 c
      rw [if_neg (fun z => c (bh.mp z)), np, Bool.or_false, y1, y2]
      unfold mj_bis
      cases g : G.testBit i
      · cases d : mj_b set i
        · rfl
        · have := (hop i hi d).2.1
          exact mj_nI_sub (a := x i) (b := 1) (by omega)
      · cases d : mj_b set i
        · rfl
        · rw [(hop i hi d).2.2.1] at g
          exact absurd g (by decide)
end
