section
variable {σ τ ρ : mj_St}
/-! looking ahead finds nothing but what fails -/
def mj_frw (σ : mj_St) (g h : Nat) : Int32 := mj_sts σ g h >>> (18 &&& 31)
/-- the news of an hour -/
def mj_nws (σ : mj_St) (g h u : Nat) : Prop := (mj_frw σ g h = 0 ∧ u = 0) ∨ (¬ mj_frw σ g h = 0 ∧ u < 8 ∧ nI u &&& (mj_frw σ g h ^^^ -1) = 0)
def mj_th (σ : mj_St) (p : Nat) : Int32 := σ.1 18 (σ.1 47 p).toNatClampNeg
def mj_aft (σ : mj_St) (p q : Nat) : Prop := ¬ σ.1 48 p < 0 ∧ (σ.1 48 p).toNatClampNeg = q
/-- what the tables of a search are like -/
def mj_TH (σ : mj_St) (n w gr : Nat) (c0 T R : Nat → Nat) : Prop :=
  n ≤ 6 ∧
  (∀ p, p < n → T p < 12 ∧ σ.1 17 (σ.1 47 p).toNatClampNeg = nI (T p) ∧ (w ≤ T p → σ.1 53 (p * 12 + T p) = 0)) ∧
  (∀ g u h, g < gr → w ≤ h → h + 1 < 12 → mj_nws σ g (h + 1) u → g ||| u < gr ∧ ∀ p, p < n → mj_b (mj_sts σ (g ||| u) (h + 1)) (p + 6) = true → mj_b (mj_sts σ g h) (p + 6) = true) ∧
  (∀ g h p, g < gr → w ≤ h → h < 12 → p < n → mj_b ((mj_sts σ g h >>> (12 &&& 31)) &&& 63) p = true → ∀ t, h ≤ t → t < 12 → mj_b (mj_sts σ g t) (p + 6) = true) ∧
  (∀ p, p < n → mj_dcc σ n p = true → (¬ σ.1 48 p < 0 ∧ (σ.1 48 p).toNatClampNeg < n) ∧ ∀ g h, g < gr → w ≤ h → h < 12 → mj_b ((mj_sts σ g h >>> (12 &&& 31)) &&& 63) p = true) ∧
  (∀ p, p < n → 0 < c0 p ∧ c0 p ≤ 3 ∧ σ.1 25 (σ.1 47 p).toNatClampNeg = nI (c0 p)) ∧
  (∃ κ : mj_St, (∀ i, i < n → σ.1 50 i = mj_dl κ n n i) ∧ κ.1 17 = σ.1 17 ∧ κ.1 25 = σ.1 25 ∧ κ.1 47 = σ.1 47 ∧ κ.1 48 = σ.1 48 ∧ κ.1 20 = σ.1 20 ∧ κ.1 46 2 = σ.1 46 2) ∧
  mj_SO (σ.1 50) n (σ.1 49) ∧
  ((∀ t, w ≤ t → t ≤ 12 → σ.1 54 t = nI (R t)) ∧ (∀ t, t ≤ 12 → R t ≤ 1000) ∧ ∀ g t k, g < gr → w ≤ t → t < 12 → k < 22 → ¬ σ.1 27 t < mj_pop (nI (mj_sK k)) → (∀ p, p < 6 → (mj_sK k).testBit p = true → p < n ∧ mj_b (mj_sts σ g t) p = true) → R t + mj_sgm (fun q => if (mj_sK k).testBit q = true then 1 else 0) n ≤ R (t + 1)) ∧
  (∀ q, q < n → mj_th σ q = -1 ∨ ∃ v, v < 4 ∧ mj_th σ q = nI v) ∧
  (∀ k, k < 22 → (σ.1 46 8 >>> (nI k &&& 31)) &&& 1 = 0 → ∀ p q, p < n → q < n → (mj_sK k).testBit p = true → (mj_sK k).testBit q = true → mj_th σ p = mj_th σ q → ¬ mj_th σ p = -1 → p = q) ∧
  ∀ h p, p < 32 → 6 ≤ p → mj_b (mj_pin σ h) p = false
/-- a state that can come about -/
def mj_Cns (σ : mj_St) (n : Nat) (c0 T : Nat → Nat) (h g s : Nat) : Prop := s < 4 ^ n ∧ (h < 12 → ∀ p, p < n → T p < h → mj_b (mj_sts σ g h) (p + 6) = true → mj_lf s p = 0) ∧ ∀ p q, p < n → q < n → mj_aft σ p q → ¬ mj_lf s q = 0 → mj_lf s p = c0 p
theorem mj_4n {n s : Nat} (hn : n ≤ 6) (hs : s < 4 ^ n) : s < 4096 := Nat.lt_of_lt_of_le hs (Nat.pow_le_pow_right (n := 4) (by decide) hn)
theorem mj_okm_lf {n g h s k : Nat} (hk : k < 22) (hs : s < 4096) (ho : mj_okm σ n g h s k) : mj_tK k ≤ s ∧ ∀ p, p < 6 → mj_lf s p = mj_lf (s - mj_tK k) p + if (mj_sK k).testBit p = true then 1 else 0 := mj_take hk hs (fun p hp ht => by
  have := (ho.1 p hp ht).2
  unfold mj_mop at this
  simp only [Bool.and_eq_true, decide_eq_true_eq] at this
  exact this.1)
/-- at its last hour a work is over -/
theorem mj_okm_T {n w gr g h s k : Nat} {c0 T R : Nat → Nat} (hT : mj_TH σ n w gr c0 T R) (hk : k < 22) (hs : s < 4096) (ho : mj_okm σ n g h s k) (hw : w ≤ h) {p : Nat} (hp : p < n) (eT : T p = h) (hca : mj_b (mj_sts σ g h) (p + 6) = true) : mj_lf (s - mj_tK k) p = 0 := by
  have n6 := hT.1
  have hl := (mj_okm_lf hk hs ho).2 p (by omega)
  have l4 := mj_lf_lt (s := s) (p := p)
  have h53 := (hT.2.1 p hp).2.2 (by omega)
  rw [eT] at h53
  by_cases z : mj_lf s p = 0
  · omega
  · have mc : mj_mca σ g h s p = true := by
      unfold mj_mca
      rw [decide_eq_true z, hca]; rfl
    have mb := ho.2.1 p hp
    unfold mj_mbd at mb
    rw [mc, h53, Bool.true_and] at mb
    have mb2 := of_decide_eq_false mb
    have l1 : mj_lf s p = 1 := by
      have e1 : (0 : Int32) + 1 = nI 1 := rfl
      rw [e1] at mb2
      have : ¬ 1 < mj_lf s p := fun q => mb2 (nI_lt q (by omega))
      omega
    have mf : mj_mfo σ g h s p = true := by
      unfold mj_mfo
      rw [mc, h53, l1]
      rfl
    rw [ho.2.2.1 p hp mf, if_pos rfl] at hl
    omega
theorem mj_okm_af {n g h s k p q : Nat} (ho : mj_okm σ n g h s k) (hp : p < 6) (ht : (mj_sK k).testBit p = true) (ha : mj_aft σ p q) : mj_lf s q = 0 := by
  have h1 := (ho.1 p hp ht).2
  unfold mj_mop mj_isr at h1
  simp only [Bool.and_eq_true, Bool.or_eq_true, decide_eq_true_eq] at h1
  rcases h1.2.2.1 with z | z
  · exact absurd z ha.1
  · rw [ha.2] at z; exact z
/-- the states that follow can come about, too -/
theorem mj_Cns_nx {n w gr g h s k u : Nat} {c0 T R : Nat → Nat} (hT : mj_TH σ n w gr c0 T R) (hC : mj_Cns σ n c0 T h g s) (hk : k < 22) (hg : g < gr) (hw : w ≤ h) (hh : h < 12) (ho : mj_okm σ n g h s k) (hu : h + 1 < 12 → mj_nws σ g (h + 1) u) : mj_Cns σ n c0 T (h + 1) (g ||| u) (s - mj_tK k) := by
  have n6 := hT.1
  have s4 := mj_4n n6 hC.1
  obtain ⟨l1, l2⟩ := mj_okm_lf hk s4 ho
  refine ⟨by have := hC.1; omega, fun h1 p hp hTp hca => ?_, fun p q hp hq ha hnz => ?_⟩
  · have hca2 := (hT.2.2.1 g u h hg hw h1 (hu h1)).2 p hp hca
    by_cases c : T p = h
    · exact mj_okm_T hT hk s4 ho hw hp c hca2
    · have := hC.2.1 hh p hp (by omega) hca2
      have := l2 p (by omega)
      omega
  · have h3 := l2 q (by omega)
    have h4 := hC.2.2 p q hp hq ha (by omega)
    have h5 := l2 p (by omega)
    by_cases ct : (mj_sK k).testBit p = true
    · have := mj_okm_af ho (by omega) ct ha
      omega
    · rw [if_neg ct] at h5
      omega
/-- one who wins has a plan -/
theorem mj_W0_plan {n w gr g : Nat} {c0 T R : Nat → Nat} (hT : mj_TH σ n w gr c0 T R) (hg : g < gr) : ∀ (r s : Nat), r ≤ 12 - w → s < 4 ^ n → mj_W0 σ n r g s = true → ∃ S, mj_Pln n (12 - r) (mj_lf s) T (fun t p => mj_b (mj_sts σ g t) (p + 6)) (mj_aft σ) S ∧ ∀ t, 12 - r ≤ t → t < 12 → ∃ k, k < 22 ∧ (∀ p, p < n → S t p = (mj_sK k).testBit p) ∧ ¬ σ.1 27 t < mj_pop (nI (mj_sK k)) ∧ (σ.1 46 8 >>> (nI k &&& 31)) &&& 1 = 0 ∧ ∀ p, p < 6 → (mj_sK k).testBit p = true → p < n ∧ mj_b (mj_sts σ g t) p = true := by
  have n6 := hT.1
  intro r
  induction r with
  | zero =>
    intro s _ hs _
    refine ⟨fun _ _ => false, ⟨fun t p h1 h2 => absurd h2 (by omega), fun p h1 h2 h3 => absurd h3 (by omega), fun t p q h1 h2 => absurd h2 (by omega)⟩, fun t h1 h2 => absurd h2 (by omega)⟩
  | succ r ih =>
    intro s hr hs hW
    have s4 := mj_4n n6 hs
    have hpin := hT.2.2.2.2.2.2.2.2.2.2.2
    unfold mj_W0 at hW
    rw [Bool.and_eq_true, decide_eq_true_eq] at hW
    obtain ⟨hv, ha⟩ := hW
    obtain ⟨k, -, hk, hk2⟩ := (mj_anyF_iff _ _).mp ha
    rw [Bool.and_eq_true] at hk2
    have hk22 : k < 22 := by
      have := mj_top_lt n6
      omega
    have ho := (mj_okm_iff n6 hk22 (hpin (11 - r))).mp ⟨hv, hk2.1⟩
    obtain ⟨l1, l2⟩ := mj_okm_lf hk22 s4 ho
    have hw : mj_W0 σ n r g (s - mj_tK k) = true := by
      have hf := hk2.2
      unfold mj_fl at hf
      by_cases r0 : r = 0
      · subst r0; rfl
      · rw [if_neg r0] at hf
        by_cases fr : mj_sts σ g (12 - r) >>> (18 &&& 31) = 0
        · rw [if_pos fr] at hf; exact hf
        · rw [if_neg fr] at hf
          cases z : mj_W0 σ n r g (s - mj_tK k)
          · have : mj_anyF (fun u => decide (nI u &&& ((mj_sts σ g (12 - r) >>> (18 &&& 31)) ^^^ -1) = 0) && !(mj_W0 σ n r (g ||| u) (s - mj_tK k))) 0 8 = true := (mj_anyF_iff _ _).mpr ⟨0, by decide, by decide, by
              have e0 : nI 0 &&& ((mj_sts σ g (12 - r) >>> (18 &&& 31)) ^^^ -1) = 0 := Int32.zero_and
              rw [decide_eq_true e0, Nat.or_zero, z]
              rfl⟩
            rw [this] at hf
            exact absurd hf (by decide)
          · rfl
    obtain ⟨S, hP, hS⟩ := ih (s - mj_tK k) (by omega) (by omega) hw
    have e12 : 12 - r = 11 - r + 1 := by omega
    have e11 : 12 - (r + 1) = 11 - r := by omega
    rw [e12] at hP hS
    rw [e11]
    refine ⟨fun t p => if t = 11 - r then (mj_sK k).testBit p else S t p, mj_Pln_cons (A := fun p => (mj_sK k).testBit p) (by omega) hP (fun p hp => l2 p (by omega)) (fun p hp eT hca => mj_okm_T hT hk22 s4 ho (by omega) hp eT hca) (fun p q hp hq ht haf => mj_okm_af ho (by omega) ht haf), fun t h1 h2 => ?_⟩
    by_cases ct : t = 11 - r
    · refine ⟨k, hk22, fun p _ => by simp only [ct, if_true], by rw [ct]; exact ho.2.2.2.2.1, ho.2.2.2.2.2, fun p hp ht => ?_⟩
      have h3 := ho.1 p hp ht
      have h4 := h3.2
      unfold mj_mop at h4
      simp only [Bool.and_eq_true, decide_eq_true_eq] at h4
      rw [ct]
      exact ⟨h3.1, h4.2.1⟩
    · obtain ⟨k', a1, a2, a3⟩ := hS t (by omega) h2
      exact ⟨k', a1, fun p hp => by simp only [ct, if_false]; exact a2 p hp, a3⟩
theorem mj_SO_D {D D' : Nat → Int32} {n : Nat} {f : Nat → Int32} (e : ∀ i, i < n → D' i = D i) (hn : n ≤ 6) (h : mj_SO D n f) : mj_SO D' n f := by
  refine ⟨h.1, fun i j hij hj => ⟨(h.2 i j hij hj).1, ?_⟩⟩
  obtain ⟨a, a1, a2⟩ := h.1 i (by omega)
  obtain ⟨b, b1, b2⟩ := h.1 j hj
  have h3 := (h.2 i j hij hj).2
  have ea : (f i).toNatClampNeg = a := by rw [a2]; exact nI_clamp (by omega)
  have eb : (f j).toNatClampNeg = b := by rw [b2]; exact nI_clamp (by omega)
  rw [ea, eb] at h3 ⊢
  rw [e a a1, e b b1]
  exact h3
/-- who wins has room -/
theorem mj_W0_room {n w gr g r s : Nat} {c0 T R : Nat → Nat} (hT : mj_TH σ n w gr c0 T R) (hg : g < gr) (hr : r + 1 ≤ 12 - w) (hC : mj_Cns σ n c0 T (11 - r) g s) (hW : mj_W0 σ n (r + 1) g s = true) : mj_hrm σ (11 - r) ((mj_sts σ g (11 - r) >>> (12 &&& 31)) &&& 63) s n = true := by
  obtain ⟨S, hP, hS⟩ := mj_W0_plan hT hg (r + 1) s hr hC.1 hW
  have e11 : 12 - (r + 1) = 11 - r := by omega
  rw [e11] at hP hS
  obtain ⟨n6, t1, t2, t3, t4, t5, ⟨κ, k1, k2, k3, k4, k5, k6, k7⟩, t7, ⟨t8, t9, t10⟩, t11, t12, t13⟩ := hT
  have hdcc : ∀ p, mj_dcc κ n p = mj_dcc σ n p := fun p => by
    unfold mj_dcc
    rw [k7, k6, k4, k5]
  have DI := mj_dl_DI (σ := κ) (n := n) (h := 11 - r) (c := mj_lf s) (T := T) (su := mj_b ((mj_sts σ g (11 - r) >>> (12 &&& 31)) &&& 63)) hP (fun p hp => by
    rw [k2, k4]
    exact ⟨(t1 p hp).1, (t1 p hp).2.1⟩) (fun p hp hs hc => by
    have hca := t3 g (11 - r) p hg (by omega) (by omega) hp hs
    have hle : 11 - r ≤ T p := by
      by_cases z : 11 - r ≤ T p
      · exact z
      · have := hC.2.1 (by omega) p hp (by omega) (hca _ (Nat.le_refl _) (by omega))
        omega
    exact ⟨hle, hca (T p) hle (t1 p hp).1⟩) (fun p hp hd => by
    rw [hdcc] at hd
    rw [k5, k3, k4]
    obtain ⟨⟨b1, b2⟩, b3⟩ := t4 p hp hd
    refine ⟨b2, fun hc => ?_⟩
    have hl := hC.2.2 p _ hp b2 ⟨b1, rfl⟩ (by omega)
    obtain ⟨c1, c2, c3⟩ := t5 p hp
    exact ⟨b3 g (11 - r) hg (by omega) (by omega), by omega, by rw [hl]; exact c3, ⟨b1, rfl⟩⟩) n
  have DI2 : mj_DI n (11 - r) (mj_lf s) (mj_b ((mj_sts σ g (11 - r) >>> (12 &&& 31)) &&& 63)) S (σ.1 50) := fun q hq a b => by
    rw [k1 q hq]
    exact DI q hq a b
  refine mj_hrm_ok (R := R) n6 (by omega) hP t7 DI2 (fun t a b => t8 t (by omega) b) (fun t a b => ?_) t9 t11 (fun t p q a b hp hq sp sq he hm => ?_)
  · obtain ⟨k, hk, sk, hh, -, hop⟩ := hS t a b
    have h1 := t10 g t k hg (by omega) b hk hh hop
    have e : mj_sgm (fun q => if S t q = true then 1 else 0) n = mj_sgm (fun q => if (mj_sK k).testBit q = true then 1 else 0) n := mj_sgm_congr n (fun q hq => by rw [sk q hq])
    rw [e]
    exact h1
  · obtain ⟨k, hk, sk, -, hsm, -⟩ := hS t a b
    rw [sk p hp] at sp
    rw [sk q hq] at sq
    exact t12 k hk hsm p q hp hq sp sq he hm
theorem mj_fl_congr {n r g s : Nat} {W W' : Nat → Nat → Bool} (h : ∀ u, (12 - r < 12 → mj_nws σ g (12 - r) u) → W (g ||| u) s = W' (g ||| u) s) : mj_fl σ W r g s = mj_fl σ W' r g s := by
  unfold mj_fl
  by_cases r0 : r = 0
  · rw [if_pos r0, if_pos r0]
  · rw [if_neg r0, if_neg r0]
    by_cases fr : mj_sts σ g (12 - r) >>> (18 &&& 31) = 0
    · rw [if_pos fr, if_pos fr]
      have := h 0 (fun _ => Or.inl ⟨fr, rfl⟩)
      rw [Nat.or_zero] at this
      exact this
    · rw [if_neg fr, if_neg fr]
      congr 1
      refine mj_anyF_congr _ _ (fun u _ hu => ?_)
      by_cases c : nI u &&& ((mj_sts σ g (12 - r) >>> (18 &&& 31)) ^^^ -1) = 0
      · rw [h u (fun _ => Or.inr ⟨fr, by omega, c⟩)]
      · rw [decide_eq_false c, Bool.false_and, Bool.false_and]
theorem mj_W_s {n r g s : Nat} : mj_W σ n (r + 1) g s = (decide (¬ mj_mvs σ g (11 - r) s n = -1) && mj_anyF (fun k => mj_imv σ k (11 - r) (mj_mvs σ g (11 - r) s n) && mj_fl σ (mj_W σ n r) r g (s - mj_tK k)) 0 (mj_top n + 1)) := by
  conv => lhs; unfold mj_W
theorem mj_W0_s {n r g s : Nat} : mj_W0 σ n (r + 1) g s = (decide (¬ mj_mv0 σ g (11 - r) s n = -1) && mj_anyF (fun k => mj_imv σ k (11 - r) (mj_mv0 σ g (11 - r) s n) && mj_fl σ (mj_W0 σ n r) r g (s - mj_tK k)) 0 (mj_top n + 1)) := by
  conv => lhs; unfold mj_W0
theorem mj_W_eq {n w gr : Nat} {c0 T R : Nat → Nat} (hT : mj_TH σ n w gr c0 T R) : ∀ (r g s : Nat), r ≤ 12 - w → g < gr → mj_Cns σ n c0 T (12 - r) g s → mj_W σ n r g s = mj_W0 σ n r g s := by
  have n6 := hT.1
  have hpin := hT.2.2.2.2.2.2.2.2.2.2.2
  intro r
  induction r with
  | zero => intro g s _ _ _; rfl
  | succ r ih =>
    intro g s hr hg hC
    have e11 : 12 - (r + 1) = 11 - r := by omega
    have e12 : 12 - r = 11 - r + 1 := by omega
    rw [e11] at hC
    cases hm : mj_hrm σ (11 - r) ((mj_sts σ g (11 - r) >>> (12 &&& 31)) &&& 63) s n
    · have h1 := mj_mvs_no hm
      have h2 : mj_W σ n (r + 1) g s = false := by
        rw [mj_W_s, decide_eq_false (fun z => z h1), Bool.false_and]
      rw [h2]
      cases z : mj_W0 σ n (r + 1) g s
      · rfl
      · have := mj_W0_room hT hg hr hC z
        rw [hm] at this
        exact absurd this (by decide)
    · have h1 := mj_mvs_hrm hm
      rw [mj_W_s, mj_W0_s, h1]
      by_cases hv : mj_mv0 σ g (11 - r) s n = -1
      · rw [decide_eq_false (fun z => z hv), Bool.false_and, Bool.false_and]
      · congr 1
        refine mj_anyF_congr _ _ (fun k _ hk => ?_)
        cases hi : mj_imv σ k (11 - r) (mj_mv0 σ g (11 - r) s n)
        · rw [Bool.false_and, Bool.false_and]
        · have hk22 : k < 22 := by
            have := mj_top_lt n6
            omega
          have ho := (mj_okm_iff n6 hk22 (hpin (11 - r))).mp ⟨hv, hi⟩
          rw [Bool.true_and, Bool.true_and]
          refine mj_fl_congr (n := n) (fun u hu => ?_)
          rw [e12] at hu
          by_cases r0 : r = 0
          · subst r0; rfl
          · refine ih (g ||| u) _ (by omega) ?_ ?_
            · exact (hT.2.2.1 g u (11 - r) hg (by omega) (by omega) (hu (by omega))).1
            · rw [e12]
              exact mj_Cns_nx hT hC hk22 hg (by omega) (by omega) ho hu
end
