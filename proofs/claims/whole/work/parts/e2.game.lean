section
variable {σ τ π : mj_St} {D : Nat → Nat → Nat}
theorem mj_pair_b : ∀ k, k < 22 → mj_pop (nI (mj_sK k)) = 2 → (mj_sK k).testBit (mj_slo k) = true ∧ (mj_sK k).testBit (mj_shi k) = true := by decide +kernel
theorem mj_okm_D {mt rg : Nat → Bool} {gr o sg g h s k : Nat} {L : List Nat} {x : Nat → Nat} {px : Nat → Nat → Bool} (hE : mj_Env π D mt rg gr o sg L px) (hR : mj_Rel D mt L sg g s x) (hl : ∀ i, i < D 14 14 → mt i = true → (D 14 16).testBit i = false) (hg : g < gr) (hw : D 14 17 ≤ h) (hh : h < 12) (hk : k < 22) :
    mj_okm π L.length g h s k ↔ (mj_vok D mt rg gr o g h x (mj_igm L k) ∧ (∀ p, p < 6 → (mj_sK k).testBit p = true → p < L.length) ∧ (∀ p, p < L.length → (mj_sK k).testBit p = true → px h p = false) ∧ ∀ p, p < 32 → mj_b (mj_pin π h) p = true → (mj_sK k).testBit p = true) := by
  have mop := fun {p : Nat} (hp : p < L.length) => mj_mop_D hE hR hg hw hh hp
  have hE0 := hE
  obtain ⟨hS, hB, -, h8, h52, -⟩ := hE
  have n6 := mj_Sch_len hS
  have hkD := hS.2.1
  have hD := hS.1
  have N9 := hkD.1
  have pl := fun p hp => mj_Sch_pl hS (p := p) hp
  have igp := fun {p : Nat} (hp : p < L.length) => mj_igm_p (k := k) hS hp
  have num : ∀ p, p < L.length → (π.1 47 p).toNatClampNeg = L.getD p 0 := fun p hp => by
    rw [hS.2.2.2.2.2.2.2.2.2.1 p hp]
    exact nI_clamp (by have := (pl p hp).1; omega)
  have sam : (π.1 46 8 >>> (nI k &&& 31)) &&& 1 = mj_z (mj_smt π L.length k) := by
    rw [mj_bt (by omega), h8]
    have : mj_b (mj_sam π L.length 22) k = (mj_b 0 k || (decide (k < 22) && mj_smt π L.length k)) := mj_fbi_b (b := 0) (p := mj_smt π L.length) (by omega) 22 (by decide)
    rw [this, mj_b_0, decide_eq_true hk, Bool.false_or, Bool.true_and]
  have thD : ∀ p, p < L.length → π.1 18 (π.1 47 p).toNatClampNeg = mj_oi (D 18 (L.getD p 0)) := fun p hp => by
    rw [num p hp]
    exact (hD.2.2.2.2.1 _ (pl p hp).1).2.2.2.1
  have k18 : ∀ p, p < L.length → D 18 (L.getD p 0) ≤ 4 := fun p hp => (hkD.2.2.2.2.1 _ (pl p hp).1).2.2.1
  obtain ⟨p1, p2⟩ := mj_pn64_e (mj_sK k) (mj_sK_lt k hk)
  have hands : ∀ hn : (∀ p, p < 6 → (mj_sK k).testBit p = true → p < L.length), ¬ π.1 27 h < mj_pop (nI (mj_sK k)) ↔ mj_sbt (mj_igm L k) ≤ D 27 h := fun hn => by
    have h27 := hkD.2.2.2.2.2.1 h hh
    rw [mj_igm_cnt hS hk hn, hD.2.2.2.2.2.1 h hh, p1]
    exact ⟨fun z => Nat.le_of_not_lt (fun y => z (nI_lt y (by omega))), fun z => nI_nlt z (by omega)⟩
  -- one place, forced or not
  have fo : ∀ p, p < L.length → ((mj_sK k).testBit p = true → mj_lf s p ≠ 0) → ((mj_mbd π g h s p = false ∧ (mj_mfo π g h s p = true → (mj_sK k).testBit p = true)) ↔ (mj_maV D gr o g h (L.getD p 0) = true → ¬ mj_beh D h (x (L.getD p 0)) ((mj_sK k).testBit p) (L.getD p 0))) := by
    intro p hp ht
    have q1 := (pl p hp).1
    have hx := hR.2.1 p hp
    have hb := ((hB g h hg hw hh).2 p hp).2.1
    have l53 := (h52 p h hp hw hh).2
    have l4 := mj_lf_lt (s := s) (p := p)
    rw [hx]
    unfold mj_mbd mj_mfo mj_mca
    rw [hb, l53]
    by_cases c0 : mj_lf s p = 0
    · rw [decide_eq_false (fun z => z c0), Bool.false_and, Bool.false_and, Bool.false_and, c0]
      refine ⟨fun _ _ z => ?_, fun _ => ⟨rfl, fun z => absurd z (by decide)⟩⟩
      have := z.1
      omega
    · rw [decide_eq_true c0, Bool.true_and]
      cases cm : mj_maV D gr o g h (L.getD p 0)
      · rw [Bool.false_and, Bool.false_and]
        exact ⟨fun _ z => absurd z (by decide), fun _ => ⟨rfl, fun z => absurd z (by decide)⟩⟩
      · rw [Bool.true_and, Bool.true_and, Bool.or_eq_true, decide_eq_false_iff_not, decide_eq_true_eq]
        have := mj_force_D (π := π) (D := D) (p := p) (q := L.getD p 0) (h := h) (x := mj_lf s p) (dn := (mj_sK k).testBit p) hD hkD (num p hp) q1 hh c0 (by omega) (fun _ => by omega)
        exact ⟨fun z _ => this.mp z, fun z => this.mpr (z rfl)⟩
  constructor
  · rintro ⟨m1, m2, m3, m4, m5, m6⟩
    have hn : ∀ p, p < 6 → (mj_sK k).testBit p = true → p < L.length := fun p hp ht => (m1 p hp ht).1
    have hne : ∀ p, p < L.length → (mj_sK k).testBit p = true → mj_lf s p ≠ 0 := fun p hp ht => by
      have := (m1 p (by omega) ht).2
      unfold mj_mop at this
      simp only [Bool.and_eq_true, decide_eq_true_eq] at this
      exact this.1
    refine ⟨⟨fun i hi => ?_, (hands hn).mp m5, fun i j hi hj he hz => ?_, fun i hi hm h5 ma => ?_⟩, hn, fun p hp ht => ((mop hp).mp (m1 p (by omega) ht).2).2.2, m4⟩
    · obtain ⟨p, hp, ht, e⟩ := mj_igm_i.mp hi
      have h1 := (mop hp).mp (m1 p (by omega) ht).2
      rw [e] at h1
      exact ⟨by rw [← e]; exact (pl p hp).1, h1.1, h1.2.1⟩
    · obtain ⟨p, hp, ht, e⟩ := mj_igm_i.mp hi
      obtain ⟨q, hq, hu, e'⟩ := mj_igm_i.mp hj
      by_cases hpq : p = q
      · rw [← e, ← e', hpq]
      · exfalso
        rw [sam] at m6
        have hs2 : mj_smt π L.length k = false := by
          cases z : mj_smt π L.length k
          · rfl
          · rw [z] at m6
            exact absurd m6 (by decide)
        obtain ⟨g1, g2⟩ := mj_pairs k hk p (by omega) q (by omega) hpq ht hu
        have lt := mj_sK_n hk hn
        unfold mj_smt at hs2
        rw [decide_eq_true g1, decide_eq_true lt, Bool.true_and, Bool.true_and, Bool.and_eq_false_iff] at hs2
        have a1 := thD p hp
        have a2 := thD q hq
        rw [e] at a1
        rw [e'] at a2
        have nz : ¬ mj_oi (D 18 i) = -1 := by
          rw [mj_oi_m1 (by have := k18 p hp; rw [e] at this; omega)]
          exact hz
        rcases g2 with z | z
        · rw [← z.1, ← z.2, a1, a2, he] at hs2
          rw [he] at nz
          rcases hs2 with y | y
          · exact (of_decide_eq_false y) nz
          · exact (of_decide_eq_false y) rfl
        · rw [← z.1, ← z.2, a1, a2, he] at hs2
          rw [he] at nz
          rcases hs2 with y | y
          · exact (of_decide_eq_false y) nz
          · exact (of_decide_eq_false y) rfl
    · by_cases hL : i ∈ L
      · obtain ⟨p, hp, e⟩ := mj_L_mem hL
        rw [← e, igp hp]
        rw [← e] at ma
        exact (fo p hp (hne p hp)).mp ⟨m2 p hp, m3 p hp⟩ ma
      · exact (mj_noplace (rg := rg) hS hR hl hw hi hm h5 hL).2 ma _
  · rintro ⟨⟨v1, v2, v3, v4⟩, hn, hpx, hpin⟩
    have A : ∀ p, p < L.length → (mj_sK k).testBit p = true → mj_igm L k (L.getD p 0) = true := fun p hp ht => by rw [igp hp]; exact ht
    have hne : ∀ p, p < L.length → (mj_sK k).testBit p = true → mj_lf s p ≠ 0 := fun p hp ht => by
      have := (v1 _ (A p hp ht)).2.1.2.2.2.2.2.1
      rw [hR.2.1 p hp] at this
      exact this
    have ff : ∀ p, p < L.length → mj_mbd π g h s p = false ∧ (mj_mfo π g h s p = true → (mj_sK k).testBit p = true) := fun p hp => (fo p hp (hne p hp)).mpr (fun ma => by
      obtain ⟨q1, q2, q3, -⟩ := pl p hp
      have := v4 (L.getD p 0) q1 q2 q3 ma
      rw [igp hp] at this
      exact this)
    refine ⟨fun p hp ht => ?_, fun p hp => (ff p hp).1, fun p hp => (ff p hp).2, hpin, (hands hn).mpr v2, ?_⟩
    · have hp' := hn p hp ht
      obtain ⟨-, b1, b2⟩ := v1 _ (A p hp' ht)
      exact ⟨hp', (mop hp').mpr ⟨b1, b2, hpx p hp' ht⟩⟩
    · rw [sam]
      cases z : mj_smt π L.length k
      · rfl
      · exfalso
        unfold mj_smt at z
        simp only [Bool.and_eq_true, decide_eq_true_eq] at z
        obtain ⟨z1, z2, z3, z4⟩ := z
        obtain ⟨s1, s2⟩ := mj_pair_b k hk z1
        have l2 := mj_ST2 L.length (by omega) k hk z1 z2
        have l1 := (mj_ST k hk z1).2.2.2.1
        have lo : mj_slo k < L.length := by omega
        rw [thD _ lo] at z3 z4
        rw [thD _ l2] at z4
        rw [mj_oi_m1 (by have := k18 _ lo; omega)] at z3
        rw [mj_oi_eq (by have := k18 _ lo; omega) (by have := k18 _ l2; omega)] at z4
        have := mj_L_inj hS lo l2 (v3 _ _ (A _ lo s1) (A _ l2 s2) z4 z3)
        omega
theorem mj_two : ∀ n, n < 7 → ∀ m, m < 64 → (decide (2 ^ n ≤ m) || (decide (2 < mj_sgm (fun p => if m.testBit p = true then 1 else 0) n) || mj_anyF (fun k => decide (mj_sK k = m)) 0 (mj_top n + 1))) = true := by decide +kernel
/-- every move told of the promises is one of the class's -/
theorem mj_vok_k {mt rg : Nat → Bool} {gr o sg g h s : Nat} {L : List Nat} {x : Nat → Nat} {A : Nat → Bool} (hS : mj_Sch π D mt gr o sg L) (hR : mj_Rel D mt L sg g s x) (hl : ∀ i, i < D 14 14 → mt i = true → (D 14 16).testBit i = false) (hw : D 14 17 ≤ h) (hh : h < 12) (hv : mj_vok D mt rg gr o g h x A) :
    ∃ k, k ≤ mj_top L.length ∧ k < 22 ∧ (∀ p, p < 6 → (mj_sK k).testBit p = true → p < L.length) ∧ A = mj_igm L k := by
  have n6 := mj_Sch_len hS
  have N9 := hS.2.1.1
  have pl := fun p hp => mj_Sch_pl hS (p := p) hp
  have inL : ∀ i, A i = true → i ∈ L := fun i hi => by
    obtain ⟨a1, a2, a3⟩ := hv.1 i hi
    apply Classical.byContradiction
    intro z
    exact (mj_noplace (rg := rg) hS hR hl hw a1 a2.1 a2.2.1 z).1 a2
  obtain ⟨m, hm, em⟩ := mj_b_lt (a := mj_fbi 0 (fun p => A (L.getD p 0)) L.length) (n := L.length) (by omega) (fun k hk hk2 => by
    rw [mj_fbi_b hk _ (by omega), mj_b_0, decide_eq_false (by omega), Bool.false_and]; rfl)
  have p64 : 2 ^ L.length ≤ 64 := Nat.pow_le_pow_right (n := 2) (by decide) n6
  have mb : ∀ p, p < 32 → m.testBit p = (decide (p < L.length) && A (L.getD p 0)) := fun p hp => by
    rw [← mj_b_nI (by omega), ← em, mj_fbi_b hp _ (by omega), mj_b_0, Bool.false_or]
  have cnt : mj_sgm (fun p => if m.testBit p = true then 1 else 0) L.length = mj_sbt A := by
    have e1 : mj_sbt A = mj_sgm (fun i => mj_sgm (fun p => if (m.testBit p && decide (L.getD p 0 = i)) = true then 1 else 0) L.length) 9 := by
      unfold mj_sbt
      refine mj_sgm_congr 9 (fun i _ => ?_)
      rw [mj_sgm_ex (P := fun p => m.testBit p && decide (L.getD p 0 = i)) L.length (fun p q hp hq a b => by
        simp only [Bool.and_eq_true, decide_eq_true_eq] at a b
        exact mj_L_inj hS hp hq (a.2.trans b.2.symm))]
      have e : A i = mj_anyF (fun p => m.testBit p && decide (L.getD p 0 = i)) 0 L.length := by
        cases z : A i
        · cases y : mj_anyF (fun p => m.testBit p && decide (L.getD p 0 = i)) 0 L.length
          · rfl
          · obtain ⟨p, -, hp, hb⟩ := (mj_anyF_iff _ _).mp y
            simp only [Bool.and_eq_true, decide_eq_true_eq] at hb
            rw [mb p (by omega)] at hb
            simp only [Bool.and_eq_true, decide_eq_true_eq] at hb
            rw [hb.2, z] at hb
            exact absurd hb.1.2 (by decide)
        · obtain ⟨p, hp, ep⟩ := mj_L_mem (inL i z)
          refine ((mj_anyF_iff _ _).mpr ⟨p, by omega, by omega, ?_⟩).symm
          rw [mb p (by omega), decide_eq_true hp, ep, z, decide_eq_true rfl]
          rfl
      rw [e]
    rw [e1, mj_sgm_swap]
    refine mj_sgm_congr _ (fun p hp => ?_)
    have lp := (pl p hp).1
    cases z : m.testBit p
    · rw [if_neg (by decide)]
      exact (mj_sgm_0 9 (fun i _ => by simp)).symm
    · rw [if_pos rfl]
      have e2 := mj_sgm_put (f := fun _ => 0) (p := L.getD p 0) (v := 1) rfl 9 (by omega)
      rw [mj_sgm_0 9 (fun _ _ => rfl), Nat.zero_add] at e2
      refine Eq.symm (Eq.trans (mj_sgm_congr 9 (fun i _ => ?_)) e2)
      generalize L.getD p 0 = q
      by_cases c : i = q
      · subst c; simp
      · simp [c, Ne.symm c]
  have two := mj_two L.length (by omega) m (by omega)
  have h27 := hS.2.1.2.2.2.2.2.1 h hh
  have hc2 := hv.2.1
  rw [decide_eq_false (by omega), cnt, decide_eq_false (by omega), Bool.false_or, Bool.false_or] at two
  obtain ⟨k, -, hk, ek⟩ := (mj_anyF_iff _ _).mp two
  have ek := of_decide_eq_true ek
  have hk22 : k < 22 := by
    have := mj_top_lt n6
    omega
  refine ⟨k, by omega, hk22, fun p hp ht => ?_, ?_⟩
  · rw [ek, mb p (by omega)] at ht
    simp only [Bool.and_eq_true, decide_eq_true_eq] at ht
    exact ht.1
  · funext i
    cases z : A i
    · cases y : mj_igm L k i
      · rfl
      · obtain ⟨p, hp, ht, e⟩ := mj_igm_i.mp y
        rw [ek, mb p (by omega)] at ht
        simp only [Bool.and_eq_true, decide_eq_true_eq] at ht
        rw [e, z] at ht
        exact absurd ht.2 (by decide)
    · obtain ⟨p, hp, ep⟩ := mj_L_mem (inL i z)
      exact (mj_igm_i.mpr ⟨p, hp, by rw [ek, mb p (by omega), decide_eq_true hp, ep, z]; rfl, ep⟩).symm
/-- less by what is done -/
def mj_less (x : Nat → Nat) (A : Nat → Bool) (i : Nat) : Nat := x i - if A i = true then 1 else 0
/-- what the next hour may tell -/
def mj_newD (D : Nat → Nat → Nat) (gr h u : Nat) : Prop := if gr = 1 then u = 0 else ∀ f, u.testBit f = true → f < 3 ∧ D 28 f = h ∧ ∃ i, i < D 14 14 ∧ D 20 i = f + 1
theorem mj_Rel_nx {mt rg : Nat → Bool} {gr o sg g h s k u : Nat} {L : List Nat} {x : Nat → Nat} {px : Nat → Nat → Bool} (hE : mj_Env π D mt rg gr o sg L px) (hR : mj_Rel D mt L sg g s x) (hk : k < 22) (ho : mj_okm π L.length g h s k) (hw : D 14 17 ≤ h) (hu : ∀ f, u.testBit f = true → f < 3 ∧ D 28 f = h + 1) : mj_Rel D mt L sg (g ||| u) (s - mj_tK k) (mj_less x (mj_igm L k)) := by
  obtain ⟨hS, -⟩ := hE
  have n6 := mj_Sch_len hS
  obtain ⟨l1, l2⟩ := mj_okm_lf hk (mj_4n n6 hR.1) ho
  refine ⟨by have := hR.1; omega, fun p hp => ?_, fun i hi hm h5 hL => ?_, fun f hf hf2 => ?_⟩
  · unfold mj_less
    rw [mj_igm_p hS hp, hR.2.1 p hp, l2 p (by omega)]
    omega
  · unfold mj_less
    have : mj_igm L k i = false := by
      cases z : mj_igm L k i
      · rfl
      · obtain ⟨p, hp, -, e⟩ := mj_igm_i.mp z
        rw [← e] at hL
        exact absurd (mj_getD_mem hp) hL
    rw [this, if_neg (by decide)]
    exact hR.2.2.1 i hi hm h5 hL
  · rw [Nat.testBit_or, hR.2.2.2 f hf hf2]
    cases z : u.testBit f
    · rw [Bool.or_false]
    · have := (hu f z).2
      omega
end
