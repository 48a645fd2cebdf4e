section
variable {σ τ π : mj_St} {D : Nat → Nat → Nat}
theorem mj_use_b {f : Nat} (hD : mj_isD π D) (hk : mj_okD D) (hf : f < 3) : ∀ n, n ≤ D 14 14 → mj_b (mj_it (mj_fused π) 0 n) f = mj_anyF (fun i => decide (D 20 i = f + 1)) 0 n := by
  intro n
  induction n with
  | zero => intro _; exact mj_b_0
  | succ n ih =>
    intro hn
    have e20 := (hD.2.2.2.2.1 n (by omega)).2.2.2.2.2.1
    have k20 := (hk.2.2.2.2.1 n (by omega)).2.2.2.2.1
    rw [mj_it_s, mj_anyS, Nat.zero_add, ← ih (by omega)]
    show mj_b (mj_it (mj_fused π) 0 n ||| (if π.1 20 n = -1 then (0 : Int32) else 1 <<< (π.1 20 n &&& 31))) f = _
    rw [mj_b_or]
    congr 1
    by_cases c : D 20 n = 0
    · rw [if_pos (by rw [e20, c]; rfl), mj_b_0, decide_eq_false (by omega)]
    · rw [if_neg (by rw [e20, mj_oi_m1 (by omega)]; exact c), e20, mj_oi_pos (by omega), mj_b_sh1 (by omega) (by omega)]
      exact decide_eq_decide.mpr (by omega)
theorem mj_frs_b {h f : Nat} (hD : mj_isD π D) (hk : mj_okD D) (hf : f < 3) (hh : h < 2147483648) : mj_b (mj_frs π (nI h) (D 14 14)) f = (decide (D 28 f = h) && mj_anyF (fun i => decide (D 20 i = f + 1)) 0 (D 14 14)) := by
  unfold mj_frs
  rw [mj_b_and, mj_use_b hD hk hf _ (Nat.le_refl _)]
  congr 1
  have e : ∀ j, j ≤ 3 → mj_b (mj_it (fun f u => u ||| (if π.1 28 f = nI h then (1 : Int32) <<< (nI f &&& 31) else 0)) 0 j) f = (decide (f < j) && decide (D 28 f = h)) := by
    intro j
    induction j with
    | zero => intro _; rw [decide_eq_false (by omega), Bool.false_and]; exact mj_b_0
    | succ j ih =>
      intro hj
      have ek : π.1 28 j = nI (D 28 j) := hD.2.2.2.2.2.2 j (by omega)
      have kk := hk.2.2.2.2.2.2.1 j (by omega)
      rw [mj_it_s, mj_b_or, ih (by omega)]
      by_cases c : D 28 j = h
      · rw [if_pos (by rw [ek, c]), mj_b_sh1 (by omega) (by omega)]
        by_cases c2 : f = j
        · subst c2
          rw [decide_eq_false (Nat.lt_irrefl f), decide_eq_true (Nat.lt_succ_self f), decide_eq_true c, decide_eq_true rfl]
          rfl
        · rw [decide_eq_false c2, Bool.or_false, show decide (f < j + 1) = decide (f < j) from decide_eq_decide.mpr (by omega)]
      · rw [if_neg (by rw [ek]; exact fun z => c (mj_nI_inj (by omega) hh z)), mj_b_0, Bool.or_false]
        by_cases c2 : f = j
        · subst c2
          rw [decide_eq_false c, Bool.and_false, Bool.and_false]
        · rw [show decide (f < j + 1) = decide (f < j) from decide_eq_decide.mpr (by omega)]
  rw [e 3 (Nat.le_refl _), decide_eq_true hf, Bool.true_and]
/-- the news, told of the deal -/
theorem mj_nws_new {mt : Nat → Bool} {gr o sg : Nat} {L : List Nat} {px : Nat → Nat → Bool} (h : mj_Sch π D mt gr o sg L) (hB : mj_Bt π D mt gr o L px) {g u t : Nat} (hg : g < gr) (hw : D 14 17 ≤ t) (ht : t < 12) : mj_nws π g t u ↔ mj_newD D gr t u := by
  obtain ⟨e, -⟩ := hB g t hg hw ht
  have hD := h.1
  have hk := h.2.1
  unfold mj_newD
  rcases h.2.2.1 with c | c
  · rw [if_pos c]
    rw [if_neg (by omega)] at e
    constructor
    · intro z
      exact (mj_nws_u h hB hg hw ht z).1 c
    · intro z
      exact Or.inl ⟨e, z⟩
  · rw [if_neg (by omega)]
    rw [if_pos c] at e
    constructor
    · intro z f hf
      obtain ⟨-, -, n3⟩ := mj_nws_u h hB hg hw ht z
      obtain ⟨a, b⟩ := n3 f hf
      refine ⟨a, b, ?_⟩
      rcases z with z | z
      · rw [z.2, Nat.zero_testBit] at hf
        exact absurd hf (by decide)
      · have h1 := mj_sub_b (k := f) z.2.2 (by rw [mj_b_nI (by omega)]; exact hf)
        rw [e, mj_frs_b hD hk a (by omega), Bool.and_eq_true] at h1
        obtain ⟨i, -, hi, hi2⟩ := (mj_anyF_iff _ _).mp h1.2
        exact ⟨i, by omega, of_decide_eq_true hi2⟩
    · intro z
      have fb : ∀ f, u.testBit f = true → mj_b (mj_frw π g t) f = true := fun f hf => by
        obtain ⟨a, b, i, hi, hi2⟩ := z f hf
        rw [e, mj_frs_b hD hk a (by omega), decide_eq_true b, Bool.true_and]
        exact (mj_anyF_iff _ _).mpr ⟨i, by omega, by omega, decide_eq_true hi2⟩
      by_cases c0 : mj_frw π g t = 0
      · refine Or.inl ⟨c0, ?_⟩
        apply Nat.eq_of_testBit_eq
        intro f
        rw [Nat.zero_testBit]
        cases y : u.testBit f
        · rfl
        · have := fb f y
          rw [c0, mj_b_0] at this
          exact absurd this (by decide)
      · have u8 : u < 2 ^ 3 := Nat.lt_pow_two_of_testBit u (fun i hi => by
          cases y : u.testBit i
          · rfl
          · have := (z i y).1
            omega)
        refine Or.inr ⟨c0, u8, mj_sub_of (fun k hk2 hb => fb k ?_)⟩
        rw [← mj_b_nI (by omega)]
        exact hb
theorem mj_fl_iff {r g s : Nat} {W : Nat → Nat → Bool} : mj_fl σ W r g s = true ↔ r = 0 ∨ ∀ u, mj_nws σ g (12 - r) u → W (g ||| u) s = true := by
  unfold mj_fl
  by_cases r0 : r = 0
  · rw [if_pos r0]
    exact ⟨fun _ => Or.inl r0, fun _ => rfl⟩
  · rw [if_neg r0]
    by_cases fr : mj_sts σ g (12 - r) >>> (18 &&& 31) = 0
    · rw [if_pos fr]
      constructor
      · intro hw
        refine Or.inr (fun u hu => ?_)
        rcases hu with z | z
        · rw [z.2, Nat.or_zero]; exact hw
        · exact absurd fr z.1
      · intro hw
        rcases hw with z | z
        · exact absurd z r0
        · have := z 0 (Or.inl ⟨fr, rfl⟩)
          rw [Nat.or_zero] at this
          exact this
    · rw [if_neg fr, Bool.not_eq_true']
      constructor
      · intro hw
        refine Or.inr (fun u hu => ?_)
        rcases hu with z | z
        · exact absurd z.1 fr
        · cases c : W (g ||| u) s
          · have : mj_anyF (fun u => decide (nI u &&& ((mj_sts σ g (12 - r) >>> (18 &&& 31)) ^^^ -1) = 0) && !(W (g ||| u) s)) 0 8 = true := (mj_anyF_iff _ _).mpr ⟨u, by omega, by have := z.2.1; omega, by
              rw [c, Bool.not_false, Bool.and_true]
              exact decide_eq_true z.2.2⟩
            rw [this] at hw
            exact absurd hw (by decide)
          · rfl
      · intro hw
        rcases hw with z | z
        · exact absurd z r0
        · cases c : mj_anyF (fun u => decide (nI u &&& ((mj_sts σ g (12 - r) >>> (18 &&& 31)) ^^^ -1) = 0) && !(W (g ||| u) s)) 0 8
          · rfl
          · obtain ⟨u, -, hu, hb⟩ := (mj_anyF_iff _ _).mp c
            rw [Bool.and_eq_true, decide_eq_true_eq] at hb
            have := z u (Or.inr ⟨fr, by omega, hb.1⟩)
            rw [this] at hb
            exact absurd hb.2 (by decide)
/-- the game over a deal: in each hour a set, whatever is told; Q: what else is wanted of a set -/
def mj_DW (D : Nat → Nat → Nat) (mt rg : Nat → Bool) (gr o : Nat) (Q : Nat → (Nat → Bool) → Prop) : Nat → Nat → (Nat → Nat) → Prop
  | 0, _, _ => True
  | r + 1, g, x => ∃ A, mj_vok D mt rg gr o g (11 - r) x A ∧ Q (11 - r) A ∧ ∀ u, mj_newD D gr (12 - r) u → mj_DW D mt rg gr o Q r (g ||| u) (mj_less x A)
/-- what a pin wants, told of the promises -/
def mj_Qok (π : mj_St) (D : Nat → Nat → Nat) (L : List Nat) (px : Nat → Nat → Bool) (Q : Nat → (Nat → Bool) → Prop) : Prop := ∀ h k, D 14 17 ≤ h → h < 12 → k < 22 → (∀ p, p < 6 → (mj_sK k).testBit p = true → p < L.length) → (((∀ p, p < L.length → (mj_sK k).testBit p = true → px h p = false) ∧ ∀ p, p < 32 → mj_b (mj_pin π h) p = true → (mj_sK k).testBit p = true) ↔ Q h (mj_igm L k))
/-- a move of the class's, and one of the game -/
theorem mj_mvQ {mt rg : Nat → Bool} {gr o sg g h s k : Nat} {L : List Nat} {x : Nat → Nat} {px : Nat → Nat → Bool} {Q : Nat → (Nat → Bool) → Prop} (hE : mj_Env π D mt rg gr o sg L px) (hR : mj_Rel D mt L sg g s x) (hl : ∀ i, i < D 14 14 → mt i = true → (D 14 16).testBit i = false) (hQ : mj_Qok π D L px Q) (hg : g < gr) (hw : D 14 17 ≤ h) (hh : h < 12) (hk : k < 22) :
    mj_okm π L.length g h s k ↔ ((∀ p, p < 6 → (mj_sK k).testBit p = true → p < L.length) ∧ mj_vok D mt rg gr o g h x (mj_igm L k) ∧ Q h (mj_igm L k)) := by
  rw [mj_okm_D hE hR hl hg hw hh hk]
  constructor
  · rintro ⟨a, b, c, d⟩
    exact ⟨b, a, (hQ h k hw hh hk b).mp ⟨c, d⟩⟩
  · rintro ⟨b, a, c⟩
    obtain ⟨c1, c2⟩ := (hQ h k hw hh hk b).mpr c
    exact ⟨a, b, c1, c2⟩
theorem mj_or_gr {gr g u : Nat} (hgr : gr = 1 ∨ gr = 8) (hg : g < gr) (h1 : gr = 1 → u = 0) (h8 : u < 8) : g ||| u < gr := by
  rcases hgr with c | c
  · rw [h1 c, Nat.or_zero]; exact hg
  · rw [c] at hg ⊢
    exact Nat.or_lt_two_pow (n := 3) hg h8
/-- who wins by the class wins the game -/
theorem mj_W0_D {mt rg : Nat → Bool} {gr o sg : Nat} {L : List Nat} {px : Nat → Nat → Bool} {Q : Nat → (Nat → Bool) → Prop} (hE : mj_Env π D mt rg gr o sg L px) (hl : ∀ i, i < D 14 14 → mt i = true → (D 14 16).testBit i = false) (hQ : mj_Qok π D L px Q) (hpin : ∀ h p, p < 32 → 6 ≤ p → mj_b (mj_pin π h) p = false) :
    ∀ (r g s : Nat) (x : Nat → Nat), r ≤ 12 - D 14 17 → g < gr → mj_Rel D mt L sg g s x → (mj_W0 π L.length r g s = true ↔ mj_DW D mt rg gr o Q r g x) := by
  have hS := hE.1
  have hB := hE.2.1
  have n6 := mj_Sch_len hS
  intro r
  induction r with
  | zero => intro g s x _ _ _; exact ⟨fun _ => trivial, fun _ => rfl⟩
  | succ r ih =>
    intro g s x hr hg hR
    have hw : D 14 17 ≤ 11 - r := by omega
    have hh : 11 - r < 12 := by omega
    have e12 : 12 - r = 11 - r + 1 := by omega
    rw [mj_W0_s, Bool.and_eq_true, decide_eq_true_eq]
    show _ ↔ ∃ A, mj_vok D mt rg gr o g (11 - r) x A ∧ Q (11 - r) A ∧ ∀ u, mj_newD D gr (12 - r) u → mj_DW D mt rg gr o Q r (g ||| u) (mj_less x A)
    have step : ∀ k, k < 22 → mj_okm π L.length g (11 - r) s k → (mj_fl π (mj_W0 π L.length r) r g (s - mj_tK k) = true ↔ ∀ u, mj_newD D gr (12 - r) u → mj_DW D mt rg gr o Q r (g ||| u) (mj_less x (mj_igm L k))) := by
      intro k hk ho
      rw [mj_fl_iff]
      by_cases r0 : r = 0
      · subst r0
        exact ⟨fun _ _ _ => trivial, fun _ => Or.inl rfl⟩
      · have ht : D 14 17 ≤ 12 - r := by omega
        have ht2 : 12 - r < 12 := by omega
        have one : ∀ u, mj_nws π g (12 - r) u → (mj_W0 π L.length r (g ||| u) (s - mj_tK k) = true ↔ mj_DW D mt rg gr o Q r (g ||| u) (mj_less x (mj_igm L k))) := fun u hu => by
          obtain ⟨u1, u2, u3⟩ := mj_nws_u hS hB hg ht ht2 hu
          exact ih _ _ _ (by omega) (mj_or_gr hS.2.2.1 hg u1 u2) (mj_Rel_nx hE hR hk ho hw (fun f hf => by rw [← e12]; exact u3 f hf))
        constructor
        · intro z u hu
          rcases z with z | z
          · exact absurd z r0
          · have hu' := (mj_nws_new hS hB hg ht ht2).mpr hu
            exact (one u hu').mp (z u hu')
        · intro z
          refine Or.inr (fun u hu => ?_)
          exact (one u hu).mpr (z u ((mj_nws_new hS hB hg ht ht2).mp hu))
    constructor
    · rintro ⟨hv, ha⟩
      obtain ⟨k, -, hk, hb⟩ := (mj_anyF_iff _ _).mp ha
      rw [Bool.and_eq_true] at hb
      have hk22 : k < 22 := by
        have := mj_top_lt n6
        omega
      have ho := (mj_okm_iff n6 hk22 (hpin (11 - r))).mp ⟨hv, hb.1⟩
      obtain ⟨-, m2, m3⟩ := (mj_mvQ hE hR hl hQ hg hw hh hk22).mp ho
      exact ⟨mj_igm L k, m2, m3, (step k hk22 ho).mp hb.2⟩
    · rintro ⟨A, a1, a2, a3⟩
      obtain ⟨k, ht, hk22, hp, e⟩ := mj_vok_k hS hR hl hw hh a1
      rw [e] at a1 a2 a3
      have ho := (mj_mvQ hE hR hl hQ hg hw hh hk22).mpr ⟨hp, a1, a2⟩
      obtain ⟨i1, i2⟩ := (mj_okm_iff n6 hk22 (hpin (11 - r))).mpr ho
      refine ⟨i1, (mj_anyF_iff _ _).mpr ⟨k, by omega, by omega, ?_⟩⟩
      rw [Bool.and_eq_true]
      exact ⟨i2, (step k hk22 ho).mpr a3⟩
end
