section
variable {σ τ μ : mj_St} {D : Nat → Nat → Nat}
/-- full rings -/
def mk_cyc (D : Nat → Nat → Nat) (l : Int32) : Prop := ∀ b, b < 32 → mj_b l b = true → b < D 14 14 ∧ mk_rg D b ∧ ∀ k c, mk_aw D k (b + 1) = c + 1 → mj_b l c = true
theorem mk_opw_D {i b : Nat} {l : Int32} (hM : mk_isM μ D) (hk : mj_okD D) (hl : mk_cyc D l) (hi : i < D 14 14) (hil : mj_b l i = true) (hb : b < 32) : ∀ (j m : Nat) (l' : Int32), m + j = 10 → (∀ c, c < 32 → (mj_b l' c = true ↔ mj_b l c = true ∧ ¬ ∃ k, k < m ∧ mk_aw D k (i + 1) = c + 1)) → (mj_b (mj_opw μ j l' (mj_oi (mk_aw D m (i + 1)))) b = true ↔ mj_b l b = true ∧ ¬ ∃ k, mk_aw D k (i + 1) = b + 1) := by
  have N9 := hk.1
  have e69 : ∀ i, i < D 14 14 → μ.1 69 i = mj_oi (D 19 i) := fun i hi => (hM.2.2.2.1 i hi).2.2.2.2.1
  intro j
  induction j with
  | zero =>
    intro m l' hm hs
    show mj_b l' b = true ↔ _
    rw [hs b hb]
    refine and_congr Iff.rfl (not_congr ⟨fun ⟨k, _, e⟩ => ⟨k, e⟩, fun ⟨k, e⟩ => ?_⟩)
    obtain ⟨k', a1, a2⟩ := mk_aw_short hk (show i + 1 ≤ D 14 14 by omega) k e
    exact ⟨k', by omega, a2⟩
  | succ j ih =>
    intro m l' hm hs
    have le := mk_aw_le hk m (i + 1) (show i + 1 ≤ D 14 14 by omega)
    show mj_b (if (mj_inb (mj_oi (mk_aw D m (i + 1))) 9 && mj_b l' (mj_oi (mk_aw D m (i + 1))).toNatClampNeg) = true then mj_opw μ j (l' &&& (1 <<< (mj_oi (mk_aw D m (i + 1)) &&& 31) ^^^ -1)) (μ.1 69 (mj_oi (mk_aw D m (i + 1))).toNatClampNeg) else l') b = true ↔ _
    by_cases c : mk_aw D m (i + 1) = 0
    · have i9 : mj_inb (mj_oi 0) 9 = false := by decide
      rw [if_neg (by rw [c, i9, Bool.false_and]; decide), hs b hb]
      refine and_congr Iff.rfl (not_congr ⟨fun ⟨k, _, e⟩ => ⟨k, e⟩, fun ⟨k, e⟩ => ⟨k, ?_, e⟩⟩)
      by_cases d : k < m
      · exact d
      · have := mk_aw_add (D := D) m (k - m) (i + 1)
        rw [show m + (k - m) = k by omega, c, mk_aw_0, e] at this
        omega
    · rw [mj_oi_pos (by omega), nI_clamp (by omega), mj_in_nI (show mk_aw D m (i + 1) - 1 < 9 by omega) (by decide), Bool.true_and]
      by_cases d : mj_b l' (mk_aw D m (i + 1) - 1) = true
      · rw [if_pos d]
        have e1 : μ.1 69 (mk_aw D m (i + 1) - 1) = mj_oi (mk_aw D (m + 1) (i + 1)) := by
          rw [e69 _ (by omega), mk_aw_add m 1 (i + 1), mk_aw_s c]
          rfl
        rw [e1]
        refine ih (m + 1) _ (by omega) (fun c' hc' => ?_)
        rw [mj_b_nand (by omega) hc', Bool.and_eq_true, Bool.not_eq_true', decide_eq_false_iff_not, hs c' hc', and_assoc]
        refine and_congr Iff.rfl ?_
        constructor
        · rintro ⟨z1, z2⟩ ⟨k, k1, k2⟩
          by_cases e : k = m
          · rw [e] at k2
            exact z2 (by omega)
          · exact z1 ⟨k, by omega, k2⟩
        · intro z
          exact ⟨fun ⟨k, k1, k2⟩ => z ⟨k, by omega, k2⟩, fun y => z ⟨m, by omega, by omega⟩⟩
      · rw [if_neg d, hs b hb]
        have inl : mj_b l (mk_aw D m (i + 1) - 1) = true := (hl i (by omega) hil).2.2 m _ (by omega)
        obtain ⟨k', k1, k2⟩ := Classical.not_not.mp (fun y => d ((hs _ (by omega)).mpr ⟨inl, y⟩))
        have e1 : mk_aw D k' (i + 1) = mk_aw D m (i + 1) := by omega
        refine and_congr Iff.rfl (not_congr ⟨fun ⟨k, _, e⟩ => ⟨k, e⟩, fun ⟨k, e⟩ => ?_⟩)
        revert e
        induction k using Nat.strongRecOn with
        | _ k ihk =>
          intro e
          by_cases q : k < m
          · exact ⟨k, q, e⟩
          · refine ihk (k' + (k - m)) (by omega) ?_
            rw [mk_aw_add, e1, ← mk_aw_add, show m + (k - m) = k by omega, e]
/-- one ring goes, full rings stay -/
theorem mk_cyc_del {i : Nat} {l l' : Int32} (hk : mj_okD D) (hl : mk_cyc D l) (hi : i < D 14 14) (h : ∀ b, b < 32 → (mj_b l' b = true ↔ mj_b l b = true ∧ ¬ ∃ k, mk_aw D k (i + 1) = b + 1)) : mk_cyc D l' := by
  have N9 := hk.1
  intro b hb hbl
  obtain ⟨h1, h2⟩ := (h b hb).mp hbl
  obtain ⟨a1, a2, a3⟩ := hl b hb h1
  refine ⟨a1, a2, fun k c e => ?_⟩
  have hc : c < 32 := by
    have := mk_aw_le hk k (b + 1) (by omega)
    omega
  refine (h c hc).mpr ⟨a3 k c e, fun ⟨q, hq⟩ => h2 ?_⟩
  -- around the ring from there
  obtain ⟨-, m, hm⟩ := a2
  have per : mk_aw D (m + 1) (b + 1) = b + 1 := by
    rw [mk_aw_s (Nat.succ_ne_zero b)]
    exact hm
  have pers : ∀ n, mk_aw D ((m + 1) * n) (b + 1) = b + 1 := by
    intro n
    induction n with
    | zero => rfl
    | succ n ihn => rw [Nat.mul_succ, mk_aw_add, ihn, per]
  have big : k ≤ (m + 1) * k := Nat.le_mul_of_pos_left k (Nat.succ_pos m)
  have back : mk_aw D ((m + 1) * k - k) (c + 1) = b + 1 := by
    have := pers k
    rw [show (m + 1) * k = k + ((m + 1) * k - k) by omega, mk_aw_add, e] at this
    exact this
  exact ⟨q + ((m + 1) * k - k), by rw [mk_aw_add, hq, back]⟩
theorem mk_cyc_ring (hD : mj_isD σ D) (hk : mj_okD D) : mk_cyc D (mj_ring σ (D 14 14)) := by
  have N9 := hk.1
  intro b hb hbl
  obtain ⟨a1, a2⟩ := (mk_ring_D hD hk hb).mp hbl
  refine ⟨a1, a2, fun k c e => ?_⟩
  have le := mk_aw_le hk k (b + 1) (by omega)
  obtain ⟨h5, m, hm⟩ := a2
  have per : mk_aw D (m + 1) (b + 1) = b + 1 := by
    rw [mk_aw_s (Nat.succ_ne_zero b)]
    exact hm
  have pers : ∀ n, mk_aw D ((m + 1) * n) (b + 1) = b + 1 := by
    intro n
    induction n with
    | zero => rfl
    | succ n ihn => rw [Nat.mul_succ, mk_aw_add, ihn, per]
  have big : k < (m + 1) * (k + 1) := Nat.lt_of_lt_of_le (Nat.lt_succ_self k) (Nat.le_mul_of_pos_left (k + 1) (Nat.succ_pos m))
  have back : mk_aw D ((m + 1) * (k + 1) - k) (c + 1) = b + 1 := by
    have := pers (k + 1)
    rw [show (m + 1) * (k + 1) = k + ((m + 1) * (k + 1) - k) by omega, mk_aw_add, e] at this
    exact this
  refine (mk_ring_D hD hk (by omega)).mpr ⟨by omega, ?_, ?_⟩
  · -- a work: either the one itself or one that another is after
    cases k with
    | zero =>
      have e' : b + 1 = c + 1 := e
      rw [show c = b by omega]
      exact h5
    | succ k =>
      have q : mk_aw D (k + 1) (b + 1) = mk_aw D 1 (mk_aw D k (b + 1)) := mk_aw_add k 1 (b + 1)
      have le' := mk_aw_le hk k (b + 1) (by omega)
      by_cases z : mk_aw D k (b + 1) = 0
      · rw [q, z, mk_aw_0] at e
        omega
      · rw [q, mk_aw_s z] at e
        have e' : D 19 (mk_aw D k (b + 1) - 1) = c + 1 := e
        have := (hk.2.2.2.2.1 (mk_aw D k (b + 1) - 1) (by omega)).2.2.2.1.2 (by omega)
        rw [e'] at this
        exact this
  · refine ⟨(m + 1) * (k + 1) - k - 1 + k, ?_⟩
    have nz : (m + 1) * (k + 1) - k = ((m + 1) * (k + 1) - k - 1) + 1 := by omega
    rw [nz, mk_aw_s (Nat.succ_ne_zero c)] at back
    have back' : mk_aw D ((m + 1) * (k + 1) - k - 1) (D 19 c) = b + 1 := back
    rw [mk_aw_add, back', e]
/-- opening: both sides agree -/
theorem mk_open_eq (hD : mj_isD σ D) (hM : mk_isM σ D) (hk : mj_okD D) : mj_Cop σ (mj_ring σ (D 14 14)) (D 14 14) = mj_oprg σ (mj_Mring σ (D 14 14) (D 14 14)) (D 14 14) := by
  have N9 := hk.1
  have e19 : ∀ i, i < D 14 14 → σ.1 19 i = mj_oi (D 19 i) := fun i hi => (hD.2.2.2.2.1 i hi).2.2.2.2.1
  rw [mk_ring_eq hD hM hk]
  have key : ∀ n, n ≤ D 14 14 → mj_Cop σ (mj_ring σ (D 14 14)) n = mj_oprg σ (mj_ring σ (D 14 14)) n ∧ mk_cyc D (mj_Cop σ (mj_ring σ (D 14 14)) n).1 := by
    intro n
    induction n with
    | zero => intro _; exact ⟨rfl, mk_cyc_ring hD hk⟩
    | succ n ih =>
      intro hn
      obtain ⟨i1, i2⟩ := ih (by omega)
      have s1 : mj_Cop σ (mj_ring σ (D 14 14)) (n + 1) = mj_Cop1 σ n (mj_Cop σ (mj_ring σ (D 14 14)) n) := rfl
      have s2 : mj_oprg σ (mj_ring σ (D 14 14)) (n + 1) = mj_op1 σ n (mj_oprg σ (mj_ring σ (D 14 14)) n) := rfl
      rw [s1, s2, ← i1]
      generalize mj_Cop σ (mj_ring σ (D 14 14)) n = P at *
      unfold mj_Cop1 mj_op1
      by_cases c : mj_b P.1 n = true
      · rw [if_pos c, if_pos c]
        have eo : nI n = mj_oi (n + 1) := (mj_oi_pos (x := n + 1) (Nat.succ_pos n)).symm
        have bC : ∀ b, b < 32 → (mj_b (P.1 &&& (mj_ch (σ.1 19) (σ.1 14 14) 9 (nI n) 0 ^^^ -1)) b = true ↔ mj_b P.1 b = true ∧ ¬ ∃ k, mk_aw D k (n + 1) = b + 1) := fun b hb => by
          rw [mj_b_and, mj_b_not hb, Bool.and_eq_true, Bool.not_eq_true']
          refine and_congr Iff.rfl ?_
          have := mk_ch_D hk e19 hb 9 (n + 1) 0 (by omega)
          rw [← hD.1, ← eo] at this
          constructor
          · rintro z ⟨k, e⟩
            obtain ⟨k', a1, a2⟩ := mk_aw_short hk (show n + 1 ≤ D 14 14 by omega) k e
            rw [this.mpr (Or.inr ⟨k', by omega, a2⟩)] at z
            exact absurd z (by decide)
          · intro z
            cases y : mj_b (mj_ch (σ.1 19) (σ.1 14 14) 9 (nI n) 0) b
            · rfl
            · rcases this.mp y with q | ⟨k, -, e⟩
              · rw [mj_b_0] at q; exact absurd q (by decide)
              · exact absurd ⟨k, e⟩ z
        have bM : ∀ b, b < 32 → (mj_b (mj_opw σ 10 P.1 (nI n)) b = true ↔ mj_b P.1 b = true ∧ ¬ ∃ k, mk_aw D k (n + 1) = b + 1) := fun b hb => by
          have := mk_opw_D hM hk i2 (show n < D 14 14 by omega) c hb 10 0 P.1 (by omega) (fun c' _ => ⟨fun z => ⟨z, fun ⟨k, h, _⟩ => absurd h (Nat.not_lt_zero k)⟩, fun z => z.1⟩)
          rw [eo]
          exact this
        have e : P.1 &&& (mj_ch (σ.1 19) (σ.1 14 14) 9 (nI n) 0 ^^^ -1) = mj_opw σ 10 P.1 (nI n) := by
          apply mj_b_ext
          intro b hb
          rw [Bool.eq_iff_iff, bC b hb, bM b hb]
        rw [← e]
        exact ⟨rfl, mk_cyc_del hk i2 (by omega) bC⟩
      · rw [if_neg c, if_neg c]
        exact ⟨rfl, i2⟩
  exact (key _ (Nat.le_refl _)).1
end
