section
variable {X : mj_X} {d : Nat} {σ τ ρ : mj_St}
theorem mj_inb_le {x : Int32} {a b : Nat} (h : mj_inb x a = true) (hab : a ≤ b) (hb : b < 2147483648) : mj_inb x b = true := by
  obtain ⟨k, hk, e⟩ := mj_nI_of h (by omega)
  rw [e]
  exact mj_in_nI (by omega) hb
theorem mj_ins_m {D : Nat → Int32} {p m : Nat} (hp : p < m) (hm : m ≤ 9) : ∀ (a : Nat) (g : Nat → Int32), (∀ i, i < a → mj_inb (g i) m = true) → (∀ i, i ≤ a → mj_inb (mj_ins D p a g i) m = true) := by
  intro a
  induction a with
  | zero =>
    intro g hg i hi
    have : i = 0 := by omega
    subst this
    show mj_inb (if 0 = 0 then nI p else g 0) m = true
    rw [if_pos rfl]
    exact mj_in_nI hp (by omega)
  | succ a ih =>
    intro g hg i hi
    simp only [mj_ins]
    by_cases c : D p < D (g a).toNatClampNeg
    · rw [if_pos c]
      have hu : ∀ i, i ≠ a + 1 → mj_ud g (a + 1) (g a) i = g i := fun i hi => if_neg hi
      by_cases e : i = a + 1
      · have h6 : ∀ (a : Nat) (g : Nat → Int32) (i : Nat), a < i → mj_ins D p a g i = g i := by
          intro a
          induction a with
          | zero => intro g i hi; exact if_neg (by omega)
          | succ a ih =>
            intro g i hi
            simp only [mj_ins]
            by_cases c : D p < D (g a).toNatClampNeg
            · rw [if_pos c, ih _ i (by omega)]
              exact if_neg (by omega)
            · rw [if_neg c]
              exact if_neg (by omega)
        rw [h6 a _ i (by omega), e]
        show mj_inb (if a + 1 = a + 1 then g a else g (a + 1)) m = true
        rw [if_pos rfl]
        exact hg a (by omega)
      · exact ih _ (fun j hj => by rw [hu j (by omega)]; exact hg j (by omega)) i (by omega)
    · rw [if_neg c]
      by_cases e : i = a + 1
      · show mj_inb (if i = a + 1 then nI p else g i) m = true
        rw [if_pos e]
        exact mj_in_nI hp (by omega)
      · show mj_inb (if i = a + 1 then nI p else g i) m = true
        rw [if_neg e]
        exact hg i (by omega)
theorem mj_ord_n {D g : Nat → Int32} : ∀ n, n ≤ 6 → ∀ i, i < n → mj_inb (mj_ord D g n i) n = true := by
  intro n
  induction n with
  | zero => intro _ i hi; omega
  | succ n ih =>
    intro hn i hi
    exact mj_ins_m (D := D) (p := n) (m := n + 1) (by omega) (by omega) n (mj_ord D g n) (fun j hj => mj_inb_le (ih (by omega) j hj) (by omega) (by omega)) i (by omega)
-- how far the deadlines go
def mj_dB (f : Nat → Int32) (n m : Nat) : Prop := ∀ i, i < n → -(m : Int) ≤ (f i).toInt ∧ (f i).toInt ≤ 11
theorem mj_sub_i {x : Int32} {l : Nat} (h1 : -1000 ≤ x.toInt) (h2 : x.toInt ≤ 11) (hl : l < 4) : (x - nI l).toInt = x.toInt - l := by
  rw [Int32.toInt_sub, nI_toInt (by omega), Int.bmod_eq_of_le (by omega) (by omega)]
theorem mj_dst_B {n m p : Nat} {f : Nat → Int32} (hf : mj_dB f n m) (hm : m ≤ 900) (hp : p < n) (hl : ∃ l, l < 4 ∧ σ.1 25 (σ.1 47 p).toNatClampNeg = nI l) : mj_dB (mj_dst σ n p f) n (m + 3) := by
  obtain ⟨l, hl4, el⟩ := hl
  intro i hi
  obtain ⟨a1, a2⟩ := hf i hi
  obtain ⟨b1, b2⟩ := hf p hp
  have es := mj_sub_i (x := f p) (l := l) (by omega) b2 hl4
  have hself : -((m + 3 : Nat) : Int) ≤ (f i).toInt ∧ (f i).toInt ≤ 11 := by
    constructor <;> omega
  have hnew : -((m + 3 : Nat) : Int) ≤ (f p - nI l).toInt ∧ (f p - nI l).toInt ≤ 11 := by
    rw [es]
    constructor <;> omega
  unfold mj_dst
  by_cases c : mj_dcc σ n p = true
  · rw [if_pos c, el]
    show -((m + 3 : Nat) : Int) ≤ (if i = _ then _ else f i).toInt ∧ (if i = _ then _ else f i).toInt ≤ 11
    by_cases c2 : i = (σ.1 48 p).toNatClampNeg
    · rw [if_pos c2, ← c2]
      by_cases c3 : f p - nI l < f i
      · rw [if_pos c3]; exact hnew
      · rw [if_neg c3]; exact hself
    · rw [if_neg c2]; exact hself
  · rw [if_neg c]; exact hself
theorem mj_drd_B {n m : Nat} {f : Nat → Int32} (hf : mj_dB f n m) (hn : n ≤ 6) (hm : m ≤ 800) (hl : ∀ p, p < n → ∃ l, l < 4 ∧ σ.1 25 (σ.1 47 p).toNatClampNeg = nI l) : ∀ k, k ≤ n → mj_dB (mj_drd σ n f k) n (m + 3 * k) := by
  intro k
  induction k with
  | zero => intro _; exact hf
  | succ k ih =>
    intro hk
    have h := mj_dst_B (σ := σ) (p := k) (ih (by omega)) (by omega) (by omega) (hl k (by omega))
    rw [show m + 3 * k + 3 = m + 3 * (k + 1) by omega] at h
    exact h
theorem mj_dl_B {n : Nat} (h0 : mj_dB (mj_dl0 σ n) n 0) (hn : n ≤ 6) (hl : ∀ p, p < n → ∃ l, l < 4 ∧ σ.1 25 (σ.1 47 p).toNatClampNeg = nI l) : ∀ k, k ≤ n → mj_dB (mj_dl σ n k) n (18 * k) := by
  intro k
  induction k with
  | zero => intro _; exact h0
  | succ k ih =>
    intro hk
    have h := mj_drd_B (σ := σ) (ih (by omega)) hn (by omega) hl n (Nat.le_refl _)
    intro i hi
    obtain ⟨a, b⟩ := h i hi
    refine ⟨?_, b⟩
    have : ((18 * k + 3 * n : Nat) : Int) ≤ ((18 * (k + 1) : Nat) : Int) := by omega
    exact Int.le_trans (Int.neg_le_neg this) a
theorem mj_dl0_v : ∀ k i, i < k → mj_dl0 σ k i = σ.1 17 (σ.1 47 i).toNatClampNeg := by
  intro k
  induction k with
  | zero => intro i hi; omega
  | succ k ih =>
    intro i hi
    show (if i = k then σ.1 17 (σ.1 47 k).toNatClampNeg else mj_dl0 σ k i) = _
    by_cases c : i = k
    · rw [if_pos c, c]
    · rw [if_neg c]
      exact ih i (by omega)
-- the marks, cleared
theorem mj_lb0 {k : Nat} : mj_lb 0 k = false := by
  unfold mj_lb
  simp
theorem mj_clrS_1 {m : Nat} : (mj_clrS σ m).1 = σ.1 := by
  unfold mj_clrS
  by_cases c : σ.2.2.2.1 < m
  · rw [if_pos c]; rfl
  · rw [if_neg c]; rfl
theorem mj_clrS_r {m : Nat} : (mj_clrS σ m).2.2.1 = σ.2.2.1 := by
  unfold mj_clrS
  by_cases c : σ.2.2.2.1 < m
  · rw [if_pos c]; rfl
  · rw [if_neg c]; rfl
theorem mj_clrS_l {m c : Nat} (hc : c ≠ 999) : (mj_clrS σ m).2.1 c = σ.2.1 c := by
  funext i
  unfold mj_clrS
  by_cases c1 : σ.2.2.2.1 < m
  · rw [if_pos c1]
    show (if c = 999 then 0 else σ.2.1 c i) = _
    rw [if_neg hc]
  · rw [if_neg c1]
    show (if c = 999 ∧ i < m then 0 else σ.2.1 c i) = _
    rw [if_neg (fun z => hc z.1)]
theorem mj_clrS_0 {m i : Nat} (hi : i < m) : (mj_clrS σ m).2.1 999 i = 0 := by
  unfold mj_clrS
  by_cases c1 : σ.2.2.2.1 < m
  · rw [if_pos c1]
    show (if 999 = 999 then 0 else σ.2.1 999 i) = _
    rw [if_pos rfl]
  · rw [if_neg c1]
    show (if 999 = 999 ∧ i < m then 0 else σ.2.1 999 i) = _
    rw [if_pos ⟨rfl, hi⟩]
theorem mj_clrS_n {m : Nat} (hm : m ≤ 20000) (hl : σ.2.2.2.1 ≤ 20000) : m ≤ (mj_clrS σ m).2.2.2.1 ∧ (mj_clrS σ m).2.2.2.1 ≤ 20000 := by
  unfold mj_clrS
  by_cases c1 : σ.2.2.2.1 < m
  · rw [if_pos c1]
    exact ⟨Nat.le_refl _, hm⟩
  · rw [if_neg c1]
    refine ⟨?_, hl⟩
    show m ≤ σ.2.2.2.1
    omega
theorem mj_clrS_MI {n w gr : Nat} (hl : σ.2.2.2.1 ≤ 20000) (hn : n ≤ 6) (hgr : gr = 1 ∨ gr = 8) : mj_MI (mj_clrS σ (2 * mj_hf w gr n)) n w gr := by
  have h6 := (mj_hf_lt (w := w) hgr hn).1
  obtain ⟨l1, l2⟩ := mj_clrS_n (σ := σ) (m := 2 * mj_hf w gr n) (by omega) hl
  have z : ∀ m, m < 64 * (2 * mj_hf w gr n) → mj_mb (mj_clrS σ (2 * mj_hf w gr n)) m = false := by
    intro m hm
    unfold mj_mb
    rw [mj_clrS_0 (by omega)]
    exact mj_lb0
  refine ⟨l1, l2, fun h g s a1 a2 a3 a4 => ?_⟩
  have hb := (mj_mno_lt (n := n) (gr := gr) a1 a2 a3 a4 hgr hn).2
  rw [z _ (by omega), z _ (by omega)]
  exact ⟨fun q => absurd q (by decide), fun q => absurd q (by decide)⟩
theorem mj_mkR_o {w gr n c : Nat} (h1 : c ≠ 46) (h2 : c ≠ 54) : (mj_mkR σ w gr n).1 c = σ.1 c := by
  have e : (mj_mkH σ w gr n).1 c = σ.1 c := by
    unfold mj_mkH
    rw [mj_setI_ne _ _ _ h1, mj_rbS_o h2]
  unfold mj_mkR
  by_cases b : mj_hop σ w gr n = true
  · rw [if_pos b]; exact e
  · rw [if_neg b, mj_clrS_1]; exact e
theorem mj_mkR_46 {w gr n i : Nat} (h : i ≠ 4) : (mj_mkR σ w gr n).1 46 i = σ.1 46 i := by
  have e : (mj_mkH σ w gr n).1 46 i = σ.1 46 i := by
    unfold mj_mkH
    rw [mj_setI_i h, mj_rbS_o (by decide)]
  unfold mj_mkR
  by_cases b : mj_hop σ w gr n = true
  · rw [if_pos b]; exact e
  · rw [if_neg b, mj_clrS_1]; exact e
theorem mj_mkR_4 {w gr n : Nat} : (mj_mkR σ w gr n).1 46 4 = mj_z (mj_hop σ w gr n) := by
  have e : (mj_mkH σ w gr n).1 46 4 = mj_z (mj_hop σ w gr n) := mj_setI_eq
  unfold mj_mkR
  by_cases b : mj_hop σ w gr n = true
  · rw [if_pos b]; exact e
  · rw [if_neg b, mj_clrS_1]; exact e
theorem mj_mkR_r {w gr n : Nat} : (mj_mkR σ w gr n).2.2.1 = σ.2.2.1 := by
  unfold mj_mkR
  by_cases b : mj_hop σ w gr n = true
  · rw [if_pos b]; rfl
  · rw [if_neg b, mj_clrS_r]; rfl
theorem mj_mkR_l {w gr n c : Nat} (hc : c ≠ 999) : (mj_mkR σ w gr n).2.1 c = σ.2.1 c := by
  unfold mj_mkR
  by_cases b : mj_hop σ w gr n = true
  · rw [if_pos b]; rfl
  · rw [if_neg b, mj_clrS_l hc]; rfl
theorem mj_mkR_MI {w gr n : Nat} (hl : σ.2.2.2.1 ≤ 20000) (hn : n ≤ 6) (hgr : gr = 1 ∨ gr = 8) (h : (mj_mkR σ w gr n).1 46 4 = 0) : mj_MI (mj_mkR σ w gr n) n w gr := by
  rw [mj_mkR_4] at h
  cases b : mj_hop σ w gr n
  · unfold mj_mkR
    rw [if_neg (by rw [b]; decide)]
    exact mj_clrS_MI hl hn hgr
  · rw [b, mj_zT] at h
    exact absurd h (by decide)
theorem mj_mkR_n {w gr n : Nat} (hl : σ.2.2.2.1 ≤ 20000) (hn : n ≤ 6) (hgr : gr = 1 ∨ gr = 8) : (mj_mkR σ w gr n).2.2.2.1 ≤ 20000 := by
  have h6 := (mj_hf_lt (w := w) hgr hn).1
  unfold mj_mkR
  by_cases b : mj_hop σ w gr n = true
  · rw [if_pos b]; exact hl
  · rw [if_neg b]
    exact (mj_clrS_n (σ := mj_mkH σ w gr n) (m := 2 * mj_hf w gr n) (by omega) hl).2
end
