section
variable {X : mj_X} {d : Nat} {σ τ ρ : mj_St}
theorem mj_b_shl {m : Int32} {j k : Nat} (hj : j < 32) (hk : k < 32) : mj_b (m <<< (nI j &&& 31)) k = (decide (j ≤ k) && mj_b m (k - j)) := by
  have e : (nI j).toBitVec.smod 32 = BitVec.ofNat 32 j := by
    have : ∀ j : Nat, j < 32 → (nI j).toBitVec.smod 32 = BitVec.ofNat 32 j := by decide +kernel
    exact this j hj
  unfold mj_b
  rw [mj_and31 hj, Int32.toBitVec_shiftLeft, e]
  show ((m.toBitVec) <<< (BitVec.ofNat 32 j).toNat).getLsbD k = _
  rw [BitVec.toNat_ofNat, Nat.mod_eq_of_lt (by omega), BitVec.getLsbD_shiftLeft, decide_eq_true hk, Bool.true_and]
  by_cases c : k < j
  · rw [decide_eq_true c, decide_eq_false (show ¬ j ≤ k by omega)]
    rfl
  · rw [decide_eq_false c, decide_eq_true (show j ≤ k by omega)]
    rfl
theorem mj_nI_shl {a j : Nat} (hj : j < 32) (h : a * 2 ^ j < 2 ^ 31) : nI a <<< (nI j &&& 31) = nI (a * 2 ^ j) := by
  have ha : a < 2 ^ 31 := Nat.lt_of_le_of_lt (Nat.le_mul_of_pos_right a (Nat.two_pow_pos j)) h
  apply mj_b_ext
  intro k hk
  rw [mj_b_shl hj hk, mj_b_nI (by omega), mj_b_nI (by omega), ← Nat.shiftLeft_eq, Nat.testBit_shiftLeft]
theorem mj_nI_shr {a j : Nat} (hj : j < 32) (h : a < 2 ^ 31) : nI a >>> (nI j &&& 31) = nI (a / 2 ^ j) := by
  have hd : a / 2 ^ j ≤ a := Nat.div_le_self _ _
  have e : (nI j).toBitVec.smod 32 = BitVec.ofNat 32 j := by
    have : ∀ j : Nat, j < 32 → (nI j).toBitVec.smod 32 = BitVec.ofNat 32 j := by decide +kernel
    exact this j hj
  apply mj_b_ext
  intro k hk
  rw [mj_b_nI (show a / 2 ^ j < 2 ^ 32 by omega), Nat.testBit_div_two_pow]
  by_cases c : j + k < 32
  · rw [mj_b_shr hj c, mj_b_nI (by omega), Nat.add_comm]
  · have e2 : a.testBit (k + j) = false := by
      apply Nat.testBit_lt_two_pow
      have : 2 ^ 32 ≤ 2 ^ (k + j) := Nat.pow_le_pow_right (by decide) (by omega)
      omega
    rw [e2]
    unfold mj_b
    rw [mj_and31 hj, Int32.toBitVec_shiftRight, e]
    show ((nI a).toBitVec.sshiftRight (BitVec.ofNat 32 j).toNat).getLsbD k = false
    rw [BitVec.toNat_ofNat, Nat.mod_eq_of_lt (by omega), BitVec.getLsbD_sshiftRight, if_neg c, BitVec.msb_eq_getLsbD_last]
    have e3 : (nI a).toBitVec.getLsbD 31 = false := by
      have := mj_b_nI (s := a) (k := 31) (by omega)
      unfold mj_b at this
      rw [this]
      exact Nat.testBit_lt_two_pow (by omega)
    show (!decide (32 ≤ k) && (nI a).toBitVec.getLsbD (32 - 1)) = false
    rw [show 32 - 1 = 31 from rfl, e3, Bool.and_false]
theorem mj_nI_63 {a : Nat} (h : a < 2 ^ 31) : nI a &&& 63 = nI (a % 64) := by
  apply mj_b_ext
  intro k hk
  have h63 : (63 : Int32) = nI 63 := rfl
  rw [mj_b_and, h63, mj_b_nI (show 63 < 2 ^ 32 by decide), mj_b_nI (by omega), mj_b_nI (by omega), show (64 : Nat) = 2 ^ 6 from rfl, Nat.testBit_mod_two_pow]
  by_cases c : k < 6
  · rw [decide_eq_true c, Bool.true_and]
    have : ∀ k : Nat, k < 6 → Nat.testBit 63 k = true := by decide
    rw [this k c, Bool.and_true]
  · rw [decide_eq_false c, Bool.false_and]
    have : Nat.testBit 63 k = false := by
      apply Nat.testBit_lt_two_pow
      have : 2 ^ 6 ≤ 2 ^ k := Nat.pow_le_pow_right (by decide) (by omega)
      omega
    rw [this, Bool.and_false]
-- bits of long words
def mj_lb (x : Int64) (k : Nat) : Bool := x.toBitVec.getLsbD k
def mj_bitL (c : Nat) : Int64 := 1 <<< ((nI c).toInt64 &&& 63)
theorem mj_lb_bit {c k : Nat} (hc : c < 64) (hk : k < 64) : mj_lb (mj_bitL c) k = decide (k = c) := by
  have : ∀ c : Nat, c < 64 → ∀ k : Nat, k < 64 → mj_lb (mj_bitL c) k = decide (k = c) := by decide +kernel
  exact this c hc k hk
theorem mj_lb_ext {a b : Int64} (h : ∀ k, k < 64 → mj_lb a k = mj_lb b k) : a = b := by
  apply Int64.toBitVec_inj.mp
  apply BitVec.eq_of_getLsbD_eq
  intro i hi
  exact h i hi
theorem mj_lb_0 {k : Nat} : mj_lb 0 k = false := by
  unfold mj_lb
  rw [Int64.toBitVec_zero]
  exact BitVec.getLsbD_zero
theorem mj_lb_and {a b : Int64} {k : Nat} : mj_lb (a &&& b) k = (mj_lb a k && mj_lb b k) := by
  unfold mj_lb
  rw [Int64.toBitVec_and, BitVec.getLsbD_and]
theorem mj_lb_or {a b : Int64} {k : Nat} : mj_lb (a ||| b) k = (mj_lb a k || mj_lb b k) := by
  unfold mj_lb
  rw [Int64.toBitVec_or, BitVec.getLsbD_or]
theorem mj_lb_test {x : Int64} {c : Nat} (hc : c < 64) : (lg_cmp (x &&& mj_bitL c) 0 = 0) = (mj_lb x c = false) := by
  have e1 : (lg_cmp (x &&& mj_bitL c) 0 = 0) = (x &&& mj_bitL c = 0) := by
    apply propext
    unfold lg_cmp
    by_cases h1 : x &&& mj_bitL c > 0
    · rw [if_pos h1]
      constructor
      · intro z
        exact absurd z (by decide)
      · intro z
        rw [z] at h1
        exact absurd h1 (by decide)
    · rw [if_neg h1]
      by_cases h2 : x &&& mj_bitL c = 0
      · rw [if_pos h2]
        exact ⟨fun _ => h2, fun _ => rfl⟩
      · rw [if_neg h2]
        exact ⟨fun z => absurd z (by decide), fun z => absurd z h2⟩
  rw [e1]
  apply propext
  constructor
  · intro z
    have := congrArg (fun y => mj_lb y c) z
    simp only [mj_lb_and, mj_lb_bit hc hc, mj_lb_0, decide_true, Bool.and_true] at this
    exact this
  · intro z
    apply mj_lb_ext
    intro k hk
    rw [mj_lb_and, mj_lb_bit hc hk, mj_lb_0]
    by_cases q : k = c
    · rw [q, z, Bool.false_and]
    · rw [decide_eq_false q, Bool.and_false]
-- the marks
/-- the number of a state among the marks -/
def mj_mno (w gr n h g s : Nat) : Nat := ((h - w) * gr + g) * 4 ^ n + s
def mj_hf (w gr n : Nat) : Nat := ((12 - w) * gr * 4 ^ n + 63) / 64
/-- whether a bit of the marks is set -/
def mj_mb (σ : mj_St) (m : Nat) : Bool := mj_lb (σ.2.1 999 (m / 64)) (m % 64)
theorem mj_n6 {n : Nat} (h : n ≤ 6) : n = 0 ∨ n = 1 ∨ n = 2 ∨ n = 3 ∨ n = 4 ∨ n = 5 ∨ n = 6 := by omega
theorem mj_mno_lt {w gr n h g s : Nat} (hw : w ≤ h) (hh : h < 12) (hg : g < gr) (hs : s < 4 ^ n) (hgr : gr = 1 ∨ gr = 8) (hn : n ≤ 6) : mj_mno w gr n h g s < (12 - w) * gr * 4 ^ n ∧ mj_mno w gr n h g s < 64 * mj_hf w gr n := by
  unfold mj_mno mj_hf
  rcases hgr with q | q <;> subst q <;> rcases mj_n6 hn with q | q | q | q | q | q | q <;> subst q <;> simp only [Nat.reducePow] at * <;> omega
theorem mj_hf_lt {w gr n : Nat} (hgr : gr = 1 ∨ gr = 8) (hn : n ≤ 6) : mj_hf w gr n ≤ 6144 ∧ (12 - w) * gr * 4 ^ n ≤ 393216 := by
  unfold mj_hf
  rcases hgr with q | q <;> subst q <;> rcases mj_n6 hn with q | q | q | q | q | q | q <;> subst q <;> simp only [Nat.reducePow] at * <;> omega
theorem mj_mno_inj {w gr n h g s h' g' s' : Nat} (hw : w ≤ h) (hw' : w ≤ h') (hg : g < gr) (hg' : g' < gr) (hs : s < 4 ^ n) (hs' : s' < 4 ^ n) (hgr : gr = 1 ∨ gr = 8) (hn : n ≤ 6) (he : mj_mno w gr n h g s = mj_mno w gr n h' g' s') : h = h' ∧ g = g' ∧ s = s' := by
  unfold mj_mno at he
  rcases hgr with q | q <;> subst q <;> rcases mj_n6 hn with q | q | q | q | q | q | q <;> subst q <;> simp only [Nat.reducePow] at * <;> omega
theorem mj_mb_set {σ : mj_St} {m x : Nat} : mj_mb (mj_setL σ 999 (m / 64) (σ.2.1 999 (m / 64) ||| mj_bitL (m % 64))) x = (mj_mb σ x || decide (x = m)) := by
  unfold mj_mb
  show mj_lb (if 999 = 999 ∧ x / 64 = m / 64 then σ.2.1 999 (m / 64) ||| mj_bitL (m % 64) else σ.2.1 999 (x / 64)) (x % 64) = _
  by_cases c : x / 64 = m / 64
  · rw [if_pos ⟨rfl, c⟩, mj_lb_or, mj_lb_bit (Nat.mod_lt _ (by decide)) (Nat.mod_lt _ (by decide)), c]
    by_cases c2 : x % 64 = m % 64
    · rw [decide_eq_true c2, decide_eq_true (show x = m by omega)]
    · rw [decide_eq_false c2, decide_eq_false (show ¬ x = m by intro z; exact c2 (by rw [z]))]
  · rw [if_neg (fun z => c z.2), decide_eq_false (show ¬ x = m by intro z; exact c (by rw [z])), Bool.or_false]
/-- the same but the marks -/
def mj_Fm (σ τ : mj_St) : Prop := τ.1 = σ.1 ∧ (∀ c, c ≠ 999 → τ.2.1 c = σ.2.1 c) ∧ τ.2.2 = σ.2.2
theorem mj_Fm_rf : mj_Fm σ σ := ⟨rfl, fun _ _ => rfl, rfl⟩
theorem mj_Fm_tr (h : mj_Fm σ τ) (g : mj_Fm τ ρ) : mj_Fm σ ρ := ⟨g.1.trans h.1, fun c q => (g.2.1 c q).trans (h.2.1 c q), g.2.2.trans h.2.2⟩
theorem mj_Fm_set {i : Nat} {v : Int64} : mj_Fm σ (mj_setL σ 999 i v) := ⟨rfl, fun c q => by
  funext i'
  show (if c = 999 ∧ i' = i then v else σ.2.1 c i') = σ.2.1 c i'
  rw [if_neg (fun z => q z.1)], rfl⟩
theorem mj_sd_Fm {n w gr : Nat} (F : mj_Fm σ τ) (h : mj_sd σ n w gr) : mj_sd τ n w gr := mj_sd_fr (by rw [F.2.2]) F.1 h
/-- how many sets there are of so many places -/
def mj_top (n : Nat) : Nat := n * (n + 1) / 2
theorem mj_top_lt {n : Nat} (h : n ≤ 6) : mj_top n < 22 := by
  unfold mj_top
  rcases mj_n6 h with q | q | q | q | q | q | q <;> subst q <;> decide
def mj_fl (σ : mj_St) (W : Nat → Nat → Bool) (r g s : Nat) : Bool :=
  if r = 0 then true
  else if mj_sts σ g (12 - r) >>> (18 &&& 31) = 0 then W g s
  else !(mj_anyF (fun u => decide (nI u &&& ((mj_sts σ g (12 - r) >>> (18 &&& 31)) ^^^ -1) = 0) && !(W (g ||| u) s)) 0 8)
/-- whether no work need get lost in the last r hours -/
def mj_W (σ : mj_St) (n : Nat) : Nat → Nat → Nat → Bool
  | 0 => fun _ _ => true
  | r + 1 => fun g s => decide (¬ mj_mvs σ g (11 - r) s n = -1) && mj_anyF (fun k => mj_imv σ k (11 - r) (mj_mvs σ g (11 - r) s n) && mj_fl σ (mj_W σ n r) r g (s - mj_tK k)) 0 (mj_top n + 1)
theorem mj_mvs_1 (h : τ.1 = σ.1) : mj_mvs τ = mj_mvs σ := by
  have e1 : mj_hrk τ = mj_hrk σ := by
    funext a b c d e
    unfold mj_hrk
    rw [h]
  have e2 : mj_hrs τ = mj_hrs σ := by
    funext a b c j
    induction j with
    | zero => rfl
    | succ j ih =>
      funext k x
      simp only [mj_hrs]
      rw [e1, h, ih]
  have e3 : mj_hrm τ = mj_hrm σ := by
    funext a b c n
    unfold mj_hrm
    rw [e2]
  have e4 : mj_isr τ = mj_isr σ := by
    funext a b c
    unfold mj_isr
    rw [h]
  have e5 : mj_iuw τ = mj_iuw σ := by
    funext a b
    unfold mj_iuw
    rw [h]
  have e6 : mj_sts τ = mj_sts σ := by
    funext a b
    unfold mj_sts
    rw [h]
  have e7 : mj_mca τ = mj_mca σ := by
    funext a b c e
    unfold mj_mca
    rw [e6]
  have e8 : mj_mop τ = mj_mop σ := by
    funext a b c e
    unfold mj_mop
    rw [e6, e4]
  have e9 : mj_mbd τ = mj_mbd σ := by
    funext a b c e
    unfold mj_mbd
    rw [e7, h]
  have e10 : mj_mfo τ = mj_mfo σ := by
    funext a b c e
    unfold mj_mfo
    rw [e7, e5, h]
  have e11 : mj_pin τ = mj_pin σ := by
    funext a
    unfold mj_pin
    rw [h]
  funext g hh s n
  unfold mj_mvs
  rw [e3, e6, e8, e9, e10, e11]
theorem mj_imv_1 (h : τ.1 = σ.1) : mj_imv τ = mj_imv σ := by
  funext a b c
  unfold mj_imv
  rw [h]
theorem mj_fl_1 (h : τ.1 = σ.1) : mj_fl τ = mj_fl σ := by
  funext W r g s
  unfold mj_fl mj_sts
  rw [h]
theorem mj_W_1 {n : Nat} (h : τ.1 = σ.1) : ∀ r, mj_W τ n r = mj_W σ n r := by
  intro r
  induction r with
  | zero => rfl
  | succ r ih =>
    funext g s
    simp only [mj_W]
    rw [mj_mvs_1 h, mj_imv_1 h, mj_fl_1 h, ih]
/-- the marks are right -/
def mj_MI (σ : mj_St) (n w gr : Nat) : Prop := 2 * mj_hf w gr n ≤ σ.2.2.2.1 ∧ σ.2.2.2.1 ≤ 20000 ∧ ∀ h g s, w ≤ h → h < 12 → g < gr → s < 4 ^ n → (mj_mb σ (mj_mno w gr n h g s) = true → mj_W σ n (12 - h) g s = true) ∧ (mj_mb σ (64 * mj_hf w gr n + mj_mno w gr n h g s) = true → mj_W σ n (12 - h) g s = false)
/-- one more mark -/
theorem mj_MI_set {n w gr h g s : Nat} (hM : mj_MI σ n w gr) (hw : w ≤ h) (hh : h < 12) (hg : g < gr) (hs : s < 4 ^ n) (hgr : gr = 1 ∨ gr = 8) (hn : n ≤ 6) {b : Bool} (hb : mj_W σ n (12 - h) g s = b) : mj_MI (mj_setL σ 999 ((if b = true then mj_mno w gr n h g s else 64 * mj_hf w gr n + mj_mno w gr n h g s) / 64) (σ.2.1 999 ((if b = true then mj_mno w gr n h g s else 64 * mj_hf w gr n + mj_mno w gr n h g s) / 64) ||| mj_bitL ((if b = true then mj_mno w gr n h g s else 64 * mj_hf w gr n + mj_mno w gr n h g s) % 64))) n w gr := by
  obtain ⟨m1, m2, m3⟩ := hM
  refine ⟨m1, m2, fun h' g' s' a1 a2 a3 a4 => ?_⟩
  obtain ⟨p1, p2⟩ := m3 h' g' s' a1 a2 a3 a4
  have l1 := (mj_mno_lt hw hh hg hs hgr hn).2
  have l2 := (mj_mno_lt a1 a2 a3 a4 hgr hn).2
  have hW : ∀ x y, mj_W (mj_setL σ 999 x y) n (12 - h') = mj_W σ n (12 - h') := fun x y => mj_W_1 (τ := mj_setL σ 999 x y) (σ := σ) rfl _
  rw [hW, mj_mb_set, mj_mb_set]
  cases b
  · rw [if_neg mj_ft]
    refine ⟨fun z => ?_, fun z => ?_⟩
    · simp only [Bool.or_eq_true, decide_eq_true_eq] at z
      rcases z with z | z
      · exact p1 z
      · omega
    · simp only [Bool.or_eq_true, decide_eq_true_eq] at z
      rcases z with z | z
      · exact p2 z
      · obtain ⟨e1, e2, e3⟩ := mj_mno_inj a1 hw a3 hg a4 hs hgr hn (by omega)
        subst e1
        subst e2
        subst e3
        exact hb
  · rw [if_pos rfl]
    refine ⟨fun z => ?_, fun z => ?_⟩
    · simp only [Bool.or_eq_true, decide_eq_true_eq] at z
      rcases z with z | z
      · exact p1 z
      · obtain ⟨e1, e2, e3⟩ := mj_mno_inj a1 hw a3 hg a4 hs hgr hn z
        subst e1
        subst e2
        subst e3
        exact hb
    · simp only [Bool.or_eq_true, decide_eq_true_eq] at z
      rcases z with z | z
      · exact p2 z
      · omega
end
