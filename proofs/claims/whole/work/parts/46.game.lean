section
variable {X : mj_X} {d : Nat} {σ : mj_St}
theorem mj_lt5 {x : Int32} : (x < 5) = (¬ 4 < x) := by
  apply propext
  rw [Int32.lt_iff_toInt_lt, Int32.lt_iff_toInt_lt]
  have e4 : (4 : Int32).toInt = 4 := by decide
  have e5 : (5 : Int32).toInt = 5 := by decide
  omega
/-- the deal of the reference, ready for a game: figures stand, what one is after is a work -/
def mj_Rdy (σ : mj_St) (N : Nat) : Prop := σ.1 61 0 = nI N ∧ N ≤ 9 ∧ mj_Pw σ ∧ (∀ k, k < N → mj_Mok σ k) ∧ (∀ k, k < N → σ.1 65 k < 5 → σ.1 85 k = nI (mj_wc σ k)) ∧ (∀ k, k < N → ¬ σ.1 69 k = -1 → (σ.1 69 k).toNatClampNeg < N ∧ σ.1 65 (σ.1 69 k).toNatClampNeg < 5) ∧ ∀ k, k < N → σ.1 65 k = 5 → mj_inb (σ.1 68 k) 4 = true
/-- what is left of each, as digits -/
def mj_Dg (l : Nat → Int32) (N : Nat) : Prop := ∀ i, i < N → ∃ n : Nat, n < 5 ∧ l i = nI n
theorem mj_lin_l {l : Nat → Int32} {N k : Nat} (hR : mj_Rdy σ N) (hD : mj_Dg l N) (hk : k < N) (hw : σ.1 65 k < 5) : mj_lin σ (mj_cno σ l N) k = l k := by
  obtain ⟨h0, h9, hP, hok, hfig, -⟩ := hR
  have e : mj_cno σ l N = mj_cno σ (fun i => nI (l i).toNatClampNeg) N := mj_cno_congr (fun i hi _ => by
    obtain ⟨n, h5, hn⟩ := hD i hi
    rw [hn, nI_clamp (by omega)])
  have hd : ∀ i, i < N → (l i).toNatClampNeg < 5 := fun i hi => by
    obtain ⟨n, h5, hn⟩ := hD i hi
    rw [hn, nI_clamp (by omega)]
    exact h5
  rw [e, mj_lin_dec hP (hfig k hk hw) hw hk h9 hd]
  obtain ⟨n, h5, hn⟩ := hD k hk
  rw [hn, nI_clamp (by omega)]
/-- a work may be done, by what is left -/
def mj_Gopn (σ : mj_St) (h o mt : Int32) (l : Nat → Int32) (k : Nat) : Bool := decide (¬ 4 < σ.1 65 k) && (mj_b mt k && (!(mj_b (σ.1 61 46) k) && (mj_cov (σ.1 66 k) (σ.1 67 k) h && (mj_ask (σ.1 70 k) (σ.1 71 k) o && ((decide (σ.1 70 k = -1) || decide (¬ h < σ.1 64 (σ.1 70 k).toNatClampNeg)) &&
  (decide (¬ l k = 0) && (decide (¬ l k = 4) && ((decide (σ.1 69 k = -1) || (mj_b mt (σ.1 69 k).toNatClampNeg && decide (l (σ.1 69 k).toNatClampNeg = 0))) && (!(decide (σ.1 65 k = 3)) || decide (σ.1 74 k - l k = (h - σ.1 66 k) / σ.1 75 k))))))))))
theorem mj_Mopn_l {l : Nat → Int32} {N k : Nat} {h o mt : Int32} (hR : mj_Rdy σ N) (hD : mj_Dg l N) (hk : k < N) : mj_Mopn σ h (mj_cno σ l N) o mt k = mj_Gopn σ h o mt l k := by
  unfold mj_Mopn mj_Gopn
  by_cases c : 4 < σ.1 65 k
  · simp [c]
  · rw [mj_lin_l hR hD hk (by rw [mj_lt5]; exact c)]
    by_cases c2 : σ.1 69 k = -1
    · simp only [c2, decide_true, Bool.true_or]
    · obtain ⟨a1, a2⟩ := hR.2.2.2.2.2.1 k hk c2
      rw [mj_lin_l hR hD a1 a2]
def mj_Gset (σ : mj_St) (h o mt : Int32) (l : Nat → Int32) (n : Nat) : Int32 := mj_it (fun i u => if mj_Gopn σ h o mt l i = true then u ||| 1 <<< (nI i &&& 31) else u) 0 n
theorem mj_oset_l {l : Nat → Int32} {N : Nat} {h o mt : Int32} (hR : mj_Rdy σ N) (hD : mj_Dg l N) : mj_oset σ h (mj_cno σ l N) o mt N = mj_Gset σ h o mt l N := by
  unfold mj_oset mj_Gset
  apply mj_it_congr
  intro i hi u
  rw [mj_Mopn_l hR hD hi]
/-- what is left behind an hour -/
def mj_nxd (σ : mj_St) (h set o mt : Int32) (l : Nat → Int32) (k : Nat) : Int32 := if mj_bhf σ h set o mt (l k) k = true then 4 else mj_bis (l k) (mj_b set k)
def mj_nxl (σ : mj_St) (h set o mt : Int32) (l : Nat → Int32) (n : Nat) : Int32 := mj_it (fun i u => if σ.1 65 i < 5 ∧ mj_bhf σ h set o mt (l i) i = true then u ||| 1 <<< (nI i &&& 31) else u) 0 n
theorem mj_bhd_l {l : Nat → Int32} {N : Nat} {h set o mt : Int32} (hR : mj_Rdy σ N) (hD : mj_Dg l N) : ∀ n, n ≤ N → mj_bhd σ h (mj_cno σ l N) set o mt n = (mj_cno σ (fun i => if i < n then mj_nxd σ h set o mt l i else l i) N, mj_nxl σ h set o mt l n) := by
  intro n
  induction n with
  | zero =>
    intro _
    have e : (fun i => if i < 0 then mj_nxd σ h set o mt l i else l i) = l := by funext i; simp
    rw [e]
    rfl
  | succ n ih =>
    intro hn
    have e1 : mj_bhd σ h (mj_cno σ l N) set o mt (n + 1) = mj_bhk σ h (mj_cno σ l N) set o mt n (mj_bhd σ h (mj_cno σ l N) set o mt n) := rfl
    have e2 : mj_nxl σ h set o mt l (n + 1) = if σ.1 65 n < 5 ∧ mj_bhf σ h set o mt (l n) n = true then mj_nxl σ h set o mt l n ||| 1 <<< (nI n &&& 31) else mj_nxl σ h set o mt l n := rfl
    rw [e1, e2, ih (by omega)]
    unfold mj_bhk
    by_cases c : 4 < σ.1 65 n
    · have c' : ¬ σ.1 65 n < 5 := by rw [mj_lt5]; simpa using c
      rw [if_pos c, if_neg (fun q => c' q.1)]
      congr 1
      apply mj_cno_congr
      intro i hi hw
      have : i ≠ n := fun q => c' (q ▸ hw)
      have e3 : (i < n + 1) = (i < n) := by simp; omega
      simp only [e3]
    · have c' : σ.1 65 n < 5 := by rw [mj_lt5]; exact c
      have hfig := hR.2.2.2.2.1 n (by omega) c'
      have hw9 : mj_wc σ n < 9 := by have := mj_wc_le (σ := σ) n; have := hR.2.1; omega
      rw [if_neg c, mj_lin_l hR hD (by omega) c']
      have e4 : mj_pwk σ n = σ.1 84 (mj_wc σ n) := by
        unfold mj_pwk
        rw [hfig, mj_nz9 hw9 (by decide)]
      have e5 : mj_cno σ (fun i => if i < n + 1 then mj_nxd σ h set o mt l i else l i) N = mj_cno σ (fun i => if i < n then mj_nxd σ h set o mt l i else l i) N + σ.1 84 (mj_wc σ n) * (mj_nxd σ h set o mt l n - l n) := by
        have q := mj_cno_upd (σ := σ) (lv := fun i => if i < n then mj_nxd σ h set o mt l i else l i) (v := mj_nxd σ h set o mt l n) c' N (by omega)
        simp only [Nat.lt_irrefl, if_false] at q
        rw [← q]
        congr 1
        funext i
        by_cases c1 : i = n
        · subst c1; simp
        · have e3 : (i < n + 1) = (i < n) := by simp; omega
          simp only [c1, e3, if_false]
      rw [e5]
      unfold mj_bhe mj_nxd mj_bis
      rw [e4]
      cases hb : mj_bhf σ h set o mt (l n) n
      · cases hs : mj_b set n
        · simp only [c', Bool.false_eq_true, and_false, if_false, if_true]
          congr 1
          grind
        · simp only [c', Bool.false_eq_true, and_false, if_false, if_true]
          congr 1
          grind
      · cases hs : mj_b set n
        · simp only [c', Bool.false_eq_true, and_self, if_false, if_true]
        · simp only [c', Bool.false_eq_true, and_self, if_false, if_true]
          congr 1
          grind
theorem mj_bhd_N {l : Nat → Int32} {N : Nat} {h set o mt : Int32} (hR : mj_Rdy σ N) (hD : mj_Dg l N) : mj_bhd σ h (mj_cno σ l N) set o mt N = (mj_cno σ (mj_nxd σ h set o mt l) N, mj_nxl σ h set o mt l N) := by
  rw [mj_bhd_l hR hD N (Nat.le_refl _)]
  congr 1
  apply mj_cno_congr
  intro i hi _
  rw [if_pos hi]
/-- bits set one after the other -/
def mj_fb (p : Nat → Bool) (n : Nat) : Int32 := mj_it (fun i u => if p i = true then u ||| 1 <<< (nI i &&& 31) else u) 0 n
theorem mj_fb_b {p : Nat → Bool} {k : Nat} (hk : k < 32) : ∀ n, n ≤ 32 → mj_b (mj_fb p n) k = (decide (k < n) && p k) := by
  intro n
  induction n with
  | zero => intro _; simp [mj_fb, mj_it, mj_b_0]
  | succ n ih =>
    intro hn
    have e1 : mj_fb p (n + 1) = if p n = true then mj_fb p n ||| 1 <<< (nI n &&& 31) else mj_fb p n := rfl
    rw [e1]
    by_cases e : k = n
    · subst e
      have := ih (by omega)
      cases hp : p k
      · simp [this]
      · simp [mj_b_or, mj_b_sh1 (show k < 32 by omega) hk]
    · have e3 : (k < n + 1) = (k < n) := by simp; omega
      split
      · rw [mj_b_or, ih (by omega), mj_b_sh1 (by omega) hk]
        simp [e, e3]
      · rw [ih (by omega)]
        simp [e3]
theorem mj_b_lt {a : Int32} {n : Nat} (hn : n < 31) (h : ∀ k, k < 32 → n ≤ k → mj_b a k = false) : ∃ m : Nat, m < 2 ^ n ∧ a = nI m := by
  refine ⟨a.toBitVec.toNat, ?_, ?_⟩
  · apply Nat.lt_pow_two_of_testBit
    intro i hi
    by_cases h32 : i < 32
    · exact h i h32 hi
    · exact Nat.testBit_lt_two_pow (Nat.lt_of_lt_of_le a.toBitVec.isLt (Nat.pow_le_pow_right (by decide) (by omega)))
  · apply Int32.toBitVec_inj.mp
    apply BitVec.eq_of_toNat_eq
    have e2 : (nI a.toBitVec.toNat).toBitVec = BitVec.ofNat 32 a.toBitVec.toNat := rfl
    rw [e2, BitVec.toNat_ofNat, Nat.mod_eq_of_lt a.toBitVec.isLt]
theorem mj_fb_lt {p : Nat → Bool} {n : Nat} (hn : n < 31) : ∃ m : Nat, m < 2 ^ n ∧ mj_fb p n = nI m := by
  apply mj_b_lt hn
  intro k hk hle
  rw [mj_fb_b hk n (by omega)]
  have : ¬ k < n := by omega
  simp [this]
theorem mj_Gset_fb {h o mt : Int32} {l : Nat → Int32} {n : Nat} : mj_Gset σ h o mt l n = mj_fb (mj_Gopn σ h o mt l) n := rfl
/-- digits stay digits -/
theorem mj_nxd_Dg {l : Nat → Int32} {N : Nat} {h set o mt : Int32} (hD : mj_Dg l N) (hs : ∀ i, i < N → mj_b set i = true → ¬ l i = 0) : mj_Dg (mj_nxd σ h set o mt l) N := by
  intro i hi
  obtain ⟨n, h5, hn⟩ := hD i hi
  unfold mj_nxd mj_bis
  split
  · exact ⟨4, by decide, rfl⟩
  · split
    · rename_i hb
      have h0 := hs i hi hb
      rw [hn] at h0 ⊢
      have : n ≠ 0 := fun q => h0 (by rw [q]; rfl)
      obtain ⟨m, rfl⟩ : ∃ m, n = m + 1 := ⟨n - 1, by omega⟩
      exact ⟨m, by omega, nI_pred m⟩
    · exact ⟨n, h5, hn⟩
end
