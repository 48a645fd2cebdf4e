/-! sets as bits -/
def mj_b (m : Int32) (k : Nat) : Bool := m.toBitVec.getLsbD k
theorem mj_b_ext {a b : Int32} (h : ∀ k, k < 32 → mj_b a k = mj_b b k) : a = b := by
  apply Int32.toBitVec_inj.mp
  apply BitVec.eq_of_getLsbD_eq
  intro i hi
  exact h i hi
theorem mj_b_or {a b : Int32} {k : Nat} : mj_b (a ||| b) k = (mj_b a k || mj_b b k) := by
  unfold mj_b
  rw [Int32.toBitVec_or, BitVec.getLsbD_or]
theorem mj_b_and {a b : Int32} {k : Nat} : mj_b (a &&& b) k = (mj_b a k && mj_b b k) := by
  unfold mj_b
  rw [Int32.toBitVec_and, BitVec.getLsbD_and]
theorem mj_b_xor {a b : Int32} {k : Nat} : mj_b (a ^^^ b) k = (mj_b a k ^^ mj_b b k) := by
  unfold mj_b
  rw [Int32.toBitVec_xor, BitVec.getLsbD_xor]
theorem mj_b_0 {k : Nat} : mj_b 0 k = false := by
  unfold mj_b
  rw [Int32.toBitVec_zero]
  exact BitVec.getLsbD_zero
theorem mj_b_big {a : Int32} {k : Nat} (h : 32 ≤ k) : mj_b a k = false := BitVec.getLsbD_of_ge _ _ h
theorem mj_b_m1 {k : Nat} (h : k < 32) : mj_b (-1) k = true := by
  have : ∀ k : Nat, k < 32 → mj_b (-1) k = true := by decide +kernel
  exact this k h
theorem mj_b_not {a : Int32} {k : Nat} (h : k < 32) : mj_b (a ^^^ -1) k = !(mj_b a k) := by
  rw [mj_b_xor, mj_b_m1 h, Bool.xor_true]
theorem mj_and31 {k : Nat} (h : k < 32) : nI k &&& 31 = nI k := by
  have : ∀ k : Nat, k < 32 → nI k &&& 31 = nI k := by decide +kernel
  exact this k h
theorem mj_b_sh1 {j k : Nat} (hj : j < 32) (hk : k < 32) : mj_b (1 <<< (nI j &&& 31)) k = decide (k = j) := by
  have : ∀ j : Nat, j < 32 → ∀ k : Nat, k < 32 → mj_b (1 <<< (nI j &&& 31)) k = decide (k = j) := by decide +kernel
  exact this j hj k hk
theorem mj_b_1 {k : Nat} (hk : k < 32) : mj_b 1 k = decide (k = 0) := by
  have : ∀ k : Nat, k < 32 → mj_b 1 k = decide (k = 0) := by decide +kernel
  exact this k hk
theorem mj_b_shr {m : Int32} {j k : Nat} (hj : j < 32) (hk : j + k < 32) : mj_b (m >>> (nI j &&& 31)) k = mj_b m (j + k) := by
  have e : (nI j).toBitVec.smod 32 = BitVec.ofNat 32 j := by
    have : ∀ j : Nat, j < 32 → (nI j).toBitVec.smod 32 = BitVec.ofNat 32 j := by decide +kernel
    exact this j hj
  unfold mj_b
  rw [mj_and31 hj, Int32.toBitVec_shiftRight, e]
  show ((m.toBitVec).sshiftRight (BitVec.ofNat 32 j).toNat).getLsbD k = _
  rw [BitVec.toNat_ofNat, Nat.mod_eq_of_lt (by omega), BitVec.getLsbD_sshiftRight, if_pos (by omega), show decide (32 ≤ k) = false from decide_eq_false (by omega)]
  rfl
theorem mj_b_and1 {a : Int32} : (a &&& 1 = 0) = (mj_b a 0 = false) := by
  apply propext
  constructor
  · intro h
    have := congrArg (fun x => mj_b x 0) h
    simp only [mj_b_and, mj_b_0, mj_b_1 (show 0 < 32 by decide)] at this
    simpa using this
  · intro h
    apply mj_b_ext
    intro k hk
    rw [mj_b_and, mj_b_0, mj_b_1 hk]
    by_cases q : k = 0
    · subst q
      simp [h]
    · simp [q]
theorem mj_b_and1' {a : Int32} : a &&& 1 = mj_z (mj_b a 0) := by
  apply mj_b_ext
  intro k hk
  rw [mj_b_and, mj_b_1 hk]
  by_cases q : k = 0
  · subst q
    cases mj_b a 0 <;> simp [mj_z, mj_b_0, mj_b_1]
  · cases mj_b a 0 <;> simp [mj_z, mj_b_0, mj_b_1 hk, q]
/-- the test of a bit, as javac writes it -/
theorem mj_bt {m : Int32} {j : Nat} (hj : j < 32) : (m >>> (nI j &&& 31)) &&& 1 = mj_z (mj_b m j) := by
  rw [mj_b_and1', mj_b_shr hj (by omega), Nat.add_zero]
theorem mj_b_eq0 {a : Int32} : (a = 0) = (∀ k, k < 32 → mj_b a k = false) := by
  apply propext
  constructor
  · rintro rfl k _
    exact mj_b_0
  · intro h
    apply mj_b_ext
    intro k hk
    rw [mj_b_0]
    exact h k hk
/-- all below n -/
theorem mj_b_all {n k : Nat} (hn : n < 32) (hk : k < 32) : mj_b ((1 <<< (nI n &&& 31)) - 1) k = decide (k < n) := by
  have : ∀ n : Nat, n < 32 → ∀ k : Nat, k < 32 → mj_b ((1 <<< (nI n &&& 31)) - 1) k = decide (k < n) := by decide +kernel
  exact this n hn k hk
