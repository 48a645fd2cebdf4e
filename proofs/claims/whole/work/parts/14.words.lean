/-! small words for what methods answer -/
def mj_z (b : Bool) : Int32 := if b = true then 1 else 0
theorem mj_z0 {b : Bool} : (mj_z b = 0) = (b = false) := by cases b <;> simp [mj_z]
theorem mj_z1 {b : Bool} : (mj_z b = 1) = (b = true) := by cases b <;> simp [mj_z]
theorem mj_z01 {b : Bool} : (mj_z b = 0 ∨ mj_z b = 1) = True := by cases b <;> simp [mj_z]
theorem mj_zT : mj_z true = 1 := rfl
theorem mj_zF : mj_z false = 0 := rfl
theorem mj_noMk_int {x : Int32} : mj_noMk (.int x) = true := rfl
theorem mj_noMk_long {x : Int64} : mj_noMk (.long x) = true := rfl
theorem mj_noMk_junk : mj_noMk mj_junk = true := rfl
theorem mj_noMk_ref {k : Nat} : mj_noMk (.ref k) = (k != 999) := rfl
theorem mj_cc_v {X : mj_X} {call : mj_Call} {oc : Nat} {ret : Option FieldType} {cc : ByteArray} {pc : Nat} {lo st : List Value} {r : mj_Rs} {b : Bool} {v : Value} {σ τ : mj_St} : mj_cc X call oc ret cc pc lo st r b τ (some (some v, σ)) = ((b = true ∨ σ.2.2.2.2 = τ.2.2.2.2) ∧ mj_Runs X call oc ret cc (pc, lo, v :: st, σ) r) := rfl
theorem mj_cc_n {X : mj_X} {call : mj_Call} {oc : Nat} {ret : Option FieldType} {cc : ByteArray} {pc : Nat} {lo st : List Value} {r : mj_Rs} {b : Bool} {σ τ : mj_St} : mj_cc X call oc ret cc pc lo st r b τ (some (none, σ)) = ((b = true ∨ σ.2.2.2.2 = τ.2.2.2.2) ∧ mj_Runs X call oc ret cc (pc, lo, st, σ) r) := rfl
theorem mj_clamp {x : Int32} (h : ¬ x < 0) : (x.toNatClampNeg : Int) = x.toInt := by
  have b : 0 ≤ x.toInt := Int32.le_iff_toInt_le.mp (Int32.not_lt.mp h)
  show ((x.toInt.toNat : Nat) : Int) = x.toInt
  omega
/-- a range, asked the way javac asks it -/
theorem mj_rng {x n : Int32} {k : Nat} (hn : n.toInt = k) : mj_inb x k = (!(decide (x < 0)) && decide (x < n)) := by
  rw [Bool.eq_iff_iff, mj_in_iff]
  simp only [Bool.and_eq_true, Bool.not_eq_true', decide_eq_false_iff_not, decide_eq_true_eq, not_or]
  constructor
  · rintro ⟨h1, h2⟩
    refine ⟨h1, Int32.lt_iff_toInt_lt.mpr ?_⟩
    have := mj_clamp h1
    omega
  · rintro ⟨h1, h2⟩
    refine ⟨h1, ?_⟩
    have := mj_clamp h1
    have := Int32.lt_iff_toInt_lt.mp h2
    omega
theorem mj_in_nn {x : Int32} {n : Nat} (h : mj_inb x n = true) : ¬ x < 0 := fun q => (mj_in_iff.mp h) (Or.inl q)
theorem mj_in_lt {x : Int32} {n : Nat} (h : mj_inb x n = true) : x.toNatClampNeg < n := Nat.not_le.mp (fun q => (mj_in_iff.mp h) (Or.inr q))
theorem mj_in_nI {k n : Nat} (h : k < n) (hn : n < 2147483648) : mj_inb (nI k) n = true := mj_in_iff.mpr (nI_in h hn)
theorem mj_in_eq {x : Int32} {n : Nat} (h : mj_inb x n = true) (hn : n < 2147483648) : x = nI x.toNatClampNeg := by
  apply Int32.toInt_inj.mp
  have h1 := mj_clamp (mj_in_nn h)
  have h2 := mj_in_lt h
  rw [nI_toInt (by omega)]
  exact h1.symm
-- reading what was written
theorem mj_rI {σ : mj_St} {c i c' i' : Nat} {v : Int32} : (mj_setI σ c i v).1 c' i' = if c' = c ∧ i' = i then v else σ.1 c' i' := rfl
theorem mj_rI2 {σ : mj_St} {c i : Nat} {v : Int32} : (mj_setI σ c i v).2 = σ.2 := rfl
theorem mj_rL1 {σ : mj_St} {c i : Nat} {v : Int64} : (mj_setL σ c i v).1 = σ.1 := rfl
theorem mj_rL {σ : mj_St} {c i c' i' : Nat} {v : Int64} : (mj_setL σ c i v).2.1 c' i' = if c' = c ∧ i' = i then v else σ.2.1 c' i' := rfl
theorem mj_rL2 {σ : mj_St} {c i : Nat} {v : Int64} : (mj_setL σ c i v).2.2 = σ.2.2 := rfl
theorem mj_rR1 {σ : mj_St} {c i : Nat} {v : Option Nat} : (mj_setR σ c i v).1 = σ.1 := rfl
theorem mj_rR2 {σ : mj_St} {c i : Nat} {v : Option Nat} : (mj_setR σ c i v).2.1 = σ.2.1 := rfl
theorem mj_rR {σ : mj_St} {c i c' i' : Nat} {v : Option Nat} : (mj_setR σ c i v).2.2.1 c' i' = if c' = c ∧ i' = i then v else σ.2.2.1 c' i' := rfl
theorem mj_rR3 {σ : mj_St} {c i : Nat} {v : Option Nat} : (mj_setR σ c i v).2.2.2 = σ.2.2.2 := rfl
