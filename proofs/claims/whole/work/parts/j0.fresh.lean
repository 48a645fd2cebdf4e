section
/-- what both constructors leave -/
def mk_z0 (c i : Nat) : Int32 := if c = 0 then (if i = 12 then -1 else 0) else if c = 1 then -1 else if c = 27 ∨ c = 42 ∨ c = 63 then 1 else if c = 44 then (if i = 3 ∨ i = 4 ∨ i = 8 ∨ i = 9 ∨ i = 10 then -1 else 0) else if c = 46 then (if i = 2 then 1 else if i = 9 then -1 else 0) else if c = 59 then (if i = 2 then -1 else 0) else if c = 61 then (if i = 3 ∨ i = 60 then -1 else 0) else if c = 84 then nI (5 ^ i) else 0
def mk_st0 : mj_St := (mk_z0, fun _ _ => 0, fun c i => if c = 44 ∧ i = 0 then some 45 else none, 0, 0)
def mk_D0 (c _i : Nat) : Nat := if c = 27 then 1 else 0
theorem mk_z0_0 {c i : Nat} (h : c = 2 ∨ c = 12 ∨ c = 13 ∨ (14 ≤ c ∧ c ≤ 26) ∨ c = 28 ∨ c = 62 ∨ (64 ≤ c ∧ c ≤ 83) ∨ (85 ≤ c ∧ c ≤ 90)) : mk_z0 c i = 0 := by
  unfold mk_z0
  rw [if_neg (by omega), if_neg (by omega), if_neg (by omega), if_neg (by omega), if_neg (by omega), if_neg (by omega), if_neg (by omega), if_neg (by omega)]
theorem mk_wn0 : mk_wn mk_D0 0 = 0 := rfl
theorem mk_Dl_0 : mk_Dl mk_st0 mk_D0 := by
  have e : ∀ c i, mk_st0.1 c i = mk_z0 c i := fun _ _ => rfl
  refine ⟨⟨rfl, rfl, rfl, rfl, fun i hi => absurd hi (Nat.not_lt_zero i), fun _ _ => rfl, fun _ _ => rfl⟩, ⟨rfl, rfl, rfl, fun i hi => absurd hi (Nat.not_lt_zero i), fun _ _ => rfl, fun _ _ => rfl⟩, ⟨by decide, by decide, by decide, by decide, fun i hi => absurd hi (Nat.not_lt_zero i), fun _ _ => (by decide : (1 : Nat) ≤ 2), fun _ _ => (by decide : (0 : Nat) < 12), by decide, fun i hi => absurd hi (Nat.not_lt_zero i)⟩, fun i hi => ?_, fun i hi => absurd hi (Nat.not_lt_zero i), fun i hi => absurd hi (Nat.not_lt_zero i), rfl, fun i hi => absurd hi (Nat.not_lt_zero i), fun k _ => ⟨?_, ?_, ?_, ?_⟩, fun k hk => absurd hk (Nat.not_lt_zero k)⟩
  · have z : (0 : Nat).testBit i = true := hi
    rw [Nat.zero_testBit] at z
    exact absurd z (by decide)
  · right; rw [e, mk_z0_0 (by omega)]; decide
  · right; rw [e, mk_z0_0 (by omega)]; decide
  · rw [e, mk_z0_0 (by omega)]; decide
  · right; rw [e, mk_z0_0 (by omega)]; decide
theorem mk_Inv_0 {B : Nat} : mk_Inv mk_st0 mk_D0 0 B := by
  have e : ∀ c i, mk_st0.1 c i = mk_z0 c i := fun _ _ => rfl
  refine ⟨mk_Dl_0, fun s hs => ⟨⟨0, by decide, ?_, ?_⟩, Or.inl ⟨rfl, ?_⟩, fun _ _ => rfl⟩, ⟨fun k _ => ?_, rfl, rfl, fun i _ _ => ?_⟩, Or.inl ⟨rfl, rfl⟩, ⟨⟨fun k _ => ?_, fun w _ => rfl⟩, fun p _ => ?_, by decide, by decide⟩, by decide, ?_⟩
  · rw [e, mk_z0_0 (by omega)]; rfl
  · rw [e, mk_z0_0 (by omega)]; rfl
  · rw [e, mk_z0_0 (by omega)]
  · rw [e, e, mk_z0_0 (by omega), mk_z0_0 (by omega)]
  · rw [e, e, mk_z0_0 (by omega), mk_z0_0 (by omega)]
  · rw [e, mk_z0_0 (by omega)]; decide
  · rw [e, mk_z0_0 (by omega)]
    have : mk_st0.1 61 51 = 0 := rfl
    rw [this]
    exact Int.le_refl _
  · show 0 ≤ B + mj_rmB 0
    exact Nat.zero_le _
end
