section
/-- the arrays outside the world: the script, SETS, TAKES -/
def lw_X (L : Nat) (xs : Nat → Int32) : mj_X := fun e => if e = 0 then some (L, xs) else if e = 1 then some (22, fun k => nI (mj_sK k)) else if e = 2 then some (22, fun k => nI (mj_tK k)) else none
theorem lw_XS {L : Nat} {xs : Nat → Int32} : mj_XS (lw_X L xs) := ⟨⟨fun k => nI (mj_sK k), rfl, fun _ _ => rfl⟩, fun k => nI (mj_tK k), rfl, fun _ _ => rfl⟩
theorem lw_X0 {L : Nat} {xs : Nat → Int32} : lw_X L xs 0 = some (L, xs) := rfl
end
