section
variable {p : Program} {l : Launch} {e : Env} {s : State} {m : MethodId} {below : List Frame} {meth : Method} {c : Code}
variable {G : mj_G} {X : mj_X}
/-- from the loop's first place, with the fresh world, the law comes to its end with 1 -/
theorem lw_head {b L : Nat} {f : Nat → Int32} (fx : mj_FX G X 7 code 4 p s m c) (hstr : mj_Str l G X) (hX : mj_XS X) (hx : X 0 = some (L, f)) (hL : L ≤ 3072) (hr : meth.sig.returnType = ret) (hlocks : meth.locks = false) (hG : G.2.2.2 = s.heap.size)
    {am : Nat} {H : Heap} {locs : List Loc} {cells slots : Nat} {ls : Array Slot} (hRep : mj_Rep G am mk_st0 H) (hS : va_S (mj_A G) s.heap H locs) (hLV : mj_LV G am 4 ls [.ref 1000, .ref 0, .ref 61, .int 0]) (hc : cells ≤ 400000) (hs : slots ≤ 7000000) :
    W p l e room_1 s m #[Value.ref b] below meth c H locs cells slots (lw_Z below #[Value.ref b] s) (F0 m 18 ls []) := by
  obtain ⟨τ, D', R', i, k⟩ := lw_whole (B := 0) (R := 0) hX hx hL mk_Inv_0 (by decide)
  obtain ⟨n, hn⟩ := k 0
  have hu : τ.2.2.2.2 ≤ 110000 := by
    have := i.2.2.2.2.2.2
    unfold mj_Rb at this
    have b := mj_rmB_le (m := τ.2.2.2.1)
    omega
  have r1 : room_1.cells = 600000 := rfl
  have r2 : room_1.slots = 7302250 := rfl
  have hAt := lw_go (p := p) (l := l) (e := e) (below := below) (b := b) (Z := (0, am)) fx (d := 60) (by decide) (by decide) hstr (mj_ev_ok l G X hstr 60) hr hlocks hG n _ hn
  exact hAt.2 am H locs cells slots ls ⟨Nat.le_refl _, fun _ => rfl⟩ hRep hS hLV (by show cells + (τ.2.2.2.2 - 0) ≤ room_1.cells; omega) (by show slots + (τ.2.2.2.2 - 0) ≤ room_1.slots; omega)
end
