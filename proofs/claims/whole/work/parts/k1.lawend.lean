section
variable {p : Program} {l : Launch} {e : Env} {R : Room} {s : State} {m : MethodId} {args : Array Value} {below : List Frame} {meth : Method} {c : Code} {Q : State → Prop}
variable {G : mj_G} {X : mj_X} {nL F : Nat} {Z : Nat × Nat}
/-- the law's own end, wherever it comes with 1 -/
theorem lw_end_at {call : mj_Call} {oc' : Nat} {pc : Nat} {lo st : List Value} {σ τ : mj_St} {b : Nat} (fx : mj_FX G X 7 code 4 p s m c) (hr : meth.sig.returnType = ret) (hlocks : meth.locks = false) (hG : G.2.2.2 = s.heap.size)
    (h : mj_step X call 7 ret code (pc, lo, st, σ) = some (.inr (some (.int 1), τ))) : mj_At G 4 τ.2.2.2.2 Z p l e room_1 s m #[Value.ref b] below meth c (lw_Z below #[Value.ref b] s) (pc, lo, st, σ) := by
  obtain ⟨hx, hb, hml, hown, hTB, hK, hE, hbase, hSR⟩ := fx
  unfold mj_step at h
  split at h
  · exact absurd h mj_nr_mkn
  · rename_i i n hne hdg
    clear hne
    simp only at hdg h
    have key := mj_ret_key h
    rcases key with ⟨x, rfl, rfl, rfl, hret, hv, rfl⟩ | ⟨x, rfl, rfl, rfl, hret, hv, rfl⟩ | ⟨rfl, rfl, rfl, hret, hv, rfl⟩
    · have hx1 : x = 1 := (Value.int.inj (Option.some.inj hv)).symm
      subst hx1
      refine ⟨Nat.le_refl _, fun am H locs cells slots ls hZ hR hS hL h1 h2 => ?_⟩
      simp only at h1 h2
      have r1 : room_1.cells = 600000 := rfl
      have r2 : room_1.slots = 7302250 := rfl
      refine W.forget (locs := []) (L := locs) (fun q hq => by rw [← hG]; exact hS.2.2 q hq) ?_
      refine W.widen (k := 600000) (n := 7302250) (by omega) (by omega) ?_
      exact lw_ret hx hb hr hlocks hdg
    · exact absurd hv (by intro q; cases q)
    · exact absurd hv (by intro q; cases q)
  · cases h
/-- a run of the law that ends with 1 -/
theorem lw_go {call : mj_Call} {τ : mj_St} {b : Nat} (fx : mj_FX G X 7 code 4 p s m c) {d : Nat} (hRf : d + 21 ≤ room_1.frames) (hRl : 64 * (d + 1) + 2000 ≤ room_1.locals) (hstr : mj_Str l G X) (hcall : ∀ mid as σ v σ', call mid as σ = some (v, σ') → mj_MetOk l G X d mid as σ v σ') (hr : meth.sig.returnType = ret) (hlocks : meth.locks = false) (hG : G.2.2.2 = s.heap.size) :
    ∀ (n : Nat) (cf : mj_Cf), mj_go X call 7 ret code n cf = some (some (.int 1), τ) → mj_At G 4 τ.2.2.2.2 Z p l e room_1 s m #[Value.ref b] below meth c (lw_Z below #[Value.ref b] s) cf := by
  intro n
  induction n with
  | zero => intro cf h; cases h
  | succ n ih =>
    intro cf h
    obtain ⟨pc, lo, st, σ⟩ := cf
    unfold mj_go at h
    split at h
    · rename_i c' hc
      exact mj_step_sound fx hRf hRl hstr hcall hc (ih c' h)
    · rename_i r hc
      cases h
      exact lw_end_at (oc' := 7) fx hr hlocks hG hc
    · cases h
end
