section
theorem lw_pow : ∀ j, j < 9 → (upd (upd (upd (upd (upd (upd (upd (upd (upd (fun _ => 0) 0 1) 1 5) 2 25) 3 125) 4 625) 5 3125) 6 15625) 7 78125) 8 390625) j = mk_z0 84 j := by decide +kernel
theorem lw_out (r1 : Nat → Nat) (a : Nat → Nat) (h : ∀ k, 4 ≤ k → k < 12 → a k = r1 3 + (k - 3)) : ∀ j, j < 8 → (fun i => if i < 8 then some (r1 3 + 1 + i) else none) j = (([4, 5, 6, 7, 8, 9, 10, 11] : List Nat)[j]?).map a := by
  intro j hj
  have : j = 0 ∨ j = 1 ∨ j = 2 ∨ j = 3 ∨ j = 4 ∨ j = 5 ∨ j = 6 ∨ j = 7 := by omega
  rcases this with z | z | z | z | z | z | z | z <;> subst z
  · show some _ = some (a 4); rw [h 4 (by decide) (by decide)]
  · show some _ = some (a 5); rw [h 5 (by decide) (by decide)]
  · show some _ = some (a 6); rw [h 6 (by decide) (by decide)]
  · show some _ = some (a 7); rw [h 7 (by decide) (by decide)]
  · show some _ = some (a 8); rw [h 8 (by decide) (by decide)]
  · show some _ = some (a 9); rw [h 9 (by decide) (by decide)]
  · show some _ = some (a 10); rw [h 10 (by decide) (by decide)]
  · show some _ = some (a 11); rw [h 11 (by decide) (by decide)]
set_option maxHeartbeats 8000000 in
set_option maxRecDepth 200000 in
/-- the two systems, as their constructors leave them, are the world at mk_st0 -/
theorem lw_Rep {D : va_G} {cI cZ cJ cQ cQ2 : ClassId} {q1 q2 b t1 t2 sz : Nat} {r1 r2 adK adV : Nat → Nat} {H : Heap} (hP : va_P D mj_classes (cs_WKP cI cZ cJ q1 r1 cQ ++ cs_WModel cI cZ cJ q2 r2 cQ2) H) (hD : va_D (fun q => sz ≤ q) (cs_WKP cI cZ cJ q1 r1 cQ ++ cs_WModel cI cZ cJ q2 r2 cQ2)) :
    mj_Rep (D, lw_adr q1 q2 r1 r2 b t1 t2 adK adV, (fun k => match k with | 0 => cI | 1 => cZ | 2 => cJ | _ => cQ), sz) (r1 61) mk_st0 H := by
  obtain ⟨hP, hD⟩ := cs_setI (q0 := 85) (g := mk_z0 84) (a := r2 23) (cA := cI) (n := 9) (f := upd (upd (upd (upd (upd (upd (upd (upd (upd (fun _ => 0) 0 1) 1 5) 2 25) 3 125) 4 625) 5 3125) 6 15625) 7 78125) 8 390625) rfl lw_pow hP hD
  obtain ⟨hP, hD⟩ := cs_setQ (q0 := 3) (a := r1 3) (cA := cQ) (n := 8) (f := fun i => if i < 8 then some (r1 3 + 1 + i) else none) (g := fun j => (([4, 5, 6, 7, 8, 9, 10, 11] : List Nat)[j]?).map (lw_adr q1 q2 r1 r2 b t1 t2 adK adV)) rfl (lw_out r1 _ (fun k h1 h2 => by
    unfold lw_adr
    rw [if_pos (by omega), if_neg (by omega), if_pos ⟨h1, h2⟩])) hP hD
  unfold mj_Rep
  rw [cs_ws0]
  have hP : va_P D mj_classes ((cs_KG (D, lw_adr q1 q2 r1 r2 b t1 t2 adK adV, (fun k => match k with | 0 => cI | 1 => cZ | 2 => cJ | _ => cQ), sz) (r1 61) ++ cs_mkG (D, lw_adr q1 q2 r1 r2 b t1 t2 adK adV, (fun k => match k with | 0 => cI | 1 => cZ | 2 => cJ | _ => cQ), sz) (r1 61)) ++ cs_MG (D, lw_adr q1 q2 r1 r2 b t1 t2 adK adV, (fun k => match k with | 0 => cI | 1 => cZ | 2 => cJ | _ => cQ), sz) (r1 61)) H := hP
  have hD : va_D (fun q => sz ≤ q) ((cs_KG (D, lw_adr q1 q2 r1 r2 b t1 t2 adK adV, (fun k => match k with | 0 => cI | 1 => cZ | 2 => cJ | _ => cQ), sz) (r1 61) ++ cs_mkG (D, lw_adr q1 q2 r1 r2 b t1 t2 adK adV, (fun k => match k with | 0 => cI | 1 => cZ | 2 => cJ | _ => cQ), sz) (r1 61)) ++ cs_MG (D, lw_adr q1 q2 r1 r2 b t1 t2 adK adV, (fun k => match k with | 0 => cI | 1 => cZ | 2 => cJ | _ => cQ), sz) (r1 61)) := hD
  exact ⟨hP.swap, hD.swap⟩
end
