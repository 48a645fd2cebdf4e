section
variable {s : State} {b : Nat}
theorem lw_TB (hts : ∀ w ∈ lw_tbl, w.before #[Value.ref b] s = true) : mj_TB s := fun w hw ho a => by
  rcases mj_okw_on w ho with hon | ⟨ty, rfl⟩
  · exact va_tabs hon (u := s) rfl (hts w hw)
  · exact hts _ hw
/-- the classes and the array classes, as the start has them -/
theorem lw_K0 (hts : ∀ w ∈ lw_tbl, w.before #[Value.ref b] s = true) : ∃ (D : va_G) (cI cZ cJ : ClassId), va_K D mj_classes (cs_t cI cZ cJ) s := by
  have ht1 : ∀ w ∈ tables_1, w.before #[Value.ref b] s = true := fun w hw => hts w (mj_mt hw)
  obtain ⟨c0, i0, k0⟩ := u_known (ws := tables_1) ht1 mi0 (hts (.instantiable mr0 4) (mj_mt (by decide +kernel)))
  obtain ⟨c1, i1, k1⟩ := u_known (ws := tables_1) ht1 mi1 (hts (.instantiable mr1 19) (mj_mt (by decide +kernel)))
  obtain ⟨c2, i2, k2⟩ := u_known (ws := tables_1) ht1 mi2 (hts (.instantiable mr2 14) (mj_mt (by decide +kernel)))
  obtain ⟨c3, i3, k3⟩ := u_known (ws := tables_1) ht1 mi3 (hts (.instantiable mr3 20) (mj_mt (by decide +kernel)))
  obtain ⟨c4, i4, k4⟩ := u_known (ws := tables_1) ht1 mi4 (hts (.instantiable mr4 3) (mj_mt (by decide +kernel)))
  obtain ⟨c5, i5, k5⟩ := u_known (ws := tables_1) ht1 mi5 (hts (.instantiable mr5 14) (mj_mt (by decide +kernel)))
  obtain ⟨c6, i6, k6⟩ := u_known (ws := tables_1) ht1 mi6 (hts (.instantiable mr6 64) (mj_mt (by decide +kernel)))
  obtain ⟨cI, kI, pI, a1, a2, a3⟩ := Cond.arrayClass_spec (hts _ cs_wI)
  obtain ⟨cZ, kZ, pZ, b1, b2, b3⟩ := Cond.arrayClass_spec (hts _ cs_wZ)
  obtain ⟨cJ, kJ, pJ, d1, d2, d3⟩ := Cond.arrayClass_spec (hts _ mj_wJ)
  refine ⟨((fun c => match c with | 0 => c0 | 1 => c1 | 2 => c2 | 3 => c3 | 4 => c4 | 5 => c5 | _ => c6), (fun c => match c with | 0 => i0 | 1 => i1 | 2 => i2 | 3 => i3 | 4 => i4 | 5 => i5 | _ => i6)), cI, cZ, cJ, fun c q hq => ?_, fun k q hq => ?_⟩
  · have hc : c < 7 := (List.getElem?_eq_some_iff.mp hq).1
    have : c = 0 ∨ c = 1 ∨ c = 2 ∨ c = 3 ∨ c = 4 ∨ c = 5 ∨ c = 6 := by omega
    rcases this with z | z | z | z | z | z | z <;> subst z <;> cases hq
    · exact k0
    · exact k1
    · exact k2
    · exact k3
    · exact k4
    · exact k5
    · exact k6
  · have hc : k < 3 := (List.getElem?_eq_some_iff.mp hq).1
    have : k = 0 ∨ k = 1 ∨ k = 2 := by omega
    rcases this with z | z | z <;> subst z <;> cases hq
    · exact ⟨fun N z => ⟨(fun q hq => by cases hq), kI, a2, pI, a3⟩, a1⟩
    · exact ⟨fun N z => ⟨(fun q hq => by cases hq), kZ, b2, pZ, b3⟩, b1⟩
    · exact ⟨fun N z => ⟨(fun q hq => by cases hq), kJ, d2, pJ, d3⟩, d1⟩
/-- where all lies -/
def lw_adr (q1 q2 : Nat) (r1 r2 : Nat → Nat) (b t1 t2 : Nat) (adK adV : Nat → Nat) (k : Nat) : Nat :=
  if k < 61 then (if k = 0 then q1 else if 4 ≤ k ∧ k < 12 then r1 3 + (k - 3) else r1 k) else if k < 91 then (if k = 61 then q2 else r2 (k - 61)) else if k < 1100 then (if k = 1000 then b else if k = 1001 then t1 else t2) else if k < 1200 then adK (k - 1100) else adV (k - 1200)
section AD
variable {q1 q2 t1 t2 : Nat} {r1 r2 adK adV : Nat → Nat}
theorem lw_adrK {j : Nat} (h : j < 15) : lw_adr q1 q2 r1 r2 b t1 t2 adK adV (1100 + j) = adK j := by
  unfold lw_adr
  rw [if_neg (by omega), if_neg (by omega), if_neg (by omega), if_pos (by omega), Nat.add_sub_cancel_left]
theorem lw_adrV {j : Nat} : lw_adr q1 q2 r1 r2 b t1 t2 adK adV (1200 + j) = adV j := by
  unfold lw_adr
  rw [if_neg (by omega), if_neg (by omega), if_neg (by omega), if_neg (by omega), Nat.add_sub_cancel_left]
end AD
def lw_srW : Bool := mj_strL.all (fun e => decide (Cond.stringRef "KeptPromises$Reader" e.1 e.2.1 ∈ tables_1))
theorem lw_srOk : lw_srW = true := by decide +kernel
theorem lw_SR {G : mj_G} {adK : Nat → Nat} (hts : ∀ w ∈ lw_tbl, w.before #[Value.ref b] s = true) (hG : ∀ j, j < 15 → G.2.1 (1100 + j) = adK j) (h : ∀ i : Nat, i < 15 → (lw_tm i).eval #[Value.ref b] s none [] s = some (.ref (adK i))) : mj_SR G s := by
  intro j e he
  have hj : j < 15 := (List.getElem?_eq_some_iff.mp he).1
  have hw := of_decide_eq_true (List.all_eq_true.mp lw_srOk e (List.mem_of_getElem? he))
  have h2 := h j hj
  unfold lw_tm at h2
  rw [List.getD_eq_getElem?_getD, he] at h2
  rw [hG j hj]
  exact vk_R.of (hts _ (mj_mt hw)) h2
/-- the arrays and texts outside the world -/
theorem lw_Ext {G : mj_G} {L : Nat} {xs : Nat → Int32} {t1 t2 : Nat} {adK adV : Nat → Nat} (hL : L ≤ 3072) (hX : va_X b L xs s s.heap) (hbl : b < s.heap.size) (hA : ∀ a : Nat, a < s.heap.size → ¬ mj_A G a)
    (g0 : G.2.1 1000 = b) (g1 : G.2.1 1001 = t1) (g2 : G.2.1 1002 = t2) (gK : ∀ j, j < 15 → G.2.1 (1100 + j) = adK j) (gV : ∀ j, G.2.1 (1200 + j) = adV j)
    (hs1 : va_Z "KeptPromises$Search" "SETS" "[I" (.ref t1) (mj_A G) s s.heap) (ht1 : va_T .int t1 22 (fun k => .int (nI (mj_sK k))) (mj_A G) s s.heap)
    (hs2 : va_Z "KeptPromises$Search" "TAKES" "[I" (.ref t2) (mj_A G) s s.heap) (ht2 : va_T .int t2 22 (fun k => .int (nI (mj_tK k))) (mj_A G) s s.heap)
    (hc : va_Z "java/lang/String" "COMPACT_STRINGS" "Z" (.int 1) (mj_A G) s s.heap) (hq : va_Zq "jdk/internal/util/Preconditions" "SIOOBE_FORMATTER" "Ljava/util/function/BiFunction;" (mj_A G) s s.heap)
    (hV : vk_S 15 mj_sLen mj_sByt adK adV (mj_A G) s s.heap) : mj_Ext G (lw_X L xs) s s.heap := by
  refine ⟨fun e n f he => ?_, by rw [g1]; exact hs1, by rw [g2]; exact hs2, fun j hj => by rw [gK j hj]; exact (hV.1 j hj).1, hc, ⟨fun i hi => ?_, fun i j hi hj h => ?_⟩, hq⟩
  · unfold lw_X at he
    by_cases e0 : e = 0
    · rw [if_pos e0] at he
      cases he
      subst e0
      show va_T .int (G.2.1 1000) L (fun j => .int (xs j)) (mj_A G) s s.heap
      rw [g0]
      obtain ⟨scr, h1, h2, h3, h4, h5⟩ := hX
      exact ⟨scr, h1, h2, h3, Nat.le_of_eq h4.symm, by rw [h4], h5, hA b hbl⟩
    · rw [if_neg e0] at he
      by_cases e1 : e = 1
      · rw [if_pos e1] at he
        cases he
        subst e1
        show va_T .int (G.2.1 1001) 22 (fun j => .int (nI (mj_sK j))) (mj_A G) s s.heap
        rw [g1]
        exact ht1
      · rw [if_neg e1] at he
        by_cases e2 : e = 2
        · rw [if_pos e2] at he
          cases he
          subst e2
          show va_T .int (G.2.1 1002) 22 (fun j => .int (nI (mj_tK j))) (mj_A G) s s.heap
          rw [g2]
          exact ht2
        · rw [if_neg e2] at he
          cases he
  · have := hV.1 i hi
    simp only [gK i hi, gV i]
    exact this
  · simp only [gK i hi, gK j hj] at h
    exact hV.2 i j hi hj h
theorem cs_setQ {cl : List vw_C} {A : Nat → Prop} {H : Heap} {D : va_G} {ws : va_W} {q0 a n : Nat} {cA : ClassId} {f g : Nat → Option Nat} (he : ws[q0]? = some (a, .inl (cA, n, .inr (.inr (.inr (.inr f)))))) (h : ∀ j, j < n → f j = g j) (hP : va_P D cl ws H) (hD : va_D A ws) : va_P D cl (ws.set q0 (a, .inl (cA, n, .inr (.inr (.inr (.inr g)))))) H ∧ va_D A (ws.set q0 (a, .inl (cA, n, .inr (.inr (.inr (.inr g)))))) := by
  have hc : vp_cell cA (n, .inr (.inr (.inr (.inr f)))) = vp_cell cA (n, .inr (.inr (.inr (.inr g)))) := by
    show ({ cls := cA, slots := Array.ofFn (n := n) fun j => va_rf (f j.val), vm := .none } : Cell) = { cls := cA, slots := Array.ofFn (n := n) fun j => va_rf (g j.val), vm := .none }
    congr 2
    funext j
    rw [h j.val j.isLt]
  refine ⟨fun k q hk => ?_, hD.set he⟩
  rw [List.getElem?_set] at hk
  split at hk
  · rename_i hq
    subst hq
    split at hk
    · cases hk
      have h1 := hP q0 _ he
      show H[a]? = some (vp_cell cA (n, .inr (.inr (.inr (.inr g)))))
      rw [← hc]
      exact h1
    · cases hk
  · exact hP k q hk
end
