section
variable {X : mj_X} {σ : mj_St} {D : Nat → Nat → Nat} {R B L n : Nat} {f : Nat → Int32}
/-- the end of a round -/
theorem lw_end {call : mj_Call} {τ : mj_St} {r : mj_Rs} (h : qLW X call (18, [.ref 1000, .ref 0, .ref 61, .int (nI (n + 6))], [], τ) r) : qLW X call (1366, [.ref 1000, .ref 0, .ref 61, .int (nI n)], [], τ) r := by
  have e6 : nI n + 6 = nI (n + 6) := nI_add n 6
  simp only [uLW_1366, uLW_1369, e6]
  exact h
/-- a round of the loop: both sides answer alike, and the invariant stands -/
theorem lw_round (hX : mj_XS X) (hx : X 0 = some (L, f)) (hL : L ≤ 3072) (hn : n + 6 ≤ L) (hR : R + 512 < 2147483648) (h : mk_Inv σ D R B) :
    ∃ τ D', mk_Inv τ D' (R + 512) B ∧ ∀ d r, qLW X (mj_ev X (d + 60)) (18, [.ref 1000, .ref 0, .ref 61, .int (nI (n + 6))], [], τ) r → qLW X (mj_ev X (d + 60)) (18, [.ref 1000, .ref 0, .ref 61, .int (nI n)], [], σ) r := by
  have e0 : ∀ (σ : mj_St) (P : Int32 → Prop), mj_kI X σ 1000 (nI n) P = P (f n) := fun σ P => lw_kI hx (by omega) hL
  have eN : ∀ (σ : mj_St) (P : Int32 → Prop), mj_kN X σ 1000 P = P (nI L) := fun σ P => lw_kN hx
  have e6 : nI L - 6 = nI (L - 6) := mj_nI_sub (a := L) (b := 6) (by omega)
  have ng : ¬ nI (L - 6) < nI n := nI_nlt (by omega) (by omega)
  have hd : ∀ (σ : mj_St) (d : Nat) (r : mj_Rs), qLW X (mj_ev X (d + 60)) (33, [.ref 1000, .ref 0, .ref 61, .int (nI n)], [.int (f n &&& 63)], σ) r → qLW X (mj_ev X (d + 60)) (18, [.ref 1000, .ref 0, .ref 61, .int (nI n)], [], σ) r := fun σ d r h => by
    simp only [uLW_18, uLW_19, uLW_20, uLW_21, uLW_23, uLW_24, uLW_27, uLW_28, uLW_29, uLW_30, uLW_32, eN, e6, e0, ng, if_false]
    exact h
  by_cases c0 : f n &&& 63 = 0
  · have z : mk_Cl X σ R B 1 156 [.int (f (n + 1)), .int (f (n + 2)), .int (f (n + 3))] := cl_row h
    obtain ⟨v, ρ, τ, D', i1, hc, hm⟩ := z
    refine ⟨τ, D', i1, fun d r hr => hd _ _ _ ?_⟩
    simp only [uLW_33, c0]
    simp (config := {decide := true}) only [if_true, if_false]
    exact lw_c0 hx hL hn (hc d) (hm d) (lw_end hr)
  by_cases c1 : f n &&& 63 = 1
  · have z : mk_Cl X σ R B 5 159 [.int (f (n + 1)), .int (f (n + 2)), .long ((f (n + 3)).toInt64 <<< ((32 : Int32).toInt64 &&& 63) ||| (f (n + 4)).toInt64 &&& 4294967295)] := cl_set h
    obtain ⟨v, ρ, τ, D', i1, hc, hm⟩ := z
    refine ⟨τ, D', i1, fun d r hr => hd _ _ _ ?_⟩
    simp only [uLW_33, c1]
    simp (config := {decide := true}) only [if_true, if_false]
    exact lw_c1 hx hL hn (hc d) (hm d) (lw_end hr)
  by_cases c2 : f n &&& 63 = 2
  · have z : mk_Cl X σ R B 8 160 [.int (f (n + 1)), .int (f (n + 2)), .int (f (n + 3)), .int (f (n + 4)), .int (f (n + 5))] := cl_copy h
    obtain ⟨v, ρ, τ, D', i1, hc, hm⟩ := z
    refine ⟨τ, D', i1, fun d r hr => hd _ _ _ ?_⟩
    simp only [uLW_33, c2]
    simp (config := {decide := true}) only [if_true, if_false]
    exact lw_c2 hx hL hn (hc d) (hm d) (lw_end hr)
  by_cases c3 : f n &&& 63 = 3
  · obtain ⟨v, hc, hm⟩ := cl_element (X := X) (s := f (n + 1)) (i := f (n + 2)) h
    refine ⟨σ, D, mk_Inv_R h (Nat.le_add_right _ _), fun d r hr => hd _ _ _ ?_⟩
    simp only [uLW_33, c3]
    simp (config := {decide := true}) only [if_true, if_false]
    exact lw_c3 hx hL hn (hc d) (hm d) (lw_end hr)
  by_cases c4 : f n &&& 63 = 4
  · have z : mk_Cl X σ R B 12 162 [.int (f (n + 1)), .int (f (n + 2))] := cl_put h
    obtain ⟨v, ρ, τ, D', i1, hc, hm⟩ := z
    refine ⟨τ, D', i1, fun d r hr => hd _ _ _ ?_⟩
    simp only [uLW_33, c4]
    simp (config := {decide := true}) only [if_true, if_false]
    exact lw_c4 hx hL hn (hc d) (hm d) (lw_end hr)
  by_cases c5 : f n &&& 63 = 5
  · have z : mk_Cl X σ R B 14 164 [.int (f (n + 1))] := cl_holds h
    obtain ⟨v, ρ, τ, D', i1, hc, hm⟩ := z
    refine ⟨τ, D', i1, fun d r hr => hd _ _ _ ?_⟩
    simp only [uLW_33, c5]
    simp (config := {decide := true}) only [if_true, if_false]
    exact lw_c5 hx hL hn (hc d) (hm d) (lw_end hr)
  by_cases c6 : f n &&& 63 = 6
  · have z : mk_Cl X σ R B 15 165 [.int (f (n + 1)), .int (f (n + 2))] := cl_says h
    obtain ⟨v, ρ, τ, D', i1, hc, hm⟩ := z
    refine ⟨τ, D', i1, fun d r hr => hd _ _ _ ?_⟩
    simp only [uLW_33, c6]
    simp (config := {decide := true}) only [if_true, if_false]
    exact lw_c6 hx hL hn (hc d) (hm d) (lw_end hr)
  by_cases c7 : f n &&& 63 = 7
  · have z : mk_Cl X σ R B 19 166 [.int (f (n + 1))] := cl_promise h
    obtain ⟨v, ρ, τ, D', i1, hc, hm⟩ := z
    refine ⟨τ, D', i1, fun d r hr => hd _ _ _ ?_⟩
    simp only [uLW_33, c7]
    simp (config := {decide := true}) only [if_true, if_false]
    exact lw_c7 hx hL hn (hc d) (hm d) (lw_end hr)
  by_cases c8 : f n &&& 63 = 8
  · have z : mk_Cl X σ R B 42 183 [] := cl_fault h
    obtain ⟨v, ρ, τ, D', i1, hc, hm⟩ := z
    refine ⟨τ, D', i1, fun d r hr => hd _ _ _ ?_⟩
    simp only [uLW_33, c8]
    simp (config := {decide := true}) only [if_true, if_false]
    exact lw_c8 hx hL hn (hc d) (hm d) (lw_end hr)
  by_cases c9 : f n &&& 63 = 9
  · have z : mk_Cl X σ R B 43 184 [.int (f (n + 1)), .int (f (n + 2))] := cl_promiseOf h
    obtain ⟨v, ρ, τ, D', i1, hc, hm⟩ := z
    refine ⟨τ, D', i1, fun d r hr => hd _ _ _ ?_⟩
    simp only [uLW_33, c9]
    simp (config := {decide := true}) only [if_true, if_false]
    exact lw_c9 hx hL hn (hc d) (hm d) (lw_end hr)
  by_cases c10 : f n &&& 63 = 10
  · have z : mk_Cl X σ R B 44 185 [.int (f (n + 1)), .int (f (n + 2))] := cl_hands h
    obtain ⟨v, ρ, τ, D', i1, hc, hm⟩ := z
    refine ⟨τ, D', i1, fun d r hr => hd _ _ _ ?_⟩
    simp only [uLW_33, c10]
    simp (config := {decide := true}) only [if_true, if_false]
    exact lw_c10 hx hL hn (hc d) (hm d) (lw_end hr)
  by_cases c11 : f n &&& 63 = 11
  · have z : mk_Cl X σ R B 46 186 [.int (f (n + 1)), .int (f (n + 2))] := cl_known h
    obtain ⟨v, ρ, τ, D', i1, hc, hm⟩ := z
    refine ⟨τ, D', i1, fun d r hr => hd _ _ _ ?_⟩
    simp only [uLW_33, c11]
    simp (config := {decide := true}) only [if_true, if_false]
    exact lw_c11 hx hL hn (hc d) (hm d) (lw_end hr)
  by_cases c12 : f n &&& 63 = 12
  · have z : mk_Cl X σ R B 48 187 [.int (f (n + 1)), .int (f (n + 2))] := cl_turn h
    obtain ⟨v, ρ, τ, D', i1, hc, hm⟩ := z
    refine ⟨τ, D', i1, fun d r hr => hd _ _ _ ?_⟩
    simp only [uLW_33, c12]
    simp (config := {decide := true}) only [if_true, if_false]
    exact lw_c12 hx hL hn (hc d) (hm d) (lw_end hr)
  by_cases c13 : f n &&& 63 = 13
  · have z : mk_Cl X σ R B 50 188 [.int (f (n + 1)), .int (f (n + 2))] := cl_swap h
    obtain ⟨v, ρ, τ, D', i1, hc, hm⟩ := z
    refine ⟨τ, D', i1, fun d r hr => hd _ _ _ ?_⟩
    simp only [uLW_33, c13]
    simp (config := {decide := true}) only [if_true, if_false]
    exact lw_c13 hx hL hn (hc d) (hm d) (lw_end hr)
  by_cases c14 : f n &&& 63 = 14
  · have z : mk_Cl X σ R B 51 190 [.int (f (n + 1))] := cl_can hX hR h
    obtain ⟨v, ρ, τ, D', i1, hc, hm⟩ := z
    refine ⟨τ, D', i1, fun d r hr => hd _ _ _ ?_⟩
    simp only [uLW_33, c14]
    simp (config := {decide := true}) only [if_true, if_false]
    exact lw_c14 hx hL hn (hc d) (hm d) (lw_end hr)
  by_cases c15 : f n &&& 63 = 15
  · have z : mk_Cl X σ R B 95 212 [.int (f (n + 1)), .int (f (n + 2))] := cl_hour hX hR h
    obtain ⟨v, ρ, τ, D', i1, hc, hm⟩ := z
    refine ⟨τ, D', i1, fun d r hr => hd _ _ _ ?_⟩
    simp only [uLW_33, c15]
    simp (config := {decide := true}) only [if_true, if_false]
    exact lw_c15 hx hL hn (hc d) (hm d) (lw_end hr)
  by_cases c16 : f n &&& 63 = 16
  · have z : mk_Cl X σ R B 99 213 [] := cl_all hX hR h
    obtain ⟨v, ρ, τ, D', i1, hc, hm⟩ := z
    refine ⟨τ, D', i1, fun d r hr => hd _ _ _ ?_⟩
    simp only [uLW_33, c16]
    simp (config := {decide := true}) only [if_true, if_false]
    exact lw_c16 hx hL hn (hc d) (hm d) (lw_end hr)
  by_cases c17 : f n &&& 63 = 17
  · have z : mk_Cl X σ R B 101 218 [] := cl_begin hX hR h
    obtain ⟨v, ρ, τ, D', i1, hc, hm⟩ := z
    refine ⟨τ, D', i1, fun d r hr => hd _ _ _ ?_⟩
    simp only [uLW_33, c17]
    simp (config := {decide := true}) only [if_true, if_false]
    exact lw_c17 hx hL hn (hc d) (hm d) (lw_end hr)
  by_cases c18 : f n &&& 63 = 18
  · have z : mk_Cl X σ R B 102 219 [] := cl_trap hX hR h
    obtain ⟨v, ρ, τ, D', i1, hc, hm⟩ := z
    refine ⟨τ, D', i1, fun d r hr => hd _ _ _ ?_⟩
    simp only [uLW_33, c18]
    simp (config := {decide := true}) only [if_true, if_false]
    exact lw_c18 hx hL hn (hc d) (hm d) (lw_end hr)
  by_cases c19 : f n &&& 63 = 19
  · have z : mk_Cl X σ R B 103 220 [.int (f (n + 1))] := cl_quarrel hX hR h
    obtain ⟨v, ρ, τ, D', i1, hc, hm⟩ := z
    refine ⟨τ, D', i1, fun d r hr => hd _ _ _ ?_⟩
    simp only [uLW_33, c19]
    simp (config := {decide := true}) only [if_true, if_false]
    exact lw_c19 hx hL hn (hc d) (hm d) (lw_end hr)
  by_cases c20 : f n &&& 63 = 20
  · have z : mk_Cl X σ R B 104 221 [.int (f (n + 1))] := cl_dear hX hR h
    obtain ⟨v, ρ, τ, D', i1, hc, hm⟩ := z
    refine ⟨τ, D', i1, fun d r hr => hd _ _ _ ?_⟩
    simp only [uLW_33, c20]
    simp (config := {decide := true}) only [if_true, if_false]
    exact lw_c20 hx hL hn (hc d) (hm d) (lw_end hr)
  by_cases c21 : f n &&& 63 = 21
  · have z : mk_Cl X σ R B 113 225 [.int (f (n + 1))] := cl_fewest hX hR h
    obtain ⟨v, ρ, τ, D', i1, hc, hm⟩ := z
    refine ⟨τ, D', i1, fun d r hr => hd _ _ _ ?_⟩
    simp only [uLW_33, c21]
    simp (config := {decide := true}) only [if_true, if_false]
    exact lw_c21 hx hL hn (hc d) (hm d) (lw_end hr)
  by_cases c22 : f n &&& 63 = 22
  · have z : mk_Cl X σ R B 114 226 [.int (f (n + 1)), .int (f (n + 2))] := cl_ends hX hR h
    obtain ⟨v, ρ, τ, D', i1, hc, hm⟩ := z
    refine ⟨τ, D', i1, fun d r hr => hd _ _ _ ?_⟩
    simp only [uLW_33, c22]
    simp (config := {decide := true}) only [if_true, if_false]
    exact lw_c22 hx hL hn (hc d) (hm d) (lw_end hr)
  by_cases c23 : f n &&& 63 = 23
  · have z : mk_Cl X σ R B 117 228 [.int (f (n + 1))] := cl_must hX hR h
    obtain ⟨v, ρ, τ, D', i1, hc, hm⟩ := z
    refine ⟨τ, D', i1, fun d r hr => hd _ _ _ ?_⟩
    simp only [uLW_33, c23]
    simp (config := {decide := true}) only [if_true, if_false]
    exact lw_c23 hx hL hn (hc d) (hm d) (lw_end hr)
  by_cases c24 : f n &&& 63 = 24
  · have z : mk_Cl X σ R B 119 229 [.int (f (n + 1))] := cl_spare h
    obtain ⟨v, ρ, τ, D', i1, hc, hm⟩ := z
    refine ⟨τ, D', i1, fun d r hr => hd _ _ _ ?_⟩
    simp only [uLW_33, c24]
    simp (config := {decide := true}) only [if_true, if_false]
    exact lw_c24 hx hL hn (hc d) (hm d) (lw_end hr)
  by_cases c25 : f n &&& 63 = 25
  · have z : mk_Cl X σ R B 120 230 [.int (f (n + 1)), .int (f (n + 2))] := cl_doomed hX hR h
    obtain ⟨v, ρ, τ, D', i1, hc, hm⟩ := z
    refine ⟨τ, D', i1, fun d r hr => hd _ _ _ ?_⟩
    simp only [uLW_33, c25]
    simp (config := {decide := true}) only [if_true, if_false]
    exact lw_c25 hx hL hn (hc d) (hm d) (lw_end hr)
  by_cases c26 : f n &&& 63 = 26
  · have z : mk_Cl X σ R B 121 231 [.int (f (n + 1))] := cl_give hX hR h
    obtain ⟨v, ρ, τ, D', i1, hc, hm⟩ := z
    refine ⟨τ, D', i1, fun d r hr => hd _ _ _ ?_⟩
    simp only [uLW_33, c26]
    simp (config := {decide := true}) only [if_true, if_false]
    exact lw_c26 hx hL hn (hc d) (hm d) (lw_end hr)
  by_cases c27 : f n &&& 63 = 27
  · have z : mk_Cl X σ R B 123 232 [.int (f (n + 1))] := cl_many hX hR h
    obtain ⟨v, ρ, τ, D', i1, hc, hm⟩ := z
    refine ⟨τ, D', i1, fun d r hr => hd _ _ _ ?_⟩
    simp only [uLW_33, c27]
    simp (config := {decide := true}) only [if_true, if_false]
    exact lw_c27 hx hL hn (hc d) (hm d) (lw_end hr)
  by_cases c28 : f n &&& 63 = 28
  · have z : mk_Cl X σ R B 124 198 [] := cl_ring h
    obtain ⟨v, ρ, τ, D', i1, hc, hm⟩ := z
    refine ⟨τ, D', i1, fun d r hr => hd _ _ _ ?_⟩
    simp only [uLW_33, c28]
    simp (config := {decide := true}) only [if_true, if_false]
    exact lw_c28 hx hL hn (hc d) (hm d) (lw_end hr)
  by_cases c29 : f n &&& 63 = 29
  · have z : mk_Cl X σ R B 125 233 [] := cl_opening h
    obtain ⟨v, ρ, τ, D', i1, hc, hm⟩ := z
    refine ⟨τ, D', i1, fun d r hr => hd _ _ _ ?_⟩
    simp only [uLW_33, c29]
    simp (config := {decide := true}) only [if_true, if_false]
    exact lw_c29 hx hL hn (hc d) (hm d) (lw_end hr)
  by_cases c30 : f n &&& 63 = 30
  · have z : mk_Cl X σ R B 126 234 [.int (f (n + 1)), .int (f (n + 2))] := cl_judge h
    obtain ⟨v, ρ, τ, D', i1, hc, hm⟩ := z
    refine ⟨τ, D', i1, fun d r hr => hd _ _ _ ?_⟩
    simp only [uLW_33, c30]
    simp (config := {decide := true}) only [if_true, if_false]
    exact lw_c30 hx hL hn (hc d) (hm d) (lw_end hr)
  by_cases c31 : f n &&& 63 = 31
  · have z : mk_Cl X σ R B 138 237 [.int (f (n + 1)), .int (f (n + 2))] := cl_lost h
    obtain ⟨v, ρ, τ, D', i1, hc, hm⟩ := z
    refine ⟨τ, D', i1, fun d r hr => hd _ _ _ ?_⟩
    simp only [uLW_33, c31]
    simp (config := {decide := true}) only [if_true, if_false]
    exact lw_c31 hx hL hn (hc d) (hm d) (lw_end hr)
  by_cases c32 : f n &&& 63 = 32
  · have z : mk_Cl X σ R B 139 238 [.int (f (n + 1)), .int (f (n + 2)), .int (f (n + 3))] := cl_owed h
    obtain ⟨v, ρ, τ, D', i1, hc, hm⟩ := z
    refine ⟨τ, D', i1, fun d r hr => hd _ _ _ ?_⟩
    simp only [uLW_33, c32]
    simp (config := {decide := true}) only [if_true, if_false]
    exact lw_c32 hx hL hn (hc d) (hm d) (lw_end hr)
  by_cases c33 : f n &&& 63 = 33
  · have z : mk_Cl X σ R B 141 239 [.int (f (n + 1))] := cl_work h
    obtain ⟨v, ρ, τ, D', i1, hc, hm⟩ := z
    refine ⟨τ, D', i1, fun d r hr => hd _ _ _ ?_⟩
    simp only [uLW_33, c33]
    simp (config := {decide := true}) only [if_true, if_false]
    exact lw_c33 hx hL hn (hc d) (hm d) (lw_end hr)
  by_cases c34 : f n &&& 63 = 34
  · have z : mk_Cl X σ R B 142 240 [.int (f (n + 1))] := cl_debt h
    obtain ⟨v, ρ, τ, D', i1, hc, hm⟩ := z
    refine ⟨τ, D', i1, fun d r hr => hd _ _ _ ?_⟩
    simp only [uLW_33, c34]
    simp (config := {decide := true}) only [if_true, if_false]
    exact lw_c34 hx hL hn (hc d) (hm d) (lw_end hr)
  by_cases c35 : f n &&& 63 = 35
  · have z : mk_Cl X σ R B 143 241 [.int (f (n + 1)), .int (f (n + 2))] := cl_mend h
    obtain ⟨v, ρ, τ, D', i1, hc, hm⟩ := z
    refine ⟨τ, D', i1, fun d r hr => hd _ _ _ ?_⟩
    simp only [uLW_33, c35]
    simp (config := {decide := true}) only [if_true, if_false]
    exact lw_c35 hx hL hn (hc d) (hm d) (lw_end hr)
  by_cases c36 : f n &&& 63 = 36
  · have z : mk_Cl X σ R B 144 242 [.int (f (n + 1)), .int (f (n + 2)), .int (f (n + 3))] := cl_act h
    obtain ⟨v, ρ, τ, D', i1, hc, hm⟩ := z
    refine ⟨τ, D', i1, fun d r hr => hd _ _ _ ?_⟩
    simp only [uLW_33, c36]
    simp (config := {decide := true}) only [if_true, if_false]
    exact lw_c36 hx hL hn (hc d) (hm d) (lw_end hr)
  by_cases c37 : f n &&& 63 = 37
  · have z : mk_Cl X σ R B 150 247 [.int (f (n + 1))] := cl_trace h
    obtain ⟨v, ρ, τ, D', i1, hc, hm⟩ := z
    refine ⟨τ, D', i1, fun d r hr => hd _ _ _ ?_⟩
    simp only [uLW_33, c37]
    simp (config := {decide := true}) only [if_true, if_false]
    exact lw_c37 hx hL hn (hc d) (hm d) (lw_end hr)
  by_cases c38 : f n &&& 63 = 38
  · have z : mk_Cl X σ R B 151 248 [] := cl_image h
    obtain ⟨v, ρ, τ, D', i1, hc, hm⟩ := z
    refine ⟨τ, D', i1, fun d r hr => hd _ _ _ ?_⟩
    simp only [uLW_33, c38]
    simp (config := {decide := true}) only [if_true, if_false]
    exact lw_c38 hx hL hn (hc d) (hm d) (lw_end hr)
  by_cases c39 : f n &&& 63 = 39
  · have z : mk_Cl X σ R B 154 251 [] := cl_restore h
    obtain ⟨v, ρ, τ, D', i1, hc, hm⟩ := z
    refine ⟨τ, D', i1, fun d r hr => hd _ _ _ ?_⟩
    simp only [uLW_33, c39]
    simp (config := {decide := true}) only [if_true, if_false]
    exact lw_c39 hx hL hn (hc d) (hm d) (lw_end hr)
  by_cases c40 : f n &&& 63 = 40
  · have z : mk_Cl X σ R B 155 252 [.int (f (n + 1))] := cl_status h
    obtain ⟨v, ρ, τ, D', i1, hc, hm⟩ := z
    refine ⟨τ, D', i1, fun d r hr => hd _ _ _ ?_⟩
    simp only [uLW_33, c40]
    simp (config := {decide := true}) only [if_true, if_false]
    exact lw_c40 hx hL hn (hc d) (hm d) (lw_end hr)
  refine ⟨σ, D, mk_Inv_R h (Nat.le_add_right _ _), fun d r hr => hd _ _ _ ?_⟩
  simp only [uLW_33, c0, c1, c2, c3, c4, c5, c6, c7, c8, c9, c10, c11, c12, c13, c14, c15, c16, c17, c18, c19, c20, c21, c22, c23, c24, c25, c26, c27, c28, c29, c30, c31, c32, c33, c34, c35, c36, c37, c38, c39, c40, if_false]
  exact lw_end hr
theorem lw_ar {R j L n : Nat} (h : R + 512 * (j + 1) < 2147483648) (h1 : L < n + 6 * (j + 1 + 1)) : R + 512 < 2147483648 ∧ R + 512 + 512 * j < 2147483648 ∧ L < n + 6 + 6 * (j + 1) := by omega
/-- the whole of the loop -/
theorem lw_loop (hX : mj_XS X) (hx : X 0 = some (L, f)) (hL : L ≤ 3072) : ∀ (j n R : Nat) (σ : mj_St) (D : Nat → Nat → Nat), L < n + 6 * (j + 1) → n ≤ L → R + 512 * j < 2147483648 → mk_Inv σ D R B →
    ∃ τ D' R', mk_Inv τ D' R' B ∧ ∀ d, qLW X (mj_ev X (d + 60)) (18, [.ref 1000, .ref 0, .ref 61, .int (nI n)], [], σ) (some (.int 1), τ) := by
  have fin : ∀ (n : Nat) (σ : mj_St), L < n + 6 → n ≤ L → ∀ d, qLW X (mj_ev X (d + 60)) (18, [.ref 1000, .ref 0, .ref 61, .int (nI n)], [], σ) (some (.int 1), σ) := fun n σ h1 h2 d => by
    have eN : ∀ (σ : mj_St) (P : Int32 → Prop), mj_kN X σ 1000 P = P (nI L) := fun σ P => lw_kN hx
    have lt : nI L - 6 < nI n := by
      rw [Int32.lt_iff_toInt_lt, nI_toInt (by omega)]
      by_cases c : 6 ≤ L
      · have e6 : nI L - 6 = nI (L - 6) := mj_nI_sub (a := L) (b := 6) c
        rw [e6, nI_toInt (by omega)]
        omega
      · have : ∀ l : Nat, l < 6 → (nI l - 6).toInt < 0 := by decide
        have := this L (by omega)
        omega
    simp only [uLW_18, uLW_19, uLW_20, uLW_21, uLW_23, uLW_24, uLW_1372, uLW_1373, eN, lt, if_true, or_true, true_and]
  intro j
  induction j with
  | zero =>
    intro n R σ D h1 h2 _ h
    exact ⟨σ, D, R, h, fin n σ (by omega) h2⟩
  | succ j ih =>
    intro n R σ D h1 h2 hR h
    by_cases c : n + 6 ≤ L
    · obtain ⟨hR1, hR2, hL2⟩ := lw_ar hR h1
      obtain ⟨τ, D1, i1, k1⟩ := lw_round (n := n) (R := R) hX hx hL c hR1 h
      obtain ⟨τ2, D2, R2, i2, k2⟩ := ih (n + 6) (R + 512) τ D1 hL2 c hR2 i1
      exact ⟨τ2, D2, R2, i2, fun d => k1 d _ (k2 d)⟩
    · exact ⟨σ, D, R, h, fin n σ (by omega) h2⟩
/-- the law, from the loop's first place on: it answers 1 -/
theorem lw_whole (hX : mj_XS X) (hx : X 0 = some (L, f)) (hL : L ≤ 3072) (h : mk_Inv σ D R B) (hR : R ≤ 1000000) : ∃ τ D' R', mk_Inv τ D' R' B ∧ ∀ d, mj_Runs X (mj_ev X (d + 60)) 7 ret code (18, [.ref 1000, .ref 0, .ref 61, .int 0], [], σ) (some (.int 1), τ) :=
  lw_loop hX hx hL 512 0 R σ D (by omega) (Nat.zero_le _) (by omega) h
end
