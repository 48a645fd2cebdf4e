section
variable {X : mj_X} {d : Nat} {σ τ ρ : mj_St} {D : Nat → Nat → Nat} {R R' B : Nat} {f : Nat → Int32} {q : Nat → Nat}
/-- the deal with k more of the same -/
def mk_aD (D : Nat → Nat → Nat) (q : Nat → Nat) (k : Nat) (c i : Nat) : Nat := if 15 ≤ c ∧ c ≤ 26 ∧ D 14 14 ≤ i then q c else if c = 14 ∧ i = 14 then D 14 14 + k else D c i
/-- what a new promise is like -/
def mk_Nq (D : Nat → Nat → Nat) (q : Nat → Nat) : Prop :=
  (1 ≤ q 15 ∧ q 15 ≤ 6) ∧ (q 16 ≤ q 17 ∧ q 17 < 12) ∧ q 18 ≤ 4 ∧ (q 19 ≤ D 14 14 ∧ (0 < q 19 → D 15 (q 19 - 1) < 5)) ∧ q 20 ≤ 3 ∧ q 21 ≤ 1 ∧ (q 24 ≤ 3 ∧ q 25 = q 24) ∧ (q 15 = 3 → 1 ≤ q 26 ∧ q 26 ≤ 6 ∧ q 24 = (q 17 - q 16) / q 26 + 1) ∧ (q 15 = 5 → 1 ≤ q 18) ∧ (¬ q 15 < 5 → q 19 = 0) ∧ q 22 ≤ 99 ∧ q 23 < 6
/-- the fields as numbers -/
def mk_qf (f : Nat → Int32) (q : Nat → Nat) : Prop :=
  f 33 = nI (q 15) ∧ f 34 = nI (q 16) ∧ f 35 = nI (q 17) ∧ f 36 = mj_oi (q 18) ∧ f 37 = mj_oi (q 19) ∧ f 38 = mj_oi (q 20) ∧ f 39 = nI (q 21) ∧ f 40 = nI (q 22) ∧ f 41 = nI (q 23) ∧ f 42 = nI (q 24) ∧ f 43 = nI (if q 15 = 3 then q 26 else 1) ∧ (¬ q 15 = 3 → q 26 = 0) ∧ ¬ f 43 = 0
theorem mk_oi_of {v : Int32} {k : Nat} (hk : k < 1000) (h : v = -1 ∨ mj_inb v k = true) : ∃ x, x ≤ k ∧ v = mj_oi x := by
  rcases h with z | z
  · exact ⟨0, Nat.zero_le _, z⟩
  · obtain ⟨n, n1, n2⟩ := mj_nI_of z (by omega)
    exact ⟨n + 1, n1, by rw [n2, mj_oi_pos (by omega)]; rfl⟩
theorem mk_Fok_q (hD : mj_isD σ D) (hk : mj_okD D) (hf : mj_Fok (mj_wkC σ) f) : ∃ q, mk_Nq D q ∧ mk_qf f q := by
  have N9 := hk.1
  obtain ⟨⟨kd, kd1, kd6, f33⟩, i34, i35, nlt, i36, i36', i37, i38, i39, i40, i41, ⟨n, n3, f42, n1⟩, ⟨v, v1, v6, f43⟩, e3, e5, -, e43, e37, e6, e38⟩ := hf
  obtain ⟨fr, fr12, f34⟩ := mj_nI_of i34 (by decide)
  obtain ⟨t, t12, f35⟩ := mj_nI_of i35 (by decide)
  obtain ⟨th, th4, f36⟩ := mk_oi_of (by decide) i36
  obtain ⟨fo, fo3, f38⟩ := mk_oi_of (by decide) i38
  obtain ⟨ow, ow1, f40⟩ := mj_nI_of i40 (by decide)
  obtain ⟨wh, wh1, f41⟩ := mj_nI_of i41 (by decide)
  obtain ⟨br, br1, f39⟩ : ∃ b, b ≤ 1 ∧ f 39 = nI b := by
    rcases i39 with z | z
    · exact ⟨0, by decide, z⟩
    · exact ⟨1, by decide, z⟩
  obtain ⟨af, af1, af2, f37⟩ : ∃ a, a ≤ D 14 14 ∧ (0 < a → D 15 (a - 1) < 5) ∧ f 37 = mj_oi a := by
    rcases i37 with z | z
    · exact ⟨0, Nat.zero_le _, fun y => absurd y (by decide), z⟩
    · obtain ⟨m, m1, m2, m3, m4⟩ := mk_wkD hD hk z
      exact ⟨m + 1, m1, fun _ => m4, by rw [m2, mj_oi_pos (by omega)]; rfl⟩
  have frt : fr ≤ t := Nat.le_of_not_lt (fun z => nlt (by rw [f34, f35]; exact nI_lt z (by omega)))
  have kd3 : f 33 = 3 ↔ kd = 3 := by rw [f33]; exact nI_eq (b := 3) (by omega) (by decide)
  have kd5 : f 33 = 5 ↔ kd = 5 := by rw [f33]; exact nI_eq (b := 5) (by omega) (by decide)
  have kdl : f 33 < 5 ↔ kd < 5 := by rw [f33]; exact mk_nI_lt (b := 5) (by omega) (by decide)
  refine ⟨fun c => if c = 15 then kd else if c = 16 then fr else if c = 17 then t else if c = 18 then th else if c = 19 then af else if c = 20 then fo else if c = 21 then br else if c = 22 then ow else if c = 23 then wh else if c = 24 then n else if c = 25 then n else if kd = 3 then v else 0, ⟨⟨kd1, kd6⟩, ⟨frt, t12⟩, th4, ⟨af1, af2⟩, fo3, br1, ⟨n3, rfl⟩, fun z => ?_, fun z => ?_, fun z => ?_, ?_, wh1⟩, f33, f34, f35, f36, f37, f38, f39, f40, f41, f42, ?_, fun z => ?_, ?_⟩
  · have z' : kd = 3 := z
    show 1 ≤ (if kd = 3 then v else 0) ∧ (if kd = 3 then v else 0) ≤ 6 ∧ n = (t - fr) / (if kd = 3 then v else 0) + 1
    rw [if_pos z']
    refine ⟨v1, v6, ?_⟩
    have e := e3 (kd3.mpr z')
    rw [f42, f34, f35, f43, mj_nI_sub frt, mj_nI_div (by omega) (by omega), show (1 : Int32) = nI 1 from rfl, nI_add] at e
    have lt : (t - fr) / v ≤ t - fr := Nat.div_le_self _ _
    exact (nI_eq (by omega) (by omega)).mp e
  · have z' : kd = 5 := z
    show 1 ≤ th
    have := i36' (kd5.mpr z')
    apply Classical.byContradiction
    intro y
    have y0 : th = 0 := by omega
    rw [f36, y0] at this
    exact absurd this (by decide)
  · have z' : ¬ kd < 5 := z
    show af = 0
    have := e37 (fun y => z' (kdl.mp y))
    rw [f37, mj_oi_m1 (by omega)] at this
    exact this
  · show ow ≤ 99
    omega
  · show f 43 = nI (if kd = 3 then (if kd = 3 then v else 0) else 1)
    by_cases z : kd = 3
    · rw [if_pos z, if_pos z]; exact f43
    · rw [if_neg z]; exact e43 (fun y => z (kd3.mp y))
  · have z' : ¬ kd = 3 := z
    show (if kd = 3 then v else 0) = 0
    rw [if_neg z']
  · rw [f43]
    intro z
    have := (nI_eq (b := 0) (by omega) (by decide)).mp z
    omega
/-- what the class writes for it -/
theorem mk_adv_q (hc : mj_crd ρ f) (hq : mk_qf f q) (hk : 1 ≤ q 15 ∧ q 15 ≤ 6) : mj_adv ρ 15 = nI (q 15) ∧ mj_adv ρ 16 = nI (q 16) ∧ mj_adv ρ 17 = nI (q 17) ∧ mj_adv ρ 18 = mj_oi (q 18) ∧ mj_adv ρ 19 = mj_oi (q 19) ∧ mj_adv ρ 20 = mj_oi (q 20) ∧ mj_adv ρ 21 = nI (q 21) ∧ mj_adv ρ 22 = nI (q 22) ∧ mj_adv ρ 23 = nI (q 23) ∧ mj_adv ρ 24 = nI (q 24) ∧ mj_adv ρ 25 = nI (q 24) ∧ mj_adv ρ 26 = nI (q 26) := by
  obtain ⟨⟨c4, ci⟩, c42, c43, c5⟩ := hc
  obtain ⟨q33, q34, q35, q36, q37, q38, q39, q40, q41, q42, q43, q26, -⟩ := hq
  have kdl : f 33 < 5 ↔ q 15 < 5 := by rw [q33]; exact mk_nI_lt (b := 5) (by omega) (by decide)
  have k3 : f 33 = 3 ↔ q 15 = 3 := by rw [q33]; exact nI_eq (b := 3) (by omega) (by decide)
  have k5 : f 33 = 5 ↔ q 15 = 5 := by rw [q33]; exact nI_eq (b := 5) (by omega) (by decide)
  have k6 : f 33 = 6 ↔ q 15 = 6 := by rw [q33]; exact nI_eq (b := 6) (by omega) (by decide)
  have lo : mj_lof ρ = nI (q 24) := by
    rw [← q42, c42]
    unfold mj_lof mj_lasts
    rw [c4]
    by_cases z3 : f 33 = 3
    · have e15 := k3.mp z3
      rw [if_neg (fun y => by rcases y with y | y; · have := k5.mp y; omega
                              · have := k6.mp y; omega), if_pos z3, if_pos (c5 z3), if_pos z3]
      have h6 := ci 34 (by decide) (by decide)
      have h7 := ci 35 (by decide) (by decide)
      rw [show ρ.1 44 6 = f 34 from h6, show ρ.1 44 7 = f 35 from h7]
    · rw [if_neg z3, if_neg z3]
      by_cases zl : f 33 < 5
      · rw [if_pos zl, if_neg (fun y => by rcases y with y | y
                                           · have := k5.mp y; have := kdl.mp zl; omega
                                           · have := k6.mp y; have := kdl.mp zl; omega)]
      · rw [if_neg zl, if_pos]
        have : q 15 = 5 ∨ q 15 = 6 := by
          have h5 : ¬ q 15 < 5 := fun y => zl (kdl.mpr y)
          omega
        rcases this with y | y
        · exact Or.inl (k5.mpr y)
        · exact Or.inr (k6.mpr y)
  refine ⟨?_, ?_, ?_, ?_, ?_, ?_, ?_, ?_, ?_, ?_, ?_, ?_⟩
  · rw [← q33, ← c4]; simp [mj_adv, mj_adC, mj_setI]
  · rw [← q34, ← ci 34 (by decide) (by decide)]; simp [mj_adv, mj_adC, mj_setI]
  · rw [← q35, ← ci 35 (by decide) (by decide)]; simp [mj_adv, mj_adC, mj_setI]
  · rw [← q36, ← ci 36 (by decide) (by decide)]; simp [mj_adv, mj_adC, mj_setI]
  · rw [← q37, ← ci 37 (by decide) (by decide)]; simp [mj_adv, mj_adC, mj_setI]
  · rw [← q38, ← ci 38 (by decide) (by decide)]; simp [mj_adv, mj_adC, mj_setI]
  · rw [← q39, ← ci 39 (by decide) (by decide)]; simp [mj_adv, mj_adC, mj_setI]
  · rw [← q40, ← ci 40 (by decide) (by decide)]; simp [mj_adv, mj_adC, mj_setI]
  · rw [← q41, ← ci 41 (by decide) (by decide)]; simp [mj_adv, mj_adC, mj_setI]
  · rw [← lo]; simp [mj_adv, mj_adC, mj_setI]
  · rw [← lo]; simp [mj_adv, mj_adC, mj_setI]
  · have e : mj_adv ρ 26 = if ρ.1 44 4 = 3 then ρ.1 44 5 else 0 := by simp [mj_adv, mj_adC, mj_setI]
    rw [e, c4]
    by_cases z3 : f 33 = 3
    · rw [if_pos z3]
      rw [if_pos z3] at c43
      rw [← c43, q43, if_pos (k3.mp z3)]
    · rw [if_neg z3, q26 (fun y => z3 (k3.mpr y))]; rfl
-- the deal with more
theorem mk_aD_o {k c : Nat} (h1 : ¬ (15 ≤ c ∧ c ≤ 26)) (h2 : c ≠ 14) : mk_aD D q k c = D c := by
  funext i
  unfold mk_aD
  rw [if_neg (fun z => h1 ⟨z.1, z.2.1⟩), if_neg (fun z => h2 z.1)]
theorem mk_aD_l {k c i : Nat} (h : i < D 14 14) (h2 : c ≠ 14) : mk_aD D q k c i = D c i := by
  unfold mk_aD
  rw [if_neg (by omega), if_neg (fun z => h2 z.1)]
theorem mk_aD_n {k c i : Nat} (h1 : 15 ≤ c) (h2 : c ≤ 26) (h : D 14 14 ≤ i) : mk_aD D q k c i = q c := by
  unfold mk_aD
  rw [if_pos ⟨h1, h2, h⟩]
theorem mk_aD_N {k : Nat} : mk_aD D q k 14 14 = D 14 14 + k := by
  unfold mk_aD
  rw [if_neg (by omega), if_pos ⟨rfl, rfl⟩]
theorem mk_aD_14 {k i : Nat} (h : i ≠ 14) : mk_aD D q k 14 i = D 14 i := by
  unfold mk_aD
  rw [if_neg (by omega), if_neg (fun z => h z.2)]
theorem mk_aD_wn {k : Nat} : ∀ j, mk_wn (mk_aD D q k) (D 14 14 + j) = mk_wn D (D 14 14) + if q 15 < 5 then j else 0 := by
  have low : ∀ n, n ≤ D 14 14 → mk_wn (mk_aD D q k) n = mk_wn D n := by
    intro n
    induction n with
    | zero => intro _; rfl
    | succ n ih =>
      intro hn
      rw [mk_wn_s, mk_wn_s, ih (by omega), mk_aD_l (by omega) (by decide)]
  intro j
  induction j with
  | zero => rw [Nat.add_zero, low _ (Nat.le_refl _)]; split <;> rfl
  | succ j ih =>
    rw [← Nat.add_assoc, mk_wn_s, ih, mk_aD_n (by decide) (by decide) (Nat.le_add_right _ _)]
    by_cases c : q 15 < 5
    · rw [if_pos c, if_pos c, if_pos c]; rfl
    · rw [if_neg c, if_neg c, if_neg c]
theorem mk_aD_ok {k : Nat} (hk : mj_okD D) (hq : mk_Nq D q) (h9 : D 14 14 + k ≤ 9) (h6 : mk_wn D (D 14 14) + (if q 15 < 5 then k else 0) ≤ 6) : mj_okD (mk_aD D q k) := by
  obtain ⟨k1, k2, k3, k4, k5, k6, k7, k8, k9⟩ := hk
  obtain ⟨q1, q2, q3, ⟨q4, q4'⟩, q5, q6, ⟨q7, q7'⟩, q8, q9, q10, -, -⟩ := hq
  unfold mj_okD
  rw [mk_aD_N, mk_aD_14 (by decide), mk_aD_14 (by decide), mk_aD_14 (by decide), mk_aD_o (c := 27) (by decide) (by decide), mk_aD_o (c := 28) (by decide) (by decide)]
  refine ⟨h9, k2, k3, k4, fun i hi => ?_, k6, k7, ?_, fun i hi h2 hp hl hd => ?_⟩
  · by_cases c : i < D 14 14
    · rw [mk_aD_l c (by decide), mk_aD_l c (by decide), mk_aD_l c (by decide), mk_aD_l c (by decide), mk_aD_l c (by decide), mk_aD_l c (by decide), mk_aD_l c (by decide), mk_aD_l c (by decide), mk_aD_l c (by decide), mk_aD_l c (by decide)]
      obtain ⟨z1, z2, z3, ⟨z4, z4'⟩, z5⟩ := k5 i c
      refine ⟨z1, z2, z3, ⟨by omega, fun y => ?_⟩, z5⟩
      rw [mk_aD_l (by omega) (by decide)]
      exact z4' y
    · have c' : D 14 14 ≤ i := by omega
      rw [mk_aD_n (c := 15) (by decide) (by decide) c', mk_aD_n (c := 16) (by decide) (by decide) c', mk_aD_n (c := 17) (by decide) (by decide) c', mk_aD_n (c := 18) (by decide) (by decide) c', mk_aD_n (c := 19) (by decide) (by decide) c', mk_aD_n (c := 20) (by decide) (by decide) c', mk_aD_n (c := 21) (by decide) (by decide) c', mk_aD_n (c := 24) (by decide) (by decide) c', mk_aD_n (c := 25) (by decide) (by decide) c', mk_aD_n (c := 26) (by decide) (by decide) c']
      refine ⟨q1, q2, q3, ⟨by omega, fun y => ?_⟩, q5, q6, ⟨q7, by omega⟩, q8, q9⟩
      rw [mk_aD_l (by omega) (by decide)]
      exact q4' y
  · have := mk_aD_wn (D := D) (q := q) (k := k) k
    unfold mk_wn at this
    rw [this]
    exact h6
  · by_cases c : i < D 14 14
    · rw [mk_aD_l c (by decide)] at h2 hp hl hd
      rw [mk_aD_l c (by decide)] at hl
      exact k9 i c h2 hp hl hd
    · have c' : D 14 14 ≤ i := by omega
      rw [mk_aD_n (by decide) (by decide) c'] at hp hl
      rw [mk_aD_n (by decide) (by decide) c'] at hl
      omega
theorem mk_aD_isD {k : Nat} (hD : mj_isD σ D) (hk : mj_okD D) (hq : q 25 = q 24) (ha : mj_adv ρ 15 = nI (q 15) ∧ mj_adv ρ 16 = nI (q 16) ∧ mj_adv ρ 17 = nI (q 17) ∧ mj_adv ρ 18 = mj_oi (q 18) ∧ mj_adv ρ 19 = mj_oi (q 19) ∧ mj_adv ρ 20 = mj_oi (q 20) ∧ mj_adv ρ 21 = nI (q 21) ∧ mj_adv ρ 22 = nI (q 22) ∧ mj_adv ρ 23 = nI (q 23) ∧ mj_adv ρ 24 = nI (q 24) ∧ mj_adv ρ 25 = nI (q 24) ∧ mj_adv ρ 26 = nI (q 26))
    (h1 : ∀ i, i = 16 ∨ i = 17 ∨ i = 18 → τ.1 14 i = σ.1 14 i) (h2 : τ.1 14 14 = nI (D 14 14 + k)) (h3 : ∀ c i, 15 ≤ c → c ≤ 26 → i < D 14 14 → τ.1 c i = σ.1 c i) (h4 : ∀ c i, 15 ≤ c → c ≤ 26 → D 14 14 ≤ i → i < D 14 14 + k → τ.1 c i = mj_adv ρ c) (h27 : τ.1 27 = σ.1 27) (h28 : τ.1 28 = σ.1 28) : mj_isD τ (mk_aD D q k) := by
  obtain ⟨a1, a2, a3, a4, a5, a6, a7⟩ := hD
  obtain ⟨p15, p16, p17, p18, p19, p20, p21, -, -, p24, p25, p26⟩ := ha
  unfold mj_isD
  rw [mk_aD_N, mk_aD_14 (by decide), mk_aD_14 (by decide), mk_aD_14 (by decide), mk_aD_o (c := 27) (by decide) (by decide), mk_aD_o (c := 28) (by decide) (by decide), h1 16 (by omega), h1 17 (by omega), h1 18 (by omega), h27, h28]
  refine ⟨h2, a2, a3, a4, fun i hi => ?_, a6, a7⟩
  by_cases c : i < D 14 14
  · rw [mk_aD_l c (by decide), mk_aD_l c (by decide), mk_aD_l c (by decide), mk_aD_l c (by decide), mk_aD_l c (by decide), mk_aD_l c (by decide), mk_aD_l c (by decide), mk_aD_l c (by decide), mk_aD_l c (by decide), mk_aD_l c (by decide)]
    rw [h3 15 i (by decide) (by decide) c, h3 16 i (by decide) (by decide) c, h3 17 i (by decide) (by decide) c, h3 18 i (by decide) (by decide) c, h3 19 i (by decide) (by decide) c, h3 20 i (by decide) (by decide) c, h3 21 i (by decide) (by decide) c, h3 24 i (by decide) (by decide) c, h3 25 i (by decide) (by decide) c, h3 26 i (by decide) (by decide) c]
    exact a5 i c
  · have c' : D 14 14 ≤ i := by omega
    rw [mk_aD_n (c := 15) (by decide) (by decide) c', mk_aD_n (c := 16) (by decide) (by decide) c', mk_aD_n (c := 17) (by decide) (by decide) c', mk_aD_n (c := 18) (by decide) (by decide) c', mk_aD_n (c := 19) (by decide) (by decide) c', mk_aD_n (c := 20) (by decide) (by decide) c', mk_aD_n (c := 21) (by decide) (by decide) c', mk_aD_n (c := 24) (by decide) (by decide) c', mk_aD_n (c := 25) (by decide) (by decide) c', mk_aD_n (c := 26) (by decide) (by decide) c']
    rw [h4 15 i (by decide) (by decide) c' hi, h4 16 i (by decide) (by decide) c' hi, h4 17 i (by decide) (by decide) c' hi, h4 18 i (by decide) (by decide) c' hi, h4 19 i (by decide) (by decide) c' hi, h4 20 i (by decide) (by decide) c' hi, h4 21 i (by decide) (by decide) c' hi, h4 24 i (by decide) (by decide) c' hi, h4 25 i (by decide) (by decide) c' hi, h4 26 i (by decide) (by decide) c' hi, hq]
    exact ⟨p15, p16, p17, p18, p19, p20, p21, p24, p25, p26⟩
/-- one more in the reference -/
theorem mk_adM_isM {k : Nat} (hM : mk_isM ρ (mk_aD D q k)) (hk9 : D 14 14 + k < 9) (hlb : ∀ i, (D 14 16).testBit i = true → i < D 14 14) (hq25 : q 25 = q 24) (hf : mk_qf f q) (hfs : ∀ i, 33 ≤ i → i ≤ 43 → ρ.1 61 i = f i) : mk_isM (mj_adM ρ (D 14 14 + k)) (mk_aD D q (k + 1)) := by
  obtain ⟨b1, b2, b3, b4, b5, b6⟩ := hM
  obtain ⟨q33, q34, q35, q36, q37, q38, q39, q40, q41, q42, q43, -, -⟩ := hf
  rw [mk_aD_N] at b1 b4
  rw [mk_aD_14 (by decide)] at b2 b3 b4
  rw [mk_aD_o (c := 27) (by decide) (by decide)] at b5
  rw [mk_aD_o (c := 28) (by decide) (by decide)] at b6
  unfold mk_isM
  rw [mk_aD_N, mk_aD_14 (by decide), mk_aD_14 (by decide), mk_aD_14 (by decide), mk_aD_o (c := 27) (by decide) (by decide), mk_aD_o (c := 28) (by decide) (by decide), mj_adM_i (i := 1) (by decide), mj_adM_i (i := 2) (by decide), mj_adM_c (c := 63) (by decide) (by decide), mj_adM_c (c := 64) (by decide) (by decide)]
  refine ⟨by rw [mj_adM_0, Nat.add_assoc], b2, b3, fun i hi => ?_, b5, b6⟩
  by_cases c : i = D 14 14 + k
  · have c' : D 14 14 ≤ i := by omega
    have nb : (D 14 16).testBit i = false := Bool.eq_false_iff.mpr (fun z => by have := hlb i z; omega)
    rw [mk_aD_n (c := 15) (by decide) (by decide) c', mk_aD_n (c := 16) (by decide) (by decide) c', mk_aD_n (c := 17) (by decide) (by decide) c', mk_aD_n (c := 18) (by decide) (by decide) c', mk_aD_n (c := 19) (by decide) (by decide) c', mk_aD_n (c := 20) (by decide) (by decide) c', mk_aD_n (c := 21) (by decide) (by decide) c', mk_aD_n (c := 24) (by decide) (by decide) c', mk_aD_n (c := 25) (by decide) (by decide) c', mk_aD_n (c := 26) (by decide) (by decide) c', c, mj_adM_N (c := 65) (by decide) (by decide), mj_adM_N (c := 66) (by decide) (by decide), mj_adM_N (c := 67) (by decide) (by decide), mj_adM_N (c := 68) (by decide) (by decide), mj_adM_N (c := 69) (by decide) (by decide), mj_adM_N (c := 70) (by decide) (by decide), mj_adM_N (c := 71) (by decide) (by decide), mj_adM_N (c := 74) (by decide) (by decide), mj_adM_N (c := 75) (by decide) (by decide), mj_adM_76, mj_adM_77]
    rw [c] at nb
    rw [nb, if_neg (by decide), hq25]
    have e := fun i x y => hfs i x y
    exact ⟨(e 33 (by decide) (by decide)).trans q33, (e 34 (by decide) (by decide)).trans q34, (e 35 (by decide) (by decide)).trans q35, (e 36 (by decide) (by decide)).trans q36, (e 37 (by decide) (by decide)).trans q37, (e 38 (by decide) (by decide)).trans q38, (e 39 (by decide) (by decide)).trans q39, (e 42 (by decide) (by decide)).trans q42, (e 42 (by decide) (by decide)).trans q42, rfl, fun z => by
      rw [if_pos z] at q43
      exact (e 43 (by decide) (by decide)).trans q43⟩
  · have := b4 i (by omega)
    rw [mj_adM_k c (by decide), mj_adM_k c (by decide), mj_adM_k c (by decide), mj_adM_k c (by decide), mj_adM_k c (by decide), mj_adM_k c (by decide), mj_adM_k c (by decide), mj_adM_k c (by decide), mj_adM_k c (by decide), mj_adM_k c (by decide), mj_adM_k c (by decide)]
    have same : ∀ c', c' ≠ 14 → mk_aD D q (k + 1) c' i = mk_aD D q k c' i := fun c' z => by
      unfold mk_aD
      by_cases y : 15 ≤ c' ∧ c' ≤ 26 ∧ D 14 14 ≤ i
      · rw [if_pos y, if_pos y]
      · rw [if_neg y, if_neg y, if_neg (fun y => z y.1), if_neg (fun y => z y.1)]
    rw [same 15 (by decide), same 16 (by decide), same 17 (by decide), same 18 (by decide), same 19 (by decide), same 20 (by decide), same 21 (by decide), same 24 (by decide), same 25 (by decide), same 26 (by decide)]
    exact this
end
