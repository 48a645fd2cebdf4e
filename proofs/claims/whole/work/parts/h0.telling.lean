section
variable {X : mj_X} {σ τ ρ μ : mj_St} {D : Nat → Nat → Nat} {R B : Nat}
theorem mk_brk_s {set : Int32} {h o j k : Nat} (hD : mj_isD σ D) (hk : mj_okD D) (hh : h < 12) (ho : o < 8) (hj : j < D 14 14) (hk56 : k = 5 ∨ k = 6) : mj_brk σ (nI k) set (nI h) (nI o) (D 14 14) j = true ↔ D 15 j = k ∧ mj_cvD D j h = true ∧ mj_asD D j o = true ∧ (k = 6 ∨ ∃ i, i < D 14 14 ∧ mj_b set i = true ∧ D 18 i = D 18 j) := by
  have N9 := hk.1
  obtain ⟨e15, e16, e17, e18, -⟩ := hD.2.2.2.2.1 j hj
  obtain ⟨k15, ⟨k16, k17⟩, k18, -, -, -, -, -, k5⟩ := hk.2.2.2.2.1 j hj
  unfold mj_brk
  rw [mj_cov_D hD hk hj (by omega), mj_ask_D hD hk hj (by omega)]
  simp only [Bool.and_eq_true, Bool.or_eq_true, decide_eq_true_eq]
  rw [e15, nI_eq (by omega) (by omega), show (6 : Int32) = nI 6 from rfl, nI_eq (by omega) (by omega)]
  refine and_congr_right (fun hkd => and_congr_right (fun _ => and_congr_right (fun _ => ?_)))
  rcases hk56 with e | e
  · have p := k5 (by omega)
    rw [e18, mj_oi_pos (by omega), mj_bt (by omega)]
    have nb := fun i => mj_nb_b (A := mj_b set) (i := i) 9
    have := mk_things_b (s := mj_nb (mj_b set) 9) (v := D 18 j - 1) (B := mj_b set) hD hk (fun i hi => by rw [nb, decide_eq_true (show i < 9 by omega), Bool.true_and]) (by omega)
    rw [show D 18 j - 1 + 1 = D 18 j by omega] at this
    have e2 : (∃ i, i < D 14 14 ∧ (mj_nb (mj_b set) 9).testBit i = true ∧ D 18 i = D 18 j) ↔ ∃ i, i < D 14 14 ∧ mj_b set i = true ∧ D 18 i = D 18 j := by
      constructor
      · rintro ⟨i, a, b, c⟩
        rw [nb, Bool.and_eq_true] at b
        exact ⟨i, a, b.2, c⟩
      · rintro ⟨i, a, b, c⟩
        exact ⟨i, a, by rw [nb, decide_eq_true (show i < 9 by omega), b]; rfl, c⟩
    rw [← e2, ← this]
    cases mj_b (mj_things (σ.1 18) (mj_b set) (D 14 14)) (D 18 j - 1) <;> simp [mj_z, e]
  · exact ⟨fun _ => Or.inl e, fun _ => Or.inl e⟩
theorem mk_pth_b {set : Int32} {v : Nat} (hM : mk_isM μ D) (hk : mj_okD D) (hv : v < 4) : mj_b (mj_pth μ 5 set (D 14 14)) v = true ↔ ∃ i, i < D 14 14 ∧ mj_b set i = true ∧ D 18 i = v + 1 := by
  have N9 := hk.1
  have key : ∀ n, n ≤ D 14 14 → (mj_b (mj_pth μ 5 set n) v = true ↔ ∃ i, i < n ∧ mj_b set i = true ∧ D 18 i = v + 1) := by
    intro n
    induction n with
    | zero => intro _; exact ⟨fun z => by rw [show mj_pth μ 5 set 0 = 0 from rfl, mj_b_0] at z; exact absurd z (by decide), fun ⟨i, h, _⟩ => absurd h (Nat.not_lt_zero i)⟩
    | succ n ih =>
      intro hn
      have ih' := ih (by omega)
      have e18 := (hM.2.2.2.1 n (by omega)).2.2.2.1
      have k18 := (hk.2.2.2.2.1 n (by omega)).2.2.1
      unfold mj_pth at ih' ⊢
      rw [mj_it_s, e18]
      by_cases c : (5 : Int32) = 5 ∧ mj_b set n = true ∧ ¬ mj_oi (D 18 n) = -1
      · have c2 := c.2.2
        rw [mj_oi_m1 (by omega)] at c2
        rw [if_pos c, mj_b_or, Bool.or_eq_true, ih', mj_oi_pos (by omega), mj_b_sh1 (by omega) (by omega), decide_eq_true_eq]
        constructor
        · rintro (⟨i, a, b, e⟩ | z)
          · exact ⟨i, by omega, b, e⟩
          · exact ⟨n, by omega, c.2.1, by omega⟩
        · rintro ⟨i, a, b, e⟩
          by_cases q : i = n
          · rw [q] at e
            exact Or.inr (by omega)
          · exact Or.inl ⟨i, by omega, b, e⟩
      · rw [if_neg c, ih']
        constructor
        · rintro ⟨i, a, b, e⟩
          exact ⟨i, by omega, b, e⟩
        · rintro ⟨i, a, b, e⟩
          by_cases q : i = n
          · rw [q] at b e
            exact absurd ⟨rfl, b, by rw [mj_oi_m1 (by omega)]; omega⟩ c
          · exact ⟨i, by omega, b, e⟩
  exact key _ (Nat.le_refl _)
/-- what is broken: both sides say the same -/
theorem mk_pbf_eq {set mt : Int32} {h o j k : Nat} (hD : mj_isD σ D) (hM : mk_isM μ D) (hk : mj_okD D) (hmt : ∀ b, b < 32 → mj_b mt b = decide (b < D 14 14)) (hh : h < 12) (ho : o < 8) (hj : j < D 14 14) (hk45 : k = 4 ∨ k = 5) : mj_pbf μ (nI k) (mj_pth μ (nI k) set (D 14 14)) (nI h) (nI o) mt j = mj_brk σ (nI (if k = 4 then 6 else 5)) set (nI h) (nI o) (D 14 14) j := by
  have N9 := hk.1
  have k15 := (hk.2.2.2.2.1 j hj).1
  refine mk_beq ?_
  rw [mk_brk_s hD hk hh ho hj (by split <;> simp)]
  unfold mj_pbf
  rw [Bool.and_eq_true, mk_bar_D hM hk hj hh ho, hmt j (by omega), decide_eq_true hj]
  rcases hk45 with e | e
  · subst e
    rw [if_pos (show nI 4 = 4 from rfl), if_pos rfl, decide_eq_true_eq, show (μ.1 65 j = 6 ↔ D 15 j = 6) from mk_kd_M hM hk hj (k := 6) (by omega)]
    constructor
    · rintro ⟨⟨-, -, a, b⟩, c⟩
      exact ⟨c, a, b, Or.inl rfl⟩
    · rintro ⟨c, a, b, -⟩
      exact ⟨⟨rfl, by omega, a, b⟩, c⟩
  · subst e
    rw [if_neg (by decide), if_neg (by decide), Bool.and_eq_true, decide_eq_true_eq, show (μ.1 65 j = 5 ↔ D 15 j = 5) from mk_kd_M hM hk hj (k := 5) (by omega)]
    have th : D 15 j = 5 → (mj_b (mj_pth μ (nI 5) set (D 14 14)) (μ.1 68 j).toNatClampNeg = true ↔ ∃ i, i < D 14 14 ∧ mj_b set i = true ∧ D 18 i = D 18 j) := fun h5 => by
      have k5 := (hk.2.2.2.2.1 j hj).2.2.2.2.2.2.2.2 h5
      have k18 := (hk.2.2.2.2.1 j hj).2.2.1
      have := mk_pth_b (set := set) (v := D 18 j - 1) hM hk (by omega)
      rw [show D 18 j - 1 + 1 = D 18 j by omega] at this
      rw [(hM.2.2.2.1 j hj).2.2.2.1, mj_oi_pos (by omega), nI_clamp (by omega)]
      exact this
    constructor
    · rintro ⟨⟨-, -, a, b⟩, c, d⟩
      exact ⟨c, a, b, Or.inr ((th c).mp d)⟩
    · rintro ⟨c, a, b, d⟩
      exact ⟨⟨rfl, by omega, a, b⟩, c, (th c).mpr (d.resolve_left (by decide))⟩
theorem mk_plo_b {why th h o mt L : Int32} {b : Nat} (hb : b < 32) : ∀ n, n ≤ 32 → mj_b (mj_plo μ why th h o mt L n) b = (mj_b L b || (decide (b < n) && (decide (¬ why < 4) && mj_pbf μ why th h o mt b))) := by
  intro n
  induction n with
  | zero => intro _; rw [decide_eq_false (Nat.not_lt_zero b), Bool.false_and, Bool.or_false]; rfl
  | succ n ih =>
    intro hn
    have ih' := ih (by omega)
    unfold mj_plo at ih' ⊢
    rw [mj_it_s]
    by_cases c : ¬ why < 4 ∧ mj_pbf μ why th h o mt n = true
    · rw [if_pos c, mj_b_or, ih', mj_b_sh1 (by omega) hb]
      by_cases e : b = n
      · rw [e, decide_eq_false (Nat.lt_irrefl n), decide_eq_true (Nat.lt_succ_self n), decide_eq_true rfl, decide_eq_true c.1, c.2]
        simp
      · rw [decide_eq_false e, Bool.or_false, show decide (b < n + 1) = decide (b < n) from mj_dec (by omega)]
    · rw [if_neg c, ih']
      by_cases e : b = n
      · have : (decide (¬ why < 4) && mj_pbf μ why th h o mt n) = false := by
          cases z : (decide (¬ why < 4) && mj_pbf μ why th h o mt n)
          · rfl
          · rw [Bool.and_eq_true, decide_eq_true_eq] at z
            exact absurd z c
        rw [e, this, Bool.and_false, Bool.and_false]
      · rw [show decide (b < n + 1) = decide (b < n) from mj_dec (by omega)]
theorem mk_45 {P Q : Prop} [Decidable P] [Decidable Q] (v : Int32) (e : v = if P then (4 : Int32) else if Q then 5 else 0) : v = 0 ∨ v = 1 ∨ v = 2 ∨ v = 3 ∨ v = 4 ∨ v = 5 := by
  rw [e]
  split
  · exact Or.inr (Or.inr (Or.inr (Or.inr (Or.inl rfl))))
  · split
    · exact Or.inr (Or.inr (Or.inr (Or.inr (Or.inr rfl))))
    · exact Or.inl rfl
theorem mk_pwy_c {h set o mt : Int32} {N : Nat} {l : Nat → Int32} : mj_pwy μ h set o mt N l = 0 ∨ mj_pwy μ h set o mt N l = 1 ∨ mj_pwy μ h set o mt N l = 2 ∨ mj_pwy μ h set o mt N l = 3 ∨ mj_pwy μ h set o mt N l = 4 ∨ mj_pwy μ h set o mt N l = 5 := by
  unfold mj_pwy mj_Mbars
  split
  · split
    · exact Or.inl rfl
    · split
      · exact Or.inr (Or.inr (Or.inl rfl))
      · cases mj_tl (μ.1 68) set 0 N 0 with
        | none => exact Or.inr (Or.inr (Or.inr (Or.inl rfl)))
        | some t => exact mk_45 _ rfl
  · exact Or.inr (Or.inl rfl)
theorem mk_pwy_0 {h set o mt : Int32} {N : Nat} {l : Nat → Int32} (z : mj_pwy μ h set o mt N l = 0) : set &&& (mj_Gset μ h o mt l N ^^^ -1) = 0 := by
  unfold mj_pwy at z
  by_cases c : set &&& (mj_Gset μ h o mt l N ^^^ -1) = 0
  · exact c
  · rw [if_neg c] at z
    exact absurd z (by decide)
theorem mk_or3 {a b c : Int32} : (a ||| b) ||| c = (a ||| c) ||| b := by
  apply mj_b_ext
  intro k _
  rw [mj_b_or, mj_b_or, mj_b_or, mj_b_or]
  cases mj_b a k <;> cases mj_b b k <;> cases mj_b c k <;> rfl
/-- one hour more: both sides alike -/
theorem mk_te_step {o h : Nat} {st : Nat → Int32} {mt : Int32} {p : mj_St × Int32 × Int32} {q : (Nat → Int32) × Int32 × Int32} {x y : Nat → Nat} {G : Nat} (hh : h < 12) (ho : o < 8) (hr : mk_HR p.1 μ D 60 x y G q.1 mt) (h1 : p.2.1 = nI G) (h2 : p.1.1 59 2 = q.2.1) (h3 : p.2.1 ||| p.2.2 = q.2.2) :
    ∃ x' y' G', mk_HR (mj_te1 st (nI o) (D 14 14) h p).1 μ D 60 x' y' G' (mj_pl1 μ st (nI o) mt (D 14 14) h q).1 mt ∧ (mj_te1 st (nI o) (D 14 14) h p).2.1 = nI G' ∧ (mj_te1 st (nI o) (D 14 14) h p).1.1 59 2 = (mj_pl1 μ st (nI o) mt (D 14 14) h q).2.1 ∧ (mj_te1 st (nI o) (D 14 14) h p).2.1 ||| (mj_te1 st (nI o) (D 14 14) h p).2.2 = (mj_pl1 μ st (nI o) mt (D 14 14) h q).2.2 := by
  have hw := mk_why_eq (set := st h) hr hh ho
  rw [← h1] at hw
  have hk := hr.2.2.1
  have N9 := hk.1
  have vc := mk_pwy_c (μ := μ) (h := nI h) (set := st h) (o := nI o) (mt := mt) (N := D 14 14) (l := q.1)
  have v0 := mk_pwy_0 (μ := μ) (h := nI h) (set := st h) (o := nI o) (mt := mt) (N := D 14 14) (l := q.1)
  unfold mj_te1 mj_pl1
  rw [hw]
  generalize mj_pwy μ (nI h) (st h) (nI o) mt (D 14 14) q.1 = V at *
  have sub : (if V = 0 then st h else 0) &&& (mj_Gset μ (nI h) (nI o) mt q.1 (D 14 14) ^^^ -1) = 0 := by
    by_cases c : V = 0
    · rw [if_pos c]; exact v0 c
    · rw [if_neg c]
      apply mj_b_ext
      intro k _
      rw [mj_b_and, mj_b_0, Bool.false_and]
  obtain ⟨P, P1, P2, P3, P4, P5, P6, P7⟩ := mk_pass_eq hr hh ho sub
  rw [← h1] at P2
  have hr' := hr
  obtain ⟨hD, hM, -, r1, r2, r3, r4, r5, r6⟩ := hr'
  have inner : ∀ c, c ≠ 59 → (if ¬ V = 0 ∧ p.1.1 59 2 = -1 then mj_setI p.1 59 2 (10 * nI h + V) else p.1).1 c = p.1.1 c := fun c hc => by
    split
    · exact mj_setI_ne _ _ _ hc
    · rfl
  have GP : G ||| P < 512 := Nat.or_lt_two_pow (n := 9) r4 P1
  have hHR : mk_HR (mj_psS (if ¬ V = 0 ∧ p.1.1 59 2 = -1 then mj_setI p.1 59 2 (10 * nI h + V) else p.1) 60 (if V = 0 then st h else 0) (D 14 14)) μ D 60 (fun i => x i - if mj_b (if V = 0 then st h else 0) i = true then 1 else 0) (fun i => if (G ||| P).testBit i = true then 4 else x i - if mj_b (if V = 0 then st h else 0) i = true then 1 else 0) (G ||| P) (mj_nxd μ (nI h) (if V = 0 then st h else 0) (nI o) mt q.1) mt := by
    have o46 : ∀ c, c < 46 → (mj_psS (if ¬ V = 0 ∧ p.1.1 59 2 = -1 then mj_setI p.1 59 2 (10 * nI h + V) else p.1) 60 (if V = 0 then st h else 0) (D 14 14)).1 c = p.1.1 c := fun c hc => by
      rw [mj_psS_o (by omega)]
      exact inner c (by omega)
    refine ⟨mj_isD_o o46 hD, hM, hk, by rw [mj_ring_o o46]; exact r1, r2, fun i hi => ?_, GP, fun i hi => ?_, fun i hi h5 => ⟨P7 i hi h5, rfl⟩⟩
    · have e : (mj_psS (if ¬ V = 0 ∧ p.1.1 59 2 = -1 then mj_setI p.1 59 2 (10 * nI h + V) else p.1) 60 (if V = 0 then st h else 0) (D 14 14)).1 60 i = p.1.1 60 i - mj_z (mj_b (if V = 0 then st h else 0) i) := by
        show (if 60 = 60 ∧ i < D 14 14 then (if ¬ V = 0 ∧ p.1.1 59 2 = -1 then mj_setI p.1 59 2 (10 * nI h + V) else p.1).1 60 i - mj_z (mj_b (if V = 0 then st h else 0) i) else _) = _
        rw [if_pos ⟨rfl, hi⟩, inner 60 (by decide)]
      have := (r3 i hi).2
      refine ⟨by rw [e]; exact P6 i hi, ?_⟩
      show x i - _ ≤ D 24 i
      omega
    · rw [Nat.testBit_or, Bool.or_eq_true] at hi
      rcases hi with z | z
      · exact r5 i z
      · exact ⟨((P4 i).mp z).1, ((P4 i).mp z).2.1⟩
  have e1 : p.2.1 ||| nI P = nI (G ||| P) := by rw [h1]; exact mj_nI_or (by omega) (by omega)
  have s59 : ∀ S : mj_St, (mj_psS S 60 (if V = 0 then st h else 0) (D 14 14)).1 59 2 = S.1 59 2 := fun S => by rw [mj_psS_o (by decide)]
  refine ⟨fun i => x i - if mj_b (if V = 0 then st h else 0) i = true then 1 else 0, fun i => if (G ||| P).testBit i = true then 4 else x i - if mj_b (if V = 0 then st h else 0) i = true then 1 else 0, G ||| P, ?_, by rw [P2]; exact e1, ?_, ?_⟩
  · by_cases c : V = 0
    · have e : ∀ A B : (Nat → Int32) × Int32 × Int32, A.1 = mj_nxd μ (nI h) (if V = 0 then st h else 0) (nI o) mt q.1 → (if V = 0 then A else B).1 = mj_nxd μ (nI h) (if V = 0 then st h else 0) (nI o) mt q.1 := fun A B e => by rw [if_pos c]; exact e
      rw [e _ _ (by rw [if_pos c])]
      exact hHR
    · have e : ∀ A B : (Nat → Int32) × Int32 × Int32, B.1 = mj_nxd μ (nI h) (if V = 0 then st h else 0) (nI o) mt q.1 → (if V = 0 then A else B).1 = mj_nxd μ (nI h) (if V = 0 then st h else 0) (nI o) mt q.1 := fun A B e => by rw [if_neg c]; exact e
      rw [e _ _ (by rw [if_neg c])]
      exact hHR
  · rw [s59]
    by_cases c : V = 0
    · rw [if_pos c, if_neg (fun z => z.1 c)]
      exact h2
    · rw [if_neg c]
      by_cases d : p.1.1 59 2 = -1
      · rw [if_pos ⟨c, d⟩, mj_setI_eq]
        show _ = if q.2.1 = -1 then _ else _
        rw [← h2, if_pos d]
      · rw [if_neg (fun z => d z.2)]
        show _ = if q.2.1 = -1 then _ else _
        rw [← h2, if_neg d]
  · show (p.2.1 ||| mj_pls p.1 60 (if V = 0 then st h else 0) (nI h) (nI o) p.2.1 (D 14 14)) ||| (if V = 4 then p.2.2 ||| mj_broken p.1 6 (st h) (nI h) (nI o) (D 14 14) (D 14 14) else if V = 5 then p.2.2 ||| mj_broken p.1 5 (st h) (nI h) (nI o) (D 14 14) (D 14 14) else p.2.2) = _
    rw [P2]
    by_cases c : V = 0
    · rw [if_pos c, if_neg (by rw [c]; decide), if_neg (by rw [c]; decide)]
      rw [if_pos c] at P3
      show _ = q.2.2 ||| mj_nxl μ (nI h) (st h) (nI o) mt q.1 (D 14 14)
      rw [P3, ← h3, mk_or3]
    · rw [if_neg c]
      rw [if_neg c] at P3
      show _ = mj_plo μ V (mj_pth μ V (st h) (D 14 14)) (nI h) (nI o) mt q.2.2 (D 14 14) ||| mj_nxl μ (nI h) 0 (nI o) mt q.1 (D 14 14)
      rw [P3, ← h3]
      have pk : ∀ k, k = 4 ∨ k = 5 → V = nI k → mj_plo μ V (mj_pth μ V (st h) (D 14 14)) (nI h) (nI o) mt (p.2.1 ||| p.2.2) (D 14 14) = (p.2.1 ||| p.2.2) ||| mj_broken p.1 (nI (if k = 4 then 6 else 5)) (st h) (nI h) (nI o) (D 14 14) (D 14 14) := fun k h45 ek => by
        apply mj_b_ext
        intro b hb
        rw [mk_plo_b hb _ (by omega), mj_b_or (a := p.2.1 ||| p.2.2), ek]
        congr 1
        unfold mj_broken
        rw [mk_fbt hb (by omega)]
        by_cases d : b < D 14 14
        · have ge : decide (¬ nI k < 4) = true := decide_eq_true (by rcases h45 with z | z <;> subst z <;> decide)
          rw [decide_eq_true d, ge, Bool.true_and, Bool.true_and, Bool.true_and, mk_pbf_eq hD hM hk r2 hh ho d h45]
        · rw [decide_eq_false d, Bool.false_and, Bool.false_and]
      have pn : V < 4 → mj_plo μ V (mj_pth μ V (st h) (D 14 14)) (nI h) (nI o) mt (p.2.1 ||| p.2.2) (D 14 14) = p.2.1 ||| p.2.2 := fun lt => by
        apply mj_b_ext
        intro b hb
        rw [mk_plo_b hb _ (by omega), decide_eq_false (show ¬ ¬ V < 4 from fun z => z lt), Bool.false_and, Bool.and_false, Bool.or_false]
      rcases vc with z | z | z | z | z | z
      · exact absurd z c
      · rw [pn (by rw [z]; decide), if_neg (by rw [z]; decide), if_neg (by rw [z]; decide), mk_or3]
      · rw [pn (by rw [z]; decide), if_neg (by rw [z]; decide), if_neg (by rw [z]; decide), mk_or3]
      · rw [pn (by rw [z]; decide), if_neg (by rw [z]; decide), if_neg (by rw [z]; decide), mk_or3]
      · have p4 : mj_plo μ V (mj_pth μ V (st h) (D 14 14)) (nI h) (nI o) mt (p.2.1 ||| p.2.2) (D 14 14) = (p.2.1 ||| p.2.2) ||| mj_broken p.1 6 (st h) (nI h) (nI o) (D 14 14) (D 14 14) := pk 4 (Or.inl rfl) z
        rw [p4, if_pos z]
        apply mj_b_ext
        intro b hb
        simp only [mj_b_or]
        cases mj_b p.2.1 b <;> cases mj_b (nI P) b <;> cases mj_b p.2.2 b <;> simp
      · have p5 : mj_plo μ V (mj_pth μ V (st h) (D 14 14)) (nI h) (nI o) mt (p.2.1 ||| p.2.2) (D 14 14) = (p.2.1 ||| p.2.2) ||| mj_broken p.1 5 (st h) (nI h) (nI o) (D 14 14) (D 14 14) := pk 5 (Or.inr rfl) z
        rw [p5, if_neg (by rw [z]; decide), if_pos z]
        apply mj_b_ext
        intro b hb
        simp only [mj_b_or]
        cases mj_b p.2.1 b <;> cases mj_b (nI P) b <;> cases mj_b p.2.2 b <;> simp
/-- a row told by hand: both sides come to the same -/
theorem mk_te_eq {o : Nat} {st : Nat → Int32} {mt : Int32} (hD : mj_isD σ D) (hM : mk_isM μ D) (hk : mj_okD D) (hrg : μ.1 61 46 = mj_ring σ (D 14 14)) (hmt : ∀ b, b < 32 → mj_b mt b = decide (b < D 14 14)) (ho : o < 8) : ∀ n, n ≤ 12 →
    ∃ x y G, mk_HR (mj_te σ st (nI o) (D 14 14) n).1 μ D 60 x y G (mj_ply μ st (nI o) mt (D 14 14) n).1 mt ∧ (mj_te σ st (nI o) (D 14 14) n).2.1 = nI G ∧ (mj_te σ st (nI o) (D 14 14) n).1.1 59 2 = (mj_ply μ st (nI o) mt (D 14 14) n).2.1 ∧ (mj_te σ st (nI o) (D 14 14) n).2.1 ||| (mj_te σ st (nI o) (D 14 14) n).2.2 = (mj_ply μ st (nI o) mt (D 14 14) n).2.2 := by
  have N9 := hk.1
  intro n
  induction n with
  | zero =>
    intro _
    refine ⟨D 24, D 24, 0, ?_, rfl, ?_, ?_⟩
    · have o46 : ∀ c, c < 46 → (mj_setI (mj_cpyI σ 24 60 0 0 9) 59 2 (-1)).1 c = σ.1 c := fun c hc => by
        rw [mj_setI_ne _ _ _ (by omega), mj_cpyI_o (by omega)]
      refine ⟨mj_isD_o o46 hD, hM, hk, by show μ.1 61 46 = mj_ring (mj_setI (mj_cpyI σ 24 60 0 0 9) 59 2 (-1)) (D 14 14); rw [mj_ring_o o46]; exact hrg, hmt, fun i hi => ⟨?_, Nat.le_refl _⟩, by decide, fun i z => by rw [Nat.zero_testBit] at z; exact absurd z (by decide), fun i hi _ => ⟨(hM.2.2.2.1 i hi).2.2.2.2.2.2.2.1, by rw [Nat.zero_testBit, if_neg (by decide)]⟩⟩
      show (mj_setI (mj_cpyI σ 24 60 0 0 9) 59 2 (-1)).1 60 i = _
      rw [mj_setI_ne _ _ _ (by decide), mj_cpyI_b, if_pos (by omega)]
      exact (hD.2.2.2.2.1 i hi).2.2.2.2.2.2.2.1
    · show (mj_setI (mj_cpyI σ 24 60 0 0 9) 59 2 (-1)).1 59 2 = -1
      exact mj_setI_eq
    · show (0 : Int32) ||| 0 = 0
      decide
  | succ n ih =>
    intro hn
    obtain ⟨x, y, G, a1, a2, a3, a4⟩ := ih (by omega)
    exact mk_te_step (st := st) (h := n) (by omega) ho a1 a2 a3 a4
end
