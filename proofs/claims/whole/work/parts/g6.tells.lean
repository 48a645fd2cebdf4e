section
variable {X : mj_X} {σ τ ρ : mj_St} {D : Nat → Nat → Nat} {R R' B : Nat}
theorem mk_nn {x : Int32} (h : ¬ x < 0) : ∃ n : Nat, n < 2147483648 ∧ x = nI n ∧ x.toInt = n := by
  have q1 := mj_clamp h
  have q2 : x.toInt < 2147483648 := Int32.toInt_lt x
  refine ⟨x.toNatClampNeg, by omega, ?_, by omega⟩
  apply Int32.toInt_inj.mp
  rw [nI_toInt (by omega)]
  omega
theorem mk_part {i m : Int32} {e s : Nat} (hm : ¬ m < 0) (he : e ≤ 60) (h2 : σ.1 2 s = nI e) : (i < 0 ∨ nI e - m < i) ↔ mj_prt σ s i m = false := by
  obtain ⟨m', m1, m2, m3⟩ := mk_nn hm
  have e1 : (nI e - m).toInt = (e : Int) - m' := by
    rw [Int32.toInt_sub, nI_toInt (by omega), m3]
    rw [Int.bmod_def]
    omega
  unfold mj_prt
  have l0 : nI e - m < i ↔ (e : Int) - m' < i.toInt := by rw [Int32.lt_iff_toInt_lt, e1]
  rw [decide_eq_false_iff_not, h2, nI_toInt (by omega), m3, l0]
  constructor
  · rintro (z | z) ⟨q1, q2⟩
    · exact q1 z
    · omega
  · intro z
    by_cases c : i < 0
    · exact Or.inl c
    · refine Or.inr ?_
      have : ¬ (i.toInt + (m' : Int) ≤ (e : Int)) := fun y => z ⟨c, y⟩
      omega
/-- what bars a copy: both sides say the same -/
theorem mk_cr_eq {p q i j m : Int32} (h : mk_Inv σ D R B) : (¬ mj_Ccr σ p q = 0 → mj_Mcr σ p q i j m = mj_Ccr σ p q) ∧ (mj_Ccr σ p q = 0 → mj_Mcr σ p q i j m = if m < 0 then -4 else if mj_prt σ p.toNatClampNeg i m = true ∧ mj_prt σ q.toNatClampNeg j m = true then 0 else -5) := by
  have r1 := mk_rr_eq (s := p) h
  have r2 := mk_rr_eq (s := q) h
  unfold mj_Ccr mj_Mcr
  rw [r1, r2]
  unfold mj_Mw
  by_cases hp : mj_inb p 8 = true
  · by_cases hq : mj_inb q 8 = true
    · obtain ⟨a, a1, a2, a3, ⟨ea, ea1, ea2, ea3⟩, sa, -⟩ := mk_sh h hp
      obtain ⟨b, b1, b2, b3, ⟨eb, eb1, eb2, eb3⟩, sb, -⟩ := mk_sh h hq
      rw [if_pos hp, if_pos hq, a3, b3, if_neg (not_not_intro ⟨hp, hq⟩)]
      by_cases pa : σ.1 78 a = 2
      · rw [if_pos pa, if_neg (by split <;> (try split) <;> decide), if_pos (Or.inl rfl), if_pos (Or.inl pa)]
        exact ⟨fun _ => rfl, fun z => absurd z (by decide)⟩
      · rw [if_neg pa]
        by_cases pb : σ.1 78 b = 2
        · rw [if_pos pb, if_neg (by split <;> decide), if_pos (Or.inr rfl), if_pos (Or.inr (Or.inl pb))]
          exact ⟨fun _ => rfl, fun z => absurd z (by decide)⟩
        · rw [if_neg pb]
          by_cases na : σ.1 78 a = 0
          · rw [if_pos na, if_neg (by split <;> decide), if_neg (by split <;> decide), if_pos (Or.inl rfl), if_neg (fun z => by rcases z with z | z | z; exact pa z; exact pb z; rw [na] at z; exact absurd z.1 (by decide)), if_pos (Or.inl na)]
            exact ⟨fun _ => rfl, fun z => absurd z (by decide)⟩
          · rw [if_neg na]
            by_cases nb : σ.1 78 b = 0
            · rw [if_pos nb, if_neg (by decide), if_neg (by decide), if_pos (Or.inr rfl), if_neg (fun z => by rcases z with z | z | z; exact pa z; exact pb z; rw [nb] at z; exact absurd z.2.1 (by decide)), if_pos (Or.inr nb)]
              exact ⟨fun _ => rfl, fun z => absurd z (by decide)⟩
            · rw [if_neg nb, if_neg (by decide), if_neg (by decide), if_neg (by decide)]
              have ra : ∃ k, k < 4 ∧ σ.1 1 a = nI (100 + k) ∧ σ.1 78 a = 1 ∧ σ.1 79 a = nI k := by
                rcases sa with z | z | ⟨_, _, _, z, _⟩
                · exact absurd z.2 na
                · exact z
                · exact absurd z pa
              have rb : ∃ k, k < 4 ∧ σ.1 1 b = nI (100 + k) ∧ σ.1 78 b = 1 ∧ σ.1 79 b = nI k := by
                rcases sb with z | z | ⟨_, _, _, z, _⟩
                · exact absurd z.2 nb
                · exact z
                · exact absurd z pb
              obtain ⟨k, k1, k2, k3, k4⟩ := ra
              obtain ⟨l, l1, l2, l3, l4⟩ := rb
              rw [k2, l2, k3, l3, k4, l4, ea3, eb3]
              by_cases kl : k = l
              · rw [kl, if_pos rfl]
                refine ⟨fun z => absurd rfl z, fun _ => ?_⟩
                rw [if_neg (fun z => by rcases z with z | z | z; exact absurd z (by decide); exact absurd z (by decide); exact z.2.2 rfl), if_neg (by decide)]
                by_cases c : m < 0
                · rw [if_pos c, if_pos c]
                · rw [if_neg c, if_neg c]
                  have q1 := mk_part (i := i) c ea1 ea2
                  have q2 := mk_part (i := j) c eb1 eb2
                  by_cases d : mj_prt σ a i m = true ∧ mj_prt σ b j m = true
                  · rw [if_pos d]
                    refine if_neg (fun z => ?_)
                    rcases z with z | z | z | z
                    · rw [q1.mp (Or.inl z)] at d; exact absurd d.1 (by decide)
                    · rw [q2.mp (Or.inl z)] at d; exact absurd d.2 (by decide)
                    · rw [q1.mp (Or.inr z)] at d; exact absurd d.1 (by decide)
                    · rw [q2.mp (Or.inr z)] at d; exact absurd d.2 (by decide)
                  · rw [if_neg d]
                    refine if_pos ?_
                    cases e1 : mj_prt σ a i m
                    · rcases q1.mpr e1 with z | z
                      · exact Or.inl z
                      · exact Or.inr (Or.inr (Or.inl z))
                    · cases e2 : mj_prt σ b j m
                      · rcases q2.mpr e2 with z | z
                        · exact Or.inr (Or.inl z)
                        · exact Or.inr (Or.inr (Or.inr z))
                      · exact absurd ⟨e1, e2⟩ d
              · rw [if_neg (fun z => kl (by have := mj_nI_inj (by omega) (by omega) z; omega))]
                refine ⟨fun _ => ?_, fun z => absurd z (by decide)⟩
                exact if_pos (Or.inr (Or.inr ⟨rfl, rfl, fun z => kl (mj_nI_inj (by omega) (by omega) z)⟩))
    · rw [if_neg hq, if_pos (Or.inr rfl), if_pos (fun z => hq z.2)]
      exact ⟨fun _ => rfl, fun z => absurd z (by decide)⟩
  · rw [if_neg hp, if_pos (Or.inl rfl), if_pos (fun z => hp z.1)]
    exact ⟨fun _ => rfl, fun z => absurd z (by decide)⟩
theorem mk_Mcr_o {p q i j m : Int32} (h : ∀ c, 77 < c → c < 81 → τ.1 c = σ.1 c) : mj_Mcr τ p q i j m = mj_Mcr σ p q i j m := by
  unfold mj_Mcr
  rw [h 78 (by decide) (by decide), h 79 (by decide) (by decide), h 80 (by decide) (by decide)]
theorem cl_copy {p q i j m : Int32} (h : mk_Inv σ D R B) : mk_Cl X σ R B 8 160 [.int p, .int q, .int i, .int j, .int m] := by
  obtain ⟨g1, g2⟩ := mk_cr_eq (p := p) (q := q) (i := i) (j := j) (m := m) h
  by_cases c : mj_Ccr σ p q = 0
  · have g2 := g2 c
    obtain ⟨c1, c2⟩ := mj_Ccr_in c
    obtain ⟨a, a1, a2, a3, ⟨ea, ea1, ea2, ea3⟩, -, -⟩ := mk_sh h c1
    obtain ⟨b, b1, b2, b3, ⟨eb, eb1, eb2, eb3⟩, -, -⟩ := mk_sh h c2
    have cc : mj_Ccr σ (nI a) (nI b) = 0 := by rw [← a2, ← b2]; exact c
    have qc := fun d => sp_copy (X := X) (d := d) (i := i) (j := j) (n := m) cc a1 b1 (mk_sz ea1 ea2) (mk_sz eb1 eb2)
    rw [a3, b3] at g2
    by_cases c3 : m < 0
    · rw [if_pos c3] at g2
      refine mk_Cl_no (v := -4) (w := -4) h (kc := 4) (km := 2) (by decide) (by decide) (fun d => ?_) (fun d => ?_)
      · have := qc d
        rw [if_pos c3] at this
        rw [a2, b2]
        exact this
      · have e := mk_Mcr_o (p := p) (q := q) (i := i) (j := j) (m := m) (σ := σ) (τ := mj_rfC σ (-4)) (fun c _ _ => mk_rfC_o (by omega))
        have := sp_M_copy_no (X := X) (d := d) (σ := mj_rfC σ (-4)) (p := p) (q := q) (i := i) (j := j) (m := m) (by rw [e, g2]; decide)
        rw [e, g2] at this
        exact this
    · rw [if_neg c3] at g2
      by_cases c4 : mj_prt σ a i m = true ∧ mj_prt σ b j m = true
      · rw [if_pos c4] at g2
        obtain ⟨p', q', i', j', m', hp, hq, hi, hj, hm, p8, q8, hie, hje⟩ := mj_Mcr_ok g2 (by rw [a3]; exact ea3) ea1 (by rw [b3]; exact eb3) eb1
        have ep : p' = a := mj_nI_inj (by omega) (by omega) (hp.symm.trans a2)
        have eq : q' = b := mj_nI_inj (by omega) (by omega) (hq.symm.trans b2)
        subst ep
        subst eq
        have ni : i.toNatClampNeg = i' := by rw [hi]; exact nI_clamp (by omega)
        have nj : j.toNatClampNeg = j' := by rw [hj]; exact nI_clamp (by omega)
        have nm : m.toNatClampNeg = m' := by rw [hm]; exact nI_clamp (by omega)
        refine ⟨1, mj_cpyL σ (4 + p') (4 + q') i' j' m', mj_cpL (mj_cpL (mj_cpyL σ (4 + p') (4 + q') i' j' m') 83 0 82 (60 * p' + i') m') 82 (60 * q' + j') 83 0 m', D, mk_Inv_R ?_ (Nat.le_add_right _ _), mk_d (k := 4) (by decide) (fun d => ?_), mk_d (k := 2) (by decide) (fun d => ?_)⟩
        · refine mk_Inv_shelf h (fun c' _ _ _ => rfl) rfl (fun u hu => ?_)
          obtain ⟨z1, z2, z3⟩ := h.2.1 u hu
          refine ⟨z1, z2, fun x hx => ?_⟩
          have lC : (mj_cpL (mj_cpL (mj_cpyL σ (4 + p') (4 + q') i' j' m') 83 0 82 (60 * p' + i') m') 82 (60 * q' + j') 83 0 m').2.1 (4 + u) x = if u = q' ∧ j' ≤ x ∧ x < j' + m' then σ.2.1 (4 + p') (i' + (x - j')) else σ.2.1 (4 + u) x := by
            show (if 4 + u = 82 ∧ 60 * q' + j' ≤ x ∧ x < 60 * q' + j' + m' then _ else (if 4 + u = 83 ∧ 0 ≤ x ∧ x < 0 + m' then _ else (if 4 + u = 4 + q' then va_cpy (σ.2.1 (4 + p')) (σ.2.1 (4 + q')) i' j' m' else σ.2.1 (4 + u)) x)) = _
            rw [if_neg (by omega), if_neg (by omega)]
            by_cases e : u = q'
            · rw [if_pos (by omega)]
              subst e
              show (if j' ≤ x ∧ x < j' + m' then σ.2.1 (4 + p') (i' + (x - j')) else σ.2.1 (4 + u) x) = _
              by_cases e2 : j' ≤ x ∧ x < j' + m'
              · rw [if_pos e2, if_pos ⟨rfl, e2⟩]
              · rw [if_neg e2, if_neg (fun z => e2 z.2)]
            · rw [if_neg (by omega), if_neg (fun z => e z.1)]
          have l82 : ∀ y, (mj_cpyL σ (4 + p') (4 + q') i' j' m').2.1 82 y = σ.2.1 82 y := fun y => by
            show (if 82 = 4 + q' then va_cpy (σ.2.1 (4 + p')) (σ.2.1 (4 + q')) i' j' m' else σ.2.1 82) y = _
            rw [if_neg (by omega)]
          have lM : (mj_cpL (mj_cpL (mj_cpyL σ (4 + p') (4 + q') i' j' m') 83 0 82 (60 * p' + i') m') 82 (60 * q' + j') 83 0 m').2.1 82 (60 * u + x) = if u = q' ∧ j' ≤ x ∧ x < j' + m' then σ.2.1 82 (60 * p' + (i' + (x - j'))) else σ.2.1 82 (60 * u + x) := by
            have i83 : ∀ y, y < m' → (mj_cpL (mj_cpyL σ (4 + p') (4 + q') i' j' m') 83 0 82 (60 * p' + i') m').2.1 83 y = σ.2.1 82 (60 * p' + i' + y) := fun y hy => by
              show (if 83 = 83 ∧ 0 ≤ y ∧ y < 0 + m' then (mj_cpyL σ (4 + p') (4 + q') i' j' m').2.1 82 (60 * p' + i' + (y - 0)) else (mj_cpyL σ (4 + p') (4 + q') i' j' m').2.1 83 y) = _
              rw [if_pos ⟨rfl, by omega, by omega⟩, l82]
              rfl
            have i82 : ∀ y, (mj_cpL (mj_cpyL σ (4 + p') (4 + q') i' j' m') 83 0 82 (60 * p' + i') m').2.1 82 y = σ.2.1 82 y := fun y => by
              show (if 82 = 83 ∧ 0 ≤ y ∧ y < 0 + m' then (mj_cpyL σ (4 + p') (4 + q') i' j' m').2.1 82 (60 * p' + i' + (y - 0)) else (mj_cpyL σ (4 + p') (4 + q') i' j' m').2.1 82 y) = _
              rw [if_neg (by omega), l82]
            show (if 82 = 82 ∧ 60 * q' + j' ≤ 60 * u + x ∧ 60 * u + x < 60 * q' + j' + m' then (mj_cpL (mj_cpyL σ (4 + p') (4 + q') i' j' m') 83 0 82 (60 * p' + i') m').2.1 83 (0 + (60 * u + x - (60 * q' + j'))) else (mj_cpL (mj_cpyL σ (4 + p') (4 + q') i' j' m') 83 0 82 (60 * p' + i') m').2.1 82 (60 * u + x)) = _
            by_cases e : u = q' ∧ j' ≤ x ∧ x < j' + m'
            · rw [if_pos ⟨rfl, by omega, by omega⟩, if_pos e, i83 _ (by omega), show 60 * p' + i' + (0 + (60 * u + x - (60 * q' + j'))) = 60 * p' + (i' + (x - j')) by omega]
            · rw [if_neg (fun z => e (by omega)), if_neg e, i82]
          rw [lC, lM]
          by_cases e : u = q' ∧ j' ≤ x ∧ x < j' + m'
          · rw [if_pos e, if_pos e]
            exact (h.2.1 p' a1).2.2 (i' + (x - j')) (by omega)
          · rw [if_neg e, if_neg e]
            exact z3 x hx
        · have := qc d
          rw [if_neg c3, if_pos c4, ni, nj, nm] at this
          rw [a2, b2]
          exact this
        · have e := mk_Mcr_o (p := p) (q := q) (i := i) (j := j) (m := m) (σ := σ) (τ := mj_cpyL σ (4 + p') (4 + q') i' j' m') (fun c _ _ => rfl)
          rw [g2, hp, hq, hi, hj, hm] at e
          have := sp_M_copy (X := X) (d := d) (σ := mj_cpyL σ (4 + p') (4 + q') i' j' m') e a1 b1 hie hje ea1 eb1
          rw [hp, hq, hi, hj, hm]
          exact this
      · rw [if_neg c4] at g2
        refine mk_Cl_no (v := -5) (w := -5) h (kc := 4) (km := 2) (by decide) (by decide) (fun d => ?_) (fun d => ?_)
        · have := qc d
          rw [if_neg c3, if_neg c4] at this
          rw [a2, b2]
          exact this
        · have e := mk_Mcr_o (p := p) (q := q) (i := i) (j := j) (m := m) (σ := σ) (τ := mj_rfC σ (-5)) (fun c _ _ => mk_rfC_o (by omega))
          have := sp_M_copy_no (X := X) (d := d) (σ := mj_rfC σ (-5)) (p := p) (q := q) (i := i) (j := j) (m := m) (by rw [e, g2]; decide)
          rw [e, g2] at this
          exact this
  · have g1 := g1 c
    refine mk_Cl_no (v := mj_Ccr σ p q) (w := mj_Ccr σ p q) h (kc := 4) (km := 2) (by decide) (by decide) (fun d => sp_copy_no c) (fun d => ?_)
    have e := mk_Mcr_o (p := p) (q := q) (i := i) (j := j) (m := m) (σ := σ) (τ := mj_rfC σ (mj_Ccr σ p q)) (fun c _ _ => mk_rfC_o (by omega))
    have := sp_M_copy_no (X := X) (d := d) (σ := mj_rfC σ (mj_Ccr σ p q)) (p := p) (q := q) (i := i) (j := j) (m := m) (by rw [e, g1]; exact c)
    rw [e, g1] at this
    exact this
end
