section
variable {X : mj_X} {σ τ ρ : mj_St} {D : Nat → Nat → Nat} {R R' B : Nat}
/-- a promise by its number -/
theorem mk_pno {i : Int32} (hk : mj_okD D) (h : mj_lt0 i (nI (D 14 14)) = true) : ∃ n, n < D 14 14 ∧ i = nI n ∧ i.toNatClampNeg = n := by
  have N9 := hk.1
  obtain ⟨n, n1, n2⟩ := mj_nI_of (mj_lt0_inb h (Nat.le_refl _) (by omega)) (by omega)
  exact ⟨n, n1, n2, by rw [n2]; exact nI_clamp (by omega)⟩
theorem cl_promiseOf {i k : Int32} (h : mk_Inv σ D R B) : mk_Cl X σ R B 43 184 [.int i, .int k] := by
  obtain ⟨⟨hD, hM, hk, -, -, -, -, c5, -⟩, -⟩ := id h
  have N9 := hk.1
  have h16 := hk.2.1
  by_cases c : mj_lt0 i (nI (D 14 14)) = true ∧ mj_inb k 12 = true
  · obtain ⟨n, n1, n2, n3⟩ := mk_pno hk c.1
    refine mk_Cl_ok (v := mj_Cpo σ i.toNatClampNeg k) (v' := mj_Mpo σ i.toNatClampNeg k) h (kc := 2) (km := 2) (by decide) (by decide) ?_ (fun d => ?_) (fun d => ?_)
    · obtain ⟨a15, a16, a17, a18, a19, a20, a21, a24, a25, a26⟩ := hD.2.2.2.2.1 n n1
      obtain ⟨b65, b66, b67, b68, b69, b70, b71, b74, b76, b77, -⟩ := hM.2.2.2.1 n n1
      obtain ⟨c22, c72, -, c23, c73, -⟩ := c5 n n1
      have e11 : (σ.1 14 16 >>> (nI n &&& 31)) &&& 1 = σ.1 77 n := by
        rw [hD.2.1, mj_bt (by omega), mj_b_nI (by omega), b77]
        cases (D 14 16).testBit n <;> rfl
      unfold mj_Cpo mj_Mpo
      rw [n3, a15, a16, a17, a18, a19, a20, a21, a24, a25, c22, c23, e11, b65, b66, b67, b68, b69, b70, b71, b74, b76, c72, c73]
    · have q := sp_promiseOf (X := X) (d := d) (σ := σ) (N := D 14 14) (i := i) (k := k) hD.1 N9
      rw [if_pos c] at q
      exact q
    · have q := sp_M_promiseOf (X := X) (d := d) (σ := σ) (N := D 14 14) (i := i) (k := k) hM.1 N9
      rw [if_pos c] at q
      exact q
  · refine mk_Cl_no (v := -5) (w := -5) h (kc := 2) (km := 2) (by decide) (by decide) (fun d => ?_) (fun d => ?_)
    · have q := sp_promiseOf (X := X) (d := d) (σ := σ) (N := D 14 14) (i := i) (k := k) hD.1 N9
      rw [if_neg c] at q
      exact q
    · have q := sp_M_promiseOf (X := X) (d := d) (σ := mj_rfC σ (-5)) (N := D 14 14) (i := i) (k := k) (by rw [mk_rfC_o (by decide)]; exact hM.1) N9
      rw [if_neg c] at q
      exact q
theorem mk_isu : ∀ a, a < 7 → ∀ k, k < 7 → 1 ≤ a → mj_isu (nI a) (nI k) = (decide (nI k = 0) || (decide (nI k = nI a) || (decide (nI k = 1) && decide (nI a < 5)))) := by decide
theorem cl_says {s k : Int32} (h : mk_Inv σ D R B) : mk_Cl X σ R B 15 165 [.int s, .int k] := by
  obtain ⟨⟨hD, hM, hk, -, -, -, -, c5, -⟩, -⟩ := id h
  have N9 := hk.1
  have qc := fun d => sp_says (X := X) (d := d) (σ := σ) (N := D 14 14) (s := s) (k := k) hD.1 N9
  have qm := fun (τ : mj_St) (e : ∀ c, 64 < c → τ.1 c = σ.1 c) d => sp_M_says (X := X) (d := d) (σ := τ) (s := s) (k := k) (fun hs n1 n0 => by
    obtain ⟨n, m1, m2, m3, -, sh, -⟩ := mk_sh h hs
    rw [e 78 (by decide), m3] at n1 n0
    rw [e 81 (by decide), m3]
    rcases sh with z | ⟨_, _, _, z, _⟩ | ⟨p, p1, p2, p3, p4⟩
    · exact absurd z.2 n0
    · exact absurd z n1
    · rw [p4]; exact mj_in_nI (by omega) (by decide))
  have rf : ∀ w : Int32, ∀ c, 64 < c → (mj_rfC σ w).1 c = σ.1 c := fun w c hc => mk_rfC_o (by omega)
  by_cases c : mj_inb s 8 = true ∧ mj_inb k 7 = true
  · obtain ⟨n, m1, m2, m3, -, sh, -⟩ := mk_sh h c.1
    obtain ⟨a, a1, a2⟩ := mj_nI_of c.2 (by decide)
    rcases sh with ⟨z1, z2⟩ | ⟨b, b1, z1, z2, -⟩ | ⟨p, p1, z1, z2, z3⟩
    · refine mk_Cl_no (v := -3) (w := -3) h (kc := 3) (km := 2) (by decide) (by decide) (fun d => ?_) (fun d => ?_)
      · have q := qc d
        rw [if_pos c, m3, z1, if_neg (by decide), if_pos (by
          unfold mj_lt0
          rw [decide_eq_true (show (-1 : Int32) < 0 by decide)]
          rfl)] at q
        exact q
      · have q := qm _ (rf (-3)) d
        rw [if_pos c, rf (-3) 78 (by decide), m3, z2, if_neg (by decide), if_pos rfl] at q
        exact q
    · refine mk_Cl_no (v := -2) (w := -2) h (kc := 3) (km := 2) (by decide) (by decide) (fun d => ?_) (fun d => ?_)
      · have q := qc d
        rw [if_pos c, m3, z1, if_pos (show ¬ nI (100 + b) < 100 from nI_nlt (a := 100 + b) (b := 100) (by omega) (by omega))] at q
        exact q
      · have q := qm _ (rf (-2)) d
        rw [if_pos c, rf (-2) 78 (by decide), m3, z2, if_pos rfl] at q
        exact q
    · have k15 := (hk.2.2.2.2.1 p p1).1
      obtain ⟨a15, a16, a17, a18, a19, a20, a21, a24, a25, a26⟩ := hD.2.2.2.2.1 p p1
      obtain ⟨b65, b66, b67, b68, b69, b70, b71, b74, b76, b77, -⟩ := hM.2.2.2.1 p p1
      obtain ⟨c22, c72, -, c23, c73, -⟩ := c5 p p1
      have ek : mj_isu (σ.1 15 p) k = mj_Msk σ p k := by
        unfold mj_Msk
        rw [a15, b65, a2]
        exact mk_isu (D 15 p) (by omega) a a1 k15.1
      have np : (nI p).toNatClampNeg = p := nI_clamp (by omega)
      have clt : mj_lt0 (nI p) (nI (D 14 14)) = true := mj_lt0_nI p1 (by omega)
      by_cases c2 : mj_isu (σ.1 15 p) k = true
      · refine mk_Cl_ok (v := mj_Csv σ p k) (v' := mj_Msv σ p k) h (kc := 3) (km := 2) (by decide) (by decide) ?_ (fun d => ?_) (fun d => ?_)
        · unfold mj_Csv mj_Msv
          rw [a16, a17, a18, a24, a25, c23, b66, b67, b68, b74, b76, c73]
        · have q := qc d
          rw [if_pos c, m3, z1, if_neg (fun z => z (show nI p < 100 from nI_lt (b := 100) (by omega) (by omega))), clt, if_neg (by decide), np, if_pos c2] at q
          exact q
        · have q := qm σ (fun _ _ => rfl) d
          rw [if_pos c, m3, z2, if_neg (by decide), if_neg (by decide), z3, np, ← ek, if_pos c2] at q
          exact q
      · refine mk_Cl_no (v := -2) (w := -2) h (kc := 3) (km := 2) (by decide) (by decide) (fun d => ?_) (fun d => ?_)
        · have q := qc d
          rw [if_pos c, m3, z1, if_neg (fun z => z (show nI p < 100 from nI_lt (b := 100) (by omega) (by omega))), clt, if_neg (by decide), np, if_neg c2] at q
          exact q
        · have q := qm _ (rf (-2)) d
          have em : mj_Msk (mj_rfC σ (-2)) p k = mj_Msk σ p k := by
            unfold mj_Msk
            rw [rf (-2) 65 (by decide)]
          rw [if_pos c, rf (-2) 78 (by decide), m3, z2, if_neg (by decide), if_neg (by decide), rf (-2) 81 (by decide), z3, np, em, ← ek, if_neg c2] at q
          exact q
  · refine mk_Cl_no (v := -1) (w := -1) h (kc := 3) (km := 2) (by decide) (by decide) (fun d => ?_) (fun d => ?_)
    · have q := qc d
      rw [if_neg c] at q
      exact q
    · have q := qm _ (rf (-1)) d
      rw [if_neg c] at q
      exact q
/-- what is owed for some: both sides add alike -/
theorem mk_ow_eq {w : Int32} {b : Nat → Bool} {q : Nat → Prop} [DecidablePred q] (h : mk_Inv σ D R B) (hb : ∀ i, i < D 14 14 → (b i = true ↔ q i)) : mj_owed σ 23 22 w b (D 14 14) = mj_it (fun i u => if q i ∧ σ.1 73 i = w then u + σ.1 72 i else u) 0 (D 14 14) := by
  obtain ⟨⟨hD, hM, hk, -, -, -, -, c5, -⟩, -⟩ := h
  unfold mj_owed
  refine mj_it_congr _ (fun i hi u => ?_)
  obtain ⟨c22, c72, -, c23, c73, -⟩ := c5 i hi
  rw [c22, c72, c23, c73]
  by_cases c : q i ∧ nI (D 23 i) = w
  · rw [if_pos c, if_pos ⟨(hb i hi).mpr c.1, c.2⟩]
  · rw [if_neg c, if_neg (fun z => c ⟨(hb i hi).mp z.1, z.2⟩)]
theorem mk_77 {i : Nat} (hD : mj_isD σ D) (hM : mk_isM σ D) (hk : mj_okD D) (hi : i < D 14 14) : mj_b (σ.1 14 16) i = true ↔ σ.1 77 i = 1 := by
  have N9 := hk.1
  have h16 := hk.2.1
  rw [hD.2.1, mj_b_nI (by omega), (hM.2.2.2.1 i hi).2.2.2.2.2.2.2.2.2.1]
  cases (D 14 16).testBit i <;> decide
theorem cl_debt {w : Int32} (h : mk_Inv σ D R B) : mk_Cl X σ R B 142 240 [.int w] := by
  obtain ⟨⟨hD, hM, hk, -⟩, -⟩ := id h
  have N9 := hk.1
  by_cases c : mj_inb w 6 = true
  · refine mk_Cl_ok (v := mj_owed σ 23 22 w (mj_b (σ.1 14 16)) (D 14 14)) (v' := mj_Mdb σ w (D 14 14)) h (kc := 2) (km := 2) (by decide) (by decide) (mk_ow_eq h (fun i hi => mk_77 hD hM hk hi)) (fun d => ?_) (fun d => ?_)
    · have q := sp_debt (X := X) (d := d) (σ := σ) (N := D 14 14) (w := w) hD.1 N9
      rw [if_pos c] at q
      exact q
    · have q := sp_M_debt (X := X) (d := d) (σ := σ) (N := D 14 14) (w := w) hM.1 N9
      rw [if_pos c] at q
      exact q
  · refine mk_Cl_no (v := -1) (w := -1) h (kc := 2) (km := 2) (by decide) (by decide) (fun d => ?_) (fun d => ?_)
    · have q := sp_debt (X := X) (d := d) (σ := σ) (N := D 14 14) (w := w) hD.1 N9
      rw [if_neg c] at q
      exact q
    · have q := sp_M_debt (X := X) (d := d) (σ := mj_rfC σ (-1)) (N := D 14 14) (w := w) (by rw [mk_rfC_o (by decide)]; exact hM.1) N9
      rw [if_neg c] at q
      exact q
theorem mk_pop512 : ∀ m, m < 512 → mj_pop (nI m) = nI (mj_sgm (fun i => if m.testBit i = true then 1 else 0) 9) := by decide +kernel
theorem mk_gn_D (hM : mk_isM σ D) : ∀ n, n ≤ D 14 14 → mj_Mgn σ n = nI (mj_sgm (fun i => if (D 14 16).testBit i = true then 1 else 0) n) := by
  intro n
  induction n with
  | zero => intro _; rfl
  | succ n ih =>
    intro hn
    have ih' := ih (by omega)
    unfold mj_Mgn at ih' ⊢
    rw [mj_it_s, ih', (hM.2.2.2.1 n (by omega)).2.2.2.2.2.2.2.2.2.1, nI_add]
    rfl
theorem cl_status {x : Int32} (h : mk_Inv σ D R B) : mk_Cl X σ R B 155 252 [.int x] := by
  obtain ⟨⟨hD, hM, hk, c1, -, -, c4, -⟩, -, ⟨o1, -, o3, -⟩, -⟩ := id h
  have N9 := hk.1
  refine mk_Cl_ok (v := mj_Cst8 σ x) (v' := mj_Mst8 σ (D 14 14) x) h (kc := 2) (km := 3) (by decide) (by decide) ?_ (fun d => sp_status) (fun d => sp_M_status hM.1 N9)
  have ep : mj_pop (σ.1 14 16) = mj_Mgn σ (D 14 14) := by
    rw [hD.2.1, mk_pop512 _ hk.2.1, mk_gn_D hM _ (Nat.le_refl _)]
    congr 1
    have e9 : 9 = D 14 14 + (9 - D 14 14) := by omega
    have key : ∀ j, mj_sgm (fun i => if (D 14 16).testBit i = true then 1 else 0) (D 14 14 + j) = mj_sgm (fun i => if (D 14 16).testBit i = true then 1 else 0) (D 14 14) := by
      intro j
      induction j with
      | zero => rfl
      | succ j ih =>
        show mj_sgm _ (D 14 14 + j) + (if (D 14 16).testBit (D 14 14 + j) = true then 1 else 0) = _
        rw [ih, if_neg (fun z => by have := (c1 _ z).1; omega)]
        rfl
    rw [e9]
    exact key _
  have ew : σ.1 14 15 = nI (mj_Mkn σ true (D 14 14)) := by
    rw [c4, mj_Mkn_wc, mk_wc_D hM hk _ (Nat.le_refl _)]
  unfold mj_Cst8 mj_Mst8
  rw [ep, ew, hD.1, hD.2.2.1.trans hM.2.1.symm, hD.2.2.2.1.trans hM.2.2.1.symm, o3]
  by_cases x0 : x = 0
  · rw [x0, if_pos rfl, if_neg (show ¬ (¬ (0 : Int32) < 11 ∧ ¬ (17 : Int32) < 0) by decide), if_pos rfl]
  · rw [if_neg x0, if_neg x0]
    by_cases x1 : x = 1
    · rw [x1, if_pos rfl, if_neg (show ¬ (¬ (1 : Int32) < 11 ∧ ¬ (17 : Int32) < 1) by decide), if_pos rfl]
    · rw [if_neg x1, if_neg x1]
      by_cases x2 : x = 2
      · rw [x2, if_pos rfl, if_neg (show ¬ (¬ (2 : Int32) < 11 ∧ ¬ (17 : Int32) < 2) by decide), if_pos rfl]
      · rw [if_neg x2, if_neg x2]
        by_cases x3 : x = 3
        · rw [x3, if_pos rfl, if_neg (show ¬ (¬ (3 : Int32) < 11 ∧ ¬ (17 : Int32) < 3) by decide), if_pos rfl]
        · rw [if_neg x3, if_neg x3]
          by_cases x4 : x = 4
          · rw [x4, if_pos rfl, if_neg (show ¬ (¬ (4 : Int32) < 11 ∧ ¬ (17 : Int32) < 4) by decide), if_pos rfl]
          · rw [if_neg x4, if_neg x4]
            by_cases x5 : x = 5
            · rw [x5, if_pos rfl, if_neg (show ¬ (¬ (5 : Int32) < 11 ∧ ¬ (17 : Int32) < 5) by decide), if_pos rfl]
            · rw [if_neg x5, if_neg x5]
              by_cases c : ¬ x < 11 ∧ ¬ 17 < x
              · rw [if_pos c, if_pos c]
                obtain ⟨n, n1, n2, n3⟩ := mk_nn (x := x) (fun z => c.1 (by
                  have a := Int32.lt_iff_toInt_lt.mp z
                  apply Int32.lt_iff_toInt_lt.mpr
                  have e1 : (11 : Int32).toInt = 11 := by decide
                  have e0 : (0 : Int32).toInt = 0 := by decide
                  omega))
                have l1 : 11 ≤ n := Nat.le_of_not_lt (fun z => c.1 (by rw [n2]; exact nI_lt (b := 11) z (by decide)))
                have l2 : n ≤ 17 := Nat.le_of_not_lt (fun z => c.2 (by rw [n2]; exact nI_lt (a := 17) z (by omega)))
                have e : (x - 10).toNatClampNeg = n - 10 := by
                  rw [n2, show (10 : Int32) = nI 10 from rfl, mj_nI_sub (by omega)]
                  exact nI_clamp (by omega)
                rw [e]
                exact o1 _ (by omega)
              · rw [if_neg c, if_neg c]
end
