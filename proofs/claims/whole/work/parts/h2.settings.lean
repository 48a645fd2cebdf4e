section
variable {X : mj_X} {σ τ ρ : mj_St} {D : Nat → Nat → Nat} {R R' B : Nat}
def mk_upD (D : Nat → Nat → Nat) (c i v : Nat) : Nat → Nat → Nat := fun c' i' => if c' = c ∧ i' = i then v else D c' i'
theorem mk_upD_o {c i v c' : Nat} (h : c' ≠ c) : mk_upD D c i v c' = D c' := by
  funext i'
  unfold mk_upD
  rw [if_neg (fun z => h z.1)]
theorem mk_upD_v {c i v j : Nat} : mk_upD D c i v c j = if j = i then v else D c j := by
  unfold mk_upD
  by_cases e : j = i
  · rw [if_pos ⟨rfl, e⟩, if_pos e]
  · rw [if_neg (fun z => e z.2), if_neg e]
/-- only cells of the deal have changed -/
theorem mk_Inv_deal {D' : Nat → Nat → Nat} (h : mk_Inv σ D R B) (h1 : ∀ c, (c < 14 ∨ (28 < c ∧ c < 62) ∨ c = 62 ∨ 77 < c) → c ≠ 61 → τ.1 c = σ.1 c) (h61 : ∀ i, 2 < i → τ.1 61 i = σ.1 61 i) (h2 : τ.2 = σ.2) (hDl : mk_Dl τ D') (hN : D' 14 14 = D 14 14) : mk_Inv τ D' R B := by
  obtain ⟨i1, i2, ⟨o1, o2, o3, o4⟩, i4, i5, i6, i7⟩ := h
  refine ⟨hDl, ?_, ⟨?_, ?_, ?_, ?_⟩, mk_Im_o (by rw [h1 0 (by omega) (by omega)]) (fun c i a b => by rw [h1 c (by omega) (by omega)]) (fun i a _ => h61 i (by omega)) (h1 90 (by omega) (by omega)) i4, mk_Scr_o (h1 84 (by omega) (by omega)) (h1 85 (by omega) (by omega)) (h1 87 (by omega) (by omega)) (h61 51 (by omega)) i5, by rw [h2]; exact i6, by unfold mj_Rb; rw [h2]; exact i7⟩
  · rw [hN]
    intro s hs
    rw [h1 1 (by omega) (by omega), h1 2 (by omega) (by omega), h1 78 (by omega) (by omega), h1 79 (by omega) (by omega), h1 80 (by omega) (by omega), h1 81 (by omega) (by omega), h2]
    exact i2 s hs
  · rw [h1 12 (by omega) (by omega), h1 62 (by omega) (by omega)]; exact o1
  · rw [h1 0 (by omega) (by omega), h61 3 (by omega)]; exact o2
  · rw [h1 0 (by omega) (by omega), h61 59 (by omega)]; exact o3
  · rw [h1 0 (by omega) (by omega), h1 13 (by omega) (by omega), h1 89 (by omega) (by omega)]; exact o4
theorem mk_set2 {c m i : Nat} {v w : Int32} : ∀ c', c' ≠ c → c' ≠ m → (mj_setI (mj_setI σ c i v) m i w).1 c' = σ.1 c' := fun c' a b => by
  rw [mj_setI_ne _ _ _ b, mj_setI_ne _ _ _ a]
theorem cl_hands {t n : Int32} (h : mk_Inv σ D R B) : mk_Cl X σ R B 44 185 [.int t, .int n] := by
  by_cases c : mj_inb t 12 = true
  · by_cases c2 : n < 0 ∨ 2 < n
    · refine mk_Cl_no (v := -6) (w := -6) h (kc := 2) (km := 2) (by decide) (by decide) (fun d => ?_) (fun d => ?_)
      · have q := sp_hands (X := X) (d := d) (σ := σ) (h := t) (n := n)
        rw [if_pos c, if_pos c2] at q
        exact q
      · have q := sp_M_hands (X := X) (d := d) (σ := mj_rfC σ (-6)) (h := t) (n := n)
        rw [if_pos c, if_pos c2] at q
        exact q
    · obtain ⟨t', t1, t2⟩ := mj_nI_of c (by decide)
      obtain ⟨n', n1, n2⟩ := mj_nI_of (mj_inb_of (k := 3) (hi := 2) (fun z => c2 (Or.inl z)) (fun z => c2 (Or.inr z)) (by decide)) (by decide)
      have t3 : t.toNatClampNeg = t' := by rw [t2]; exact nI_clamp (by omega)
      have qc := fun d => sp_hands (X := X) (d := d) (σ := σ) (h := t) (n := n)
      have qm := fun d => sp_M_hands (X := X) (d := d) (σ := mj_setI σ 27 t' n) (h := t) (n := n)
      rw [if_pos c, if_neg c2, t3] at qc qm
      obtain ⟨⟨a1, a2, a3, a4, a5, a6, a7⟩, ⟨b1, b2, b3, b4, b5, b6⟩, hk, d1, d2, d3, d4, d5, d6, d7⟩ := id h.1
      have e : ∀ c, c ≠ 27 → mk_upD D 27 t' n' c = D c := fun c hc => mk_upD_o hc
      have s : ∀ c', c' ≠ 27 → c' ≠ 63 → (mj_setI (mj_setI σ 27 t' n) 63 t' n).1 c' = σ.1 c' := mk_set2
      refine ⟨σ.1 27 t', mj_setI σ 27 t' n, mj_setI (mj_setI σ 27 t' n) 63 t' n, mk_upD D 27 t' n', mk_Inv_R (mk_Inv_deal h (fun c' hc _ => s c' (by omega) (by omega)) (fun i _ => by rw [s 61 (by decide) (by decide)]) rfl ?_ (by rw [e 14 (by decide)])) (Nat.le_add_right _ _), mk_d (k := 2) (by decide) qc, mk_d (k := 2) (by decide) (fun d => ?_)⟩
      · unfold mk_Dl mj_isD mk_isM mj_okD mk_wn mj_asD
        rw [e 14 (by decide), e 15 (by decide), e 16 (by decide), e 17 (by decide), e 18 (by decide), e 19 (by decide), e 20 (by decide), e 21 (by decide), e 22 (by decide), e 23 (by decide), e 24 (by decide), e 25 (by decide), e 26 (by decide), e 28 (by decide)]
        rw [s 14 (by decide) (by decide), s 15 (by decide) (by decide), s 16 (by decide) (by decide), s 17 (by decide) (by decide), s 18 (by decide) (by decide), s 19 (by decide) (by decide), s 20 (by decide) (by decide), s 21 (by decide) (by decide), s 22 (by decide) (by decide), s 23 (by decide) (by decide), s 24 (by decide) (by decide), s 25 (by decide) (by decide), s 26 (by decide) (by decide), s 28 (by decide) (by decide), s 61 (by decide) (by decide), s 64 (by decide) (by decide), s 65 (by decide) (by decide), s 66 (by decide) (by decide), s 67 (by decide) (by decide), s 68 (by decide) (by decide), s 69 (by decide) (by decide), s 70 (by decide) (by decide), s 71 (by decide) (by decide), s 72 (by decide) (by decide), s 73 (by decide) (by decide), s 74 (by decide) (by decide), s 75 (by decide) (by decide), s 76 (by decide) (by decide), s 77 (by decide) (by decide)]
        obtain ⟨k1, k2, k3, k4, k5, k6, k7, k8, k9⟩ := hk
        refine ⟨⟨a1, a2, a3, a4, a5, fun u hu => ?_, a7⟩, ⟨b1, b2, b3, b4, fun u hu => ?_, b6⟩, ⟨k1, k2, k3, k4, k5, fun u hu => ?_, k7, k8, k9⟩, d1, d2, d3, d4, d5, d6, d7⟩
        · rw [mk_upD_v, mj_setI_ne _ _ _ (show 27 ≠ 63 by decide), mj_rI]
          by_cases q : u = t'
          · rw [if_pos q, if_pos ⟨rfl, q⟩, n2]
          · rw [if_neg q, if_neg (fun z => q z.2)]; exact a6 u hu
        · rw [mk_upD_v, mj_rI]
          by_cases q : u = t'
          · rw [if_pos q, if_pos ⟨rfl, q⟩, n2]
          · rw [if_neg q, if_neg (fun z => q z.2), mj_setI_ne _ _ _ (by decide)]; exact b5 u hu
        · rw [mk_upD_v]
          split
          · omega
          · exact k6 u hu
      · have e2 : (mj_setI σ 27 t' n).1 63 t' = σ.1 27 t' := by
          rw [mj_setI_ne _ _ _ (by decide), b5 t' t1, a6 t' t1]
        have := qm d
        rw [e2] at this
        exact this
  · refine mk_Cl_no (v := -1) (w := -1) h (kc := 2) (km := 2) (by decide) (by decide) (fun d => ?_) (fun d => ?_)
    · have q := sp_hands (X := X) (d := d) (σ := σ) (h := t) (n := n)
      rw [if_neg c] at q
      exact q
    · have q := sp_M_hands (X := X) (d := d) (σ := mj_rfC σ (-1)) (h := t) (n := n)
      rw [if_neg c] at q
      exact q
theorem cl_known {f t : Int32} (h : mk_Inv σ D R B) : mk_Cl X σ R B 46 186 [.int f, .int t] := by
  by_cases c : mj_inb f 3 = true ∧ mj_inb t 12 = true
  · obtain ⟨f', f1, f2⟩ := mj_nI_of c.1 (by decide)
    obtain ⟨n', n1, n2⟩ := mj_nI_of c.2 (by decide)
    have f3 : f.toNatClampNeg = f' := by rw [f2]; exact nI_clamp (by omega)
    have qc := fun d => sp_known (X := X) (d := d) (σ := σ) (f := f) (h := t)
    have qm := fun d => sp_M_known (X := X) (d := d) (σ := mj_setI σ 28 f' t) (f := f) (h := t)
    rw [if_pos c, f3] at qc qm
    obtain ⟨⟨a1, a2, a3, a4, a5, a6, a7⟩, ⟨b1, b2, b3, b4, b5, b6⟩, hk, d1, d2, d3, d4, d5, d6, d7⟩ := id h.1
    have e : ∀ c, c ≠ 28 → mk_upD D 28 f' n' c = D c := fun c hc => mk_upD_o hc
    have s : ∀ c', c' ≠ 28 → c' ≠ 64 → (mj_setI (mj_setI σ 28 f' t) 64 f' t).1 c' = σ.1 c' := mk_set2
    refine ⟨σ.1 28 f', mj_setI σ 28 f' t, mj_setI (mj_setI σ 28 f' t) 64 f' t, mk_upD D 28 f' n', mk_Inv_R (mk_Inv_deal h (fun c' hc _ => s c' (by omega) (by omega)) (fun i _ => by rw [s 61 (by decide) (by decide)]) rfl ?_ (by rw [e 14 (by decide)])) (Nat.le_add_right _ _), mk_d (k := 2) (by decide) qc, mk_d (k := 2) (by decide) (fun d => ?_)⟩
    · unfold mk_Dl mj_isD mk_isM mj_okD mk_wn mj_asD
      rw [e 14 (by decide), e 15 (by decide), e 16 (by decide), e 17 (by decide), e 18 (by decide), e 19 (by decide), e 20 (by decide), e 21 (by decide), e 22 (by decide), e 23 (by decide), e 24 (by decide), e 25 (by decide), e 26 (by decide), e 27 (by decide)]
      rw [s 14 (by decide) (by decide), s 15 (by decide) (by decide), s 16 (by decide) (by decide), s 17 (by decide) (by decide), s 18 (by decide) (by decide), s 19 (by decide) (by decide), s 20 (by decide) (by decide), s 21 (by decide) (by decide), s 22 (by decide) (by decide), s 23 (by decide) (by decide), s 24 (by decide) (by decide), s 25 (by decide) (by decide), s 26 (by decide) (by decide), s 27 (by decide) (by decide), s 61 (by decide) (by decide), s 63 (by decide) (by decide), s 65 (by decide) (by decide), s 66 (by decide) (by decide), s 67 (by decide) (by decide), s 68 (by decide) (by decide), s 69 (by decide) (by decide), s 70 (by decide) (by decide), s 71 (by decide) (by decide), s 72 (by decide) (by decide), s 73 (by decide) (by decide), s 74 (by decide) (by decide), s 75 (by decide) (by decide), s 76 (by decide) (by decide), s 77 (by decide) (by decide)]
      obtain ⟨k1, k2, k3, k4, k5, k6, k7, k8, k9⟩ := hk
      refine ⟨⟨a1, a2, a3, a4, a5, a6, fun u hu => ?_⟩, ⟨b1, b2, b3, b4, b5, fun u hu => ?_⟩, ⟨k1, k2, k3, k4, k5, k6, fun u hu => ?_, k8, k9⟩, d1, d2, d3, d4, d5, d6, d7⟩
      · rw [mk_upD_v, mj_setI_ne _ _ _ (show 28 ≠ 64 by decide), mj_rI]
        by_cases q : u = f'
        · rw [if_pos q, if_pos ⟨rfl, q⟩, n2]
        · rw [if_neg q, if_neg (fun z => q z.2)]; exact a7 u hu
      · rw [mk_upD_v, mj_rI]
        by_cases q : u = f'
        · rw [if_pos q, if_pos ⟨rfl, q⟩, n2]
        · rw [if_neg q, if_neg (fun z => q z.2), mj_setI_ne _ _ _ (by decide)]; exact b6 u hu
      · rw [mk_upD_v]
        split
        · omega
        · exact k7 u hu
    · have e2 : (mj_setI σ 28 f' t).1 64 f' = σ.1 28 f' := by
        rw [mj_setI_ne _ _ _ (by decide), b6 f' f1, a7 f' f1]
      have := qm d
      rw [e2] at this
      exact this
  · refine mk_Cl_no (v := -1) (w := -1) h (kc := 2) (km := 2) (by decide) (by decide) (fun d => ?_) (fun d => ?_)
    · have q := sp_known (X := X) (d := d) (σ := σ) (f := f) (h := t)
      rw [if_neg c] at q
      exact q
    · have q := sp_M_known (X := X) (d := d) (σ := mj_rfC σ (-1)) (f := f) (h := t)
      rw [if_neg c] at q
      exact q
theorem mk_mnd {v : Nat} {how : Int32} (hv : v ≤ 99) : ∃ v', v' ≤ 99 ∧ mj_mnd (nI v) how = nI v' := by
  unfold mj_mnd
  split
  · refine ⟨v / 2, by omega, ?_⟩
    exact mj_nI_div (b := 2) (by omega) (by decide)
  · split
    · have e : (2 : Int32) * nI v = nI (2 * v) := mj_nI_mul 2 v
      rw [e]
      split
      · exact ⟨99, by omega, rfl⟩
      · rename_i c
        exact ⟨2 * v, Nat.le_of_not_lt (fun z => c (nI_lt (a := 99) z (by omega))), rfl⟩
    · exact ⟨0, by omega, rfl⟩
theorem cl_mend {i how : Int32} (h : mk_Inv σ D R B) : mk_Cl X σ R B 143 241 [.int i, .int how] := by
  obtain ⟨⟨a1, a2, a3, a4, a5, a6, a7⟩, ⟨b1, b2, b3, b4, b5, b6⟩, hk, d1, d2, d3, d4, d5, d6, d7⟩ := id h.1
  have N9 := hk.1
  have qc := fun d => sp_mend (X := X) (d := d) (σ := σ) (N := D 14 14) (i := i) (how := how) a1 N9
  have qm := fun (τ : mj_St) (e : ∀ c, 22 < c → τ.1 c = σ.1 c ∨ c = 62) d => sp_M_mend (X := X) (d := d) (σ := τ) (N := D 14 14) (i := i) (how := how) (by rcases e 61 (by decide) with z | z; rw [z]; exact b1; exact absurd z (by decide)) N9
  have rf : ∀ w : Int32, ∀ c, 22 < c → (mj_rfC σ w).1 c = σ.1 c ∨ c = 62 := fun w c hc => Or.inl (mk_rfC_o (by omega))
  by_cases c : mj_lt0 i (nI (D 14 14)) = true
  · obtain ⟨n, n1, n2, n3⟩ := mk_pno hk c
    have l77 := mk_77 h.1.1 h.1.2.1 hk n1
    have e77 : (mj_inb how 3 = true ∧ ¬ σ.1 77 n = 0) ↔ (mj_inb how 3 = true ∧ mj_b (σ.1 14 16) n = true) := by
      rw [l77, (b4 n n1).2.2.2.2.2.2.2.2.2.1]
      cases (D 14 16).testBit n
      · exact ⟨fun z => absurd rfl z.2, fun z => absurd z.2 (by decide)⟩
      · exact ⟨fun z => ⟨z.1, rfl⟩, fun z => ⟨z.1, by decide⟩⟩
    by_cases c2 : mj_inb how 3 = true ∧ mj_b (σ.1 14 16) n = true
    · obtain ⟨c22, c72, c99, c23, c73, c6⟩ := d5 n n1
      obtain ⟨v', v1, v2⟩ := mk_mnd (how := how) c99
      have e : ∀ c, c ≠ 22 → mk_upD D 22 n v' c = D c := fun c hc => mk_upD_o hc
      have s : ∀ c', c' ≠ 22 → c' ≠ 72 → (mj_setI (mj_setI σ 22 n (nI v')) 72 n (nI v')).1 c' = σ.1 c' := mk_set2
      have qc' := qc
      rw [if_pos c, n3, if_pos c2, c22, v2] at qc'
      refine ⟨nI v', mj_setI σ 22 n (nI v'), mj_setI (mj_setI σ 22 n (nI v')) 72 n (nI v'), mk_upD D 22 n v', mk_Inv_R (mk_Inv_deal h (fun c' hc _ => s c' (by omega) (by omega)) (fun i _ => by rw [s 61 (by decide) (by decide)]) rfl ?_ (by rw [e 14 (by decide)])) (Nat.le_add_right _ _), mk_d (k := 2) (by decide) qc', mk_d (k := 2) (by decide) (fun d => ?_)⟩
      · unfold mk_Dl mj_isD mk_isM mj_okD mk_wn mj_asD
        rw [e 14 (by decide), e 15 (by decide), e 16 (by decide), e 17 (by decide), e 18 (by decide), e 19 (by decide), e 20 (by decide), e 21 (by decide), e 23 (by decide), e 24 (by decide), e 25 (by decide), e 26 (by decide), e 27 (by decide), e 28 (by decide)]
        rw [s 14 (by decide) (by decide), s 15 (by decide) (by decide), s 16 (by decide) (by decide), s 17 (by decide) (by decide), s 18 (by decide) (by decide), s 19 (by decide) (by decide), s 20 (by decide) (by decide), s 21 (by decide) (by decide), s 23 (by decide) (by decide), s 24 (by decide) (by decide), s 25 (by decide) (by decide), s 26 (by decide) (by decide), s 27 (by decide) (by decide), s 28 (by decide) (by decide), s 61 (by decide) (by decide), s 63 (by decide) (by decide), s 64 (by decide) (by decide), s 65 (by decide) (by decide), s 66 (by decide) (by decide), s 67 (by decide) (by decide), s 68 (by decide) (by decide), s 69 (by decide) (by decide), s 70 (by decide) (by decide), s 71 (by decide) (by decide), s 73 (by decide) (by decide), s 74 (by decide) (by decide), s 75 (by decide) (by decide), s 76 (by decide) (by decide), s 77 (by decide) (by decide)]
        refine ⟨⟨a1, a2, a3, a4, a5, a6, a7⟩, ⟨b1, b2, b3, b4, b5, b6⟩, hk, d1, d2, d3, d4, fun u hu => ?_, d6, d7⟩
        rw [mk_upD_v, mj_setI_ne _ _ _ (show 22 ≠ 72 by decide), mj_rI, mj_rI, mj_setI_ne _ _ _ (show 72 ≠ 22 by decide)]
        obtain ⟨z1, z2, z3, z4, z5, z6⟩ := d5 u hu
        by_cases q : u = n
        · rw [if_pos q, if_pos ⟨rfl, q⟩, if_pos ⟨rfl, q⟩]
          exact ⟨rfl, rfl, v1, z4, z5, z6⟩
        · rw [if_neg q, if_neg (fun z => q z.2), if_neg (fun z => q z.2)]
          exact ⟨z1, z2, z3, z4, z5, z6⟩
      · have q := qm (mj_setI σ 22 n (nI v')) (fun c hc => Or.inl (mj_setI_ne _ _ _ (by omega))) d
        rw [if_pos c, n3, mj_setI_ne _ _ _ (show 77 ≠ 22 by decide), if_pos (e77.mpr c2), mj_setI_ne _ _ _ (show 72 ≠ 22 by decide), c72, v2] at q
        exact q
    · refine mk_Cl_no (v := -6) (w := -6) h (kc := 2) (km := 2) (by decide) (by decide) (fun d => ?_) (fun d => ?_)
      · have q := qc d
        rw [if_pos c, n3, if_neg c2] at q
        exact q
      · have q := qm _ (rf (-6)) d
        rw [if_pos c, n3, mk_rfC_o (c := 77) (by decide), if_neg (fun z => c2 (e77.mp z))] at q
        exact q
  · refine mk_Cl_no (v := -1) (w := -1) h (kc := 2) (km := 2) (by decide) (by decide) (fun d => ?_) (fun d => ?_)
    · have q := qc d
      rw [if_neg c] at q
      exact q
    · have q := qm _ (rf (-1)) d
      rw [if_neg c] at q
      exact q
theorem cl_act {i a x : Int32} (h : mk_Inv σ D R B) : mk_Cl X σ R B 144 242 [.int i, .int a, .int x] := by
  obtain ⟨⟨hD, hM, hk, -, -, -, -, c5, -⟩, -⟩ := id h
  have N9 := hk.1
  -- what an act leaves
  have inv : ∀ bs : List Int32, bs.length ≤ 1000 → mk_Inv (mj_trM (mj_trC σ bs) bs) D R B := fun bs hb => by
    obtain ⟨i1, i2, ⟨o1, o2, o3, o4⟩, i4, i5, i6, i7⟩ := h
    have s : ∀ c, c ≠ 0 → c ≠ 13 → c ≠ 61 → c ≠ 89 → (mj_trM (mj_trC σ bs) bs).1 c = σ.1 c := fun c p q r t => by rw [mj_trM_o t r, mj_trC_o q p]
    have s0 : ∀ j, j ≠ 13 → (mj_trM (mj_trC σ bs) bs).1 0 j = σ.1 0 j := fun j hj => by rw [mj_trM_o (by decide) (by decide), mj_trC_i hj]
    have s61 : ∀ j, j ≠ 59 → (mj_trM (mj_trC σ bs) bs).1 61 j = σ.1 61 j := fun j hj => by rw [mj_trM_i hj, mj_trC_o (by decide) (by decide)]
    refine ⟨mk_Dl_o (fun c j hr => ?_) i1, ?_, ⟨?_, ?_, ?_, fun j hj hlt => ?_⟩, mk_Im_o (s0 11 (by decide)) (fun c j p q => by rw [s c (by omega) (by omega) (by omega) (by omega)]) (fun j p _ => s61 j (by omega)) (s 90 (by decide) (by decide) (by decide) (by decide)) i4, mk_Scr_o (s 84 (by decide) (by decide) (by decide) (by decide)) (s 85 (by decide) (by decide) (by decide) (by decide)) (s 87 (by decide) (by decide) (by decide) (by decide)) (s61 51 (by decide)) i5, i6, i7⟩
    · unfold mk_rel at hr
      by_cases c61 : c = 61
      · rw [c61]; exact s61 j (by omega)
      · rw [s c (by omega) (by omega) c61 (by omega)]
    · intro u hu
      rw [s 1 (by decide) (by decide) (by decide) (by decide), s 2 (by decide) (by decide) (by decide) (by decide), s 78 (by decide) (by decide) (by decide) (by decide), s 79 (by decide) (by decide) (by decide) (by decide), s 80 (by decide) (by decide) (by decide) (by decide), s 81 (by decide) (by decide) (by decide) (by decide)]
      exact i2 u hu
    · rw [s 12 (by decide) (by decide) (by decide) (by decide), s 62 (by decide) (by decide) (by decide) (by decide)]; exact o1
    · rw [s0 12 (by decide), s61 3 (by decide)]; exact o2
    · rw [mj_trM_59, mj_trM_o (by decide) (by decide), mj_trC_13]
    · have e0 : (mj_trM (mj_trC σ bs) bs).1 0 13 = nI bs.length := by rw [mj_trM_o (by decide) (by decide), mj_trC_13]
      rw [e0] at hlt
      have jl := (mk_nI_lt (by omega) (by omega)).mp hlt
      have e1 : (mj_trM (mj_trC σ bs) bs).1 13 j = bs.getD j 0 := by
        rw [mj_trM_o (by decide) (by decide)]
        show (if 13 = 13 ∧ j < bs.length then bs.getD j 0 else _) = _
        rw [if_pos ⟨rfl, jl⟩]
      have e2 : (mj_trM (mj_trC σ bs) bs).1 89 j = bs.getD j 0 := by
        show (if 89 = 89 ∧ j < bs.length then bs.getD j 0 else _) = _
        rw [if_pos ⟨rfl, jl⟩]
      rw [e1, e2]
  have qc := fun d => sp_act (X := X) (d := d) (σ := σ) (N := D 14 14) (i := i) (a := a) (x := x) hD.1 N9 (fun j hj => ⟨D 15 j, (hk.2.2.2.2.1 j hj).1.1, (hk.2.2.2.2.1 j hj).1.2, (hD.2.2.2.2.1 j hj).1⟩)
  have qm := fun (bs : List Int32) d => sp_M_act (X := X) (d := d) (σ := mj_trC σ bs) (N := D 14 14) (i := i) (a := a) (x := x) (by rw [mj_trC_o (by decide) (by decide)]; exact hM.1) N9
  by_cases c : mj_lt0 i (nI (D 14 14)) = true ∧ mj_inb a 3 = true
  · obtain ⟨n, n1, n2, n3⟩ := mk_pno hk c.1
    have e1 : σ.1 65 n = σ.1 15 n := (hM.2.2.2.1 n n1).1.trans (hD.2.2.2.2.1 n n1).1.symm
    have e2 : σ.1 72 n = σ.1 22 n := (c5 n n1).2.1.trans (c5 n n1).1.symm
    have len : (mj_aA (σ.1 15 n) i a x (σ.1 22 n)).1.length ≤ 1000 := by
      unfold mj_aA
      split
      · have := mj_aN_len (kd := σ.1 15 n) (i := i) (x := x); omega
      · split
        · have := mj_aC_len (kd := σ.1 15 n) (i := i) (x := x) (ow := σ.1 22 n); omega
        · unfold mj_aE
          rw [List.length_append, List.length_append]
          have l1 := mj_aC_len (kd := σ.1 15 n) (i := i) (x := if σ.1 15 n = 3 then x + 1 else x) (ow := σ.1 22 n)
          have l2 := mj_aN_len (kd := σ.1 15 n) (i := i) (x := (if σ.1 15 n = 3 then x + 1 else x) - σ.1 22 n)
          have l3 : (if σ.1 15 n = 3 then ([40, 12] : List Int32) else if σ.1 15 n = 5 then [60, 12] else [12]).length ≤ 2 := by
            split
            · exact Nat.le_refl 2
            · split
              · exact Nat.le_refl 2
              · exact Nat.le_succ 1
          omega
    refine ⟨(mj_aA (σ.1 15 n) i a x (σ.1 22 n)).2, mj_trC σ (mj_aA (σ.1 15 n) i a x (σ.1 22 n)).1, mj_trM (mj_trC σ (mj_aA (σ.1 15 n) i a x (σ.1 22 n)).1) (mj_aA (σ.1 15 n) i a x (σ.1 22 n)).1, D, mk_Inv_R (inv (mj_aA (σ.1 15 n) i a x (σ.1 22 n)).1 len) (Nat.le_add_right _ _), mk_d (k := 16) (by decide) (fun d => ?_), mk_d (k := 5) (by decide) (fun d => ?_)⟩
    · have q := qc d
      rw [if_pos c, n3] at q
      exact q
    · have q := qm (mj_aA (σ.1 15 n) i a x (σ.1 22 n)).1 d
      rw [if_pos c, n3, mj_trC_o (c := 65) (by decide) (by decide), mj_trC_o (c := 72) (by decide) (by decide), e1, e2] at q
      exact q
  · refine ⟨0, mj_trC σ [], mj_trM (mj_trC σ []) [], D, mk_Inv_R (inv [] (by decide)) (Nat.le_add_right _ _), mk_d (k := 16) (by decide) (fun d => ?_), mk_d (k := 5) (by decide) (fun d => ?_)⟩
    · have q := qc d
      rw [if_neg c] at q
      exact q
    · have q := qm [] d
      rw [if_neg c] at q
      exact q
end
