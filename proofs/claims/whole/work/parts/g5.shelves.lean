section
variable {X : mj_X} {σ τ ρ : mj_St} {D : Nat → Nat → Nat} {R R' B : Nat}
/-- only shelves have changed -/
theorem mk_Inv_shelf (h : mk_Inv σ D R B) (h1 : ∀ c, c ≠ 1 → c ≠ 2 → (c < 78 ∨ 81 < c) → τ.1 c = σ.1 c) (h2 : τ.2.2 = σ.2.2) (hSh : mk_Sh τ (D 14 14)) : mk_Inv τ D R B := by
  obtain ⟨i1, i2, ⟨o1, o2, o3, o4⟩, i4, i5, i6, i7⟩ := h
  refine ⟨mk_Dl_o (fun c i hr => ?_) i1, hSh, ⟨?_, ?_, ?_, ?_⟩, mk_Im_o (by rw [h1 0 (by decide) (by decide) (by decide)]) (fun c i a b => by rw [h1 c (by omega) (by omega) (by omega)]) (fun i _ _ => by rw [h1 61 (by decide) (by decide) (by decide)]) (h1 90 (by decide) (by decide) (by decide)) i4, mk_Scr_o (h1 84 (by decide) (by decide) (by decide)) (h1 85 (by decide) (by decide) (by decide)) (h1 87 (by decide) (by decide) (by decide)) (by rw [h1 61 (by decide) (by decide) (by decide)]) i5, by rw [h2]; exact i6, by unfold mj_Rb; rw [h2]; exact i7⟩
  · unfold mk_rel at hr
    rw [h1 c (by omega) (by omega) (by omega)]
  · rw [h1 12 (by decide) (by decide) (by decide), h1 62 (by decide) (by decide) (by decide)]; exact o1
  · rw [h1 0 (by decide) (by decide) (by decide), h1 61 (by decide) (by decide) (by decide)]; exact o2
  · rw [h1 0 (by decide) (by decide) (by decide), h1 61 (by decide) (by decide) (by decide)]; exact o3
  · rw [h1 0 (by decide) (by decide) (by decide), h1 13 (by decide) (by decide) (by decide), h1 89 (by decide) (by decide) (by decide)]; exact o4
theorem mk_nI_lt {a b : Nat} (ha : a < 2147483648) (hb : b < 2147483648) : nI a < nI b ↔ a < b := ⟨fun z => Classical.byContradiction (fun y => nI_nlt (by omega) (by omega) z), fun z => nI_lt z (by omega)⟩
theorem mk_lt0 {a n : Nat} (ha : a < 2147483648) (hn : n < 2147483648) : mj_lt0 (nI a) (nI n) = decide (a < n) := by
  by_cases c : a < n
  · rw [decide_eq_true c]; exact mj_lt0_nI c hn
  · rw [decide_eq_false c]
    unfold mj_lt0
    rw [decide_eq_false (fun z => c ((mk_nI_lt ha hn).mp z)), Bool.and_false]
theorem cl_put {s i : Int32} (h : mk_Inv σ D R B) : mk_Cl X σ R B 12 162 [.int s, .int i] := by
  have hN : σ.1 14 14 = σ.1 61 0 := h.1.1.1.trans h.1.2.1.1.symm
  have N9 := h.1.2.2.1.1
  by_cases c : mj_inb s 8 = true ∧ (i = -1 ∨ mj_lt0 i (σ.1 14 14) = true)
  · obtain ⟨n, n1, n2, n3, sz, sh, lg⟩ := mk_sh h c.1
    refine ⟨if i = -1 then 0 else 1, mj_setI σ 1 s.toNatClampNeg i, mj_setI (mj_setI (mj_setI σ 1 s.toNatClampNeg i) 78 s.toNatClampNeg (if i = -1 then 0 else 2)) 81 s.toNatClampNeg i, D, mk_Inv_R ?_ (Nat.le_add_right _ _), mk_d (k := 2) (by decide) (fun d => ?_), mk_d (k := 2) (by decide) (fun d => ?_)⟩
    · refine mk_Inv_shelf h (fun c' a b e => ?_) rfl (fun t ht => ?_)
      · rw [mj_setI_ne _ _ _ (by omega), mj_setI_ne _ _ _ (by omega), mj_setI_ne _ _ _ (by omega)]
      · obtain ⟨z1, z2, z3⟩ := h.2.1 t ht
        refine ⟨z1, ?_, z3⟩
        rw [n3]
        have v1 : (mj_setI (mj_setI (mj_setI σ 1 n i) 78 n (if i = -1 then 0 else 2)) 81 n i).1 1 t = if t = n then i else σ.1 1 t := by simp [mj_setI]
        have v78 : (mj_setI (mj_setI (mj_setI σ 1 n i) 78 n (if i = -1 then 0 else 2)) 81 n i).1 78 t = if t = n then (if i = -1 then 0 else 2) else σ.1 78 t := by simp [mj_setI]
        have v79 : (mj_setI (mj_setI (mj_setI σ 1 n i) 78 n (if i = -1 then 0 else 2)) 81 n i).1 79 t = σ.1 79 t := by simp [mj_setI]
        have v81 : (mj_setI (mj_setI (mj_setI σ 1 n i) 78 n (if i = -1 then 0 else 2)) 81 n i).1 81 t = if t = n then i else σ.1 81 t := by simp [mj_setI]
        rw [v1, v78, v79, v81]
        by_cases e : t = n
        · rw [if_pos e, if_pos e, if_pos e]
          by_cases e1 : i = -1
          · rw [if_pos e1]
            exact Or.inl ⟨e1, rfl⟩
          · rw [if_neg e1]
            have lt := c.2.resolve_left e1
            rw [h.1.1.1] at lt
            obtain ⟨p, p1, p2⟩ := mj_nI_of (mj_lt0_inb lt (Nat.le_refl _) (by omega)) (by omega)
            exact Or.inr (Or.inr ⟨p, p1, p2, rfl, p2⟩)
        · rw [if_neg e, if_neg e, if_neg e]
          exact z2
    · have q := sp_put (X := X) (d := d) (σ := σ) (s := s) (i := i)
      rw [if_pos c] at q
      exact q
    · have q := sp_M_put (X := X) (d := d) (σ := mj_setI σ 1 s.toNatClampNeg i) (s := s) (i := i)
      have e : (mj_setI σ 1 s.toNatClampNeg i).1 61 0 = σ.1 61 0 := rfl
      rw [e, ← hN, if_pos c] at q
      exact q
  · refine mk_Cl_no (v := -1) (w := -1) h (kc := 2) (km := 2) (by decide) (by decide) (fun d => ?_) (fun d => ?_)
    · have q := sp_put (X := X) (d := d) (σ := σ) (s := s) (i := i)
      rw [if_neg c] at q
      exact q
    · have q := sp_M_put (X := X) (d := d) (σ := mj_rfC σ (-1)) (s := s) (i := i)
      have e : (mj_rfC σ (-1)).1 61 0 = σ.1 61 0 := by rw [mk_rfC_o (by decide)]
      rw [e, ← hN, if_neg c] at q
      exact q
theorem cl_row {s so n : Int32} (h : mk_Inv σ D R B) : mk_Cl X σ R B 1 156 [.int s, .int so, .int n] := by
  by_cases c : mj_rowV s so n = 1
  · have c' := c
    unfold mj_rowV at c'
    by_cases hs : mj_inb s 8 = true
    · rw [if_pos hs] at c'
      by_cases c1 : n < 0
      · rw [if_pos c1] at c'; exact absurd c' (by decide)
      · rw [if_neg c1] at c'
        by_cases c2 : so < 0
        · rw [if_pos c2] at c'; exact absurd c' (by decide)
        · rw [if_neg c2] at c'
          by_cases c3 : so < 4
          · rw [if_pos c3] at c'
            by_cases c4 : 60 < n
            · rw [if_pos c4] at c'; exact absurd c' (by decide)
            · obtain ⟨k, k1, k2⟩ := mj_nI_of (mj_inb_of (k := 4) (hi := 3) c2 (fun z => by
                have a := Int32.lt_iff_toInt_lt.mp z
                have b := Int32.lt_iff_toInt_lt.mp c3
                have e1 : (3 : Int32).toInt = 3 := by decide
                have e2 : (4 : Int32).toInt = 4 := by decide
                omega) (by decide)) (by decide)
              obtain ⟨m, m1, m2⟩ := mj_nI_of (mj_inb_of (k := 61) (hi := 60) c1 c4 (by decide)) (by decide)
              obtain ⟨t, t1, t2, t3, sz, sh, lg⟩ := mk_sh h hs
              refine ⟨1, mj_rowC σ s so n, mj_rowM (mj_rowC σ s so n) s so n, D, mk_Inv_R ?_ (Nat.le_add_right _ _), mk_d (k := 3) (by decide) (fun d => ?_), mk_d (k := 2) (by decide) (fun d => ?_)⟩
              · unfold mj_rowM mj_rowC
                rw [t3]
                refine mk_Inv_shelf h (fun c' a b e => ?_) rfl (fun u hu => ?_)
                · show (mj_setI (mj_setI (mj_setI (mj_fillL (mj_setI (mj_setI σ 1 t (100 + so)) 2 t n) (4 + t) 60 0) 78 t 1) 79 t so) 80 t n).1 c' = σ.1 c'
                  rw [mj_setI_ne _ _ _ (by omega), mj_setI_ne _ _ _ (by omega), mj_setI_ne _ _ _ (by omega)]
                  show (mj_setI (mj_setI σ 1 t (100 + so)) 2 t n).1 c' = σ.1 c'
                  rw [mj_setI_ne _ _ _ (by omega), mj_setI_ne _ _ _ (by omega)]
                · obtain ⟨z1, z2, z3⟩ := h.2.1 u hu
                  have v1 : (mj_fillR (mj_setI (mj_setI (mj_setI (mj_fillL (mj_setI (mj_setI σ 1 t (100 + so)) 2 t n) (4 + t) 60 0) 78 t 1) 79 t so) 80 t n) 82 (60 * t) 60 0).1 1 u = if u = t then 100 + so else σ.1 1 u := by simp [mj_fillR, mj_fillL, mj_setI]
                  have v2 : (mj_fillR (mj_setI (mj_setI (mj_setI (mj_fillL (mj_setI (mj_setI σ 1 t (100 + so)) 2 t n) (4 + t) 60 0) 78 t 1) 79 t so) 80 t n) 82 (60 * t) 60 0).1 2 u = if u = t then n else σ.1 2 u := by simp [mj_fillR, mj_fillL, mj_setI]
                  have v78 : (mj_fillR (mj_setI (mj_setI (mj_setI (mj_fillL (mj_setI (mj_setI σ 1 t (100 + so)) 2 t n) (4 + t) 60 0) 78 t 1) 79 t so) 80 t n) 82 (60 * t) 60 0).1 78 u = if u = t then 1 else σ.1 78 u := by simp [mj_fillR, mj_fillL, mj_setI]
                  have v79 : (mj_fillR (mj_setI (mj_setI (mj_setI (mj_fillL (mj_setI (mj_setI σ 1 t (100 + so)) 2 t n) (4 + t) 60 0) 78 t 1) 79 t so) 80 t n) 82 (60 * t) 60 0).1 79 u = if u = t then so else σ.1 79 u := by simp [mj_fillR, mj_fillL, mj_setI]
                  have v80 : (mj_fillR (mj_setI (mj_setI (mj_setI (mj_fillL (mj_setI (mj_setI σ 1 t (100 + so)) 2 t n) (4 + t) 60 0) 78 t 1) 79 t so) 80 t n) 82 (60 * t) 60 0).1 80 u = if u = t then n else σ.1 80 u := by simp [mj_fillR, mj_fillL, mj_setI]
                  have v81 : (mj_fillR (mj_setI (mj_setI (mj_setI (mj_fillL (mj_setI (mj_setI σ 1 t (100 + so)) 2 t n) (4 + t) 60 0) 78 t 1) 79 t so) 80 t n) 82 (60 * t) 60 0).1 81 u = σ.1 81 u := by simp [mj_fillR, mj_fillL, mj_setI]
                  have lC : ∀ i, (mj_fillR (mj_setI (mj_setI (mj_setI (mj_fillL (mj_setI (mj_setI σ 1 t (100 + so)) 2 t n) (4 + t) 60 0) 78 t 1) 79 t so) 80 t n) 82 (60 * t) 60 0).2.1 (4 + u) i = if u = t ∧ i < 60 then 0 else σ.2.1 (4 + u) i := fun i => by
                    show (if 4 + u = 82 ∧ 60 * t ≤ i ∧ i < 60 * t + 60 then 0 else (if 4 + u = 4 + t ∧ i < 60 then 0 else σ.2.1 (4 + u) i)) = _
                    rw [if_neg (by omega)]
                    by_cases e : u = t ∧ i < 60
                    · rw [if_pos e, if_pos ⟨by omega, e.2⟩]
                    · rw [if_neg e, if_neg (fun z => e ⟨by omega, z.2⟩)]
                  have lM : ∀ i, i < 60 → (mj_fillR (mj_setI (mj_setI (mj_setI (mj_fillL (mj_setI (mj_setI σ 1 t (100 + so)) 2 t n) (4 + t) 60 0) 78 t 1) 79 t so) 80 t n) 82 (60 * t) 60 0).2.1 82 (60 * u + i) = if u = t then 0 else σ.2.1 82 (60 * u + i) := fun i hi => by
                    show (if 82 = 82 ∧ 60 * t ≤ 60 * u + i ∧ 60 * u + i < 60 * t + 60 then 0 else (if 82 = 4 + t ∧ 60 * u + i < 60 then 0 else σ.2.1 82 (60 * u + i))) = _
                    by_cases e : u = t
                    · rw [if_pos e, if_pos ⟨rfl, by omega, by omega⟩]
                    · rw [if_neg e, if_neg (by omega), if_neg (by omega)]
                  refine ⟨?_, ?_, fun i hi => ?_⟩
                  · rw [v2, v80]
                    by_cases e : u = t
                    · rw [if_pos e, if_pos e]
                      exact ⟨m, by omega, m2, m2⟩
                    · rw [if_neg e, if_neg e]
                      exact z1
                  · rw [v1, v78, v79, v81]
                    by_cases e : u = t
                    · rw [if_pos e, if_pos e, if_pos e]
                      exact Or.inr (Or.inl ⟨k, k1, by rw [k2]; exact nI_add (a := 100) (b := k), rfl, k2⟩)
                    · rw [if_neg e, if_neg e, if_neg e]
                      exact z2
                  · rw [lC, lM i hi]
                    by_cases e : u = t
                    · rw [if_pos ⟨e, hi⟩, if_pos e]
                    · rw [if_neg (fun z => e z.1), if_neg e]
                      exact z3 i hi
              · have q := sp_row (X := X) (d := d) (σ := σ) (s := s) (so := so) (n := n)
                rw [c, if_pos rfl] at q
                exact q
              · have q := sp_M_row (X := X) (d := d) (σ := mj_rowC σ s so n) (s := s) (so := so) (n := n)
                rw [c, if_pos rfl] at q
                exact q
          · rw [if_neg c3] at c'; exact absurd c' (by decide)
    · rw [if_neg hs] at c'; exact absurd c' (by decide)
  · refine mk_Cl_no (v := mj_rowV s so n) (w := mj_rowV s so n) h (kc := 3) (km := 2) (by decide) (by decide) (fun d => ?_) (fun d => ?_)
    · have q := sp_row (X := X) (d := d) (σ := σ) (s := s) (so := so) (n := n)
      rw [if_neg c] at q
      exact q
    · have q := sp_M_row (X := X) (d := d) (σ := mj_rfC σ (mj_rowV s so n)) (s := s) (so := so) (n := n)
      rw [if_neg c] at q
      exact q
theorem mk_sz {n e : Nat} (he : e ≤ 60) (h : σ.1 2 n = nI e) : (σ.1 2 n).toInt ≤ 60 := by
  rw [h, nI_toInt (by omega)]
  omega
theorem mk_sz80 {n e : Nat} (he : e ≤ 60) (h : σ.1 80 n = nI e) : (σ.1 80 n).toInt ≤ 60 := by
  rw [h, nI_toInt (by omega)]
  omega
/-- a shelf that holds a row -/
theorem mk_row {s : Int32} (h : mk_Inv σ D R B) (hr : mj_rr σ s = 0) : ∃ n e k, n < 8 ∧ s = nI n ∧ s.toNatClampNeg = n ∧ e ≤ 60 ∧ σ.1 2 n = nI e ∧ σ.1 80 n = nI e ∧ k < 4 ∧ σ.1 1 n = nI (100 + k) ∧ σ.1 78 n = 1 ∧ σ.1 79 n = nI k ∧ ∀ i, i < 60 → σ.2.1 (4 + n) i = σ.2.1 82 (60 * n + i) := by
  have hm := hr
  rw [mk_rr_eq h] at hm
  obtain ⟨q1, q2, q3⟩ := mj_Mw_0 hm
  obtain ⟨n, n1, n2, n3, ⟨e, e1, e2, e3⟩, sh, lg⟩ := mk_sh h q1
  rw [n3] at q2 q3
  rcases sh with ⟨a, b⟩ | ⟨k, k1, a, b, c⟩ | ⟨p, p1, a, b, c⟩
  · exact absurd b q3
  · exact ⟨n, e, k, n1, n2, n3, e1, e2, e3, k1, a, b, c, lg⟩
  · exact absurd b q2
theorem mk_100k {k : Nat} (hk : k < 4) : nI (100 + k) - 100 = nI k := by
  have := mj_nI_sub (a := 100 + k) (b := 100) (by omega)
  rw [show 100 + k - 100 = k by omega] at this
  exact this
theorem cl_set {s i : Int32} {v : Int64} (h : mk_Inv σ D R B) : mk_Cl X σ R B 5 159 [.int s, .int i, .long v] := by
  by_cases c : mj_rr σ s = 0
  · obtain ⟨n, e, k, n1, n2, n3, e1, e2, e3, k1, s1, s78, s79, lg⟩ := mk_row h c
    by_cases c2 : mj_lt0 i (σ.1 2 s.toNatClampNeg) = true
    · have c2' := c2
      rw [n3, e2] at c2'
      obtain ⟨j, j1, j2⟩ := mj_nI_of (mj_lt0_inb c2' (Nat.le_refl _) (by omega)) (by omega)
      have j3 : i.toNatClampNeg = j := by rw [j2]; exact nI_clamp (by omega)
      refine ⟨1, mj_setC σ s i v, mj_setM (mj_setC σ s i v) s i v, D, mk_Inv_R ?_ (Nat.le_add_right _ _), mk_d (k := 3) (by decide) (fun d => ?_), mk_d (k := 2) (by decide) (fun d => ?_)⟩
      · refine mk_Inv_shelf h (fun c' _ _ _ => rfl) rfl (fun u hu => ?_)
        obtain ⟨z1, z2, z3⟩ := h.2.1 u hu
        refine ⟨z1, z2, fun x hx => ?_⟩
        unfold mj_setM mj_setC
        rw [n3, j3, s1, mk_100k k1]
        have e79 : (mj_setL σ (4 + n) j (mj_low (nI k) v)).1 79 n = nI k := s79
        rw [e79]
        show (if 4 + u = 82 ∧ x = 60 * n + j then mj_low (nI k) v else (if 4 + u = 4 + n ∧ x = j then mj_low (nI k) v else σ.2.1 (4 + u) x)) = (if 82 = 82 ∧ 60 * u + x = 60 * n + j then mj_low (nI k) v else (if 82 = 4 + n ∧ 60 * u + x = j then mj_low (nI k) v else σ.2.1 82 (60 * u + x)))
        rw [if_neg (show ¬ (4 + u = 82 ∧ x = 60 * n + j) by omega)]
        by_cases q : u = n ∧ x = j
        · rw [if_pos ⟨by omega, q.2⟩, if_pos ⟨rfl, by omega⟩]
        · rw [if_neg (fun z => q ⟨by omega, z.2⟩), if_neg (fun z => q (by omega)), if_neg (by omega)]
          exact z3 x hx
      · have q := sp_set (X := X) (d := d) (σ := σ) (s := s) (i := i) (v := v) (fun _ => by rw [n3]; exact mk_sz e1 e2)
        rw [if_pos c, if_pos c2] at q
        exact q
      · have eM : mj_Mw (mj_setC σ s i v) s = 0 := by
          have := mk_rr_eq (s := s) h
          rw [c] at this
          exact this.symm
        have q := sp_M_set (X := X) (d := d) (σ := mj_setC σ s i v) (s := s) (i := i) (v := v) (fun _ => by rw [n3]; exact mk_sz80 e1 e3)
        have e80 : (mj_setC σ s i v).1 80 s.toNatClampNeg = σ.1 2 s.toNatClampNeg := by
          rw [n3, e2]
          exact e3
        rw [if_pos eM, e80, if_pos c2] at q
        exact q
    · refine mk_Cl_no (v := -5) (w := -5) h (kc := 3) (km := 2) (by decide) (by decide) (fun d => ?_) (fun d => ?_)
      · have q := sp_set (X := X) (d := d) (σ := σ) (s := s) (i := i) (v := v) (fun _ => by rw [n3]; exact mk_sz e1 e2)
        rw [if_pos c, if_neg c2] at q
        exact q
      · have eM : mj_Mw (mj_rfC σ (-5)) s = 0 := by
          have := mk_rr_eq (s := s) h
          rw [c] at this
          exact this.symm
        have q := sp_M_set (X := X) (d := d) (σ := mj_rfC σ (-5)) (s := s) (i := i) (v := v) (fun _ => by rw [n3]; exact mk_sz80 e1 e3)
        have e80 : (mj_rfC σ (-5)).1 80 s.toNatClampNeg = σ.1 2 s.toNatClampNeg := by
          rw [n3, e2]
          exact e3
        rw [if_pos eM, e80, if_neg c2] at q
        exact q
  · have eM : ∀ w, mj_Mw (mj_rfC σ w) s = mj_rr σ s := fun w => (mk_rr_eq (s := s) h).symm
    refine mk_Cl_no (v := mj_rr σ s) (w := mj_rr σ s) h (kc := 3) (km := 2) (by decide) (by decide) (fun d => ?_) (fun d => ?_)
    · have q := sp_set (X := X) (d := d) (σ := σ) (s := s) (i := i) (v := v) (fun z => absurd z c)
      rw [if_neg c] at q
      exact q
    · have q := sp_M_set (X := X) (d := d) (σ := mj_rfC σ (mj_rr σ s)) (s := s) (i := i) (v := v) (fun z => by rw [eM] at z; exact absurd z c)
      rw [eM, if_neg c] at q
      exact q
theorem cl_element {s i : Int32} (h : mk_Inv σ D R B) : ∃ v : Int64, (∀ d, mj_ev X (d + 60) 11 [.ref 0, .int s, .int i] σ = some (some (.long v), σ)) ∧ ∀ d, mj_ev X (d + 60) 161 [.ref 61, .int s, .int i] σ = some (some (.long v), σ) := by
  have h60 : mj_rr σ s = 0 → (σ.1 2 s.toNatClampNeg).toInt ≤ 60 := fun c => by
    obtain ⟨n, e, k, n1, n2, n3, e1, e2, -⟩ := mk_row h c
    rw [n3]
    exact mk_sz e1 e2
  refine ⟨_, mk_d (k := 2) (by decide) (fun d => sp_element h60), mk_d (k := 2) (by decide) (fun d => ?_)⟩
  have q := sp_M_element (X := X) (d := d) (σ := σ) (s := s) (i := i) (fun hs _ => by
    obtain ⟨n, n1, n2, n3, ⟨e, e1, e2, e3⟩, -⟩ := mk_sh h hs
    rw [n3]
    exact mk_sz80 e1 e3)
  rw [q]
  have e : (if mj_inb s 8 = true ∧ σ.1 78 s.toNatClampNeg = 1 ∧ mj_lt0 i (σ.1 80 s.toNatClampNeg) = true then σ.2.1 82 (60 * s.toNatClampNeg + i.toNatClampNeg) else 0) = (if mj_rr σ s = 0 ∧ mj_lt0 i (σ.1 2 s.toNatClampNeg) = true then σ.2.1 (4 + s.toNatClampNeg) i.toNatClampNeg else 0) := by
    by_cases c : mj_rr σ s = 0
    · obtain ⟨n, e, k, n1, n2, n3, e1, e2, e3, k1, s1, s78, s79, lg⟩ := mk_row h c
      have hs : mj_inb s 8 = true := by rw [n2]; exact mj_in_nI n1 (by decide)
      rw [n3, e2, e3]
      by_cases c2 : mj_lt0 i (nI e) = true
      · rw [if_pos ⟨hs, s78, c2⟩, if_pos ⟨c, c2⟩]
        obtain ⟨j, j1, j2⟩ := mj_nI_of (mj_lt0_inb c2 (Nat.le_refl _) (by omega)) (by omega)
        rw [j2, nI_clamp (by omega)]
        exact (lg j (by omega)).symm
      · rw [if_neg (fun z => c2 z.2.2), if_neg (fun z => c2 z.2)]
    · refine Eq.trans (if_neg (fun z => c ?_)) (if_neg (fun z => c z.1)).symm
      rw [mk_rr_eq h]
      unfold mj_Mw
      rw [if_pos z.1, z.2.1]
      decide
  rw [e]
end
