section
variable {X : mj_X} {σ τ ρ : mj_St} {D : Nat → Nat → Nat} {R R' B : Nat}
/-- the forks turned, as numbers -/
def mk_tn (x f v : Nat) : Nat := x - x / 2 ^ f % 2 * 2 ^ f + v * 2 ^ f
theorem mk_tnv0 : ((List.range 8).all fun x => (List.range 3).all fun f => (List.range 2).all fun v => decide ((nI x &&& ((1 : Int32) <<< (nI f &&& 31) ^^^ -1) ||| nI v <<< (nI f &&& 31)) = nI (mk_tn x f v)) && decide (mk_tn x f v < 8) && (List.range 3).all fun g => decide (g = f) || decide (mk_tn x f v / 2 ^ g % 2 = x / 2 ^ g % 2)) = true := by decide +kernel
theorem mk_tnv (x : Nat) (hx : x < 8) (f : Nat) (hf : f < 3) (v : Nat) (hv : v < 2) : (nI x &&& ((1 : Int32) <<< (nI f &&& 31) ^^^ -1) ||| nI v <<< (nI f &&& 31)) = nI (mk_tn x f v) ∧ mk_tn x f v < 8 ∧ ∀ g, g < 3 → g ≠ f → mk_tn x f v / 2 ^ g % 2 = x / 2 ^ g % 2 := by
  have q := mk_tnv0
  simp only [List.all_eq_true, List.mem_range, Bool.and_eq_true, Bool.or_eq_true, decide_eq_true_eq] at q
  obtain ⟨⟨q1, q2⟩, q3⟩ := q x hx f hf v hv
  exact ⟨q1, q2, fun g hg hn => (q3 g hg).resolve_left hn⟩
theorem mk_tn_eq {f : Int32} (hD : mj_isD σ D) (hM : mk_isM σ D) (e61 : τ.1 61 = σ.1 61) (e66 : τ.1 66 = σ.1 66) (e70 : τ.1 70 = σ.1 70) : mj_Mtn τ f (D 14 14) = mj_anyF (fun i => decide (σ.1 20 i = f) && decide (σ.1 16 i < σ.1 14 17)) 0 (D 14 14) := by
  unfold mj_Mtn
  refine mj_anyF_congr _ _ (fun i _ hi => ?_)
  have hi' : i < D 14 14 := by omega
  obtain ⟨-, a16, -, -, -, a20, -⟩ := hD.2.2.2.2.1 i hi'
  obtain ⟨-, b66, -, -, -, b70, -⟩ := hM.2.2.2.1 i hi'
  show (decide (τ.1 70 i = f) && decide (τ.1 66 i < τ.1 61 1)) = (decide (σ.1 20 i = f) && decide (σ.1 16 i < σ.1 14 17))
  rw [e61, e66, e70, a16, a20, b66, b70, hM.2.1, hD.2.2.1]
theorem cl_turn {f v : Int32} (h : mk_Inv σ D R B) : mk_Cl X σ R B 48 187 [.int f, .int v] := by
  obtain ⟨⟨a1, a2, a3, a4, a5, a6, a7⟩, ⟨b1, b2, b3, b4, b5, b6⟩, hk, d1, d2, d3, d4, d5, d6, d7⟩ := id h.1
  have N9 := hk.1
  have qc := fun d => sp_turn (X := X) (d := d) (σ := σ) (N := D 14 14) (f := f) (v := v) a1 N9
  have qm := fun (τ : mj_St) (e : τ.1 61 0 = σ.1 61 0) d => sp_M_turn (X := X) (d := d) (σ := τ) (N := D 14 14) (f := f) (v := v) (by rw [e]; exact b1) N9
  by_cases c : mj_inb f 3 = true
  · obtain ⟨f', f1, f2⟩ := mj_nI_of c (by decide)
    have f3 : f.toNatClampNeg = f' := by rw [f2]; exact nI_clamp (by omega)
    have e28 : σ.1 64 f' = σ.1 28 f' := (b6 f' f1).trans (a7 f' f1).symm
    by_cases c2 : mj_inb v 2 = true ∧ ¬ σ.1 28 f' < σ.1 14 17 ∧ mj_anyF (fun i => decide (σ.1 20 i = f) && decide (σ.1 16 i < σ.1 14 17)) 0 (D 14 14) = false
    · obtain ⟨v', v1, v2⟩ := mj_nI_of c2.1 (by decide)
      obtain ⟨y1, y2, y3⟩ := mk_tnv (D 14 18) hk.2.2.2.1 f' f1 v' v1
      generalize hy : mk_tn (D 14 18) f' v' = y at y1 y2 y3
      have ew : σ.1 14 18 &&& ((1 : Int32) <<< (f &&& 31) ^^^ -1) ||| v <<< (f &&& 31) = nI y := by rw [a4, f2, v2]; exact y1
      have qc' := qc
      rw [if_pos c, f3, if_pos c2, ew] at qc'
      have e : ∀ c, c ≠ 14 → mk_upD D 14 18 y c = D c := fun c hc => mk_upD_o hc
      have e14 : mk_upD D 14 18 y 14 14 = D 14 14 := rfl
      have e16 : mk_upD D 14 18 y 14 16 = D 14 16 := rfl
      have e17 : mk_upD D 14 18 y 14 17 = D 14 17 := rfl
      have e18 : mk_upD D 14 18 y 14 18 = y := rfl
      have s : ∀ c', c' ≠ 14 → c' ≠ 61 → (mj_setI (mj_setI σ 14 18 (nI y)) 61 2 (nI y)).1 c' = σ.1 c' := fun c' x1 x2 => by rw [mj_setI_ne _ _ _ x2, mj_setI_ne _ _ _ x1]
      have s14 : ∀ i, i ≠ 18 → (mj_setI (mj_setI σ 14 18 (nI y)) 61 2 (nI y)).1 14 i = σ.1 14 i := fun i hi => by
        rw [mj_setI_ne _ _ _ (by decide), mj_rI, if_neg (fun z => hi z.2)]
      have s61 : ∀ i, i ≠ 2 → (mj_setI (mj_setI σ 14 18 (nI y)) 61 2 (nI y)).1 61 i = σ.1 61 i := fun i hi => by
        rw [mj_rI, if_neg (fun z => hi z.2), mj_setI_ne _ _ _ (by decide)]
      have s18 : (mj_setI (mj_setI σ 14 18 (nI y)) 61 2 (nI y)).1 14 18 = nI y := by
        rw [mj_setI_ne _ _ _ (by decide), mj_rI, if_pos ⟨rfl, rfl⟩]
      have s2 : (mj_setI (mj_setI σ 14 18 (nI y)) 61 2 (nI y)).1 61 2 = nI y := by
        rw [mj_rI, if_pos ⟨rfl, rfl⟩]
      refine ⟨σ.1 14 18 >>> (f &&& 31) &&& 1, mj_setI σ 14 18 (nI y), mj_setI (mj_setI σ 14 18 (nI y)) 61 2 (nI y), mk_upD D 14 18 y, mk_Inv_R (mk_Inv_deal h (fun c' hc h61 => s c' (by omega) h61) (fun i hi => s61 i (by omega)) rfl ?_ e14) (Nat.le_add_right _ _), mk_d (k := 2) (by decide) qc', mk_d (k := 2) (by decide) (fun d => ?_)⟩
      · unfold mk_Dl mj_isD mk_isM mj_okD mk_wn mj_asD
        rw [e14, e16, e17, e18, e 15 (by decide), e 16 (by decide), e 17 (by decide), e 18 (by decide), e 19 (by decide), e 20 (by decide), e 21 (by decide), e 22 (by decide), e 23 (by decide), e 24 (by decide), e 25 (by decide), e 26 (by decide), e 27 (by decide), e 28 (by decide)]
        rw [s14 14 (by decide), s14 15 (by decide), s14 16 (by decide), s14 17 (by decide), s18, s61 0 (by decide), s61 1 (by decide), s2, s 15 (by decide) (by decide), s 16 (by decide) (by decide), s 17 (by decide) (by decide), s 18 (by decide) (by decide), s 19 (by decide) (by decide), s 20 (by decide) (by decide), s 21 (by decide) (by decide), s 22 (by decide) (by decide), s 23 (by decide) (by decide), s 24 (by decide) (by decide), s 25 (by decide) (by decide), s 26 (by decide) (by decide), s 27 (by decide) (by decide), s 28 (by decide) (by decide), s 63 (by decide) (by decide), s 64 (by decide) (by decide), s 65 (by decide) (by decide), s 66 (by decide) (by decide), s 67 (by decide) (by decide), s 68 (by decide) (by decide), s 69 (by decide) (by decide), s 70 (by decide) (by decide), s 71 (by decide) (by decide), s 72 (by decide) (by decide), s 73 (by decide) (by decide), s 74 (by decide) (by decide), s 75 (by decide) (by decide), s 76 (by decide) (by decide), s 77 (by decide) (by decide)]
        obtain ⟨k1, k2, k3, k4, k5, k6, k7, k8, k9⟩ := hk
        refine ⟨⟨a1, a2, a3, rfl, a5, a6, a7⟩, ⟨b1, b2, rfl, b4, b5, b6⟩, ⟨k1, k2, k3, y2, k5, k6, k7, k8, k9⟩, d1, d2, fun i hi hw hb => ?_, d4, d5, d6, d7⟩
        obtain ⟨p1, p2⟩ := d3 i hi hw hb
        refine ⟨p1, ?_⟩
        obtain ⟨-, a16, -, -, -, a20, -⟩ := a5 i hi
        obtain ⟨-, ⟨k16, k17⟩, -, -, k20, -⟩ := k5 i hi
        unfold mj_asD at p2
        by_cases z : D 20 i = 0
        · rw [decide_eq_true z, Bool.true_or]
        · have ne : D 20 i - 1 ≠ f' := fun q => by
            have : mj_anyF (fun i => decide (σ.1 20 i = f) && decide (σ.1 16 i < σ.1 14 17)) 0 (D 14 14) = true := by
              refine (mj_anyF_iff _ _).mpr ⟨i, Nat.zero_le _, by omega, ?_⟩
              show (decide (σ.1 20 i = f) && decide (σ.1 16 i < σ.1 14 17)) = true
              rw [decide_eq_true (show σ.1 20 i = f by rw [a20, mj_oi_pos (by omega), f2, q]), decide_eq_true (show σ.1 16 i < σ.1 14 17 by rw [a16, a3]; exact nI_lt p1 (by omega))]
              rfl
            rw [c2.2.2] at this
            exact absurd this (by decide)
          rw [y3 (D 20 i - 1) (by omega) ne]
          exact p2
      · have q := qm (mj_setI σ 14 18 (nI y)) (by rw [mj_setI_ne _ _ _ (by decide)]) d
        rw [if_pos c, f3, mk_tn_eq h.1.1 h.1.2.1 (mj_setI_ne _ _ _ (by decide)) (mj_setI_ne _ _ _ (by decide)) (mj_setI_ne _ _ _ (by decide)), mj_setI_ne _ _ _ (show 64 ≠ 14 by decide), mj_setI_ne _ _ _ (show 61 ≠ 14 by decide), e28, show σ.1 61 1 = σ.1 14 17 from b2.trans a3.symm, if_pos c2, show σ.1 61 2 = σ.1 14 18 from b3.trans a4.symm, ew] at q
        exact q
    · refine mk_Cl_no (v := -6) (w := -6) h (kc := 2) (km := 2) (by decide) (by decide) (fun d => ?_) (fun d => ?_)
      · have q := qc d
        rw [if_pos c, f3, if_neg c2] at q
        exact q
      · have q := qm (mj_rfC σ (-6)) (by rw [mk_rfC_o (by decide)]) d
        rw [if_pos c, f3, mk_tn_eq h.1.1 h.1.2.1 (mk_rfC_o (by decide)) (mk_rfC_o (by decide)) (mk_rfC_o (by decide)), mk_rfC_o (c := 64) (by decide), mk_rfC_o (c := 61) (by decide), e28, show σ.1 61 1 = σ.1 14 17 from b2.trans a3.symm, if_neg c2] at q
        exact q
  · refine mk_Cl_no (v := -1) (w := -1) h (kc := 2) (km := 2) (by decide) (by decide) (fun d => ?_) (fun d => ?_)
    · have q := qc d
      rw [if_neg c] at q
      exact q
    · have q := qm (mj_rfC σ (-1)) (by rw [mk_rfC_o (by decide)]) d
      rw [if_neg c] at q
      exact q
/-- a work, as numbers -/
theorem mk_wkD {v : Int32} (hD : mj_isD σ D) (hk : mj_okD D) (h : mj_wkC σ v = true) : ∃ n, n < D 14 14 ∧ v = nI n ∧ v.toNatClampNeg = n ∧ D 15 n < 5 := by
  unfold mj_wkC at h
  rw [Bool.and_eq_true, hD.1] at h
  obtain ⟨n, n1, n2, n3⟩ := mk_pno hk h.1
  refine ⟨n, n1, n2, n3, ?_⟩
  have := h.2
  rw [n3, mj_wk_D hD hk n1] at this
  exact of_decide_eq_true this
theorem cl_swap {i o : Int32} (h : mk_Inv σ D R B) : mk_Cl X σ R B 50 188 [.int i, .int o] := by
  obtain ⟨⟨a1, a2, a3, a4, a5, a6, a7⟩, ⟨b1, b2, b3, b4, b5, b6⟩, hk, d1, d2, d3, d4, d5, d6, d7⟩ := id h.1
  have N9 := hk.1
  have qc := fun d => sp_swap (X := X) (d := d) (σ := σ) (N := D 14 14) (i := i) (o := o) a1 N9
  have qm := fun (τ : mj_St) (e : τ.1 61 = σ.1 61) d => sp_M_swap (X := X) (d := d) (σ := τ) (N := D 14 14) (i := i) (o := o) (by rw [e]; exact b1) N9
  have wk : ∀ τ : mj_St, τ.1 61 = σ.1 61 → τ.1 65 = σ.1 65 → mj_wkM τ = mj_wkC σ := fun τ x y => by
    rw [mk_wk_eq h.1.1 h.1.2.1 hk]
    funext u
    unfold mj_wkM
    rw [x, y]
  by_cases c : mj_wkC σ i = true ∧ (o = -1 ∨ mj_wkC σ o = true)
  · obtain ⟨n, n1, n2, n3, n4⟩ := mk_wkD h.1.1 hk c.1
    by_cases c2 : i = o
    · refine mk_Cl_no (v := -16) (w := -6) h (kc := 3) (km := 2) (by decide) (by decide) (fun d => ?_) (fun d => ?_)
      · have q := qc d
        rw [if_pos c, if_pos c2] at q
        exact q
      · have q := qm (mj_rfC σ (-6)) (mk_rfC_o (by decide)) d
        rw [wk _ (mk_rfC_o (by decide)) (mk_rfC_o (by decide)), if_pos c, if_pos c2] at q
        exact q
    · obtain ⟨y, y1, y2, y3⟩ : ∃ y, o = mj_oi y ∧ y ≤ D 14 14 ∧ (0 < y → D 15 (y - 1) < 5) := by
        rcases c.2 with z | z
        · exact ⟨0, z, Nat.zero_le _, fun q => absurd q (by decide)⟩
        · obtain ⟨m, m1, m2, m3, m4⟩ := mk_wkD h.1.1 hk z
          exact ⟨m + 1, by rw [mj_oi_pos (by omega)]; exact m2, m1, fun _ => m4⟩
      have qc' := qc
      rw [if_pos c, if_neg c2, n3, y1] at qc'
      have e : ∀ c, c ≠ 19 → mk_upD D 19 n y c = D c := fun c hc => mk_upD_o hc
      have s : ∀ c', c' ≠ 19 → c' ≠ 69 → (mj_setI (mj_setI σ 19 n (mj_oi y)) 69 n (mj_oi y)).1 c' = σ.1 c' := mk_set2
      have e69 : σ.1 69 n = σ.1 19 n := (b4 n n1).2.2.2.2.1.trans (a5 n n1).2.2.2.2.1.symm
      refine ⟨σ.1 19 n, mj_setI σ 19 n (mj_oi y), mj_setI (mj_setI σ 19 n (mj_oi y)) 69 n (mj_oi y), mk_upD D 19 n y, mk_Inv_R (mk_Inv_deal h (fun c' hc _ => s c' (by omega) (by omega)) (fun i _ => by rw [s 61 (by decide) (by decide)]) rfl ?_ (by rw [e 14 (by decide)])) (Nat.le_add_right _ _), mk_d (k := 3) (by decide) (fun d => by rw [y1]; exact qc' d), mk_d (k := 2) (by decide) (fun d => ?_)⟩
      · unfold mk_Dl mj_isD mk_isM mj_okD mk_wn mj_asD
        rw [e 14 (by decide), e 15 (by decide), e 16 (by decide), e 17 (by decide), e 18 (by decide), e 20 (by decide), e 21 (by decide), e 22 (by decide), e 23 (by decide), e 24 (by decide), e 25 (by decide), e 26 (by decide), e 27 (by decide), e 28 (by decide)]
        rw [s 14 (by decide) (by decide), s 15 (by decide) (by decide), s 16 (by decide) (by decide), s 17 (by decide) (by decide), s 18 (by decide) (by decide), s 20 (by decide) (by decide), s 21 (by decide) (by decide), s 22 (by decide) (by decide), s 23 (by decide) (by decide), s 24 (by decide) (by decide), s 25 (by decide) (by decide), s 26 (by decide) (by decide), s 27 (by decide) (by decide), s 28 (by decide) (by decide), s 61 (by decide) (by decide), s 63 (by decide) (by decide), s 64 (by decide) (by decide), s 65 (by decide) (by decide), s 66 (by decide) (by decide), s 67 (by decide) (by decide), s 68 (by decide) (by decide), s 70 (by decide) (by decide), s 71 (by decide) (by decide), s 72 (by decide) (by decide), s 73 (by decide) (by decide), s 74 (by decide) (by decide), s 75 (by decide) (by decide), s 76 (by decide) (by decide), s 77 (by decide) (by decide)]
        have r19 : ∀ u, (mj_setI (mj_setI σ 19 n (mj_oi y)) 69 n (mj_oi y)).1 19 u = if u = n then mj_oi y else σ.1 19 u := fun u => by
          rw [mj_setI_ne _ _ _ (show 19 ≠ 69 by decide), mj_rI]
          by_cases q : u = n
          · rw [if_pos ⟨rfl, q⟩, if_pos q]
          · rw [if_neg (fun z => q z.2), if_neg q]
        have r69 : ∀ u, (mj_setI (mj_setI σ 19 n (mj_oi y)) 69 n (mj_oi y)).1 69 u = if u = n then mj_oi y else σ.1 69 u := fun u => by
          rw [mj_rI]
          by_cases q : u = n
          · rw [if_pos ⟨rfl, q⟩, if_pos q]
          · rw [if_neg (fun z => q z.2), if_neg q, mj_setI_ne _ _ _ (by decide)]
        obtain ⟨k1, k2, k3, k4, k5, k6, k7, k8, k9⟩ := hk
        refine ⟨⟨a1, a2, a3, a4, fun u hu => ?_, a6, a7⟩, ⟨b1, b2, b3, fun u hu => ?_, b5, b6⟩, ⟨k1, k2, k3, k4, fun u hu => ?_, k6, k7, k8, k9⟩, d1, fun u hu hw => ?_, d3, d4, d5, fun k hk => ?_, d7⟩
        · obtain ⟨z1, z2, z3, z4, z5, z6⟩ := a5 u hu
          refine ⟨z1, z2, z3, z4, ?_, z6⟩
          rw [mk_upD_v, r19]
          split
          · rfl
          · exact z5
        · obtain ⟨z1, z2, z3, z4, z5, z6⟩ := b4 u hu
          refine ⟨z1, z2, z3, z4, ?_, z6⟩
          rw [mk_upD_v, r69]
          split
          · rfl
          · exact z5
        · obtain ⟨z1, z2, z3, z4, z5⟩ := k5 u hu
          refine ⟨z1, z2, z3, ?_, z5⟩
          rw [mk_upD_v]
          split
          · exact ⟨y2, y3⟩
          · exact z4
        · rw [mk_upD_v, if_neg (fun z => hw (by rw [z]; exact n4))]
          exact d2 u hu hw
        · obtain ⟨z1, z2, z3, z4⟩ := d6 k hk
          refine ⟨z1, z2, z3, ?_⟩
          rw [r69]
          split
          · by_cases q : y = 0
            · left; rw [q]; rfl
            · right
              rw [mj_oi_pos (by omega)]
              exact mj_in_nI (by omega) (by omega)
          · exact z4
      · have q := qm (mj_setI σ 19 n (mj_oi y)) (mj_setI_ne _ _ _ (by decide)) d
        rw [wk _ (mj_setI_ne _ _ _ (by decide)) (mj_setI_ne _ _ _ (by decide)), if_pos c, if_neg c2, n3, mj_setI_ne _ _ _ (show 69 ≠ 19 by decide), e69, y1] at q
        rw [y1]
        exact q
  · refine mk_Cl_no (v := -11) (w := -1) h (kc := 3) (km := 2) (by decide) (by decide) (fun d => ?_) (fun d => ?_)
    · have q := qc d
      rw [if_neg c] at q
      exact q
    · have q := qm (mj_rfC σ (-1)) (mk_rfC_o (by decide)) d
      rw [wk _ (mk_rfC_o (by decide)) (mk_rfC_o (by decide)), if_neg c] at q
      exact q
end
