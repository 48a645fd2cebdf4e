section
variable {X : mj_X} {σ τ ρ : mj_St} {D : Nat → Nat → Nat} {R B : Nat}
theorem mk_Fx_Sm {S : List Nat} (hS : ∀ i, i ∈ S → 4 ≤ i ∧ i < 59) (F : mj_Fx S σ ρ) : mk_Sm σ ρ := by
  obtain ⟨f0, f1, f2⟩ := F
  exact ⟨fun c _ _ _ _ h _ _ _ _ => f1 c h, fun i h => f2 i (fun z => by have := hS i z; omega), fun c _ => by rw [f0]⟩
theorem mk_cnS_Sm {N : Nat} : mk_Sm σ (mj_cnS σ N) := mk_Fq_Sm mj_cnS_Fq
/-- what a row told by hand leaves: class, then reference -/
theorem mk_hand {s e o : Nat} (h : mk_Inv σ D R B) (hs : s < 8) (he : e ≤ 60) (h80 : σ.1 80 s = nI e) (hlg : ∀ i, i < 60 → σ.2.1 (4 + s) i = σ.2.1 82 (60 * s + i)) (ho : o < 8) (F : mj_Fx mj_PF (mj_cnS (mj_Ctl σ (4 + s) e (nI o) (D 14 14)) (D 14 14)) ρ) :
    mk_Inv ρ D R B ∧ (mj_Ctl σ (4 + s) e (nI o) (D 14 14)).1 59 2 = (mj_Mpl (mj_Ctl σ (4 + s) e (nI o) (D 14 14)) (D 14 14) s e (nI o)).2.1 ∧ (mj_Ctl σ (4 + s) e (nI o) (D 14 14)).1 59 1 = (mj_Mpl (mj_Ctl σ (4 + s) e (nI o) (D 14 14)) (D 14 14) s e (nI o)).2.2 := by
  obtain ⟨⟨hD, hM, hk, -⟩, -⟩ := id h
  have N9 := hk.1
  obtain ⟨fr2, fr1⟩ := mj_Ctl_fr (σ := σ) (c := 4 + s) (e := e) (N := D 14 14) (o := nI o)
  have sm1 : mk_Sm σ (mj_Ctl σ (4 + s) e (nI o) (D 14 14)) := ⟨fun c _ _ _ hc _ _ _ _ _ => fr1 c (by omega) (by omega), fun i _ => by rw [fr1 61 (by decide) (by decide)], fun c _ => by rw [fr2]⟩
  have hScr : mj_Scr ρ R := by
    obtain ⟨p1, p2, p3, p4⟩ := h.2.2.2.2.1
    have e84 : (mj_cnS (mj_Ctl σ (4 + s) e (nI o) (D 14 14)) (D 14 14)).1 84 = σ.1 84 := by rw [mj_cnS_o (by decide) (by decide), fr1 84 (by decide) (by decide)]
    have pwC : mj_Pw (mj_Ctl σ (4 + s) e (nI o) (D 14 14)) := by
      unfold mj_Pw at p1 ⊢
      rw [fr1 84 (by decide) (by decide), fr1 85 (by decide) (by decide)]
      exact p1
    have pw : mj_Pw ρ := by
      have q := mj_cnS_Pw (N := D 14 14) pwC
      unfold mj_Pw at q ⊢
      rw [F.2.1 84 (by decide), F.2.1 85 (by decide)]
      exact q
    have e87 : ρ.1 87 = σ.1 87 := by rw [F.2.1 87 (by decide), mj_cnS_o (by decide) (by decide), fr1 87 (by decide) (by decide)]
    have e51 : ρ.1 61 51 = σ.1 61 51 := by
      rw [F.2.2 51 (by decide)]
      show (mj_Ctl σ (4 + s) e (nI o) (D 14 14)).1 61 51 = _
      rw [fr1 61 (by decide) (by decide)]
    refine ⟨pw, ?_, ?_, ?_⟩
    · rw [e87, e51]; exact p2
    · rw [e51]; exact p3
    · rw [e51]; exact p4
  refine ⟨mk_Inv_sm h (mk_Sm_tr (mk_Sm_tr sm1 mk_cnS_Sm) (mk_Fx_Sm (by decide) F)) (fun k hk2 => ?_) hScr (by rw [F.1]; show (mj_Ctl σ (4 + s) e (nI o) (D 14 14)).2.2.2.1 ≤ 20000; rw [fr2]; exact h.2.2.2.2.2.1) (by unfold mj_Rb; rw [F.1]; show (mj_Ctl σ (4 + s) e (nI o) (D 14 14)).2.2.2.2 ≤ B + mj_rmB (mj_Ctl σ (4 + s) e (nI o) (D 14 14)).2.2.2.1; rw [fr2]; exact h.2.2.2.2.2.2), ?_⟩
  · rw [F.2.1 12 (by decide), F.2.1 62 (by decide), mj_cnS_o (by decide) (by decide), mj_cnS_o (by decide) (by decide), fr1 12 (by decide) (by decide), fr1 62 (by decide) (by decide)]
    exact h.2.2.1.1 k hk2
  · have hM1 : mk_isM (mj_Ctl σ (4 + s) e (nI o) (D 14 14)) D := mk_isM_o (fun c a b => fr1 c (by omega) (by omega)) (by rw [fr1 61 (by decide) (by decide)]) (by rw [fr1 61 (by decide) (by decide)]) (by rw [fr1 61 (by decide) (by decide)]) hM
    have est : mj_pst (mj_Ctl σ (4 + s) e (nI o) (D 14 14)) s e = mj_Cst σ (4 + s) e := by
      funext t
      unfold mj_pst mj_Cst mj_lt mj_kl
      rw [fr2]
      by_cases c : t < e
      · rw [if_pos c, if_pos c, hlg t (by omega)]
      · rw [if_neg c, if_neg c]
    have eev : mj_evy (mj_Ctl σ (4 + s) e (nI o) (D 14 14)) = mj_evC σ := by
      unfold mj_evy mj_evC
      rw [fr1 61 (by decide) (by decide), hM.1, hD.1]
    obtain ⟨x, y, G, -, -, a3, a4⟩ := mk_te_eq (st := mj_Cst σ (4 + s) e) (mt := mj_evC σ) (μ := mj_cnS (mj_Ctl σ (4 + s) e (nI o) (D 14 14)) (D 14 14)) hD (mk_cnS_M hM1) hk (by rw [mk_cnS_46, mk_ring_eq hD hM1 hk]) (fun b hb => mk_ev_b hD hk hb) ho 12 (Nat.le_refl _)
    unfold mj_Mpl
    rw [est, eev]
    refine ⟨?_, ?_⟩
    · rw [← a3]
      show (mj_setI _ 59 1 _).1 59 2 = _
      rw [mj_setI_i (by decide)]
    · rw [← a4]
      show (mj_setI _ 59 1 _).1 59 1 = _
      rw [mj_setI_eq]
theorem mk_Chr_v {s o w : Int32} (h : mk_Inv σ D R B) (hw : mj_inb w 6 = true) : mj_Chr σ s o w = if mj_Mw σ s = 0 then (if mj_inb o 8 = true then 0 else -6) else mj_Mw σ s := by
  unfold mj_Chr
  rw [if_pos hw, mk_rr_eq h]
theorem mk_Wd_hand {s e : Nat} {o : Int32} (h : mk_Inv σ D R B) : mj_Wd (mj_Ctl σ (4 + s) e o (D 14 14)) (D 14 14) ∧ mj_Pw (mj_Ctl σ (4 + s) e o (D 14 14)) ∧ mj_Dg ((mj_Ctl σ (4 + s) e o (D 14 14)).1 74) (D 14 14) := by
  obtain ⟨fr2, fr1⟩ := mj_Ctl_fr (σ := σ) (c := 4 + s) (e := e) (N := D 14 14) (o := o)
  have hDl : mk_Dl (mj_Ctl σ (4 + s) e o (D 14 14)) D := mk_Dl_o (fun c i hr => by
    unfold mk_rel at hr
    rw [fr1 c (by omega) (by omega)]) h.1
  have hS : mj_Scr (mj_Ctl σ (4 + s) e o (D 14 14)) R := mk_Scr_o (fr1 84 (by decide) (by decide)) (fr1 85 (by decide) (by decide)) (fr1 87 (by decide) (by decide)) (by rw [fr1 61 (by decide) (by decide)]) h.2.2.2.2.1
  refine ⟨(mk_Dl_Mst hDl hS).1, hS.1, fun i hi => ?_⟩
  have := (h.1.2.2.1.2.2.2.2.1 i hi).2.2.2.2.2.2.1
  exact ⟨D 24 i, by omega, (hDl.2.1.2.2.2.1 i hi).2.2.2.2.2.2.2.1⟩
theorem mk_fork (h : mk_Inv σ D R B) : ∀ k, k < D 14 14 → σ.1 20 k = -1 ∨ mj_inb (σ.1 20 k) 3 = true := fun k hk => (h.1.2.2.2.2.2.2.2.2.1 k (by have := h.1.2.2.1.1; omega)).1
theorem mk_Mw_Ctl {s : Int32} {c e N : Nat} {o : Int32} : mj_Mw (mj_Ctl σ c e o N) s = mj_Mw σ s := by
  obtain ⟨fr2, fr1⟩ := mj_Ctl_fr (σ := σ) (c := c) (e := e) (N := N) (o := o)
  unfold mj_Mw
  rw [fr1 78 (by decide) (by decide)]
theorem mk_Mw_rfC {s w : Int32} : mj_Mw (mj_rfC σ w) s = mj_Mw σ s := by
  unfold mj_Mw
  rw [mk_rfC_o (by decide)]
theorem cl_judge {s o : Int32} (h : mk_Inv σ D R B) : mk_Cl X σ R B 126 234 [.int s, .int o] := by
  have hv := mk_Chr_v (s := s) (o := o) (w := 0) h (by decide)
  have N9 := h.1.2.2.1.1
  by_cases c : mj_Mw σ s = 0
  · rw [if_pos c] at hv
    obtain ⟨n, e, k, n1, n2, n3, e1, e2, e3, k1, s1, s78, s79, lg⟩ := mk_row h (by rw [mk_rr_eq h]; exact c)
    by_cases c2 : mj_inb o 8 = true
    · rw [if_pos c2] at hv
      obtain ⟨o', o1, o2⟩ := mj_nI_of c2 (by decide)
      subst n2
      subst o2
      obtain ⟨w1, w2, w3⟩ := mk_Wd_hand (s := n) (e := e) (o := nI o') h
      obtain ⟨fr2, fr1⟩ := mj_Ctl_fr (σ := σ) (c := 4 + n) (e := e) (N := D 14 14) (o := nI o')
      obtain ⟨ρ, F, hm⟩ := sp_M_judge (X := X) (o := nI o') w1 w2 w3 n1 (by rw [mk_Mw_Ctl]; exact c) (by rw [fr1 80 (by decide) (by decide)]; exact e3) e1
      obtain ⟨a1, a2, a3⟩ := mk_hand h n1 e1 e3 lg o1 F
      refine ⟨_, _, ρ, D, mk_Inv_R a1 (Nat.le_add_right _ _), mk_d (k := 7) (by decide) (fun d => sp_judge hv n1 e2 e1 h.1.1.1 N9 (mk_fork h)), mk_d (k := 6) (by decide) (fun d => ?_)⟩
      have q := hm d
      rw [if_pos c2] at q
      rw [a2]
      exact q
    · rw [if_neg c2] at hv
      obtain ⟨w1, w2, w3⟩ : mj_Wd (mj_rfC σ (-6)) (D 14 14) ∧ mj_Pw (mj_rfC σ (-6)) ∧ mj_Dg ((mj_rfC σ (-6)).1 74) (D 14 14) := by
        have hDl : mk_Dl (mj_rfC σ (-6)) D := mk_Dl_o (fun c i hr => by
          unfold mk_rel at hr
          rw [mk_rfC_o (by omega)]) h.1
        have hS := mk_Scr_rfC (w := -6) h.2.2.2.2.1
        refine ⟨(mk_Dl_Mst hDl hS).1, hS.1, fun i hi => ?_⟩
        have := (h.1.2.2.1.2.2.2.2.1 i hi).2.2.2.2.2.2.1
        exact ⟨D 24 i, by omega, (hDl.2.1.2.2.2.1 i hi).2.2.2.2.2.2.2.1⟩
      subst n2
      obtain ⟨ρ, F, hm⟩ := sp_M_judge (X := X) (o := o) w1 w2 w3 n1 (by rw [mk_Mw_rfC]; exact c) (by rw [mk_rfC_o (by decide)]; exact e3) e1
      refine mk_Cl_no (v := -16) (w := -6) h (kc := 4) (km := 6) (by decide) (by decide) (fun d => ?_) (fun d => ?_)
      · have q := sp_judge_no (X := X) (d := d) (σ := σ) (s := nI n) (o := o) (by rw [hv]; decide)
        rw [hv] at q
        exact q
      · have q := hm d
        rw [if_neg c2] at q
        exact q
  · rw [if_neg c] at hv
    refine mk_Cl_no (v := mj_Mw σ s - 10) (w := mj_Mw σ s) h (kc := 4) (km := 3) (by decide) (by decide) (fun d => ?_) (fun d => ?_)
    · have q := sp_judge_no (X := X) (d := d) (σ := σ) (s := s) (o := o) (by rw [hv]; exact c)
      rw [hv] at q
      exact q
    · have q := sp_M_judge_no (X := X) (d := d) (σ := mj_rfC σ (mj_Mw σ s)) (s := s) (o := o) (by rw [mk_Mw_rfC]; exact c)
      rw [mk_Mw_rfC] at q
      exact q
theorem cl_lost {s o : Int32} (h : mk_Inv σ D R B) : mk_Cl X σ R B 138 237 [.int s, .int o] := by
  have hv := mk_Chr_v (s := s) (o := o) (w := 0) h (by decide)
  have N9 := h.1.2.2.1.1
  by_cases c : mj_Mw σ s = 0
  · rw [if_pos c] at hv
    obtain ⟨n, e, k, n1, n2, n3, e1, e2, e3, k1, s1, s78, s79, lg⟩ := mk_row h (by rw [mk_rr_eq h]; exact c)
    by_cases c2 : mj_inb o 8 = true
    · rw [if_pos c2] at hv
      obtain ⟨o', o1, o2⟩ := mj_nI_of c2 (by decide)
      subst n2
      subst o2
      obtain ⟨w1, w2, w3⟩ := mk_Wd_hand (s := n) (e := e) (o := nI o') h
      obtain ⟨fr2, fr1⟩ := mj_Ctl_fr (σ := σ) (c := 4 + n) (e := e) (N := D 14 14) (o := nI o')
      obtain ⟨ρ, F, hm⟩ := sp_M_lost (X := X) (o := nI o') w1 w2 w3 n1 (by rw [mk_Mw_Ctl]; exact c) (by rw [fr1 80 (by decide) (by decide)]; exact e3) e1
      obtain ⟨a1, a2, a3⟩ := mk_hand h n1 e1 e3 lg o1 F
      refine ⟨_, _, ρ, D, mk_Inv_R a1 (Nat.le_add_right _ _), mk_d (k := 7) (by decide) (fun d => sp_lost hv n1 e2 e1 h.1.1.1 N9 (mk_fork h)), mk_d (k := 6) (by decide) (fun d => ?_)⟩
      have q := hm d
      rw [if_pos c2] at q
      rw [a3]
      exact q
    · rw [if_neg c2] at hv
      obtain ⟨w1, w2, w3⟩ : mj_Wd (mj_rfC σ (-6)) (D 14 14) ∧ mj_Pw (mj_rfC σ (-6)) ∧ mj_Dg ((mj_rfC σ (-6)).1 74) (D 14 14) := by
        have hDl : mk_Dl (mj_rfC σ (-6)) D := mk_Dl_o (fun c i hr => by
          unfold mk_rel at hr
          rw [mk_rfC_o (by omega)]) h.1
        have hS := mk_Scr_rfC (w := -6) h.2.2.2.2.1
        refine ⟨(mk_Dl_Mst hDl hS).1, hS.1, fun i hi => ?_⟩
        have := (h.1.2.2.1.2.2.2.2.1 i hi).2.2.2.2.2.2.1
        exact ⟨D 24 i, by omega, (hDl.2.1.2.2.2.1 i hi).2.2.2.2.2.2.2.1⟩
      subst n2
      obtain ⟨ρ, F, hm⟩ := sp_M_lost (X := X) (o := o) w1 w2 w3 n1 (by rw [mk_Mw_rfC]; exact c) (by rw [mk_rfC_o (by decide)]; exact e3) e1
      refine mk_Cl_no (v := -6) (w := -6) h (kc := 4) (km := 6) (by decide) (by decide) (fun d => ?_) (fun d => ?_)
      · have q := sp_lost_no (X := X) (d := d) (σ := σ) (s := nI n) (o := o) (by rw [hv]; decide)
        rw [hv] at q
        exact q
      · have q := hm d
        rw [if_neg c2] at q
        exact q
  · rw [if_neg c] at hv
    refine mk_Cl_no (v := mj_Mw σ s) (w := mj_Mw σ s) h (kc := 4) (km := 3) (by decide) (by decide) (fun d => ?_) (fun d => ?_)
    · have q := sp_lost_no (X := X) (d := d) (σ := σ) (s := s) (o := o) (by rw [hv]; exact c)
      rw [hv] at q
      exact q
    · have q := sp_M_lost_no (X := X) (d := d) (σ := mj_rfC σ (mj_Mw σ s)) (s := s) (o := o) (by rw [mk_Mw_rfC]; exact c)
      rw [mk_Mw_rfC] at q
      exact q
theorem cl_owed {s o w : Int32} (h : mk_Inv σ D R B) : mk_Cl X σ R B 139 238 [.int s, .int o, .int w] := by
  have N9 := h.1.2.2.1.1
  by_cases cw : mj_inb w 6 = true
  · have hv := mk_Chr_v (s := s) (o := o) (w := w) h cw
    by_cases c : mj_Mw σ s = 0
    · rw [if_pos c] at hv
      obtain ⟨n, e, k, n1, n2, n3, e1, e2, e3, k1, s1, s78, s79, lg⟩ := mk_row h (by rw [mk_rr_eq h]; exact c)
      by_cases c2 : mj_inb o 8 = true
      · rw [if_pos c2] at hv
        obtain ⟨o', o1, o2⟩ := mj_nI_of c2 (by decide)
        subst n2
        subst o2
        obtain ⟨w1, w2, w3⟩ := mk_Wd_hand (s := n) (e := e) (o := nI o') h
        obtain ⟨fr2, fr1⟩ := mj_Ctl_fr (σ := σ) (c := 4 + n) (e := e) (N := D 14 14) (o := nI o')
        obtain ⟨ρ, F, hm⟩ := sp_M_owed (X := X) (o := nI o') cw w1 w2 w3 n1 (by rw [mk_Mw_Ctl]; exact c) (by rw [fr1 80 (by decide) (by decide)]; exact e3) e1
        obtain ⟨a1, a2, a3⟩ := mk_hand h n1 e1 e3 lg o1 F
        refine ⟨_, _, ρ, D, mk_Inv_R a1 (Nat.le_add_right _ _), mk_d (k := 7) (by decide) (fun d => sp_owed hv n1 e2 e1 h.1.1.1 N9 (mk_fork h)), mk_d (k := 6) (by decide) (fun d => ?_)⟩
        have q := hm d
        rw [if_pos c2, ← a3] at q
        have eq2 : mj_Mow (mj_Ctl σ (4 + n) e (nI o') (D 14 14)) ((mj_Ctl σ (4 + n) e (nI o') (D 14 14)).1 59 1) w (D 14 14) = mj_owed σ 23 22 w (mj_b ((mj_Ctl σ (4 + n) e (nI o') (D 14 14)).1 59 1)) (D 14 14) := by
          rw [mk_ow_eq (q := fun i => mj_b ((mj_Ctl σ (4 + n) e (nI o') (D 14 14)).1 59 1) i = true) h (fun i _ => Iff.rfl)]
          unfold mj_Mow
          rw [fr1 73 (by decide) (by decide), fr1 72 (by decide) (by decide)]
        rw [eq2] at q
        exact q
      · rw [if_neg c2] at hv
        obtain ⟨w1, w2, w3⟩ : mj_Wd (mj_rfC σ (-6)) (D 14 14) ∧ mj_Pw (mj_rfC σ (-6)) ∧ mj_Dg ((mj_rfC σ (-6)).1 74) (D 14 14) := by
          have hDl : mk_Dl (mj_rfC σ (-6)) D := mk_Dl_o (fun c i hr => by
            unfold mk_rel at hr
            rw [mk_rfC_o (by omega)]) h.1
          have hS := mk_Scr_rfC (w := -6) h.2.2.2.2.1
          refine ⟨(mk_Dl_Mst hDl hS).1, hS.1, fun i hi => ?_⟩
          have := (h.1.2.2.1.2.2.2.2.1 i hi).2.2.2.2.2.2.1
          exact ⟨D 24 i, by omega, (hDl.2.1.2.2.2.1 i hi).2.2.2.2.2.2.2.1⟩
        subst n2
        obtain ⟨ρ, F, hm⟩ := sp_M_owed (X := X) (o := o) cw w1 w2 w3 n1 (by rw [mk_Mw_rfC]; exact c) (by rw [mk_rfC_o (by decide)]; exact e3) e1
        refine mk_Cl_no (v := -6) (w := -6) h (kc := 4) (km := 6) (by decide) (by decide) (fun d => ?_) (fun d => ?_)
        · have q := sp_owed_no (X := X) (d := d) (σ := σ) (s := nI n) (o := o) (w := w) (by rw [hv]; decide)
          rw [hv] at q
          exact q
        · have q := hm d
          rw [if_neg c2] at q
          exact q
    · rw [if_neg c] at hv
      refine mk_Cl_no (v := mj_Mw σ s) (w := mj_Mw σ s) h (kc := 4) (km := 3) (by decide) (by decide) (fun d => ?_) (fun d => ?_)
      · have q := sp_owed_no (X := X) (d := d) (σ := σ) (s := s) (o := o) (w := w) (by rw [hv]; exact c)
        rw [hv] at q
        exact q
      · have q := sp_M_owed_no (X := X) (d := d) (σ := mj_rfC σ (mj_Mw σ s)) (s := s) (o := o) cw (by rw [mk_Mw_rfC]; exact c)
        rw [mk_Mw_rfC] at q
        exact q
  · have hv : mj_Chr σ s o w = -1 := by
      unfold mj_Chr
      rw [if_neg cw]
    refine mk_Cl_no (v := -1) (w := -1) h (kc := 4) (km := 2) (by decide) (by decide) (fun d => ?_) (fun d => ?_)
    · have q := sp_owed_no (X := X) (d := d) (σ := σ) (s := s) (o := o) (w := w) (by rw [hv]; decide)
      rw [hv] at q
      exact q
    · exact sp_M_owed_who (by cases z : mj_inb w 6; rfl; exact absurd z cw)
end
