section
variable {X : mj_X} {σ τ ρ : mj_St} {D : Nat → Nat → Nat} {R R' B : Nat}
theorem mk_Inv_R (h : mk_Inv σ D R B) (hR : R ≤ R') : mk_Inv σ D R' B := ⟨h.1, h.2.1, h.2.2.1, h.2.2.2.1, mj_Scr_le h.2.2.2.2.1 hR, h.2.2.2.2.2⟩
/-- a call: both sides answer alike, and what stands between calls stands -/
def mk_Cl (X : mj_X) (σ : mj_St) (R B c m : Nat) (as : List Value) : Prop := ∃ (v : Int32) (ρ τ : mj_St) (D' : Nat → Nat → Nat), mk_Inv τ D' (R + 512) B ∧ (∀ d, mj_ev X (d + 60) c (.ref 0 :: as) σ = some (some (.int v), ρ)) ∧ ∀ d, mj_ev X (d + 60) m (.ref 61 :: as) ρ = some (some (.int v), τ)
theorem mk_Fs_Sm (F : mj_Fs σ ρ) : mk_Sm σ ρ := by
  obtain ⟨f1, f2, -⟩ := F
  exact ⟨fun c _ _ _ h _ _ _ _ _ => f1 c (by omega), fun i _ => by rw [f1 61 (Or.inr (by decide))], fun c h => f2 c (by omega)⟩
theorem mk_FB_Sm (F : mj_FB σ ρ) : mk_Sm σ ρ := by
  obtain ⟨f1, f2, -⟩ := F
  exact ⟨fun c _ _ _ h _ _ _ _ _ => f1 c (by omega), fun i _ => by rw [f1 61 (Or.inr (by decide))], fun c h => f2 c (by omega)⟩
theorem mk_Fq_Sm (F : mj_Fq σ τ) : mk_Sm σ τ := by
  obtain ⟨f0, f1, f2⟩ := F
  exact ⟨fun c _ _ _ _ h a b e f => f1 c h a b e f, fun i h => f2 i (by omega) (by omega) (by omega) (by omega) (by omega) (by omega), fun c _ => by rw [f0]⟩
theorem mk_rfC_Sm {w : Int32} : mk_Sm σ (mj_rfC σ w) := ⟨fun c h _ _ _ _ _ _ _ _ => mj_setI_ne _ _ _ h, fun _ _ => rfl, fun _ _ => rfl⟩
theorem mk_rfM_Sm {w : Int32} : mk_Sm σ (mj_rfM σ w) := ⟨fun c _ h _ _ _ _ _ _ _ => mj_setI_ne _ _ _ h, fun _ _ => rfl, fun _ _ => rfl⟩
theorem mk_Scr_o (h84 : τ.1 84 = σ.1 84) (h85 : τ.1 85 = σ.1 85) (h87 : τ.1 87 = σ.1 87) (h : τ.1 61 51 = σ.1 61 51) (hS : mj_Scr σ R) : mj_Scr τ R := by
  unfold mj_Scr mj_Pw at hS ⊢
  rw [h84, h85, h87, h]
  exact hS
theorem mk_Scr_Fs (F : mj_Fs σ ρ) (hS : mj_Scr σ R) : mj_Scr ρ R := mk_Scr_o (F.1 84 (Or.inr (by decide))) (F.1 85 (Or.inr (by decide))) (F.1 87 (Or.inr (by decide))) (by rw [F.1 61 (Or.inr (by decide))]) hS
theorem mk_Scr_FB (F : mj_FB σ ρ) (hS : mj_Scr σ R) : mj_Scr ρ R := mk_Scr_o (F.1 84 (Or.inr (by decide))) (F.1 85 (Or.inr (by decide))) (F.1 87 (Or.inr (by decide))) (by rw [F.1 61 (Or.inr (by decide))]) hS
theorem mk_Scr_rfC {w : Int32} (hS : mj_Scr σ R) : mj_Scr (mj_rfC σ w) R := mk_Scr_o (mj_setI_ne _ _ _ (by decide)) (mj_setI_ne _ _ _ (by decide)) (mj_setI_ne _ _ _ (by decide)) rfl hS
theorem mk_Scr_rfM {w : Int32} (hS : mj_Scr σ R) : mj_Scr (mj_rfM σ w) R := mk_Scr_o (mj_setI_ne _ _ _ (by decide)) (mj_setI_ne _ _ _ (by decide)) (mj_setI_ne _ _ _ (by decide)) rfl hS
theorem mk_Inv_Fs (h : mk_Inv σ D R B) (F : mj_Fs σ ρ) : mk_Inv ρ D R B := mk_Inv_sm h (mk_Fs_Sm F) (fun k hk => by
  rw [F.1 12 (Or.inl (by decide)), F.1 62 (Or.inr (by decide))]
  exact h.2.2.1.1 k hk) (mk_Scr_Fs F h.2.2.2.2.1) (F.2.2.2.1 h.2.2.2.2.2.1) (F.2.2.2.2 B h.2.2.2.2.2.2)
theorem mk_Inv_FB (h : mk_Inv σ D R B) (F : mj_FB σ ρ) : mk_Inv ρ D R B := mk_Inv_sm h (mk_FB_Sm F) (fun k hk => by
  rw [F.1 12 (Or.inl (by decide)), F.1 62 (Or.inr (by decide))]
  exact h.2.2.1.1 k hk) (mk_Scr_FB F h.2.2.2.2.1) (F.2.2.2.1 h.2.2.2.2.2.1) (F.2.2.2.2 B h.2.2.2.2.2.2)
theorem mk_Inv_Fq (h : mk_Inv σ D R B) (F : mj_Fq σ τ) (hS : mj_Scr τ R') : mk_Inv τ D R' B := mk_Inv_sm h (mk_Fq_Sm F) (fun k hk => by
  rw [F.2.1 12 (by decide) (by decide) (by decide) (by decide) (by decide), F.2.1 62 (by decide) (by decide) (by decide) (by decide) (by decide)]
  exact h.2.2.1.1 k hk) hS (by rw [F.1]; exact h.2.2.2.2.2.1) (by unfold mj_Rb; rw [F.1]; exact h.2.2.2.2.2.2)
/-- both sides refuse, after a search of the reference -/
theorem mk_Inv_no {w : Int32} (h : mk_Inv σ D R B) (F : mj_Fq (mj_rfC σ w) τ) (hS : mj_Scr τ R') : mk_Inv (mj_rfM τ w) D R' B := by
  refine mk_Inv_sm h (mk_Sm_tr (mk_Sm_tr mk_rfC_Sm (mk_Fq_Sm F)) mk_rfM_Sm) (fun k hk => ?_) (mk_Scr_rfM hS) (by show τ.2.2.2.1 ≤ 20000; rw [F.1]; exact h.2.2.2.2.2.1) (by show τ.2.2.2.2 ≤ B + mj_rmB τ.2.2.2.1; rw [F.1]; exact h.2.2.2.2.2.2)
  have e12 : τ.1 12 = (mj_rfC σ w).1 12 := F.2.1 12 (by decide) (by decide) (by decide) (by decide) (by decide)
  have e62 : τ.1 62 = σ.1 62 := (F.2.1 62 (by decide) (by decide) (by decide) (by decide) (by decide)).trans (mj_setI_ne _ _ _ (by decide))
  have a : (mj_rfM τ w).1 12 k = if k = (-w).toNatClampNeg then σ.1 12 (-w).toNatClampNeg + 1 else σ.1 12 k := by
    unfold mj_rfM
    rw [mj_setI_ne _ _ _ (by decide), e12]
    unfold mj_rfC
    rw [mj_rI]
    simp
  have b : (mj_rfM τ w).1 62 k = if k = (-w).toNatClampNeg then σ.1 62 (-w).toNatClampNeg + 1 else σ.1 62 k := by
    unfold mj_rfM
    rw [mj_rI, e62]
    simp
  rw [a, b]
  by_cases c : k = (-w).toNatClampNeg
  · rw [if_pos c, if_pos c, ← c, h.2.2.1.1 k hk]
  · rw [if_neg c, if_neg c, h.2.2.1.1 k hk]
/-- both sides refuse -/
theorem mk_Inv_rf {w : Int32} (h : mk_Inv σ D R B) : mk_Inv (mj_rfM (mj_rfC σ w) w) D R B := mk_Inv_no h mj_Fq_rf (mk_Scr_rfC h.2.2.2.2.1)
theorem mk_d {c k : Nat} {as : List Value} {r : mj_Rs} (hk : k ≤ 60) (h : ∀ d, mj_ev X (d + k) c as σ = some r) : ∀ d, mj_ev X (d + 60) c as σ = some r := fun d => by
  have := h (d + (60 - k))
  rw [show d + (60 - k) + k = d + 60 by omega] at this
  exact this
/-- both sides refuse, and that is all -/
theorem mk_Cl_no {c m kc km : Nat} {as : List Value} {v w : Int32} (h : mk_Inv σ D R B) (hc : kc ≤ 60) (hm : km ≤ 60) (h1 : ∀ d, mj_ev X (d + kc) c (.ref 0 :: as) σ = some (some (.int v), mj_rfC σ w)) (h2 : ∀ d, mj_ev X (d + km) m (.ref 61 :: as) (mj_rfC σ w) = some (some (.int v), mj_rfM (mj_rfC σ w) w)) : mk_Cl X σ R B c m as :=
  ⟨v, _, _, D, mk_Inv_R (mk_Inv_rf h) (Nat.le_add_right _ _), mk_d hc h1, mk_d hm h2⟩
/-- both sides tell, and change nothing -/
theorem mk_Cl_ok {c m kc km : Nat} {as : List Value} {v v' : Int32} (h : mk_Inv σ D R B) (hc : kc ≤ 60) (hm : km ≤ 60) (e : v = v') (h1 : ∀ d, mj_ev X (d + kc) c (.ref 0 :: as) σ = some (some (.int v), σ)) (h2 : ∀ d, mj_ev X (d + km) m (.ref 61 :: as) σ = some (some (.int v'), σ)) : mk_Cl X σ R B c m as := by
  subst e
  exact ⟨v, _, _, D, mk_Inv_R h (Nat.le_add_right _ _), mk_d hc h1, mk_d hm h2⟩
theorem mk_rfC_o {w : Int32} {c : Nat} (h : c ≠ 12) : (mj_rfC σ w).1 c = σ.1 c := mj_setI_ne _ _ _ h
theorem cl_fault (h : mk_Inv σ D R B) : mk_Cl X σ R B 42 183 [] := mk_Cl_ok h (kc := 1) (km := 1) (by decide) (by decide) h.2.2.1.2.1 (fun d => sp_fault) (fun d => sp_M_fault)
theorem cl_trace {i : Int32} (h : mk_Inv σ D R B) : mk_Cl X σ R B 150 247 [.int i] := by
  refine mk_Cl_ok h (kc := 1) (km := 1) (by decide) (by decide) ?_ (fun d => sp_trace) (fun d => sp_M_trace)
  obtain ⟨-, -, o3, o4⟩ := h.2.2.1
  rw [o3] at o4 ⊢
  by_cases c : ¬ i < 0 ∧ i < 20 ∧ i < σ.1 61 59
  · rw [if_pos c, if_pos ⟨c.1, c.2.2, c.2.1⟩]
    obtain ⟨n, n1, n2⟩ := mj_nI_of (mj_inb_of (k := 20) (hi := 19) c.1 (fun z => by
      have e : (19 : Int32) < i → ¬ i < 20 := fun z q => by
        have a := Int32.lt_iff_toInt_lt.mp z
        have b := Int32.lt_iff_toInt_lt.mp q
        have e1 : (19 : Int32).toInt = 19 := by decide
        have e2 : (20 : Int32).toInt = 20 := by decide
        omega
      exact e z c.2.1) (by decide)) (by decide)
    rw [n2, nI_clamp (by omega)]
    exact o4 n n1 (by rw [← n2]; exact c.2.2)
  · rw [if_neg c, if_neg (fun z => c ⟨z.1, z.2.2, z.2.1⟩)]
/-- a shelf as both sides hold it -/
theorem mk_sh {s : Int32} (h : mk_Inv σ D R B) (hs : mj_inb s 8 = true) : ∃ n, n < 8 ∧ s = nI n ∧ s.toNatClampNeg = n ∧ (∃ e, e ≤ 60 ∧ σ.1 2 n = nI e ∧ σ.1 80 n = nI e) ∧
    ((σ.1 1 n = -1 ∧ σ.1 78 n = 0) ∨ (∃ k, k < 4 ∧ σ.1 1 n = nI (100 + k) ∧ σ.1 78 n = 1 ∧ σ.1 79 n = nI k) ∨ ∃ p, p < D 14 14 ∧ σ.1 1 n = nI p ∧ σ.1 78 n = 2 ∧ σ.1 81 n = nI p) ∧ ∀ i, i < 60 → σ.2.1 (4 + n) i = σ.2.1 82 (60 * n + i) := by
  obtain ⟨n, n1, n2⟩ := mj_nI_of hs (by decide)
  exact ⟨n, n1, n2, by rw [n2]; exact nI_clamp (by omega), h.2.1 n n1⟩
theorem mk_lt100 {p : Nat} : (nI p < 100 ↔ p < 100) ∨ 2147483648 ≤ p := by
  by_cases c : p < 2147483648
  · exact Or.inl ⟨fun z => Classical.byContradiction (fun y => nI_nlt (a := p) (b := 100) (by omega) (by omega) z), fun z => nI_lt (b := 100) z (by omega)⟩
  · exact Or.inr (by omega)
/-- what bars a shelf: both sides say the same -/
theorem mk_rr_eq {s : Int32} (h : mk_Inv σ D R B) : mj_rr σ s = mj_Mw σ s := by
  unfold mj_rr mj_Mw
  by_cases hs : mj_inb s 8 = true
  · obtain ⟨n, n1, n2, n3, -, sh, -⟩ := mk_sh h hs
    have N9 := h.1.2.2.1.1
    rw [if_pos hs, if_pos hs, n3]
    rcases sh with ⟨a, b⟩ | ⟨k, k1, a, b, -⟩ | ⟨p, p1, a, b, -⟩
    · rw [a, b, if_pos (by decide), if_pos rfl, if_neg (by decide), if_pos rfl]
    · rw [a, b, if_neg (show ¬ nI (100 + k) < 100 from nI_nlt (a := 100 + k) (b := 100) (by omega) (by omega)), if_neg (by decide), if_neg (by decide)]
    · rw [a, b, if_pos (show nI p < 100 from nI_lt (b := 100) (by omega) (by omega)), if_neg (mj_nI_m1 (by omega)), if_pos rfl]
  · rw [if_neg hs, if_neg hs]
theorem cl_holds {s : Int32} (h : mk_Inv σ D R B) : mk_Cl X σ R B 14 164 [.int s] := by
  refine mk_Cl_ok h (kc := 2) (km := 2) (by decide) (by decide) ?_ (fun d => sp_holds) (fun d => sp_M_holds)
  by_cases hs : mj_inb s 8 = true
  · obtain ⟨n, n1, n2, n3, -, sh, -⟩ := mk_sh h hs
    rw [if_pos hs, n3]
    rcases sh with ⟨a, b⟩ | ⟨k, k1, a, b, c⟩ | ⟨p, p1, a, b, c⟩
    · rw [if_neg (fun z => z.2 b), a]
    · rw [if_pos ⟨hs, by rw [b]; decide⟩, if_pos b, a, c]
      exact (nI_add (a := 100) (b := k)).symm
    · rw [if_pos ⟨hs, by rw [b]; decide⟩, if_neg (by rw [b]; decide), a, c]
  · rw [if_neg hs, if_neg (fun z => hs z.1)]
end
