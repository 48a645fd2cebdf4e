section
variable {σ τ μ : mj_St} {D : Nat → Nat → Nat}
noncomputable def mk_dc (p : Prop) : Bool := @decide p (Classical.propDecidable p)
theorem mk_dc_i {p : Prop} : mk_dc p = true ↔ p := @decide_eq_true_iff p (Classical.propDecidable p)
theorem mk_dc_f {p : Prop} : mk_dc p = false ↔ ¬ p := @decide_eq_false_iff_not p (Classical.propDecidable p)
theorem mk_beq {a b : Bool} (h : a = true ↔ b = true) : a = b := Bool.eq_iff_iff.mpr h
/-- both sides hold the same deal -/
def mk_Bo (σ : mj_St) (D : Nat → Nat → Nat) : Prop := mj_isD σ D ∧ mk_isM σ D ∧ mj_okD D ∧ (∀ i, (D 14 16).testBit i = true → i < D 14 14) ∧ mj_pc σ (D 14 14) (D 14 17) ∧ mj_pe σ
/-- whether all of a set can be kept -/
noncomputable def mk_K (σ : mj_St) (D : Nat → Nat → Nat) (set : Int32) (o : Nat) : Bool := mk_dc (mj_nl D (mj_b set) ∧ mj_DW D (mj_b set) (mj_b (mj_ring σ (D 14 14))) 1 o mj_Qno (12 - D 14 17) 0 (D 25))
theorem mk_sg1 {N : Nat} : (mj_sgr σ N 1).toNatClampNeg = 0 := by
  have := (mj_sgrN (σ := σ) (N := N) (gr := 1) (Or.inl rfl)).1
  omega
theorem mk_FsD (h : mk_Bo σ D) (F : mj_Fs σ τ) : mj_isD τ D ∧ mj_pc τ (D 14 14) (D 14 17) ∧ mj_pe τ ∧ mj_ring τ = mj_ring σ ∧ ∀ gr, mj_sgr τ (D 14 14) gr = mj_sgr σ (D 14 14) gr := by
  obtain ⟨hD, -, -, -, hc, he⟩ := h
  have o : ∀ c, c < 46 → τ.1 c = σ.1 c := fun c hc => F.1 c (Or.inl hc)
  refine ⟨mj_isD_o o hD, mj_Fs_pc F hc, mj_Fs_pe F he, mj_ring_o o, fun gr => ?_⟩
  unfold mj_sgr
  rw [mj_tld_o (o 14 (by decide)) (o 28 (by decide)), mj_usd_o (o 20 (by decide)), o 14 (by decide)]
theorem mk_KH (h : mk_Bo σ D) : mj_KH σ (D 14 14) (D 14 17) (mk_K σ D) := by
  intro τ F set o ho
  obtain ⟨a, b, c, d, -⟩ := mk_FsD h F
  refine mk_beq ?_
  have := mj_ckg_D (set := set) (gr := 1) a h.2.2.1 h.2.2.2.1 b c (Or.inl rfl) ho
  rw [mk_sg1, d] at this
  unfold mj_ckp mk_K
  rw [this, mk_dc_i]
theorem mk_Mk_eq {set : Int32} {o : Nat} (h : mk_Bo σ D) (ho : o < 8) : mj_Mkept σ (nI o) set (D 14 14) (D 14 17) = mk_K σ D set o := by
  obtain ⟨hD, hM, hk, -⟩ := h
  refine mk_beq ?_
  unfold mk_K
  rw [mk_Mkept_D (g := 0) hM hk ho, mk_dc_i, mk_ring_eq hD hM hk]
theorem mk_ev_eq (hD : mj_isD σ D) (hM : mk_isM σ D) : mj_evy σ = mj_evC σ := by
  unfold mj_evy mj_evC
  rw [hD.1, hM.1]
theorem mk_ev_b {b : Nat} (hD : mj_isD σ D) (hk : mj_okD D) (hb : b < 32) : mj_b (mj_evC σ) b = decide (b < D 14 14) := by
  unfold mj_evC
  rw [hD.1]
  exact mj_b_all (by have := hk.1; omega) hb
-- forks told, forks in use
theorem mk_use_b {f : Nat} (hD : mj_isD σ D) (hk : mj_okD D) (hf : f < 32) : mj_b (mj_usd σ (D 14 14)) f = mk_usf D f := by
  unfold mj_usd mk_usf
  have e : ∀ n, n ≤ D 14 14 → mj_b (mj_it (mj_fused σ) 0 n) f = mj_anyF (fun i => decide (D 20 i = f + 1)) 0 n := by
    intro n
    induction n with
    | zero => intro _; exact mj_b_0
    | succ n ih =>
      intro hn
      have e20 := (hD.2.2.2.2.1 n (by omega)).2.2.2.2.2.1
      have k20 := (hk.2.2.2.2.1 n (by omega)).2.2.2.2.1
      rw [mj_it_s, mj_anyS, Nat.zero_add, ← ih (by omega)]
      show mj_b (mj_it (mj_fused σ) 0 n ||| (if σ.1 20 n = -1 then (0 : Int32) else 1 <<< (σ.1 20 n &&& 31))) f = _
      rw [mj_b_or]
      congr 1
      by_cases c : D 20 n = 0
      · rw [if_pos (by rw [e20, c]; rfl), mj_b_0, decide_eq_false (by omega)]
      · rw [if_neg (by rw [e20, mj_oi_m1 (by omega)]; exact c), e20, mj_oi_pos (by omega), mj_b_sh1 (by omega) hf]
        exact decide_eq_decide.mpr (by omega)
  exact e _ (Nat.le_refl _)
theorem mk_tld_b {f : Nat} (hD : mj_isD σ D) (hk : mj_okD D) (hf : f < 32) : mj_b (mj_tld σ) f = (decide (f < 3) && decide (D 28 f ≤ D 14 17)) := by
  have h17 := hk.2.2.1
  have e : ∀ n, n ≤ 3 → mj_b (mj_it (fun f u => u ||| (if σ.1 14 17 < σ.1 28 f then (0 : Int32) else 1 <<< (nI f &&& 31))) 0 n) f = (decide (f < n) && decide (D 28 f ≤ D 14 17)) := by
    intro n
    induction n with
    | zero => intro _; rw [decide_eq_false (Nat.not_lt_zero f), Bool.false_and]; exact mj_b_0
    | succ n ih =>
      intro hn
      have e28 := hD.2.2.2.2.2.2 n (by omega)
      have k28 := hk.2.2.2.2.2.2.1 n (by omega)
      rw [mj_it_s, mj_b_or, ih (by omega)]
      have lt : σ.1 14 17 < σ.1 28 n ↔ D 14 17 < D 28 n := by
        rw [e28, hD.2.2.1]
        exact ⟨fun z => Classical.byContradiction (fun y => nI_nlt (by omega) (by omega) z), fun z => nI_lt z (by omega)⟩
      by_cases c : σ.1 14 17 < σ.1 28 n
      · rw [if_pos c, mj_b_0, Bool.or_false]
        by_cases e : f = n
        · subst e
          rw [decide_eq_false (Nat.lt_irrefl f), decide_eq_true (Nat.lt_succ_self f), decide_eq_false (show ¬ D 28 f ≤ D 14 17 by have := lt.mp c; omega)]
          rfl
        · rw [show decide (f < n + 1) = decide (f < n) from mj_dec (by omega)]
      · rw [if_neg c, mj_b_sh1 (by omega) hf]
        by_cases e : f = n
        · subst e
          rw [decide_eq_false (Nat.lt_irrefl f), decide_eq_true (Nat.lt_succ_self f), decide_eq_true (show D 28 f ≤ D 14 17 from Nat.le_of_not_lt (fun z => c (lt.mpr z))), decide_eq_true rfl]
          rfl
        · rw [decide_eq_false e, Bool.or_false, show decide (f < n + 1) = decide (f < n) from mj_dec (by omega)]
  exact e 3 (Nat.le_refl _)
theorem mk_sg_b {f : Nat} (hD : mj_isD σ D) (hk : mj_okD D) (hf : f < 3) : (mj_sgr σ (D 14 14) 8).toNatClampNeg.testBit f = ((D 14 18).testBit f && (decide (D 28 f ≤ D 14 17) && mk_usf D f)) := by
  obtain ⟨s1, s2⟩ := mj_sgrN (σ := σ) (N := D 14 14) (gr := 8) (Or.inr rfl)
  have e : mj_sgr σ (D 14 14) 8 = (σ.1 14 18 &&& mj_tld σ) &&& mj_usd σ (D 14 14) := rfl
  have h18 := hk.2.2.2.1
  rw [← mj_b_nI (by omega), ← s2, e, mj_b_and, mj_b_and, mk_use_b hD hk (by omega), mk_tld_b hD hk (by omega), decide_eq_true hf, hD.2.2.2.1, mj_b_nI (by omega), Bool.true_and, Bool.and_assoc]
/-- the start of a search for all outcomes -/
theorem mk_ug_sg {o : Nat} (hD : mj_isD σ D) (hk : mj_okD D) (h : ∀ f, f < 3 → mk_usf D f = true → D 28 f ≤ D 14 17 → o.testBit f = (D 14 18).testBit f) : mk_ug D (D 14 17) o (mj_sgr σ (D 14 14) 8).toNatClampNeg := fun f hf hu => by
  rw [mk_sg_b hD hk hf, hu, Bool.and_true]
  refine ⟨fun hd => ?_, fun hd => ?_⟩
  · rw [decide_eq_true hd, Bool.and_true]
    exact h f hf hu hd
  · rw [decide_eq_false (by omega), Bool.and_false]
/-- whether all can be borne -/
noncomputable def mk_b (σ : mj_St) (D : Nat → Nat → Nat) : Bool := mk_dc (mj_nl D (mj_b (mj_evC σ)) ∧ mj_DW D (mj_b (mj_evC σ)) (mj_b (mj_ring σ (D 14 14))) 8 0 mj_Qno (12 - D 14 17) (mj_sgr σ (D 14 14) 8).toNatClampNeg (D 25))
theorem mk_BH (h : mk_Bo σ D) : mj_BH σ (D 14 14) (D 14 17) (mk_b σ D) := by
  intro τ F
  obtain ⟨a, b, c, d, e⟩ := mk_FsD h F
  refine mk_beq ?_
  have := mj_ckg_D (set := mj_evC σ) (gr := 8) (o := 0) a h.2.2.1 h.2.2.2.1 b c (Or.inr rfl) (by decide)
  rw [d, e] at this
  unfold mk_b
  rw [mk_dc_i, ← this]
  exact Iff.rfl
theorem mk_bsl_i {o : Nat} (hD : mj_isD σ D) (hk : mj_okD D) (ho : o < 8) (h : mj_bsl σ (D 14 14) o = true) : ∀ f, f < 3 → (D 28 f ≤ D 14 17 ∨ mk_usf D f = false) → o.testBit f = (D 14 18).testBit f := by
  intro f hf hc
  have h18 := hk.2.2.2.1
  unfold mj_bsl mj_fix at h
  have h := of_decide_eq_true h
  have b7 : mj_b 7 f = true := by
    have : f = 0 ∨ f = 1 ∨ f = 2 := by omega
    rcases this with c | c | c <;> subst c <;> decide
  have := congrArg (fun x => mj_b x f) h
  simp only [mj_b_and, mj_b_xor, mj_b_or, mj_b_0] at this
  rw [b7, mj_b_m1 (by omega), Bool.xor_true, mk_use_b hD hk (by omega), mk_tld_b hD hk (by omega), decide_eq_true hf, hD.2.2.2.1, mj_b_nI (by omega), mj_b_nI (by omega), Bool.true_and, Bool.and_true] at this
  have q : (decide (D 28 f ≤ D 14 17) || !(mk_usf D f)) = true := by
    rcases hc with z | z
    · rw [decide_eq_true z, Bool.true_or]
    · rw [z, Bool.not_false, Bool.or_true]
  rw [q, Bool.and_true] at this
  revert this
  cases o.testBit f <;> cases (D 14 18).testBit f <;> decide
theorem mk_bav_eq (h : mk_Bo σ D) : mj_bav σ (D 14 14) (mk_K σ D) (mk_b σ D) = mk_b σ D := by
  obtain ⟨hD, hM, hk, hb, hc, he⟩ := h
  unfold mj_bav
  cases z : mk_b σ D
  · rw [Bool.and_false]
  · rw [Bool.and_true, Bool.not_eq_true']
    cases y : mj_anyF (fun o => mj_bsl σ (D 14 14) o && !(mk_K σ D (mj_evC σ) o)) 0 8
    · rfl
    · obtain ⟨o, -, ho, hq⟩ := (mj_anyF_iff _ _).mp y
      rw [Bool.and_eq_true] at hq
      obtain ⟨q1, q2⟩ := hq
      unfold mk_b at z
      rw [mk_dc_i] at z
      have ag := mk_bsl_i hD hk (by omega) q1
      have e12 : 12 - (12 - D 14 17) = D 14 17 := by have := hk.2.2.1; omega
      have hK : mk_K σ D (mj_evC σ) o = true := by
        unfold mk_K
        rw [mk_dc_i]
        refine ⟨z.1, mk_DW_81 hk (12 - D 14 17) _ 0 (D 25) (by omega) ?_ z.2⟩
        rw [e12]
        exact mk_ug_sg hD hk (fun f hf _ hd => ag f hf (Or.inl hd))
      rw [hK] at q2
      exact absurd q2 (by decide)
/-- the ways that are told by now -/
theorem mk_told {h t : Nat} (hM : mk_isM μ D) (hk : mj_okD D) (hh : h < 100) (ht : t < 8) : ∃ u, mk_wy D h u ∧ nI t &&& mj_Mkb μ (nI h) 3 = nI u ∧ ∀ f, f < 3 → D 28 f ≤ h → u.testBit f = t.testBit f := by
  have ub := fun f => mj_nb_b (A := fun f => t.testBit f && decide (D 28 f ≤ h)) (i := f) 3
  refine ⟨mj_nb (fun f => t.testBit f && decide (D 28 f ≤ h)) 3, ⟨mj_nb_lt (n := 3), fun f hf => ?_⟩, ?_, fun f hf hd => ?_⟩
  · rw [ub] at hf
    simp only [Bool.and_eq_true, decide_eq_true_eq] at hf
    exact ⟨hf.1, hf.2.2⟩
  · have lt := mj_nb_lt (A := fun f => t.testBit f && decide (D 28 f ≤ h)) (n := 3)
    apply mj_b_ext
    intro f hf
    rw [mj_b_and, mk_Mkb_b hM hk hh hf, mj_b_nI (by omega), mj_b_nI (by omega), ub]
    cases t.testBit f <;> cases decide (f < 3) <;> cases decide (D 28 f ≤ h) <;> rfl
  · rw [ub, decide_eq_true hf, decide_eq_true hd, Bool.and_true, Bool.true_and]
theorem mk_Mall_eq (h : mk_Bo σ D) : mj_Mall σ (D 14 14) (D 14 17) = mk_b σ D := by
  obtain ⟨hD, hM, hk, hb, hc, he⟩ := h
  have h17 := hk.2.2.1
  have h18 := hk.2.2.2.1
  refine mk_beq ?_
  unfold mj_Mall mk_b
  rw [Bool.and_eq_true, Bool.not_eq_true', mk_ev_eq hD hM, mk_Mls_D hM hk, mk_dc_i]
  refine and_congr_right (fun hl => ?_)
  by_cases cw : D 14 17 = 12
  · rw [cw]
    exact ⟨fun _ => trivial, fun _ => rfl⟩
  · obtain ⟨u, u1, u2, u3⟩ := mk_told (h := D 14 17) (t := D 14 18) hM hk (by omega) h18
    rw [hM.2.2.1, u2]
    have hM' := mk_cnS_M (N := D 14 14) hM
    have := (mk_Br_D (mt := mj_evC σ) (g := (mj_sgr σ (D 14 14) 8).toNatClampNeg) hM' hk (by omega) (mk_lvn_L hM hk hl) u1 (mk_ug_sg hD hk (fun f hf _ hd => u3 f hf hd))).2
    rw [mk_cnS_46, mk_ring_eq hD hM hk] at this
    exact this
-- trap
theorem mk_tsl_i {o : Nat} (hD : mj_isD σ D) (hk : mj_okD D) (ho : o < 8) : mj_tsl σ o = true ↔ ∀ f, f < 3 → D 28 f ≤ D 14 17 → o.testBit f = (D 14 18).testBit f := by
  have h18 := hk.2.2.2.1
  unfold mj_tsl
  rw [decide_eq_true_eq]
  constructor
  · intro z f hf hd
    have := congrArg (fun x => mj_b x f) z
    simp only [mj_b_and, mj_b_xor, mj_b_0] at this
    rw [mk_tld_b hD hk (by omega), decide_eq_true hf, decide_eq_true hd, hD.2.2.2.1, mj_b_nI (by omega), mj_b_nI (by omega), Bool.true_and, Bool.and_true] at this
    revert this
    cases o.testBit f <;> cases (D 14 18).testBit f <;> decide
  · intro z
    apply mj_b_ext
    intro f hf
    rw [mj_b_and, mj_b_xor, mj_b_0, mk_tld_b hD hk hf, hD.2.2.2.1, mj_b_nI (by omega), mj_b_nI (by omega)]
    by_cases c : f < 3
    · by_cases d : D 28 f ≤ D 14 17
      · rw [z f c d]
        cases (D 14 18).testBit f <;> simp
      · rw [decide_eq_false d, Bool.and_false, Bool.and_false]
    · rw [decide_eq_false c, Bool.false_and, Bool.and_false]
theorem mk_trap_eq (h : mk_Bo σ D) : mj_trv σ (mk_K σ D) 8 0 = mj_fst (mj_Mtr σ (D 14 14) (D 14 17) (nI (D 14 18))) 0 8 := by
  have hK := fun {o} ho => mk_Mk_eq (set := mj_evC σ) (o := o) h ho
  obtain ⟨hD, hM, hk, hb, hc, he⟩ := h
  have h17 := hk.2.2.1
  have h18 := hk.2.2.2.1
  have e : ∀ j o, o + j = 8 → mj_trv σ (mk_K σ D) j o = mj_fst (mj_Mtr σ (D 14 14) (D 14 17) (nI (D 14 18))) o j := by
    intro j
    induction j with
    | zero => intro o _; rfl
    | succ j ih =>
      intro o ho
      show (if mj_tsl σ o = true ∧ mk_K σ D (mj_evC σ) o = false then nI o else mj_trv σ (mk_K σ D) j (o + 1)) = (if mj_Mtr σ (D 14 14) (D 14 17) (nI (D 14 18)) o = true then nI o else mj_fst (mj_Mtr σ (D 14 14) (D 14 17) (nI (D 14 18))) (o + 1) j)
      have q : (mj_tsl σ o = true ∧ mk_K σ D (mj_evC σ) o = false) ↔ mj_Mtr σ (D 14 14) (D 14 17) (nI (D 14 18)) o = true := by
        unfold mj_Mtr
        rw [Bool.and_eq_true, decide_eq_true_eq, Bool.not_eq_true', mk_ev_eq hD hM, hK (by omega), mk_tsl_i hD hk (by omega), mk_agr hM hk (by omega) (by omega) h18]
      rw [ih (o + 1) (by omega)]
      by_cases c : mj_Mtr σ (D 14 14) (D 14 17) (nI (D 14 18)) o = true
      · rw [if_pos c, if_pos (q.mpr c)]
      · rw [if_neg c, if_neg (fun z => c (q.mp z))]
  exact e 8 0 rfl
-- quarrel
theorem mk_qu_eq {o : Nat} (h : mk_Bo σ D) (ho : o < 8) : mj_qrv (mk_K σ D) o (D 14 14) 0 (mj_evC σ) = mj_Mqu σ (nI o) (D 14 14) (D 14 17) (D 14 14) := by
  have hK := fun {set} => mk_Mk_eq (set := set) (o := o) h ho
  obtain ⟨hD, hM, hk, hb, hc, he⟩ := h
  have e : ∀ j i, i + j = D 14 14 → mj_qrv (mk_K σ D) o j i (mj_Mqu σ (nI o) (D 14 14) (D 14 17) i) = mj_Mqu σ (nI o) (D 14 14) (D 14 17) (i + j) := by
    intro j
    induction j with
    | zero => intro i _; rfl
    | succ j ih =>
      intro i hi
      show mj_qrv (mk_K σ D) o j (i + 1) (if mk_K σ D (mj_Mqu σ (nI o) (D 14 14) (D 14 17) i &&& ((1 <<< (nI i &&& 31)) ^^^ -1)) o = true then mj_Mqu σ (nI o) (D 14 14) (D 14 17) i else mj_Mqu σ (nI o) (D 14 14) (D 14 17) i &&& ((1 <<< (nI i &&& 31)) ^^^ -1)) = _
      have s : mj_Mqu σ (nI o) (D 14 14) (D 14 17) (i + 1) = if mk_K σ D (mj_Mqu σ (nI o) (D 14 14) (D 14 17) i &&& ((1 <<< (nI i &&& 31)) ^^^ -1)) o = true then mj_Mqu σ (nI o) (D 14 14) (D 14 17) i else mj_Mqu σ (nI o) (D 14 14) (D 14 17) i &&& ((1 <<< (nI i &&& 31)) ^^^ -1) := by
        rw [← hK]
        rfl
      rw [← s, ih (i + 1) (by omega), show i + 1 + j = i + (j + 1) by omega]
  have := e (D 14 14) 0 (by omega)
  rw [Nat.zero_add] at this
  rw [← this]
  have z : mj_Mqu σ (nI o) (D 14 14) (D 14 17) 0 = mj_evC σ := mk_ev_eq hD hM
  rw [z]
end
