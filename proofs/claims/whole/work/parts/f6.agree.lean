section
variable {σ τ μ : mj_St} {D : Nat → Nat → Nat}
/-- hour: both sides agree -/
theorem mk_hour_eq {o hh : Nat} (h : mk_Bo σ D) (ho : o < 8) (hw : D 14 17 ≤ hh) (h11 : hh ≤ 11) :
    (mj_Mkept σ (nI o) (mj_evy σ) (D 14 14) (D 14 17) = true → mj_fsp σ (mj_evC σ) 1 (nI o) (D 14 14) (D 14 17) hh = mj_Mhr (mj_cnS σ (D 14 14)) (nI o) (mj_evy σ) (D 14 14) (hh + 1 - D 14 17) (D 14 17) (mj_lvn σ) 0 ∧ ¬ mj_fsp σ (mj_evC σ) 1 (nI o) (D 14 14) (D 14 17) hh = -1) ∧
    (mj_Mkept σ (nI o) (mj_evy σ) (D 14 14) (D 14 17) = false → mj_fsp σ (mj_evC σ) 1 (nI o) (D 14 14) (D 14 17) hh = -1) := by
  have hK := mk_Mk_eq (set := mj_evy σ) h ho
  obtain ⟨hD, hM, hk, hb, hc, he⟩ := h
  have ev := mk_ev_eq hD hM
  rw [ev] at hK ⊢
  have hf := mj_fsp_D (set := mj_evC σ) (gr := 1) hD hk hb hc he (Or.inl rfl) ho hw h11
  rw [mk_sg1] at hf
  obtain ⟨f1, f2⟩ := hf
  rw [hK]
  unfold mk_K
  rw [mk_dc_i, mk_dc_f]
  refine ⟨fun z => ?_, f2⟩
  obtain ⟨v, v1, v2, v3⟩ := f1 z
  have hM' := mk_cnS_M (N := D 14 14) hM
  have hW := z.2
  rw [← mk_ring_eq hD hM hk, ← mk_cnS_46] at hW v3
  obtain ⟨v', w1, w2⟩ := mk_Mhr_D (g := 0) hM' hk ho (hh - D 14 17) (D 14 17) (mj_lvn σ) (D 25) 0 (by omega) (mk_lvn_L hM hk z.1) hW
  rw [show hh - D 14 17 + 1 = hh + 1 - D 14 17 by omega] at w1 w2
  have e := mk_pth_u _ _ _ _ _ v3 w1
  rw [v2, w2, e]
  exact ⟨rfl, mj_nI_m1 (by omega)⟩
/-- must: both sides agree -/
theorem mk_must_eq {o : Nat} (h : mk_Bo σ D) (ho : o < 8) (hw : D 14 17 < 12) :
    (mj_Mkept σ (nI o) (mj_evy σ) (D 14 14) (D 14 17) = true → mj_csp σ (mj_evC σ) 1 (nI o) (D 14 14) (D 14 17) = mj_mus (mj_pk (mj_cnS σ (D 14 14)) (nI o) (mj_evy σ) (D 14 14) (11 - D 14 17) (mj_lvn σ)) 0 512 (mj_evy σ) ∧ ¬ mj_csp σ (mj_evC σ) 1 (nI o) (D 14 14) (D 14 17) = -1) ∧
    (mj_Mkept σ (nI o) (mj_evy σ) (D 14 14) (D 14 17) = false → mj_csp σ (mj_evC σ) 1 (nI o) (D 14 14) (D 14 17) = -1) := by
  have hK := mk_Mk_eq (set := mj_evy σ) h ho
  obtain ⟨hD, hM, hk, hb, hc, he⟩ := h
  have ev := mk_ev_eq hD hM
  rw [ev] at hK ⊢
  have hf := mj_csp_D (set := mj_evC σ) (gr := 1) hD hk hb hc he (Or.inl rfl) ho hw
  rw [mk_sg1] at hf
  obtain ⟨f1, f2⟩ := hf
  rw [hK]
  unfold mk_K
  rw [mk_dc_i, mk_dc_f]
  refine ⟨fun z => ?_, f2⟩
  obtain ⟨v1, v2⟩ := f1 z
  refine ⟨?_, v2⟩
  have hM' := mk_cnS_M (N := D 14 14) hM
  rw [← mk_ring_eq hD hM hk, ← mk_cnS_46] at v1
  refine mk_mst_u v1 (mk_mus_D hk (fun b hb2 => ?_) (fun s hs => mk_pk_D (r := 11 - D 14 17) (g := 0) hM' hk ho (by omega) (mk_lvn_L hM hk z.1) hs))
  rw [mk_ev_b hD hk hb2, decide_eq_true_eq]
/-- the first set of a plan for all outcomes -/
theorem mk_FH (h : mk_Bo σ D) (hw : D 14 17 < 12) : mj_FH σ (D 14 14) (D 14 17) (mj_fsp σ (mj_evC σ) 8 0 (D 14 14) (D 14 17) (D 14 17)) := by
  intro τ F
  obtain ⟨a, b, c, d, e⟩ := mk_FsD h F
  obtain ⟨hD, hM, hk, hb, hc, he⟩ := h
  obtain ⟨f1, f2⟩ := mj_fsp_D (set := mj_evC σ) (gr := 8) (o := 0) hD hk hb hc he (Or.inr rfl) (by decide) (Nat.le_refl _) (by omega)
  obtain ⟨g1, g2⟩ := mj_fsp_D (set := mj_evC σ) (gr := 8) (o := 0) a hk hb b c (Or.inr rfl) (by decide) (Nat.le_refl _) (by omega)
  rw [d, e] at g1 g2
  by_cases z : mj_nl D (mj_b (mj_evC σ)) ∧ mj_DW D (mj_b (mj_evC σ)) (mj_b (mj_ring σ (D 14 14))) 8 0 mj_Qno (12 - D 14 17) (mj_sgr σ (D 14 14) 8).toNatClampNeg (D 25)
  · obtain ⟨v, v1, v2, v3⟩ := f1 z
    obtain ⟨u, u1, u2, u3⟩ := g1 z
    have e2 := mk_pth_u _ _ _ _ _ v3 u3
    rw [← e2] at u2
    exact u2.trans v2.symm
  · exact (g2 z).trans (f2 z).symm
/-- begin: both sides agree -/
theorem mk_begin_eq (h : mk_Bo σ D) (hw : D 14 17 < 12) (hb : mk_b σ D = true) :
    mj_fsp σ (mj_evC σ) 8 0 (D 14 14) (D 14 17) (D 14 17) = mj_Br (mj_cnS σ (D 14 14)) (mj_evy σ) (D 14 14) (11 - D 14 17) (mj_Bs (mj_cnS σ (D 14 14)) (mj_evy σ) (D 14 14) (11 - D 14 17)) (mj_lvn σ) (nI (D 14 18) &&& mj_Mkb σ (nI (D 14 17)) 3) ∧ ¬ mj_fsp σ (mj_evC σ) 8 0 (D 14 14) (D 14 17) (D 14 17) = -1 := by
  obtain ⟨hD, hM, hk, hb', hc, he⟩ := h
  have h18 := hk.2.2.2.1
  obtain ⟨f1, f2⟩ := mj_fsp_D (set := mj_evC σ) (gr := 8) (o := 0) hD hk hb' hc he (Or.inr rfl) (by decide) (Nat.le_refl _) (by omega)
  unfold mk_b at hb
  rw [mk_dc_i] at hb
  obtain ⟨v, v1, v2, v3⟩ := f1 hb
  obtain ⟨u, u1, u2, u3⟩ := mk_told (h := D 14 17) (t := D 14 18) hM hk (by omega) h18
  have hM' := mk_cnS_M (N := D 14 14) hM
  have hW := hb.2
  rw [← mk_ring_eq hD hM hk, ← mk_cnS_46] at hW v3
  obtain ⟨s, s1, s2⟩ := (mk_Br_D (mt := mj_evC σ) (g := (mj_sgr σ (D 14 14) 8).toNatClampNeg) hM' hk hw (mk_lvn_L hM hk hb.1) u1 (mk_ug_sg hD hk (fun f hf _ hd => u3 f hf hd))).1 hW
  rw [show D 14 17 + 1 - D 14 17 = 0 + 1 by omega] at v3
  obtain ⟨s', t1, t2⟩ := v3
  rw [if_pos rfl] at t2
  have e := mk_lst_u s1 t1
  have v2' : mj_fsp σ (mj_evC σ) 8 0 (D 14 14) (D 14 17) (D 14 17) = nI v := v2
  rw [u2, mk_ev_eq hD hM, s2, v2', t2, e]
  exact ⟨rfl, mj_nI_m1 (by have := t1.1; omega)⟩
-- ends
noncomputable def mk_C (σ : mj_St) (D : Nat → Nat → Nat) (o i h : Nat) : Bool := mk_dc (mj_nl D (mj_b (mj_evC σ)) ∧ mj_DW D (mj_b (mj_evC σ)) (mj_b (mj_ring σ (D 14 14))) 1 o (mj_Qpn i h) (12 - D 14 17) 0 (D 25))
theorem mk_CH (h : mk_Bo σ D) : mj_CH σ (D 14 14) (D 14 17) (mk_C σ D) := by
  intro τ F o i t ho hi hw ht
  obtain ⟨a, b, c, d, e⟩ := mk_FsD h F
  refine mk_beq ?_
  rw [mj_cbv_D a h.2.2.1 h.2.2.2.1 b c ho hi hw ht, d]
  unfold mk_C
  rw [mk_dc_i]
theorem mk_en_app {p : Nat → Bool} : ∀ (j k : Nat) (a : Int32 × Int32), mj_en p k (j + 1) a = (if p (k + j) = true then (if (mj_en p k j a).1 = -1 then nI (k + j) else (mj_en p k j a).1, nI (k + j)) else mj_en p k j a) := by
  intro j
  induction j with
  | zero => intro k a; rfl
  | succ j ih =>
    intro k a
    show mj_en p (k + 1) (j + 1) (if p k = true then (if a.1 = -1 then nI k else a.1, nI k) else a) = _
    rw [ih, show k + 1 + j = k + (j + 1) by omega]
    rfl
theorem mk_en_lsh {p : Nat → Bool} {f : Nat} (hf : f < 100) : ∀ j, mj_en p (f + 1) j (nI f, nI f) = (nI f, nI (mj_lsh p f j)) := by
  intro j
  induction j with
  | zero => rfl
  | succ j ih =>
    rw [mk_en_app, ih, show f + 1 + j = f + (j + 1) by omega]
    show _ = (nI f, nI (if p (f + (j + 1)) = true then f + (j + 1) else mj_lsh p f j))
    by_cases c : p (f + (j + 1)) = true
    · rw [if_pos c, if_pos c, if_neg (mj_nI_m1 (by omega))]
    · rw [if_neg c, if_neg c]
theorem mk_en_fst {p : Nat → Bool} : ∀ (j k : Nat), k + j = 12 → mj_en p k j (-1, -1) = if mj_fst p k j = -1 then (-1, -1) else (mj_fst p k j, nI (mj_lsh p (mj_fst p k j).toNatClampNeg (11 - (mj_fst p k j).toNatClampNeg))) := by
  intro j
  induction j with
  | zero => intro k _; exact (if_pos rfl).symm
  | succ j ih =>
    intro k hk
    show mj_en p (k + 1) j (if p k = true then (nI k, nI k) else (-1, -1)) = _
    have ef : mj_fst p k (j + 1) = if p k = true then nI k else mj_fst p (k + 1) j := rfl
    rw [ef]
    by_cases c : p k = true
    · rw [if_pos c, if_pos c, if_neg (mj_nI_m1 (by omega)), nI_clamp (by omega), mk_en_lsh (by omega), show 11 - k = j by omega]
    · rw [if_neg c, if_neg c]
      exact ih (k + 1) (by omega)
theorem mk_fst_ne {p q : Nat → Bool} {w : Nat} (h : ∀ i, w ≤ i → i < 12 → p i = q i) : ∀ (j k : Nat), w ≤ k → k + j ≤ 12 → mj_fst p k j = mj_fst q k j := fun j k hk hj => mj_fst_congr j k (fun i a b => h i (by omega) (by omega))
/-- ends: both sides agree -/
theorem mk_ends_eq {o i : Nat} (h : mk_Bo σ D) (ho : o < 8) (hi : i < D 14 14) :
    (mj_Mkept σ (nI o) (mj_evy σ) (D 14 14) (D 14 17) = false → mj_env (mk_C σ D o i) (D 14 17) = -1) ∧
    (mj_Mkept σ (nI o) (mj_evy σ) (D 14 14) (D 14 17) = true →
      ((mj_en (fun h => mj_Fi (mj_cnS σ (D 14 14)) (nI o) (mj_evy σ) (D 14 14) i h (12 - D 14 17) (mj_lvn σ)) (D 14 17) (12 - D 14 17) (-1, -1)).1 = -1 → mj_env (mk_C σ D o i) (D 14 17) = -1) ∧
      (¬ (mj_en (fun h => mj_Fi (mj_cnS σ (D 14 14)) (nI o) (mj_evy σ) (D 14 14) i h (12 - D 14 17) (mj_lvn σ)) (D 14 17) (12 - D 14 17) (-1, -1)).1 = -1 → mj_env (mk_C σ D o i) (D 14 17) = 100 * (mj_en (fun h => mj_Fi (mj_cnS σ (D 14 14)) (nI o) (mj_evy σ) (D 14 14) i h (12 - D 14 17) (mj_lvn σ)) (D 14 17) (12 - D 14 17) (-1, -1)).2 + (mj_en (fun h => mj_Fi (mj_cnS σ (D 14 14)) (nI o) (mj_evy σ) (D 14 14) i h (12 - D 14 17) (mj_lvn σ)) (D 14 17) (12 - D 14 17) (-1, -1)).1 ∧ ¬ mj_env (mk_C σ D o i) (D 14 17) = -1)) := by
  have hK := mk_Mk_eq (set := mj_evy σ) h ho
  obtain ⟨hD, hM, hk, hb, hc, he⟩ := h
  have h17 := hk.2.2.1
  have ev := mk_ev_eq hD hM
  rw [ev] at hK ⊢
  rw [hK]
  unfold mk_K
  rw [mk_dc_i, mk_dc_f]
  constructor
  · intro z
    have no : ∀ t, mk_C σ D o i t = false := fun t => by
      unfold mk_C
      rw [mk_dc_f]
      exact fun y => z ⟨y.1, mj_DW_mono (fun _ _ _ => trivial) _ _ _ y.2⟩
    unfold mj_env
    rw [if_pos (mj_fst_none _ _ (fun t _ _ => no t))]
  · intro z
    have hM' := mk_cnS_M (N := D 14 14) hM
    have pe : ∀ t, D 14 17 ≤ t → t < 12 → mj_Fi (mj_cnS σ (D 14 14)) (nI o) (mj_evC σ) (D 14 14) i t (12 - D 14 17) (mj_lvn σ) = mk_C σ D o i t := fun t a b => by
      refine mk_beq ?_
      rw [mk_Fi_D hM' hk ho hi b (12 - D 14 17) 0 (mj_lvn σ) (D 25) (by omega) (by omega) (mk_lvn_L hM hk z.1)]
      unfold mk_C
      rw [mk_dc_i, mk_cnS_46, mk_ring_eq hD hM hk]
      exact ⟨fun y => ⟨z.1, y⟩, fun y => y.2⟩
    have een := mk_en_fst (p := fun t => mj_Fi (mj_cnS σ (D 14 14)) (nI o) (mj_evC σ) (D 14 14) i t (12 - D 14 17) (mj_lvn σ)) (12 - D 14 17) (D 14 17) (by omega)
    have ef := mk_fst_ne (w := D 14 17) (p := fun t => mj_Fi (mj_cnS σ (D 14 14)) (nI o) (mj_evC σ) (D 14 14) i t (12 - D 14 17) (mj_lvn σ)) (q := mk_C σ D o i) pe (12 - D 14 17) (D 14 17) (Nat.le_refl _) (by omega)
    rw [een, ef]
    rcases mj_fst_cases (p := mk_C σ D o i) (12 - D 14 17) (D 14 17) with y | ⟨f, f1, f2, f3, f4, f5⟩
    · rw [if_pos y.1]
      unfold mj_env
      rw [if_pos y.1]
      exact ⟨fun _ => rfl, fun y => absurd rfl y⟩
    · have nm : ¬ nI f = -1 := mj_nI_m1 (by omega)
      have elsh : ∀ j, f + j ≤ 11 → mj_lsh (fun t => mj_Fi (mj_cnS σ (D 14 14)) (nI o) (mj_evC σ) (D 14 14) i t (12 - D 14 17) (mj_lvn σ)) f j = mj_lsh (mk_C σ D o i) f j := by
        intro j
        induction j with
        | zero => intro _; rfl
        | succ j ih =>
          intro hj
          show (if mj_Fi (mj_cnS σ (D 14 14)) (nI o) (mj_evC σ) (D 14 14) i (f + (j + 1)) (12 - D 14 17) (mj_lvn σ) = true then f + (j + 1) else mj_lsh _ f j) = (if mk_C σ D o i (f + (j + 1)) = true then f + (j + 1) else mj_lsh (mk_C σ D o i) f j)
          rw [pe (f + (j + 1)) (by omega) (by omega), ih (by omega)]
      have lsh_lt := (mj_lsh_lt (p := mk_C σ D o i) (f := f) (11 - f))
      unfold mj_env
      rw [f4, if_neg nm, if_neg nm, nI_clamp (by omega), elsh _ (by omega)]
      refine ⟨fun y => absurd y nm, fun _ => ⟨rfl, ?_⟩⟩
      rw [show (100 : Int32) = nI 100 from rfl, mj_nI_mul, nI_add]
      exact mj_nI_m1 (by omega)
-- doomed
theorem mk_dm_D {af : Nat → Int32} {a b : Nat} (hk : mj_okD D) (haf : ∀ i, i < D 14 14 → af i = mj_oi (D 19 i)) (ha : a ≤ D 14 14) (hb : b < 32) : ∀ (j m : Nat) (s : Int32), m + j = 10 → (∀ c, c < 32 → (mj_b s c = true ↔ ∃ k, k < m ∧ mk_aw D k a = c + 1)) → (mj_b (mj_dm af j (mj_oi (mk_aw D m a)) s) b = true ↔ ∃ k, mk_aw D k a = b + 1) := by
  have N9 := hk.1
  intro j
  induction j with
  | zero =>
    intro m s hm hs
    show mj_b s b = true ↔ _
    rw [hs b hb]
    constructor
    · rintro ⟨k, -, e⟩
      exact ⟨k, e⟩
    · rintro ⟨k, e⟩
      obtain ⟨k', a1, a2⟩ := mk_aw_short hk ha k e
      exact ⟨k', by omega, a2⟩
  | succ j ih =>
    intro m s hm hs
    have le := mk_aw_le hk m a ha
    show mj_b (if mj_oi (mk_aw D m a) = -1 then s else if mj_b s (mj_oi (mk_aw D m a)).toNatClampNeg = true then s else mj_dm af j (af (mj_oi (mk_aw D m a)).toNatClampNeg) (s ||| 1 <<< (mj_oi (mk_aw D m a) &&& 31))) b = true ↔ _
    by_cases c : mk_aw D m a = 0
    · rw [if_pos (by rw [c]; rfl), hs b hb]
      constructor
      · rintro ⟨k, -, e⟩
        exact ⟨k, e⟩
      · rintro ⟨k, e⟩
        refine ⟨k, ?_, e⟩
        by_cases d : k < m
        · exact d
        · have := mk_aw_add (D := D) m (k - m) a
          rw [show m + (k - m) = k by omega, c, mk_aw_0, e] at this
          omega
    · have nm : ¬ mj_oi (mk_aw D m a) = -1 := by rw [mj_oi_m1 (by omega)]; exact c
      rw [if_neg nm, mj_oi_pos (by omega), nI_clamp (by omega)]
      by_cases d : mj_b s (mk_aw D m a - 1) = true
      · rw [if_pos d, hs b hb]
        obtain ⟨k', k1, k2⟩ := (hs _ (by omega)).mp d
        have e1 : mk_aw D k' a = mk_aw D m a := by omega
        constructor
        · rintro ⟨k, -, e⟩
          exact ⟨k, e⟩
        · rintro ⟨k, e⟩
          revert e
          induction k using Nat.strongRecOn with
          | _ k ihk =>
            intro e
            by_cases q : k < m
            · exact ⟨k, q, e⟩
            · refine ihk (k' + (k - m)) (by omega) ?_
              rw [mk_aw_add, e1, ← mk_aw_add, show m + (k - m) = k by omega, e]
      · rw [if_neg d]
        have e1 : af (mk_aw D m a - 1) = mj_oi (mk_aw D (m + 1) a) := by
          rw [haf _ (by omega), mk_aw_add m 1 a, mk_aw_s c]
          rfl
        rw [e1]
        refine ih (m + 1) _ (by omega) (fun c' hc' => ?_)
        rw [mj_b_or, mj_b_sh1 (by omega) hc', Bool.or_eq_true, decide_eq_true_eq, hs c' hc']
        constructor
        · rintro (⟨k, k1, k2⟩ | z)
          · exact ⟨k, by omega, k2⟩
          · exact ⟨m, by omega, by omega⟩
        · rintro ⟨k, k1, k2⟩
          by_cases e : k = m
          · rw [e] at k2
            exact Or.inr (by omega)
          · exact Or.inl ⟨k, by omega, k2⟩
theorem mk_doom_eq {i : Nat} (hD : mj_isD σ D) (hM : mk_isM σ D) (hk : mj_okD D) (hi : i < D 14 14) : mj_ch (σ.1 19) (σ.1 14 14) 9 (nI i) 0 = mj_dm (σ.1 69) 10 (nI i) 0 := by
  have N9 := hk.1
  have e19 : ∀ i, i < D 14 14 → σ.1 19 i = mj_oi (D 19 i) := fun i hi => (hD.2.2.2.2.1 i hi).2.2.2.2.1
  have e69 : ∀ i, i < D 14 14 → σ.1 69 i = mj_oi (D 19 i) := fun i hi => (hM.2.2.2.1 i hi).2.2.2.2.1
  have eo : nI i = mj_oi (i + 1) := (mj_oi_pos (x := i + 1) (Nat.succ_pos i)).symm
  apply mj_b_ext
  intro b hb
  rw [Bool.eq_iff_iff, hD.1, eo, mk_ch_D hk e19 hb 9 (i + 1) 0 (by omega)]
  have := mk_dm_D (af := σ.1 69) (a := i + 1) (b := b) hk e69 (by omega) hb 10 0 0 (by omega) (fun c _ => ⟨fun z => by rw [mj_b_0] at z; exact absurd z (by decide), fun ⟨k, h, _⟩ => absurd h (Nat.not_lt_zero k)⟩)
  have this' : mj_b (mj_dm (σ.1 69) 10 (mj_oi (i + 1)) 0) b = true ↔ ∃ k, mk_aw D k (i + 1) = b + 1 := this
  rw [this', mj_b_0]
  constructor
  · rintro (z | ⟨k, -, e⟩)
    · exact absurd z (by decide)
    · exact ⟨k, e⟩
  · rintro ⟨k, e⟩
    obtain ⟨k', a1, a2⟩ := mk_aw_short hk (show i + 1 ≤ D 14 14 by omega) k e
    exact Or.inr ⟨k', by omega, a2⟩
end
