section
variable {σ τ ρ : mj_St}
/-! a search that got ready: its tables -/
def mj_sme (τ σ : mj_St) : Prop := (∀ c, c < 46 → τ.1 c = σ.1 c) ∧ τ.1 46 1 = σ.1 46 1 ∧ τ.1 46 2 = σ.1 46 2 ∧ τ.1 46 3 = σ.1 46 3 ∧ τ.1 47 = σ.1 47
theorem mj_sme_afv (h : mj_sme τ σ) : mj_afv τ = mj_afv σ := by
  obtain ⟨h1, h2, h3, h4, h5⟩ := h
  funext ring n p
  unfold mj_afv
  rw [h5, h1 19 (by decide), h1 14 (by decide), h2, h1 25 (by decide), mj_plc_o h5]
theorem mj_sme_ring (h : mj_sme τ σ) : mj_ring τ = mj_ring σ := by
  obtain ⟨h1, h2, h3, h4, h5⟩ := h
  have e : mj_ringc τ = mj_ringc σ := by
    funext i
    unfold mj_ringc
    rw [h1 15 (by decide), h1 19 (by decide), h1 14 (by decide)]
  funext N
  unfold mj_ring
  rw [e]
theorem mj_sme_sam (h : mj_sme τ σ) : mj_sam τ = mj_sam σ := by
  obtain ⟨h1, h2, h3, h4, h5⟩ := h
  have e : mj_smt τ = mj_smt σ := by
    funext n i
    unfold mj_smt
    rw [h1 18 (by decide), h5]
  funext n k
  unfold mj_sam
  rw [e]
theorem mj_sme_stg (h : mj_sme τ σ) : mj_stg τ = mj_stg σ := mj_stg_o (h.1 20 (by decide)) (h.1 21 (by decide)) (h.1 28 (by decide)) h.2.2.1 h.2.2.2.1
theorem mj_sme_sw (h : mj_sme τ σ) (h48 : τ.1 48 = σ.1 48) : mj_sw τ = mj_sw σ := by
  have h0 := h
  obtain ⟨h1, h2, h3, h4, h5⟩ := h
  have a1 : mj_clc τ = mj_clc σ := by
    funext i p
    unfold mj_clc
    rw [h1 15 (by decide), h1 18 (by decide), h5]
  have a2 : mj_clp τ = mj_clp σ := by
    funext i u n
    unfold mj_clp
    rw [a1]
  have a3 : mj_cls τ = mj_cls σ := by
    funext g k i
    unfold mj_cls
    rw [h2, h1 15 (by decide), h1 16 (by decide), h1 17 (by decide), mj_sme_stg h0]
  have a4 : mj_clo τ = mj_clo σ := by
    funext g k n N
    unfold mj_clo
    rw [a3, a2]
  have b1 : mj_stb τ = mj_stb σ := by
    funext g k cl p
    unfold mj_stb
    rw [h5, h1 16 (by decide), h1 17 (by decide), h48, mj_sme_stg h0]
  have b2 : mj_sti τ = mj_sti σ := by
    funext g k cl p u
    unfold mj_sti
    rw [b1, h5, mj_sme_stg h0]
  have b3 : mj_stv τ = mj_stv σ := by
    funext g k cl n
    unfold mj_stv
    rw [b2]
  have c1 : mj_fused τ = mj_fused σ := by
    funext i u
    unfold mj_fused
    rw [h1 20 (by decide)]
  have c2 : mj_frs τ = mj_frs σ := by
    funext k N
    unfold mj_frs
    rw [h1 28 (by decide), c1]
  funext N n gr g k
  unfold mj_sw
  rw [c2, b3, a4]
theorem mj_sme_la (h : mj_sme τ σ) : mj_lah τ = mj_lah σ ∧ mj_laf τ = mj_laf σ := by
  obtain ⟨h1, h2, h3, h4, h5⟩ := h
  constructor
  · funext p k
    unfold mj_lah mj_agn mj_tdo
    rw [h1 15 (by decide), h5, h1 24 (by decide), h1 26 (by decide), h1 16 (by decide)]
  · funext p k
    unfold mj_laf mj_enp mj_agn mj_tdo
    rw [h1 15 (by decide), h5, h1 24 (by decide), h1 26 (by decide), h1 16 (by decide), h1 17 (by decide)]
theorem mj_rb_o (h1 : τ.1 51 = σ.1 51) (h2 : τ.1 27 = σ.1 27) : mj_rb τ = mj_rb σ := by
  have e : mj_mst τ = mj_mst σ := by
    funext h gr
    unfold mj_mst
    rw [h1]
  funext w gr k
  unfold mj_rb
  rw [e, h2]
theorem mj_lkh_p (h1 : τ.1 51 = σ.1 51) (h2 : τ.1 25 = σ.1 25) (h3 : τ.1 47 = σ.1 47) : mj_lkh τ = mj_lkh σ := by
  have e : mj_hup τ = mj_hup σ := by
    funext w p k
    unfold mj_hup
    rw [h1]
  funext w n
  unfold mj_lkh
  rw [e, h2, h3]
/-- what the hours' room is, made anew -/
theorem mj_mkR_54 {w gr n k : Nat} (hk : w + k ≤ 12) : (mj_mkR σ w gr n).1 54 (w + k) = mj_rb σ w gr k := by
  have e : (mj_mkH σ w gr n).1 54 (w + k) = mj_rb σ w gr k := by
    unfold mj_mkH
    rw [mj_setI_ne _ _ _ (by decide)]
    unfold mj_rbS
    dsimp only
    rw [if_pos ⟨rfl, by omega, by omega⟩, Nat.add_sub_cancel_left]
  unfold mj_mkR
  by_cases b : mj_hop σ w gr n = true
  · rw [if_pos b]; exact e
  · rw [if_neg b, mj_clrS_1]; exact e
/-- the tables, as they are said -/
def mj_Tbl (π : mj_St) (N n w gr : Nat) : Prop :=
  (∀ p, p < n → π.1 48 p = mj_afv π (mj_ring π N) n p) ∧
  (∃ κ : mj_St, π.1 50 = mj_dl κ n n ∧ π.1 49 = mj_ord (mj_dl κ n n) (κ.1 49) n ∧ κ.1 17 = π.1 17 ∧ κ.1 25 = π.1 25 ∧ κ.1 47 = π.1 47 ∧ κ.1 48 = π.1 48 ∧ κ.1 20 = π.1 20 ∧ κ.1 46 2 = π.1 46 2) ∧
  π.1 46 8 = mj_sam π n 22 ∧
  (∀ g h, g < gr → w ≤ h → h < 12 → π.1 51 (g * 12 + h) = mj_sw π N n gr g h) ∧
  (∀ p h, p < n → w ≤ h → h < 12 → π.1 52 (p * 12 + h) = mj_lah π p h ∧ π.1 53 (p * 12 + h) = mj_laf π p h) ∧
  (∀ k, w + k ≤ 12 → π.1 54 (w + k) = mj_rb π w gr k) ∧
  π.1 46 4 = mj_z (mj_hop π w gr n)
theorem mj_prT {N w gr : Nat} {set o : Int32} (hc : mj_pc σ N w) (hgr : gr = 1 ∨ gr = 8) (hp0 : mj_hp0 σ set = false) (hw : w < 12) :
    (∀ c, c < 46 → (mj_prS σ set gr o N w).1 c = σ.1 c) ∧ ((mj_prS σ set gr o N w).1 46 1 = set ∧ (mj_prS σ set gr o N w).1 46 2 = nI gr ∧ (mj_prS σ set gr o N w).1 46 3 = o ∧ (mj_prS σ set gr o N w).1 46 9 = -1 ∧ (mj_prS σ set gr o N w).1 46 10 = 0) ∧
    (∀ p, p < mj_qn σ set gr o N → (mj_prS σ set gr o N w).1 47 p = nI ((mj_plL (mj_q3 σ set gr o N) N).getD p 0)) ∧ mj_Tbl (mj_prS σ set gr o N w) N (mj_qn σ set gr o N) w gr := by
  have hc' := hc
  obtain ⟨c1, c2, c3, c4, c5, c6, c7, c8⟩ := hc
  have e14 : ∀ c, c < 46 → (mj_q4 σ set gr o N).1 c = σ.1 c := fun c h => by
    show (mj_fpS _ _ _ _).1 c = _
    rw [mj_fpS_o (by omega) (by omega)]
    exact mj_q3_o (by omega)
  have e46 : ∀ i, i ≠ 5 → i ≠ 6 → (mj_q4 σ set gr o N).1 46 i = (mj_q3 σ set gr o N).1 46 i := fun i a b => by
    show (mj_fpS _ _ _ _).1 46 i = _
    rw [mj_fpS_46 a b]
  have e47 : ∀ p, p < mj_qn σ set gr o N → (mj_q4 σ set gr o N).1 47 p = nI ((mj_plL (mj_q3 σ set gr o N) N).getD p 0) := fun p hp => by
    show mj_nmf _ (mj_plL (mj_q3 σ set gr o N) N) p = _
    unfold mj_nmf
    exact if_pos hp
  have f1 : (mj_q4 σ set gr o N).1 46 1 = set := by rw [e46 1 (by decide) (by decide)]; rfl
  have f2 : (mj_q4 σ set gr o N).1 46 2 = nI gr := by rw [e46 2 (by decide) (by decide)]; rfl
  have f3 : (mj_q4 σ set gr o N).1 46 3 = o := by rw [e46 3 (by decide) (by decide)]; rfl
  have f9 : (mj_q4 σ set gr o N).1 46 9 = -1 := by rw [e46 9 (by decide) (by decide)]; rfl
  have f10 : (mj_q4 σ set gr o N).1 46 10 = 0 := by rw [e46 10 (by decide) (by decide)]; rfl
  have eR : mj_prS σ set gr o N w = mj_mkR (mj_Th (mj_q7 (mj_q4 σ set gr o N) N (mj_qn σ set gr o N)) N (mj_qn σ set gr o N) w gr 12 12 0) w gr (mj_qn σ set gr o N) := by
    unfold mj_prS
    rw [if_neg (by rw [hp0]; rintro (z | z); exact absurd z (by decide); omega)]
  rw [eR]
  generalize mj_q4 σ set gr o N = s4 at *
  generalize hL : (mj_plL (mj_q3 σ set gr o N) N) = L at *
  generalize mj_qn σ set gr o N = n at *
  have low : ∀ c, c < 46 → (mj_mkR (mj_Th (mj_q7 s4 N n) N n w gr 12 12 0) w gr n).1 c = s4.1 c := fun c h => by
    rw [mj_mkR_o (by omega) (by omega), mj_Th_o (by omega) (by omega) (by omega), mj_q7_o (by omega) (by omega) (by omega) (by omega)]
  have r46 : ∀ i, i ≠ 4 → i ≠ 8 → (mj_mkR (mj_Th (mj_q7 s4 N n) N n w gr 12 12 0) w gr n).1 46 i = s4.1 46 i := fun i a b => by
    rw [mj_mkR_46 a, mj_Th_o (by decide) (by decide) (by decide), mj_q7_46 b]
  have r47 : (mj_mkR (mj_Th (mj_q7 s4 N n) N n w gr 12 12 0) w gr n).1 47 = s4.1 47 := by
    rw [mj_mkR_o (by decide) (by decide), mj_Th_o (by decide) (by decide) (by decide), mj_q7_o (by decide) (by decide) (by decide) (by decide)]
  have r48 : (mj_mkR (mj_Th (mj_q7 s4 N n) N n w gr 12 12 0) w gr n).1 48 = (mj_q5 s4 N n).1 48 := by
    rw [mj_mkR_o (by decide) (by decide), mj_Th_o (by decide) (by decide) (by decide)]
    unfold mj_q7 mj_dlS
    rw [mj_cw_o (by decide), mj_cw_o (by decide)]
    unfold mj_q6
    rw [mj_setI_ne _ _ _ (by decide)]
  have r49 : (mj_mkR (mj_Th (mj_q7 s4 N n) N n w gr 12 12 0) w gr n).1 49 = mj_ord (mj_dl (mj_q6 s4 N n) n n) ((mj_q6 s4 N n).1 49) n := by
    rw [mj_mkR_o (by decide) (by decide), mj_Th_o (by decide) (by decide) (by decide)]
    unfold mj_q7 mj_dlS
    rw [mj_cw_c]
  have r50 : (mj_mkR (mj_Th (mj_q7 s4 N n) N n w gr 12 12 0) w gr n).1 50 = mj_dl (mj_q6 s4 N n) n n := by
    rw [mj_mkR_o (by decide) (by decide), mj_Th_o (by decide) (by decide) (by decide)]
    unfold mj_q7 mj_dlS
    rw [mj_cw_o (by decide), mj_cw_c]
  have h6c : ∀ c, c ≠ 46 → c ≠ 48 → (mj_q6 s4 N n).1 c = s4.1 c := fun c a b => by
    unfold mj_q6
    rw [mj_setI_ne _ _ _ a]
    exact mj_afS_o b
  have h6i : ∀ i, i ≠ 8 → (mj_q6 s4 N n).1 46 i = s4.1 46 i := fun i a => by
    unfold mj_q6
    rw [mj_setI_i a]
    unfold mj_q5
    rw [mj_afS_o (by decide)]
  have e7 : mj_q7 s4 N n = mj_cw (mj_cw (mj_q6 s4 N n) 50 (mj_dl (mj_q6 s4 N n) n n)) 49 (mj_ord (mj_dl (mj_q6 s4 N n) n n) ((mj_q6 s4 N n).1 49) n) := rfl
  have q748 : (mj_q7 s4 N n).1 48 = (mj_q5 s4 N n).1 48 := by
    rw [e7, mj_cw_o (by decide), mj_cw_o (by decide)]
    unfold mj_q6
    rw [mj_setI_ne _ _ _ (by decide)]
  -- the made ones say the same as those they were made of
  have S4 : mj_sme s4 (mj_mkR (mj_Th (mj_q7 s4 N n) N n w gr 12 12 0) w gr n) := ⟨fun c h => (low c h).symm, (r46 1 (by decide) (by decide)).symm, (r46 2 (by decide) (by decide)).symm, (r46 3 (by decide) (by decide)).symm, r47.symm⟩
  have S5 : mj_sme (mj_q5 s4 N n) (mj_mkR (mj_Th (mj_q7 s4 N n) N n w gr 12 12 0) w gr n) := by
    have o : ∀ c, c ≠ 48 → (mj_q5 s4 N n).1 c = s4.1 c := fun c h => mj_afS_o h
    refine ⟨fun c h => ?_, ?_, ?_, ?_, ?_⟩
    · rw [o c (by omega)]; exact S4.1 c h
    · rw [o 46 (by decide)]; exact S4.2.1
    · rw [o 46 (by decide)]; exact S4.2.2.1
    · rw [o 46 (by decide)]; exact S4.2.2.2.1
    · rw [o 47 (by decide)]; exact S4.2.2.2.2
  have S7 : mj_sme (mj_q7 s4 N n) (mj_mkR (mj_Th (mj_q7 s4 N n) N n w gr 12 12 0) w gr n) := by
    refine ⟨fun c h => ?_, ?_, ?_, ?_, ?_⟩
    · rw [mj_q7_o (by omega) (by omega) (by omega) (by omega)]; exact S4.1 c h
    · rw [mj_q7_46 (by decide)]; exact S4.2.1
    · rw [mj_q7_46 (by decide)]; exact S4.2.2.1
    · rw [mj_q7_46 (by decide)]; exact S4.2.2.2.1
    · rw [mj_q7_o (by decide) (by decide) (by decide) (by decide)]; exact S4.2.2.2.2
  refine ⟨fun c h => (low c h).trans (e14 c h), ⟨?_, ?_, ?_, ?_, ?_⟩, fun p hp => by rw [r47]; exact e47 p hp, fun p hp => ?_, ⟨mj_q6 s4 N n, r50, r49, ?_, ?_, ?_, ?_, ?_, ?_⟩, ?_, fun g h hg hw' hh => ?_, fun p h hp hw' hh => ⟨?_, ?_⟩, fun k hk => ?_, ?_⟩
  · rw [r46 1 (by decide) (by decide)]; exact f1
  · rw [r46 2 (by decide) (by decide)]; exact f2
  · rw [r46 3 (by decide) (by decide)]; exact f3
  · rw [r46 9 (by decide) (by decide)]; exact f9
  · rw [r46 10 (by decide) (by decide)]; exact f10
  · rw [r48, ← mj_sme_afv S4, ← mj_sme_ring S4]
    show (if 48 = 48 ∧ p < n then mj_afv s4 (mj_ring s4 N) n p else s4.1 48 p) = _
    rw [if_pos ⟨rfl, hp⟩]
  · rw [h6c 17 (by decide) (by decide), low 17 (by decide)]
  · rw [h6c 25 (by decide) (by decide), low 25 (by decide)]
  · rw [h6c 47 (by decide) (by decide), r47]
  · rw [r48]
    unfold mj_q6
    rw [mj_setI_ne _ _ _ (by decide)]
  · rw [h6c 20 (by decide) (by decide), low 20 (by decide)]
  · rw [h6i 2 (by decide), r46 2 (by decide) (by decide)]
  · rw [mj_mkR_46 (by decide), mj_Th_o (by decide) (by decide) (by decide), ← mj_sme_sam S5, e7, mj_cw_o (by decide), mj_cw_o (by decide)]
    unfold mj_q6
    exact mj_setI_eq
  · rw [mj_mkR_o (by decide) (by decide), ← mj_sme_sw S7 (by rw [q748, r48])]
    have e : (mj_Th (mj_q7 s4 N n) N n w gr 12 12 0).1 51 (g * 12 + h) = mj_sw (mj_q7 s4 N n) N n gr g h := by
      unfold mj_Th
      dsimp only
      rw [if_neg (fun z => absurd z.1 (by decide)), if_neg (fun z => absurd z.1 (by decide)), if_pos ⟨rfl, by omega, by omega, by omega⟩, show (g * 12 + h) / 12 = g by omega, show (g * 12 + h) % 12 = h by omega]
    exact e
  · rw [mj_mkR_o (by decide) (by decide), ← (mj_sme_la S7).1]
    unfold mj_Th
    dsimp only
    rw [if_pos ⟨rfl, by omega, by omega, by omega⟩, show (p * 12 + h) / 12 = p by omega, show (p * 12 + h) % 12 = h by omega]
  · rw [mj_mkR_o (by decide) (by decide), ← (mj_sme_la S7).2]
    unfold mj_Th
    dsimp only
    rw [if_neg (fun z => absurd z.1 (by decide)), if_pos ⟨rfl, by omega, by omega, by omega⟩, show (p * 12 + h) / 12 = p by omega, show (p * 12 + h) % 12 = h by omega]
  · rw [mj_mkR_54 hk, mj_rb_o (mj_mkR_o (by decide) (by decide)) (mj_mkR_o (by decide) (by decide))]
  · rw [mj_mkR_4]
    unfold mj_hop
    rw [mj_lkh_p (τ := mj_mkR (mj_Th (mj_q7 s4 N n) N n w gr 12 12 0) w gr n) (mj_mkR_o (by decide) (by decide)) (mj_mkR_o (by decide) (by decide)) (mj_mkR_o (by decide) (by decide))]
end
