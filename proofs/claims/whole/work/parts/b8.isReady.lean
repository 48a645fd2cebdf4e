section
variable {X : mj_X} {d : Nat} {σ τ ρ : mj_St}
def mj_pe (σ : mj_St) : Prop := (∀ k, k < 9 → σ.1 18 k = -1 ∨ mj_inb (σ.1 18 k) 4 = true) ∧ ∀ k, k < 9 → mj_inb (σ.1 17 k) 12 = true
theorem mj_sh12 : ∀ p : Nat, p < 6 → ((1 : Int32) <<< (nI p &&& 31)) <<< ((12 : Int32) &&& 31) = 1 <<< (nI (p + 12) &&& 31) := by decide +kernel
theorem mj_stv_hi {g h cl : Int32} : ∀ n, n ≤ 6 → ∀ k, k < 32 → 18 ≤ k → mj_b (mj_stv σ g h cl n) k = false := by
  intro n
  induction n with
  | zero => intro _ k _ _; exact mj_b_0
  | succ n ih =>
    intro hn k hk h18
    have hu := ih (by omega) k hk h18
    have e : mj_stv σ g h cl (n + 1) = mj_sti σ g h cl n (mj_stv σ g h cl n) := rfl
    rw [e]
    generalize mj_stv σ g h cl n = u at *
    have a1 : mj_b (u ||| (if mj_stg σ (σ.1 47 n).toNatClampNeg g h < 1 then (0 : Int32) else ((1 : Int32) <<< (nI n &&& 31)) <<< ((6 : Int32) &&& 31))) k = false := by
      rw [mj_b_or, hu, Bool.false_or]
      by_cases c : mj_stg σ (σ.1 47 n).toNatClampNeg g h < 1
      · rw [if_pos c]; exact mj_b_0
      · rw [if_neg c, mj_sh6 n (by omega), mj_b_sh1 (by omega) hk]
        exact decide_eq_false (by omega)
    have a2 : mj_b ((u ||| (if mj_stg σ (σ.1 47 n).toNatClampNeg g h < 1 then (0 : Int32) else ((1 : Int32) <<< (nI n &&& 31)) <<< ((6 : Int32) &&& 31))) ||| (if mj_stg σ (σ.1 47 n).toNatClampNeg g h < 2 then (0 : Int32) else ((1 : Int32) <<< (nI n &&& 31)) <<< ((12 : Int32) &&& 31))) k = false := by
      rw [mj_b_or, a1, Bool.false_or]
      by_cases c : mj_stg σ (σ.1 47 n).toNatClampNeg g h < 2
      · rw [if_pos c]; exact mj_b_0
      · rw [if_neg c, mj_sh12 n (by omega), mj_b_sh1 (by omega) hk]
        exact decide_eq_false (by omega)
    unfold mj_sti
    by_cases c : mj_stb σ g h cl n = true
    · rw [if_pos c, mj_b_or, a2, Bool.false_or, mj_b_sh1 (by omega) hk]
      exact decide_eq_false (by omega)
    · rw [if_neg c]
      exact a2
theorem mj_stv_18 {g h cl : Int32} {n : Nat} (hn : n ≤ 6) : mj_stv σ g h cl n >>> (18 &&& 31) = 0 := by
  obtain ⟨m, hm, e⟩ := mj_b_lt (n := 18) (by decide) (fun k hk h18 => mj_stv_hi (σ := σ) (g := g) (h := h) (cl := cl) n hn k hk h18)
  rw [e]
  have e18 : (18 : Int32) &&& 31 = nI 18 &&& 31 := rfl
  rw [e18, mj_nI_shr (by decide) (by omega), Nat.div_eq_of_lt hm]
  rfl
theorem mj_tld_lt : ∃ m, m < 8 ∧ mj_tld σ = nI m := by
  have h : ∀ j, j ≤ 3 → ∀ k, k < 32 → 3 ≤ k → mj_b (mj_it (fun f u => u ||| (if σ.1 14 17 < σ.1 28 f then (0 : Int32) else 1 <<< (nI f &&& 31))) 0 j) k = false := by
    intro j
    induction j with
    | zero => intro _ k _ _; exact mj_b_0
    | succ j ih =>
      intro hj k hk h3
      have hu := ih (by omega) k hk h3
      simp only [mj_it]
      rw [mj_b_or, hu, Bool.false_or]
      by_cases c : σ.1 14 17 < σ.1 28 j
      · rw [if_pos c]; exact mj_b_0
      · rw [if_neg c, mj_b_sh1 (by omega) hk]
        exact decide_eq_false (by omega)
  obtain ⟨m, hm, e⟩ := mj_b_lt (n := 3) (by decide) (h 3 (by decide))
  exact ⟨m, hm, e⟩
theorem mj_sgr_lt {N gr : Nat} (hgr : gr = 1 ∨ gr = 8) : ∃ s, s < gr ∧ mj_sgr σ N gr = nI s := by
  unfold mj_sgr
  rcases hgr with z | z
  · subst z
    exact ⟨0, by decide, rfl⟩
  · subst z
    rw [if_pos rfl]
    obtain ⟨t, ht, et⟩ := mj_tld_lt (σ := σ)
    obtain ⟨m, hm, e⟩ := mj_b_lt (a := (σ.1 14 18 &&& mj_tld σ) &&& mj_usd σ N) (n := 3) (by decide) (fun k hk h3 => by
      rw [mj_b_and, mj_b_and, et, mj_b_nI (by omega), Nat.testBit_lt_two_pow (show t < 2 ^ k from Nat.lt_of_lt_of_le (show t < 2 ^ 3 from ht) (Nat.pow_le_pow_right (by decide) h3)), Bool.and_false, Bool.false_and])
    exact ⟨m, hm, e⟩
/-- a search that got ready is ready -/
theorem mj_pr_ready {N w gr : Nat} {set o : Int32} (hc : mj_pc σ N w) (hgr : gr = 1 ∨ gr = 8) (he : mj_pe σ) (hp0 : mj_hp0 σ set = false) (hw : w < 12) :
    mj_sd (mj_prS σ set gr o N w) (mj_qn σ set gr o N) w gr ∧ mj_sfr (mj_prS σ set gr o N w) gr ∧ ((mj_prS σ set gr o N w).1 46 4 = 0 → mj_MI (mj_prS σ set gr o N w) (mj_qn σ set gr o N) w gr) ∧ (mj_prS σ set gr o N w).1 46 7 = mj_sgr σ N gr ∧ (mj_prS σ set gr o N w).1 46 6 = nI (mj_stn (mj_q3 σ set gr o N) (mj_plL (mj_q3 σ set gr o N) N)) := by
  have hc' := hc
  obtain ⟨c1, c2, c3, c4, c5, c6, c7, c8⟩ := hc
  have len3 := mj_q3_len (set := set) (o := o) (gr := gr) hc'
  have pn4 := mj_fpR_pn c2 len3
  have eq4 : mj_fpR (mj_q3 σ set gr o N) N = mj_q4 σ set gr o N := rfl
  have en : (mj_plL (mj_q3 σ set gr o N) N).length = mj_qn σ set gr o N := rfl
  rw [eq4, en] at pn4
  have e14 : ∀ c, c < 46 → (mj_q4 σ set gr o N).1 c = σ.1 c := fun c h => by
    show (mj_fpS _ _ _ _).1 c = _
    rw [mj_fpS_o (by omega) (by omega)]
    exact mj_q3_o (by omega)
  have e462 : (mj_q4 σ set gr o N).1 46 2 = nI gr := by
    show (mj_fpS _ _ _ _).1 46 2 = _
    rw [mj_fpS_46 (by decide) (by decide)]
    rfl
  have e467 : (mj_q4 σ set gr o N).1 46 7 = mj_sgr σ N gr := by
    show (mj_fpS _ _ _ _).1 46 7 = _
    rw [mj_fpS_46 (by decide) (by decide)]
    rfl
  have e466 : (mj_q4 σ set gr o N).1 46 6 = nI (mj_stn (mj_q3 σ set gr o N) (mj_plL (mj_q3 σ set gr o N) N)) := rfl
  have r4 : (mj_q4 σ set gr o N).2.2.1 46 0 = some 14 := rfl
  have l4 : (mj_q4 σ set gr o N).2.2.2.1 ≤ 20000 := c8
  -- the places hold works
  have hwk : ∀ p, p < mj_qn σ set gr o N → ∃ l, l < 4 ∧ σ.1 25 ((mj_q4 σ set gr o N).1 47 p).toNatClampNeg = nI l := by
    intro p hp
    have hp' : p < (mj_plL (mj_q3 σ set gr o N) N).length := hp
    have e47 : (mj_q4 σ set gr o N).1 47 p = nI (mj_plL (mj_q3 σ set gr o N) N)[p] := by
      show mj_nmf _ (mj_plL (mj_q3 σ set gr o N) N) p = _
      unfold mj_nmf
      rw [if_pos hp', List.getD_eq_getElem?_getD, List.getElem?_eq_getElem hp']
      rfl
    obtain ⟨q1, q2⟩ := mj_plL_lt (List.getElem_mem hp')
    rw [e47, nI_clamp (by omega)]
    refine c7 _ q1 ?_
    unfold mj_plq at q2
    rw [mj_q3_o (c := 15) (by decide)] at q2
    simp only [Bool.and_eq_true] at q2
    exact q2.2.1
  have eR : mj_prS σ set gr o N w = mj_mkR (mj_Th (mj_q7 (mj_q4 σ set gr o N) N (mj_qn σ set gr o N)) N (mj_qn σ set gr o N) w gr 12 12 0) w gr (mj_qn σ set gr o N) := by
    unfold mj_prS
    rw [if_neg (by rw [hp0]; rintro (z | z); exact absurd z (by decide); omega)]
  rw [eR]
  generalize mj_q4 σ set gr o N = s4 at *
  generalize mj_qn σ set gr o N = n at *
  obtain ⟨n1, n2, n3⟩ := pn4
  -- what the ready one holds
  have low : ∀ c, c < 46 → (mj_mkR (mj_Th (mj_q7 s4 N n) N n w gr 12 12 0) w gr n).1 c = σ.1 c := fun c h => by
    rw [mj_mkR_o (by omega) (by omega), mj_Th_o (by omega) (by omega) (by omega), mj_q7_o (by omega) (by omega) (by omega) (by omega)]
    exact e14 c h
  have r46 : ∀ i, i ≠ 4 → i ≠ 8 → (mj_mkR (mj_Th (mj_q7 s4 N n) N n w gr 12 12 0) w gr n).1 46 i = s4.1 46 i := fun i a b => by
    rw [mj_mkR_46 a, mj_Th_o (by decide) (by decide) (by decide), mj_q7_46 b]
  have r47 : (mj_mkR (mj_Th (mj_q7 s4 N n) N n w gr 12 12 0) w gr n).1 47 = s4.1 47 := by
    rw [mj_mkR_o (by decide) (by decide), mj_Th_o (by decide) (by decide) (by decide), mj_q7_o (by decide) (by decide) (by decide) (by decide)]
  have r48 : (mj_mkR (mj_Th (mj_q7 s4 N n) N n w gr 12 12 0) w gr n).1 48 = (mj_q5 s4 N n).1 48 := by
    rw [mj_mkR_o (by decide) (by decide), mj_Th_o (by decide) (by decide) (by decide)]
    unfold mj_q7 mj_dlS
    rw [mj_cw_o (by decide), mj_cw_o (by decide)]
    unfold mj_q6
    rw [mj_setI_ne _ _ _ (by decide)]
  have r49 : (mj_mkR (mj_Th (mj_q7 s4 N n) N n w gr 12 12 0) w gr n).1 49 = mj_ord (mj_dl (mj_q6 s4 N n) n n) ((mj_q6 s4 N n).1 49) n := by
    rw [mj_mkR_o (by decide) (by decide), mj_Th_o (by decide) (by decide) (by decide)]
    unfold mj_q7 mj_dlS
    rw [mj_cw_c]
  have r50 : (mj_mkR (mj_Th (mj_q7 s4 N n) N n w gr 12 12 0) w gr n).1 50 = mj_dl (mj_q6 s4 N n) n n := by
    rw [mj_mkR_o (by decide) (by decide), mj_Th_o (by decide) (by decide) (by decide)]
    unfold mj_q7 mj_dlS
    rw [mj_cw_o (by decide), mj_cw_c]
  have h6c : ∀ c, c ≠ 46 → c ≠ 48 → (mj_q6 s4 N n).1 c = s4.1 c := fun c a b => by
    unfold mj_q6
    rw [mj_setI_ne _ _ _ a]
    exact mj_afS_o b
  have hdl0 : mj_dB (mj_dl0 (mj_q6 s4 N n) n) n 0 := by
    intro i hi
    rw [mj_dl0_v n i hi, h6c 47 (by decide) (by decide), h6c 17 (by decide) (by decide), e14 17 (by decide)]
    have hin := he.2 (s4.1 47 i).toNatClampNeg (mj_in_lt (n3 i hi))
    obtain ⟨t, ht, et⟩ := mj_nI_of hin (by decide)
    rw [et, nI_toInt (by omega)]
    constructor <;> omega
  have hdl := mj_dl_B hdl0 n2 (fun p hp => by
    rw [h6c 47 (by decide) (by decide), h6c 25 (by decide) (by decide), e14 25 (by decide)]
    exact hwk p hp) n (Nat.le_refl _)
  have e5 : (mj_q7 s4 N n).2 = s4.2 := rfl
  refine ⟨⟨?_, ?_, n2, ?_, c4, ?_, hgr, ?_, ?_, ?_, ?_, ?_⟩, ?_, ?_, ?_, ?_⟩
  · rw [mj_mkR_r]
    exact r4
  · rw [r46 5 (by decide) (by decide)]; exact n1
  · rw [low 14 (by decide)]; exact c3
  · rw [r46 2 (by decide) (by decide)]; exact e462
  · intro p hp
    rw [r47]; exact n3 p hp
  · intro p hp
    rw [r48]
    show (if 48 = 48 ∧ p < n then mj_afv s4 (mj_ring s4 N) n p else s4.1 48 p) < 0 ∨ mj_inb (if 48 = 48 ∧ p < n then mj_afv s4 (mj_ring s4 N) n p else s4.1 48 p) n = true
    rw [if_pos ⟨rfl, hp⟩]
    unfold mj_afv
    have m2 : (-2 : Int32) < 0 := by decide
    have m1 : (-1 : Int32) < 0 := by decide
    split
    · exact Or.inl m2
    · split
      · split
        · split
          · exact Or.inl m1
          · rcases mj_plc_c (σ := s4) (x := s4.1 19 (s4.1 47 p).toNatClampNeg) n 0 with z | ⟨q, -, q2, q3, -⟩
            · rw [z]; exact Or.inl m2
            · rw [q3]; exact Or.inr (mj_in_nI (by omega) (by omega))
        · exact Or.inl m2
      · exact Or.inl m1
  · intro p hp
    rw [r49]
    exact mj_ord_n n n2 p hp
  · intro p hp
    rw [r50]
    obtain ⟨a, b⟩ := hdl p hp
    exact ⟨by omega, b⟩
  · rw [low 18 (by decide)]; exact he.1
  · intro hg1 h hh h12
    rw [low 14 (by decide), c3] at hh
    have hwh : w ≤ h := by
      by_cases q : w ≤ h
      · exact q
      · exact absurd (nI_lt (show h < w by omega) (by omega)) hh
    unfold mj_sts
    rw [mj_mkR_o (by decide) (by decide)]
    have e : (mj_Th (mj_q7 s4 N n) N n w gr 12 12 0).1 51 (0 * 12 + h) = mj_sw (mj_q7 s4 N n) N n gr 0 h := by
      unfold mj_Th
      dsimp only
      rw [if_neg (fun z => absurd z.1 (by decide)), if_neg (fun z => absurd z.1 (by decide)), if_pos ⟨rfl, by omega, by omega, by omega⟩, show (0 * 12 + h) / 12 = 0 by omega, show (0 * 12 + h) % 12 = h by omega]
    rw [e]
    unfold mj_sw
    rw [if_neg (by omega), Int32.zero_or]
    exact mj_stv_18 n2
  · intro h4
    exact mj_mkR_MI (by show (mj_q7 s4 N n).2.2.2.1 ≤ 20000; rw [e5]; exact l4) n2 hgr h4
  · rw [r46 7 (by decide) (by decide)]; exact e467
  · rw [r46 6 (by decide) (by decide)]; exact e466
end
