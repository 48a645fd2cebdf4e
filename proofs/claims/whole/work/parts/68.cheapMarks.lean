section
variable {X : mj_X} {d : Nat} {σ τ : mj_St}
theorem mj_cst_ag {N : Nat} {o : Int32} {l l' : Nat → Int32} (A : mj_Ag σ N l l') : mj_cst σ o l N = mj_cst σ o l' N := by
  unfold mj_cst
  apply mj_it_congr
  intro i hi u
  by_cases c : σ.1 65 i < 5
  · rw [A i hi c]
  · simp only [c, false_and]
theorem mj_mn_congr {ok ok' : Nat → Bool} {v v' : Nat → Int32} : ∀ (j s : Nat) (b : Int32), (∀ i, s ≤ i → i < s + j → ok i = ok' i ∧ v i = v' i) → mj_mn ok v s j b = mj_mn ok' v' s j b := by
  intro j
  induction j with
  | zero => intro s b _; rfl
  | succ j ih =>
    intro s b h
    simp only [mj_mn]
    rw [(h s (Nat.le_refl _) (by omega)).1, (h s (Nat.le_refl _) (by omega)).2]
    exact ih (s + 1) _ (fun i a c => h i (by omega) (by omega))
theorem mj_cok_ag {N s : Nat} {h o mt : Int32} {l l' : Nat → Int32} (hR : mj_Rdy σ N) (A : mj_Ag σ N l l') : mj_cok σ h o mt N l s = mj_cok σ h o mt N l' s := by
  unfold mj_cok
  rw [mj_Gset_ag hR A]
theorem mj_Ch_ag {N : Nat} {o mt : Int32} (hR : mj_Rdy σ N) : ∀ (r : Nat) (l l' : Nat → Int32), mj_Ag σ N l l' → mj_Ch σ o mt N r l = mj_Ch σ o mt N r l' := by
  intro r
  induction r with
  | zero => intro l l' A; exact mj_cst_ag A
  | succ r ih =>
    intro l l' A
    unfold mj_Ch
    exact mj_mn_congr 512 0 (-1) (fun i _ _ => ⟨mj_cok_ag hR A, ih _ _ (mj_nxd_ag A)⟩)
/-- a mark: what the rest costs at the least -/
def mj_GC (σ : mj_St) (N : Nat) (key v : Int32) : Prop := ∀ (r : Nat) (l : Nat → Int32), r < 12 → mj_Dg l N → key = 15625 * nI (11 - r) + mj_cno σ l N → v = mj_Ch σ (σ.1 61 53) (σ.1 61 54) N (r + 1) l
theorem mj_GC_ok {N : Nat} (hR : mj_Rdy σ N) (hw6 : mj_wc σ N ≤ 6) : mj_GCok σ N (mj_GC σ N) := by
  intro r l hr D
  refine ⟨fun v h => h r l hr D rfl, fun r' l' hr' D' hkey => ?_⟩
  obtain ⟨c, hc, ec⟩ := mj_cno_nI hR hw6 D
  obtain ⟨c', hc', ec'⟩ := mj_cno_nI hR hw6 D'
  rw [ec, ec'] at hkey
  obtain ⟨k1, k2⟩ := mj_key_inj (by omega) (by omega) hc hc' hkey
  have : r' = r := by omega
  subst this
  exact mj_Ch_ag hR (r' + 1) l l' (mj_cno_inj hR D D' (by rw [ec, ec', k2]))
theorem mj_Sm_Ch (F : mj_Sm σ τ) (h1 : τ.1 61 55 = σ.1 61 55) {o mt : Int32} {N : Nat} : ∀ r l, mj_Ch τ o mt N r l = mj_Ch σ o mt N r l := by
  have ep : mj_prc τ = mj_prc σ := by
    funext k
    unfold mj_prc
    rw [mj_Sm_c F (c := 72), h1]
  have ek : mj_cok τ = mj_cok σ := by
    funext h o mt n l s
    unfold mj_cok
    rw [mj_Sm_Gset F, mj_Sm_Mbars F]
  intro r
  induction r with
  | zero =>
    intro l
    show mj_cst τ o l N = mj_cst σ o l N
    unfold mj_cst
    rw [ep, mj_Sm_c F (c := 65), mj_Sm_c F (c := 70), mj_Sm_c F (c := 71)]
  | succ r ih =>
    intro l
    unfold mj_Ch
    rw [ek, mj_Sm_nxd F]
    exact mj_mn_congr 512 0 (-1) (fun i _ _ => ⟨rfl, ih _⟩)
/-- one search for the cheapest way, from a new round on -/
theorem sp_M_cheapNow {N R w : Nat} {o mt : Int32} (hW : mj_Wd σ N) (hS : mj_Scr σ R) (hR : R + 1 < 2147483648) (hw12 : w ≤ 12) : ∃ ρ, mj_Fq σ ρ ∧ mj_Scr ρ (R + 1) ∧ ∀ d, mj_ev X (d + 16) 224 [.ref 61, .int (nI w), .int (mj_cno (mj_bgS σ o mt) (mj_lvn σ) N)] (mj_cnS (mj_bgS σ o mt) N) = some (some (.int (mj_Ch (mj_cnS σ N) o mt N (12 - w) (mj_lvn σ))), ρ) := by
  have hW3 := mj_Fq_Wd (mj_bgS_Fq (σ := σ) (o := o) (mt := mt)) hW
  have hRd := mj_cnS_Rdy hW3 (mj_bgS_Pw (o := o) (mt := mt) hS.1)
  have hw6 : mj_wc (mj_cnS (mj_bgS σ o mt) N) N ≤ 6 := by
    have e := (mj_Fq_Wd (mj_cnS_Fq (N := N)) hW3).2.2.2.2.2.2.1
    exact e
  obtain ⟨hT, -⟩ := mj_bgS_Tab (o := o) (mt := mt) (N := N) (G := mj_GC (mj_cnS (mj_bgS σ o mt) N) N) hS hR
  have hD : mj_Dg (mj_lvn σ) N := hW.2.2.2.2.2.2.2
  obtain ⟨ρ, F, T, hk⟩ := sp_M_cheapest (X := X) hRd (mj_GC_ok hRd hw6) (12 - w) (by omega) (mj_cnS (mj_bgS σ o mt) N) (mj_lvn σ) mj_Fr_rf hT hD
  refine ⟨ρ, mj_bg_Fq F, mj_Scr_of hW hS hR F T, fun d => ?_⟩
  have hkd := hk (d + w)
  have e2 : 12 - (12 - w) = w := by omega
  have e53 : (mj_cnS (mj_bgS σ o mt) N).1 61 53 = o := rfl
  have e54 : (mj_cnS (mj_bgS σ o mt) N).1 61 54 = mt := rfl
  have ec : mj_cno (mj_cnS (mj_bgS σ o mt) N) (mj_lvn σ) N = mj_cno (mj_bgS σ o mt) (mj_lvn σ) N := by
    unfold mj_cno mj_wc
    rw [mj_cnS_o (by decide) (by decide), mj_cnS_o (by decide) (by decide)]
  rw [show d + w + (12 - w) + 4 = d + 16 by omega, e2, e53, e54, ec, mj_Sm_Ch (mj_bgS_Sm (σ := σ)) rfl] at hkd
  exact hkd
end
