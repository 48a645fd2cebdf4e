section
variable {X : mj_X} {d : Nat} {σ τ : mj_St}
theorem mj_Fi_ag {N i f : Nat} {o mt : Int32} (hR : mj_Rdy σ N) : ∀ (r : Nat) (l l' : Nat → Int32), mj_Ag σ N l l' → mj_Fi σ o mt N i f r l = mj_Fi σ o mt N i f r l' := by
  intro r
  induction r with
  | zero => intro l l' _; rfl
  | succ r ih =>
    intro l l' A
    rw [mj_Fi_s, mj_Fi_s]
    apply mj_anyF_congr
    intro s _ _
    unfold mj_Fip
    rw [mj_gok_ag hR A, mj_Kp_ag hR r _ _ (mj_nxd_ag A), ih _ _ (mj_nxd_ag A)]
/-- marks that serve a keeping and a first doing alike -/
def mj_GE (σ : mj_St) (N i : Nat) (key v : Int32) : Prop := mj_GK σ N key v ∧ ∀ (f r : Nat) (l : Nat → Int32), f < 12 → r < 12 → mj_Dg l N → key = mj_fk σ N f r l → mj_Fi σ (σ.1 61 53) (σ.1 61 54) N i f (r + 1) l = false
theorem mj_fk_nI {N f r c : Nat} {l : Nat → Int32} (ec : mj_cno σ l N = nI c) : mj_fk σ N f r l = nI (15625 * (12 * (f + 1) + (11 - r)) + c) := by
  unfold mj_fk
  have e5 : (15625 : Int32) = nI 15625 := rfl
  have e12 : (12 : Int32) = nI 12 := rfl
  rw [ec, nI_1, e12, e5, mj_nI_mul, nI_add, mj_nI_mul, nI_add]
theorem mj_kk_nI {N r c : Nat} {l : Nat → Int32} (ec : mj_cno σ l N = nI c) : 15625 * nI (12 - r) + mj_cno σ l N = nI (15625 * (12 - r) + c) := by
  have e5 : (15625 : Int32) = nI 15625 := rfl
  rw [ec, e5, mj_nI_mul, nI_add]
theorem mj_GE_K {N i : Nat} (hR : mj_Rdy σ N) (hw6 : mj_wc σ N ≤ 6) : mj_GKok σ N (mj_GE σ N i) := by
  intro r l h1 hr D
  obtain ⟨q1, q2⟩ := mj_GK_ok hR hw6 r l h1 hr D
  refine ⟨fun v h => q1 v h.1, fun hK => ⟨q2 hK, fun f r' l' hf hr' D' hkey => ?_⟩⟩
  obtain ⟨c, hc, ec⟩ := mj_cno_nI hR hw6 D
  obtain ⟨c', hc', ec'⟩ := mj_cno_nI hR hw6 D'
  rw [mj_kk_nI ec, mj_fk_nI ec'] at hkey
  have e := (nI_eq (by omega) (by omega)).mp hkey
  omega
theorem mj_GE_F {N i : Nat} (hR : mj_Rdy σ N) (hw6 : mj_wc σ N ≤ 6) : mj_GFok σ N i (mj_GE σ N i) := by
  intro f r l hf hr D
  refine ⟨fun v h => h.2 f r l hf hr D rfl, fun hK => ⟨fun r' l' h1' hr' D' hkey => ?_, fun f' r' l' hf' hr' D' hkey => ?_⟩⟩
  · obtain ⟨c, hc, ec⟩ := mj_cno_nI hR hw6 D
    obtain ⟨c', hc', ec'⟩ := mj_cno_nI hR hw6 D'
    rw [mj_kk_nI ec', mj_fk_nI ec] at hkey
    have e := (nI_eq (by omega) (by omega)).mp hkey
    omega
  · obtain ⟨c, hc, ec⟩ := mj_cno_nI hR hw6 D
    obtain ⟨c', hc', ec'⟩ := mj_cno_nI hR hw6 D'
    rw [mj_fk_nI ec, mj_fk_nI ec'] at hkey
    have e := (nI_eq (by omega) (by omega)).mp hkey
    have e1 : f' = f := by omega
    have e2 : r' = r := by omega
    have e3 : c' = c := by omega
    subst e1
    subst e2
    rw [mj_Fi_ag hR (r' + 1) l' l (mj_cno_inj hR D' D (by rw [ec, ec', e3]))]
    exact hK
end
