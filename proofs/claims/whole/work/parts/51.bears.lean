section
variable {X : mj_X} {d : Nat} {σ τ : mj_St}
theorem mj_nxl_fb {h s o mt : Int32} {l : Nat → Int32} {n : Nat} : mj_nxl σ h s o mt l n = mj_fb (fun i => decide (σ.1 65 i < 5) && mj_bhf σ h s o mt (l i) i) n := by
  unfold mj_nxl mj_fb
  apply mj_it_congr
  intro i _ u
  simp only [Bool.and_eq_true, decide_eq_true_eq]
theorem mj_nxl_0 {h s o mt : Int32} {l : Nat → Int32} {N k : Nat} (h9 : N ≤ 9) (e : mj_nxl σ h s o mt l N = 0) (hk : k < N) (hw : σ.1 65 k < 5) : mj_bhf σ h s o mt (l k) k = false := by
  rw [mj_nxl_fb] at e
  have q := mj_fb_b (p := fun i => decide (σ.1 65 i < 5) && mj_bhf σ h s o mt (l i) i) (k := k) (by omega) N (by omega)
  rw [e, mj_b_0] at q
  simpa [hk, hw] using q.symm
/-- what is left if none gets lost -/
def mj_nxb (l : Nat → Int32) (s : Nat) (k : Nat) : Int32 := mj_bis (l k) (mj_b (nI s) k)
theorem mj_nxd_0 {h o mt : Int32} {l : Nat → Int32} {N s : Nat} (h9 : N ≤ 9) (e : mj_nxl σ h (nI s) o mt l N = 0) : mj_Ag σ N (mj_nxd σ h (nI s) o mt l) (mj_nxb l s) := by
  intro k hk hw
  unfold mj_nxd mj_nxb
  rw [mj_nxl_0 h9 e hk hw]
  rfl
theorem mj_nxb_Dg {l : Nat → Int32} {N s : Nat} (hD : mj_Dg l N) (hs : ∀ i, i < N → mj_b (nI s) i = true → ¬ l i = 0) : mj_Dg (mj_nxb l s) N := by
  intro i hi
  obtain ⟨n, h5, hn⟩ := hD i hi
  unfold mj_nxb mj_bis
  split
  · rename_i hb
    have h0 := hs i hi hb
    rw [hn] at h0 ⊢
    have : n ≠ 0 := fun q => h0 (by rw [q]; rfl)
    obtain ⟨m, rfl⟩ : ∃ m, n = m + 1 := ⟨n - 1, by omega⟩
    exact ⟨m, by omega, nI_pred m⟩
  · exact ⟨n, h5, hn⟩
/-- one way that things turn out serves a set -/
def mj_bo1 (σ : mj_St) (h mt : Int32) (N : Nat) (l : Nat → Int32) (s o : Nat) : Bool := decide (mj_Mbars σ (nI s) h (nI o) mt N = 0) && decide (mj_nxl σ h (nI s) (nI o) mt l N = 0)
/-- a set serves whatever comes -/
def mj_bok (σ : mj_St) (h kn u mt : Int32) (N : Nat) (l : Nat → Int32) (s : Nat) : Bool := decide (nI s &&& (mj_Gset σ h u mt l N ^^^ -1) = 0) && !(mj_anyF (fun o => decide (nI o &&& kn = u) && !(mj_bo1 σ h mt N l s o)) 0 8)
def mj_Br (σ : mj_St) (mt : Int32) (N r : Nat) (B : (Nat → Int32) → Int32 → Bool) (l : Nat → Int32) (u : Int32) : Int32 := mj_fst (fun s => mj_bok σ (nI (11 - r)) (mj_Mkb σ (nI (11 - r)) 3) u mt N l s && B (mj_nxb l s) u) 0 512
/-- what was known before -/
def mj_was (σ : mj_St) (r : Nat) : Int32 := if nI (11 - r) = σ.1 61 1 then mj_Mkb σ (nI (11 - r)) 3 else mj_Mkb σ (nI (11 - r) - 1) 3
def mj_Bs (σ : mj_St) (mt : Int32) (N : Nat) : Nat → (Nat → Int32) → Int32 → Bool
  | 0, _, _ => true
  | r + 1, l, u => !(mj_anyF (fun o => (decide (nI o &&& (mj_Mkb σ (nI (11 - r)) 3 ^^^ -1) = 0) && decide (nI o &&& mj_was σ r = u &&& mj_was σ r)) && decide (mj_Br σ mt N r (mj_Bs σ mt N r) l (nI o) = -1)) 0 8)
/-- what a mark of a bearing may say -/
def mj_GBok (σ : mj_St) (N : Nat) (G : Int32 → Int32 → Prop) : Prop := ∀ (r : Nat) (l : Nat → Int32) (u : Nat), r < 12 → u < 8 → mj_Dg l N → (∀ v, G (8 * (15625 * nI (11 - r) + mj_cno σ l N) + nI u) v → v = mj_Br σ (σ.1 61 54) N r (mj_Bs σ (σ.1 61 54) N r) l (nI u)) ∧ G (8 * (15625 * nI (11 - r) + mj_cno σ l N) + nI u) (mj_Br σ (σ.1 61 54) N r (mj_Bs σ (σ.1 61 54) N r) l (nI u))
def mj_BS (X : mj_X) (σ : mj_St) (G : Int32 → Int32 → Prop) (N r : Nat) : Prop := ∀ (τ : mj_St) (l : Nat → Int32) (u : Nat), u < 8 → mj_Fr σ τ → mj_Tab τ G → mj_Dg l N → ∃ ρ, mj_Fr σ ρ ∧ mj_Tab ρ G ∧ ∀ d, mj_ev X (d + 2 * r + 3) 216 [.ref 61, .int (nI (12 - r)), .int (mj_cno σ l N), .int (nI u)] τ = some (some (.int (mj_z (mj_Bs σ (σ.1 61 54) N r l (nI u)))), ρ)
theorem sp_M_look {G : Int32 → Int32 → Prop} {key : Int32} (h : mj_Tab σ G) : ∃ (p : Nat) (b : Bool), p < 16384 ∧ (b = true → G key (σ.1 88 p)) ∧ (∀ d, mj_ev X (d + 1) 201 [.ref 61, .int key] σ = some (some (.int (nI p)), σ)) ∧ ∀ d, mj_ev X (d + 2) 200 [.ref 61, .int key] σ = some (some (.int (mj_z b)), σ) := by
  obtain ⟨p, ⟨hp, hk⟩, he⟩ := sp_M_placeOf (X := X) (key := key) (mj_Tab_free h)
  refine ⟨p, decide (σ.1 87 p = σ.1 61 51), hp, fun hb => ?_, he, fun d => ?_⟩
  · have hr := of_decide_eq_true hb
    have := h.1 p hp hr
    rw [hk hr] at this
    exact this
  · refine st200 ?_
    by_cases c : σ.1 87 p = σ.1 61 51
    · simp only [u200_0, u200_1, u200_4, u200_5, u200_6, u200_9, u200_10, u200_11, u200_14, u200_17, u200_18, u200_21, u200_22, he, mj_in_nI hp (by decide), mj_nz9 hp (by decide), c, mj_cc_v, mj_cc_n, List.all_cons, List.all_nil, mj_noMk_int, mj_noMk_long, mj_noMk_ref, mj_noMk_junk, List.length_nil, List.length_cons, Nat.zero_le, Nat.reduceLeDiff, Nat.reduceAdd, Bool.and_true, Bool.true_and, Bool.and_self, Nat.reduceBNe, true_or, or_true, true_and, and_true, mj_z0, mj_z1, mj_z01, decide_true, decide_false, Bool.true_and, Bool.false_and, Bool.and_true, Bool.and_false, Bool.true_or, Bool.false_or, Bool.or_false, Bool.or_true, Bool.not_true, Bool.not_false, Bool.and_self, Bool.or_self, if_true, if_false, Bool.true_eq_false, Bool.false_eq_true, not_true, not_false_eq_true]
      rfl
    · simp only [u200_0, u200_1, u200_4, u200_5, u200_6, u200_9, u200_10, u200_11, u200_14, u200_17, u200_18, u200_21, u200_22, he, mj_in_nI hp (by decide), mj_nz9 hp (by decide), c, mj_cc_v, mj_cc_n, List.all_cons, List.all_nil, mj_noMk_int, mj_noMk_long, mj_noMk_ref, mj_noMk_junk, List.length_nil, List.length_cons, Nat.zero_le, Nat.reduceLeDiff, Nat.reduceAdd, Bool.and_true, Bool.true_and, Bool.and_self, Nat.reduceBNe, true_or, or_true, true_and, and_true, mj_z0, mj_z1, mj_z01, decide_true, decide_false, Bool.true_and, Bool.false_and, Bool.and_true, Bool.and_false, Bool.true_or, Bool.false_or, Bool.or_false, Bool.or_true, Bool.not_true, Bool.not_false, Bool.and_self, Bool.or_self, if_true, if_false, Bool.true_eq_false, Bool.false_eq_true, not_true, not_false_eq_true]
      rfl
/-- the loop over all ways of a set -/
theorem mj_br_in {G : Int32 → Int32 → Prop} {N r m s : Nat} {l : Nat → Int32} {u kn key best : Int32} (hR : mj_Rdy σ N) (hr : r < 12) (D : mj_Dg l N) :
    ∀ (j k : Nat) (τ : mj_St) (y : Int32), k + j = 8 → mj_Fr σ τ → mj_Tab τ G → ((∃ o, o < k ∧ nI o &&& kn = u) → y = mj_cno σ (mj_nxb l s) N) →
    ∃ (τ' : mj_St) (y' z' : Int32), mj_Fr σ τ' ∧ mj_Tab τ' G ∧ (mj_anyF (fun o => decide (nI o &&& kn = u) && !(mj_bo1 σ (nI (11 - r)) (σ.1 61 54) N l s o)) k j = false → (∃ o, o < 8 ∧ nI o &&& kn = u) → y' = mj_cno σ (mj_nxb l s) N) ∧
      ∀ (d : Nat) (R : mj_Rs), mj_Runs X (mj_ev X (d + 2 * r + 3)) 6 (some .int) prog_8_method_61_code (182, [.ref 61, .int (nI (11 - r)), .int (mj_cno σ l N), .int u, .int kn, .int key, .int (nI m), .int best, .int (nI s), .int (mj_z (!(mj_anyF (fun o => decide (nI o &&& kn = u) && !(mj_bo1 σ (nI (11 - r)) (σ.1 61 54) N l s o)) k j))), .int y', .int z'], [], τ') R →
        mj_Runs X (mj_ev X (d + 2 * r + 3)) 6 (some .int) prog_8_method_61_code (89, [.ref 61, .int (nI (11 - r)), .int (mj_cno σ l N), .int u, .int kn, .int key, .int (nI m), .int best, .int (nI s), .int 1, .int y, .int (nI k)], [], τ) R := by
  intro j
  have h11 : mj_inb (nI (11 - r)) 12 = true := mj_in_nI (by omega) (by decide)
  induction j with
  | zero =>
    intro k τ y hk F T hy
    have hk8 : k = 8 := by omega
    subst hk8
    refine ⟨τ, y, nI 8, F, T, fun _ h => hy h, fun d R hq => ?_⟩
    refine u217_89.mpr ?_
    have h8 : ¬ nI 8 < 8 := by decide
    simp only [u217_0, u217_2, u217_5, u217_6, u217_7, u217_8, u217_9, u217_10, u217_11, u217_12, u217_14, u217_15, u217_17, u217_20, u217_23, u217_24, u217_27, u217_28, u217_30, u217_33, u217_34, u217_35, u217_36, u217_37, u217_38, u217_39, u217_40, u217_43, u217_46, u217_48, u217_49, u217_51, u217_52, u217_56, u217_58, u217_61, u217_63, u217_64, u217_67, u217_69, u217_71, u217_72, u217_73, u217_74, u217_77, u217_80, u217_81, u217_83, u217_84, u217_86, u217_87, u217_91, u217_93, u217_96, u217_98, u217_101, u217_103, u217_105, u217_106, u217_107, u217_110, u217_113, u217_114, u217_116, u217_117, u217_119, u217_120, u217_123, u217_126, u217_129, u217_130, u217_133, u217_134, u217_136, u217_138, u217_141, u217_142, u217_143, u217_144, u217_146, u217_148, u217_149, u217_152, u217_155, u217_157, u217_159, u217_162, u217_163, u217_166, u217_169, u217_170, u217_173, u217_174, u217_176, u217_179, u217_184, u217_187, u217_188, u217_189, u217_190, u217_191, u217_193, u217_194, u217_197, u217_200, u217_202, u217_204, u217_207, u217_210, u217_211, u217_213, u217_215, u217_218, u217_220, h8, if_false]
    exact hq
  | succ j ih =>
    intro k τ y hk F T hy
    have h8 : nI k < 8 := nI_lt (b := 8) (by omega) (by decide)
    have e54 := F.2.2 54 (by decide) (by decide)
    have hR' := mj_Fr_Rdy F hR
    have n10 : ¬ (1 : Int32) = 0 := by decide
    simp only [mj_anyF]
    by_cases c1 : nI k &&& kn = u
    · have hb : ∀ d, mj_ev X (d + 2 * r + 3) 207 [.ref 61, .int (nI s), .int (nI (11 - r)), .int (nI k), .int (σ.1 61 54)] τ = some (some (.int (mj_Mbars σ (nI s) (nI (11 - r)) (nI k) (σ.1 61 54) N)), τ) := fun d => by
        have q := sp_M_bars (X := X) (d := d + 2 * r) (σ := τ) (set := nI s) (h := nI (11 - r)) (o := nI k) (mt := σ.1 61 54) hR'.1 hR'.2.1 hR'.2.2.2.1 hR'.2.2.2.2.2.2 h11
        rw [mj_Fr_Mbars F] at q
        exact q
      have hbh : ∀ d, mj_ev X (d + 2 * r + 3) 210 [.ref 61, .int (nI (11 - r)), .int (mj_cno σ l N), .int (nI s), .int (nI k), .int (σ.1 61 54)] τ = some (some (.int (mj_cno σ (mj_nxd σ (nI (11 - r)) (nI s) (nI k) (σ.1 61 54) l) N)), mj_setI τ 61 47 (mj_nxl σ (nI (11 - r)) (nI s) (nI k) (σ.1 61 54) l N)) := fun d => by
        have q := sp_M_behind (X := X) (d := d + 2 * r + 1) (σ := τ) (set := nI s) (h := nI (11 - r)) (code := mj_cno τ l N) (o := nI k) (mt := σ.1 61 54) hR'.1 hR'.2.1 hR'.2.2.1 hR'.2.2.2.1
        rw [mj_bhd_N hR' D, mj_Fr_cno F, mj_Fr_nxd F, mj_Fr_nxl F] at q
        exact q
      by_cases c2 : mj_Mbars σ (nI s) (nI (11 - r)) (nI k) (σ.1 61 54) N = 0
      · by_cases c3 : mj_nxl σ (nI (11 - r)) (nI s) (nI k) (σ.1 61 54) l N = 0
        · have ey : mj_cno σ (mj_nxd σ (nI (11 - r)) (nI s) (nI k) (σ.1 61 54) l) N = mj_cno σ (mj_nxb l s) N := mj_cno_congr (mj_nxd_0 hR.2.1 c3)
          obtain ⟨τ', y', z', F', T', hy', hq⟩ := ih (k + 1) (mj_setI τ 61 47 0) (mj_cno σ (mj_nxb l s) N) (by omega) (mj_Fr_tr F mj_Fr_47) (mj_Tab_47 T) (fun _ => rfl)
          have eo : mj_bo1 σ (nI (11 - r)) (σ.1 61 54) N l s k = true := by
            unfold mj_bo1
            rw [c2, c3]
            rfl
          refine ⟨τ', y', z', F', T', ?_, fun d R hh => ?_⟩
          · simp only [eo, Bool.not_true, Bool.and_false, Bool.false_or]
            exact hy'
          · simp only [eo, Bool.not_true, Bool.and_false, Bool.false_or] at hh
            have hf := hq d R hh
            refine u217_89.mpr ?_
            simp only [u217_0, u217_2, u217_5, u217_6, u217_7, u217_8, u217_9, u217_10, u217_11, u217_12, u217_14, u217_15, u217_17, u217_20, u217_23, u217_24, u217_27, u217_28, u217_30, u217_33, u217_34, u217_35, u217_36, u217_37, u217_38, u217_39, u217_40, u217_43, u217_46, u217_48, u217_49, u217_51, u217_52, u217_56, u217_58, u217_61, u217_63, u217_64, u217_67, u217_69, u217_71, u217_72, u217_73, u217_74, u217_77, u217_80, u217_81, u217_83, u217_84, u217_86, u217_87, u217_91, u217_93, u217_96, u217_98, u217_101, u217_103, u217_105, u217_106, u217_107, u217_110, u217_113, u217_114, u217_116, u217_117, u217_119, u217_120, u217_123, u217_126, u217_129, u217_130, u217_133, u217_134, u217_136, u217_138, u217_141, u217_142, u217_143, u217_144, u217_146, u217_148, u217_149, u217_152, u217_155, u217_157, u217_159, u217_162, u217_163, u217_166, u217_169, u217_170, u217_173, u217_174, u217_176, u217_179, u217_184, u217_187, u217_188, u217_189, u217_190, u217_191, u217_193, u217_194, u217_197, u217_200, u217_202, u217_204, u217_207, u217_210, u217_211, u217_213, u217_215, u217_218, u217_220, h8, n10, c1, e54, hb d, c2, hbh d, c3, ey, mj_T_47, mj_cc_v, mj_cc_n, List.all_cons, List.all_nil, mj_noMk_int, mj_noMk_long, mj_noMk_ref, mj_noMk_junk, List.length_nil, List.length_cons, Nat.zero_le, Nat.reduceLeDiff, Nat.reduceAdd, Bool.and_true, Bool.true_and, Bool.and_self, Nat.reduceBNe, true_or, or_true, true_and, and_true, mj_z0, mj_z1, mj_z01, decide_true, decide_false, Bool.true_and, Bool.false_and, Bool.and_true, Bool.and_false, Bool.true_or, Bool.false_or, Bool.or_false, Bool.or_true, Bool.not_true, Bool.not_false, Bool.and_self, Bool.or_self, if_true, if_false, Bool.true_eq_false, Bool.false_eq_true, not_true, not_false_eq_true, nI_1]
            exact hf
        · have eo : mj_bo1 σ (nI (11 - r)) (σ.1 61 54) N l s k = false := by
            unfold mj_bo1
            rw [decide_eq_false c3, Bool.and_false]
          refine ⟨mj_setI τ 61 47 (mj_nxl σ (nI (11 - r)) (nI s) (nI k) (σ.1 61 54) l N), mj_cno σ (mj_nxd σ (nI (11 - r)) (nI s) (nI k) (σ.1 61 54) l) N, nI (k + 1), mj_Fr_tr F mj_Fr_47, mj_Tab_47 T, ?_, fun d R hh => ?_⟩
          · intro hc
            simp [c1, eo] at hc
          · refine u217_89.mpr ?_
            simp only [c1, eo, decide_true, decide_false, Bool.true_and, Bool.false_and, Bool.and_true, Bool.and_false, Bool.true_or, Bool.false_or, Bool.or_false, Bool.or_true, Bool.not_true, Bool.not_false, Bool.and_self, Bool.or_self, if_true, if_false, Bool.true_eq_false, Bool.false_eq_true, not_true, not_false_eq_true, mj_zF] at hh
            simp only [u217_0, u217_2, u217_5, u217_6, u217_7, u217_8, u217_9, u217_10, u217_11, u217_12, u217_14, u217_15, u217_17, u217_20, u217_23, u217_24, u217_27, u217_28, u217_30, u217_33, u217_34, u217_35, u217_36, u217_37, u217_38, u217_39, u217_40, u217_43, u217_46, u217_48, u217_49, u217_51, u217_52, u217_56, u217_58, u217_61, u217_63, u217_64, u217_67, u217_69, u217_71, u217_72, u217_73, u217_74, u217_77, u217_80, u217_81, u217_83, u217_84, u217_86, u217_87, u217_91, u217_93, u217_96, u217_98, u217_101, u217_103, u217_105, u217_106, u217_107, u217_110, u217_113, u217_114, u217_116, u217_117, u217_119, u217_120, u217_123, u217_126, u217_129, u217_130, u217_133, u217_134, u217_136, u217_138, u217_141, u217_142, u217_143, u217_144, u217_146, u217_148, u217_149, u217_152, u217_155, u217_157, u217_159, u217_162, u217_163, u217_166, u217_169, u217_170, u217_173, u217_174, u217_176, u217_179, u217_184, u217_187, u217_188, u217_189, u217_190, u217_191, u217_193, u217_194, u217_197, u217_200, u217_202, u217_204, u217_207, u217_210, u217_211, u217_213, u217_215, u217_218, u217_220, h8, n10, c1, e54, hb d, c2, hbh d, c3, mj_T_47, mj_cc_v, mj_cc_n, List.all_cons, List.all_nil, mj_noMk_int, mj_noMk_long, mj_noMk_ref, mj_noMk_junk, List.length_nil, List.length_cons, Nat.zero_le, Nat.reduceLeDiff, Nat.reduceAdd, Bool.and_true, Bool.true_and, Bool.and_self, Nat.reduceBNe, true_or, or_true, true_and, and_true, mj_z0, mj_z1, mj_z01, decide_true, decide_false, Bool.true_and, Bool.false_and, Bool.and_true, Bool.and_false, Bool.true_or, Bool.false_or, Bool.or_false, Bool.or_true, Bool.not_true, Bool.not_false, Bool.and_self, Bool.or_self, if_true, if_false, Bool.true_eq_false, Bool.false_eq_true, not_true, not_false_eq_true, nI_1]
            refine u217_89.mpr ?_
            by_cases c8 : nI (k + 1) < 8
            · simp only [u217_0, u217_2, u217_5, u217_6, u217_7, u217_8, u217_9, u217_10, u217_11, u217_12, u217_14, u217_15, u217_17, u217_20, u217_23, u217_24, u217_27, u217_28, u217_30, u217_33, u217_34, u217_35, u217_36, u217_37, u217_38, u217_39, u217_40, u217_43, u217_46, u217_48, u217_49, u217_51, u217_52, u217_56, u217_58, u217_61, u217_63, u217_64, u217_67, u217_69, u217_71, u217_72, u217_73, u217_74, u217_77, u217_80, u217_81, u217_83, u217_84, u217_86, u217_87, u217_91, u217_93, u217_96, u217_98, u217_101, u217_103, u217_105, u217_106, u217_107, u217_110, u217_113, u217_114, u217_116, u217_117, u217_119, u217_120, u217_123, u217_126, u217_129, u217_130, u217_133, u217_134, u217_136, u217_138, u217_141, u217_142, u217_143, u217_144, u217_146, u217_148, u217_149, u217_152, u217_155, u217_157, u217_159, u217_162, u217_163, u217_166, u217_169, u217_170, u217_173, u217_174, u217_176, u217_179, u217_184, u217_187, u217_188, u217_189, u217_190, u217_191, u217_193, u217_194, u217_197, u217_200, u217_202, u217_204, u217_207, u217_210, u217_211, u217_213, u217_215, u217_218, u217_220, c8, mj_cc_v, mj_cc_n, List.all_cons, List.all_nil, mj_noMk_int, mj_noMk_long, mj_noMk_ref, mj_noMk_junk, List.length_nil, List.length_cons, Nat.zero_le, Nat.reduceLeDiff, Nat.reduceAdd, Bool.and_true, Bool.true_and, Bool.and_self, Nat.reduceBNe, true_or, or_true, true_and, and_true, mj_z0, mj_z1, mj_z01, decide_true, decide_false, Bool.true_and, Bool.false_and, Bool.and_true, Bool.and_false, Bool.true_or, Bool.false_or, Bool.or_false, Bool.or_true, Bool.not_true, Bool.not_false, Bool.and_self, Bool.or_self, if_true, if_false, Bool.true_eq_false, Bool.false_eq_true, not_true, not_false_eq_true]
              exact hh
            · simp only [u217_0, u217_2, u217_5, u217_6, u217_7, u217_8, u217_9, u217_10, u217_11, u217_12, u217_14, u217_15, u217_17, u217_20, u217_23, u217_24, u217_27, u217_28, u217_30, u217_33, u217_34, u217_35, u217_36, u217_37, u217_38, u217_39, u217_40, u217_43, u217_46, u217_48, u217_49, u217_51, u217_52, u217_56, u217_58, u217_61, u217_63, u217_64, u217_67, u217_69, u217_71, u217_72, u217_73, u217_74, u217_77, u217_80, u217_81, u217_83, u217_84, u217_86, u217_87, u217_91, u217_93, u217_96, u217_98, u217_101, u217_103, u217_105, u217_106, u217_107, u217_110, u217_113, u217_114, u217_116, u217_117, u217_119, u217_120, u217_123, u217_126, u217_129, u217_130, u217_133, u217_134, u217_136, u217_138, u217_141, u217_142, u217_143, u217_144, u217_146, u217_148, u217_149, u217_152, u217_155, u217_157, u217_159, u217_162, u217_163, u217_166, u217_169, u217_170, u217_173, u217_174, u217_176, u217_179, u217_184, u217_187, u217_188, u217_189, u217_190, u217_191, u217_193, u217_194, u217_197, u217_200, u217_202, u217_204, u217_207, u217_210, u217_211, u217_213, u217_215, u217_218, u217_220, c8, mj_cc_v, mj_cc_n, List.all_cons, List.all_nil, mj_noMk_int, mj_noMk_long, mj_noMk_ref, mj_noMk_junk, List.length_nil, List.length_cons, Nat.zero_le, Nat.reduceLeDiff, Nat.reduceAdd, Bool.and_true, Bool.true_and, Bool.and_self, Nat.reduceBNe, true_or, or_true, true_and, and_true, mj_z0, mj_z1, mj_z01, decide_true, decide_false, Bool.true_and, Bool.false_and, Bool.and_true, Bool.and_false, Bool.true_or, Bool.false_or, Bool.or_false, Bool.or_true, Bool.not_true, Bool.not_false, Bool.and_self, Bool.or_self, if_true, if_false, Bool.true_eq_false, Bool.false_eq_true, not_true, not_false_eq_true]
              exact hh
      · have eo : mj_bo1 σ (nI (11 - r)) (σ.1 61 54) N l s k = false := by
          unfold mj_bo1
          rw [decide_eq_false c2, Bool.false_and]
        refine ⟨τ, y, nI (k + 1), F, T, ?_, fun d R hh => ?_⟩
        · intro hc
          simp [c1, eo] at hc
        · refine u217_89.mpr ?_
          simp only [c1, eo, decide_true, decide_false, Bool.true_and, Bool.false_and, Bool.and_true, Bool.and_false, Bool.true_or, Bool.false_or, Bool.or_false, Bool.or_true, Bool.not_true, Bool.not_false, Bool.and_self, Bool.or_self, if_true, if_false, Bool.true_eq_false, Bool.false_eq_true, not_true, not_false_eq_true, mj_zF] at hh
          simp only [u217_0, u217_2, u217_5, u217_6, u217_7, u217_8, u217_9, u217_10, u217_11, u217_12, u217_14, u217_15, u217_17, u217_20, u217_23, u217_24, u217_27, u217_28, u217_30, u217_33, u217_34, u217_35, u217_36, u217_37, u217_38, u217_39, u217_40, u217_43, u217_46, u217_48, u217_49, u217_51, u217_52, u217_56, u217_58, u217_61, u217_63, u217_64, u217_67, u217_69, u217_71, u217_72, u217_73, u217_74, u217_77, u217_80, u217_81, u217_83, u217_84, u217_86, u217_87, u217_91, u217_93, u217_96, u217_98, u217_101, u217_103, u217_105, u217_106, u217_107, u217_110, u217_113, u217_114, u217_116, u217_117, u217_119, u217_120, u217_123, u217_126, u217_129, u217_130, u217_133, u217_134, u217_136, u217_138, u217_141, u217_142, u217_143, u217_144, u217_146, u217_148, u217_149, u217_152, u217_155, u217_157, u217_159, u217_162, u217_163, u217_166, u217_169, u217_170, u217_173, u217_174, u217_176, u217_179, u217_184, u217_187, u217_188, u217_189, u217_190, u217_191, u217_193, u217_194, u217_197, u217_200, u217_202, u217_204, u217_207, u217_210, u217_211, u217_213, u217_215, u217_218, u217_220, h8, n10, c1, e54, hb d, c2, mj_cc_v, mj_cc_n, List.all_cons, List.all_nil, mj_noMk_int, mj_noMk_long, mj_noMk_ref, mj_noMk_junk, List.length_nil, List.length_cons, Nat.zero_le, Nat.reduceLeDiff, Nat.reduceAdd, Bool.and_true, Bool.true_and, Bool.and_self, Nat.reduceBNe, true_or, or_true, true_and, and_true, mj_z0, mj_z1, mj_z01, decide_true, decide_false, Bool.true_and, Bool.false_and, Bool.and_true, Bool.and_false, Bool.true_or, Bool.false_or, Bool.or_false, Bool.or_true, Bool.not_true, Bool.not_false, Bool.and_self, Bool.or_self, if_true, if_false, Bool.true_eq_false, Bool.false_eq_true, not_true, not_false_eq_true, nI_1]
          refine u217_89.mpr ?_
          by_cases c8 : nI (k + 1) < 8
          · simp only [u217_0, u217_2, u217_5, u217_6, u217_7, u217_8, u217_9, u217_10, u217_11, u217_12, u217_14, u217_15, u217_17, u217_20, u217_23, u217_24, u217_27, u217_28, u217_30, u217_33, u217_34, u217_35, u217_36, u217_37, u217_38, u217_39, u217_40, u217_43, u217_46, u217_48, u217_49, u217_51, u217_52, u217_56, u217_58, u217_61, u217_63, u217_64, u217_67, u217_69, u217_71, u217_72, u217_73, u217_74, u217_77, u217_80, u217_81, u217_83, u217_84, u217_86, u217_87, u217_91, u217_93, u217_96, u217_98, u217_101, u217_103, u217_105, u217_106, u217_107, u217_110, u217_113, u217_114, u217_116, u217_117, u217_119, u217_120, u217_123, u217_126, u217_129, u217_130, u217_133, u217_134, u217_136, u217_138, u217_141, u217_142, u217_143, u217_144, u217_146, u217_148, u217_149, u217_152, u217_155, u217_157, u217_159, u217_162, u217_163, u217_166, u217_169, u217_170, u217_173, u217_174, u217_176, u217_179, u217_184, u217_187, u217_188, u217_189, u217_190, u217_191, u217_193, u217_194, u217_197, u217_200, u217_202, u217_204, u217_207, u217_210, u217_211, u217_213, u217_215, u217_218, u217_220, c8, mj_cc_v, mj_cc_n, List.all_cons, List.all_nil, mj_noMk_int, mj_noMk_long, mj_noMk_ref, mj_noMk_junk, List.length_nil, List.length_cons, Nat.zero_le, Nat.reduceLeDiff, Nat.reduceAdd, Bool.and_true, Bool.true_and, Bool.and_self, Nat.reduceBNe, true_or, or_true, true_and, and_true, mj_z0, mj_z1, mj_z01, decide_true, decide_false, Bool.true_and, Bool.false_and, Bool.and_true, Bool.and_false, Bool.true_or, Bool.false_or, Bool.or_false, Bool.or_true, Bool.not_true, Bool.not_false, Bool.and_self, Bool.or_self, if_true, if_false, Bool.true_eq_false, Bool.false_eq_true, not_true, not_false_eq_true]
            exact hh
          · simp only [u217_0, u217_2, u217_5, u217_6, u217_7, u217_8, u217_9, u217_10, u217_11, u217_12, u217_14, u217_15, u217_17, u217_20, u217_23, u217_24, u217_27, u217_28, u217_30, u217_33, u217_34, u217_35, u217_36, u217_37, u217_38, u217_39, u217_40, u217_43, u217_46, u217_48, u217_49, u217_51, u217_52, u217_56, u217_58, u217_61, u217_63, u217_64, u217_67, u217_69, u217_71, u217_72, u217_73, u217_74, u217_77, u217_80, u217_81, u217_83, u217_84, u217_86, u217_87, u217_91, u217_93, u217_96, u217_98, u217_101, u217_103, u217_105, u217_106, u217_107, u217_110, u217_113, u217_114, u217_116, u217_117, u217_119, u217_120, u217_123, u217_126, u217_129, u217_130, u217_133, u217_134, u217_136, u217_138, u217_141, u217_142, u217_143, u217_144, u217_146, u217_148, u217_149, u217_152, u217_155, u217_157, u217_159, u217_162, u217_163, u217_166, u217_169, u217_170, u217_173, u217_174, u217_176, u217_179, u217_184, u217_187, u217_188, u217_189, u217_190, u217_191, u217_193, u217_194, u217_197, u217_200, u217_202, u217_204, u217_207, u217_210, u217_211, u217_213, u217_215, u217_218, u217_220, c8, mj_cc_v, mj_cc_n, List.all_cons, List.all_nil, mj_noMk_int, mj_noMk_long, mj_noMk_ref, mj_noMk_junk, List.length_nil, List.length_cons, Nat.zero_le, Nat.reduceLeDiff, Nat.reduceAdd, Bool.and_true, Bool.true_and, Bool.and_self, Nat.reduceBNe, true_or, or_true, true_and, and_true, mj_z0, mj_z1, mj_z01, decide_true, decide_false, Bool.true_and, Bool.false_and, Bool.and_true, Bool.and_false, Bool.true_or, Bool.false_or, Bool.or_false, Bool.or_true, Bool.not_true, Bool.not_false, Bool.and_self, Bool.or_self, if_true, if_false, Bool.true_eq_false, Bool.false_eq_true, not_true, not_false_eq_true]
            exact hh
    · obtain ⟨τ', y', z', F', T', hy', hq⟩ := ih (k + 1) τ y (by omega) F T (fun ⟨o, ho, hc⟩ => by
        by_cases e : o = k
        · subst e; exact absurd hc c1
        · exact hy ⟨o, by omega, hc⟩)
      refine ⟨τ', y', z', F', T', ?_, fun d R hh => ?_⟩
      · simp only [c1, decide_false, Bool.false_and, Bool.false_or]
        exact hy'
      · simp only [c1, decide_false, Bool.false_and, Bool.false_or] at hh
        have hf := hq d R hh
        refine u217_89.mpr ?_
        simp only [u217_0, u217_2, u217_5, u217_6, u217_7, u217_8, u217_9, u217_10, u217_11, u217_12, u217_14, u217_15, u217_17, u217_20, u217_23, u217_24, u217_27, u217_28, u217_30, u217_33, u217_34, u217_35, u217_36, u217_37, u217_38, u217_39, u217_40, u217_43, u217_46, u217_48, u217_49, u217_51, u217_52, u217_56, u217_58, u217_61, u217_63, u217_64, u217_67, u217_69, u217_71, u217_72, u217_73, u217_74, u217_77, u217_80, u217_81, u217_83, u217_84, u217_86, u217_87, u217_91, u217_93, u217_96, u217_98, u217_101, u217_103, u217_105, u217_106, u217_107, u217_110, u217_113, u217_114, u217_116, u217_117, u217_119, u217_120, u217_123, u217_126, u217_129, u217_130, u217_133, u217_134, u217_136, u217_138, u217_141, u217_142, u217_143, u217_144, u217_146, u217_148, u217_149, u217_152, u217_155, u217_157, u217_159, u217_162, u217_163, u217_166, u217_169, u217_170, u217_173, u217_174, u217_176, u217_179, u217_184, u217_187, u217_188, u217_189, u217_190, u217_191, u217_193, u217_194, u217_197, u217_200, u217_202, u217_204, u217_207, u217_210, u217_211, u217_213, u217_215, u217_218, u217_220, h8, n10, c1, mj_cc_v, mj_cc_n, List.all_cons, List.all_nil, mj_noMk_int, mj_noMk_long, mj_noMk_ref, mj_noMk_junk, List.length_nil, List.length_cons, Nat.zero_le, Nat.reduceLeDiff, Nat.reduceAdd, Bool.and_true, Bool.true_and, Bool.and_self, Nat.reduceBNe, true_or, or_true, true_and, and_true, mj_z0, mj_z1, mj_z01, decide_true, decide_false, Bool.true_and, Bool.false_and, Bool.and_true, Bool.and_false, Bool.true_or, Bool.false_or, Bool.or_false, Bool.or_true, Bool.not_true, Bool.not_false, Bool.and_self, Bool.or_self, if_true, if_false, Bool.true_eq_false, Bool.false_eq_true, not_true, not_false_eq_true, nI_1]
        exact hf
end
