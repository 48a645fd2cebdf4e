section
variable {X : mj_X} {d : Nat} {σ : mj_St}
def mj_oset (σ : mj_St) (h code o mt : Int32) (n : Nat) : Int32 := mj_it (fun i u => if mj_Mopn σ h code o mt i = true then u ||| 1 <<< (nI i &&& 31) else u) 0 n
theorem sp_M_openSet {N : Nat} {h code o mt : Int32} (hN : σ.1 61 0 = nI N) (h9 : N ≤ 9) (hP : mj_Pw σ) (hok : ∀ k, k < N → mj_Mok σ k) : mj_ev X (d + 3) 203 [.ref 61, .int h, .int code, .int o, .int mt] σ = some (some (.int (mj_oset σ h code o mt N)), σ) := by
  refine st203 ?_
  simp only [u203_0, u203_1, u203_3, u203_4, u203_8, u203_9, u203_12, u203_15, u203_16, u203_18, u203_19, u203_20, u203_21, u203_23, u203_26, u203_29, u203_31, u203_32, u203_34, u203_35, u203_36, u203_38, u203_41, u203_44, u203_46]
  exact mj_count (X := X) (call := mj_ev X (d + 2)) (oc := 6) (ret := (some .int)) (cc := prog_8_method_43_code) (N := N) (S := fun k => (6, [.ref 61, .int h, .int code, .int o, .int mt, .int (mj_oset σ h code o mt k), .int (nI k)], [], σ)) (fun k hk hr => by
      refine u203_6.mpr ?_
      have h1 : nI k < σ.1 61 0 := by rw [hN]; exact nI_lt hk (by omega)
      simp only [u203_0, u203_1, u203_3, u203_4, u203_8, u203_9, u203_12, u203_15, u203_16, u203_18, u203_19, u203_20, u203_21, u203_23, u203_26, u203_29, u203_31, u203_32, u203_34, u203_35, u203_36, u203_38, u203_41, u203_44, u203_46, h1, if_true, sp_M_isOpen (show k < 9 by omega) hP (hok k hk), mj_cc_v, mj_cc_n, List.all_cons, List.all_nil, mj_noMk_int, mj_noMk_long, mj_noMk_ref, mj_noMk_junk, List.length_nil, List.length_cons, Nat.zero_le, Nat.reduceLeDiff, Nat.reduceAdd, Bool.and_true, Bool.true_and, Bool.and_self, Nat.reduceBNe, true_or, or_true, true_and, and_true, mj_z0, mj_z1, mj_z01, nI_1]
      simp only [mj_oset, mj_it] at hr ⊢
      cases hb : mj_Mopn σ h code o mt k
      · simp only [hb, decide_true, decide_false, Bool.true_and, Bool.false_and, Bool.and_true, Bool.and_false, Bool.true_or, Bool.false_or, Bool.or_false, Bool.or_true, Bool.not_true, Bool.not_false, Bool.and_self, Bool.or_self, if_true, if_false, Bool.true_eq_false, Bool.false_eq_true, not_true, not_false_eq_true] at hr ⊢
        exact hr
      · simp only [hb, decide_true, decide_false, Bool.true_and, Bool.false_and, Bool.and_true, Bool.and_false, Bool.true_or, Bool.false_or, Bool.or_false, Bool.or_true, Bool.not_true, Bool.not_false, Bool.and_self, Bool.or_self, if_true, if_false, Bool.true_eq_false, Bool.false_eq_true, not_true, not_false_eq_true] at hr ⊢
        exact hr) (by
      refine u203_6.mpr ?_
      have h1 : ¬ nI N < σ.1 61 0 := by rw [hN]; exact nI_nlt (Nat.le_refl _) (by omega)
      simp only [u203_0, u203_1, u203_3, u203_4, u203_8, u203_9, u203_12, u203_15, u203_16, u203_18, u203_19, u203_20, u203_21, u203_23, u203_26, u203_29, u203_31, u203_32, u203_34, u203_35, u203_36, u203_38, u203_41, u203_44, u203_46, h1, if_false]) 0 (Nat.zero_le _)
def mj_cnt (set : Int32) (n : Nat) : Int32 := mj_it (fun i c => c + mj_z (mj_b set i)) 0 n
theorem sp_M_many {B : Nat} {set : Int32} (hB : B < 32) : mj_ev X (d + 1) 208 [.ref 61, .int set, .int (nI B)] σ = some (some (.int (mj_cnt set B)), σ) := by
  refine st208 ?_
  simp only [u208_0, u208_1, u208_2, u208_3, u208_7, u208_8, u208_11, u208_12, u208_13, u208_15, u208_16, u208_17, u208_18, u208_19, u208_20, u208_23, u208_26, u208_27]
  exact mj_count (X := X) (call := mj_ev X d) (oc := 6) (ret := (some .int)) (cc := prog_8_method_44_code) (N := B) (S := fun k => (5, [.ref 61, .int set, .int (nI B), .int (mj_cnt set k), .int (nI k)], [], σ)) (fun k hk hr => by
      refine u208_5.mpr ?_
      simp only [u208_0, u208_1, u208_2, u208_3, u208_7, u208_8, u208_11, u208_12, u208_13, u208_15, u208_16, u208_17, u208_18, u208_19, u208_20, u208_23, u208_26, u208_27, nI_lt hk (show B < 2 ^ 31 by omega), if_true, nI_1, mj_bt (show k < 32 by omega)]
      exact hr) (by
      refine u208_5.mpr ?_
      simp only [u208_0, u208_1, u208_2, u208_3, u208_7, u208_8, u208_11, u208_12, u208_13, u208_15, u208_16, u208_17, u208_18, u208_19, u208_20, u208_23, u208_26, u208_27, nI_nlt (Nat.le_refl B) (show B < 2 ^ 31 by omega), if_false]) 0 (Nat.zero_le _)
def mj_bar (σ : mj_St) (h o mt : Int32) (k : Nat) : Bool := mj_b mt k && (decide (4 < σ.1 65 k) && (mj_ask (σ.1 70 k) (σ.1 71 k) o && mj_cov (σ.1 66 k) (σ.1 67 k) h))
theorem sp_M_isBarring {k : Nat} {h o mt : Int32} (hk : k < 9) : mj_ev X (d + 2) 209 [.ref 61, .int (nI k), .int h, .int o, .int mt] σ = some (some (.int (mj_z (mj_bar σ h o mt k))), σ) := by
  refine st209 ?_
  simp only [u209_0, u209_1, u209_3, u209_4, u209_7, u209_10, u209_11, u209_14, u209_15, u209_16, u209_17, u209_20, u209_21, u209_22, u209_23, u209_26, u209_29, u209_30, u209_31, u209_34, u209_35, u209_36, u209_39, u209_40, u209_41, u209_44, u209_45, u209_46, u209_49, u209_50, u209_53, u209_54, sp_M_isIn (show k < 32 by omega), sp_M_isAsked hk, mj_in_nI hk (by decide), mj_nz9 hk (by decide), mj_cc_v, mj_cc_n, List.all_cons, List.all_nil, mj_noMk_int, mj_noMk_long, mj_noMk_ref, mj_noMk_junk, List.length_nil, List.length_cons, Nat.zero_le, Nat.reduceLeDiff, Nat.reduceAdd, Bool.and_true, Bool.true_and, Bool.and_self, Nat.reduceBNe, true_or, or_true, true_and, and_true, mj_z0, mj_z1, mj_z01]
  unfold mj_bar mj_cov
  cases c1 : mj_b mt k
  · simp [mj_z]
  · by_cases c2 : 4 < σ.1 65 k
    · cases c3 : mj_ask (σ.1 70 k) (σ.1 71 k) o
      · simp [c2, mj_z]
      · by_cases c4 : h < σ.1 66 k
        · simp [c2, c4, mj_z]
        · by_cases c5 : σ.1 67 k < h <;> simp [c2, c4, c5, mj_z]
    · simp [c2, mj_z]
/-- the things of a set one after the other; none: one of them twice -/
def mj_tl (th : Nat → Int32) (set : Int32) : Nat → Nat → Int32 → Option Int32
  | _, 0, t => some t
  | k, j + 1, t => if mj_b set k = true ∧ ¬ th k = -1 then (if mj_b t (th k).toNatClampNeg = true then none else mj_tl th set (k + 1) j (t ||| 1 <<< (th k &&& 31))) else mj_tl th set (k + 1) j t
def mj_Mbars (σ : mj_St) (set h o mt : Int32) (N : Nat) : Int32 := if set = 0 then 0 else if σ.1 63 h.toNatClampNeg < mj_cnt set 9 then 2 else match mj_tl (σ.1 68) set 0 N 0 with
  | none => 3
  | some t => if mj_anyF (fun j => decide (σ.1 65 j = 6) && mj_bar σ h o mt j) 0 N = true then 4 else if mj_anyF (fun j => decide (σ.1 65 j = 5) && (mj_bar σ h o mt j && mj_b t (σ.1 68 j).toNatClampNeg)) 0 N = true then 5 else 0
theorem sp_M_bars {N : Nat} {set h o mt : Int32} (hN : σ.1 61 0 = nI N) (h9 : N ≤ 9) (hok : ∀ k, k < N → mj_Mok σ k) (hth : ∀ k, k < N → σ.1 65 k = 5 → mj_inb (σ.1 68 k) 4 = true) (hh : mj_inb h 12 = true) : mj_ev X (d + 3) 207 [.ref 61, .int set, .int h, .int o, .int mt] σ = some (some (.int (mj_Mbars σ set h o mt N)), σ) := by
  refine st207 ?_
  have L146 : ∀ (t : Int32) (j k : Nat), k + j = N → mj_Runs X (mj_ev X (d + 2)) 6 (some .int) prog_8_method_46_code (146, [.ref 61, .int set, .int h, .int o, .int mt, .int t, .int (nI k)], [], σ) (some (.int (if mj_anyF (fun j => decide (σ.1 65 j = 5) && (mj_bar σ h o mt j && mj_b t (σ.1 68 j).toNatClampNeg)) k j = true then 5 else 0)), σ) := by
    intro t j
    induction j with
    | zero =>
      intro k hk
      have hkN : k = N := by omega
      subst hkN
      refine u207_146.mpr ?_
      simp only [u207_0, u207_1, u207_4, u207_5, u207_6, u207_7, u207_8, u207_10, u207_13, u207_14, u207_17, u207_18, u207_19, u207_22, u207_23, u207_24, u207_25, u207_27, u207_28, u207_30, u207_32, u207_33, u207_36, u207_39, u207_40, u207_41, u207_43, u207_46, u207_49, u207_50, u207_53, u207_55, u207_56, u207_57, u207_60, u207_61, u207_63, u207_64, u207_67, u207_69, u207_70, u207_73, u207_76, u207_77, u207_78, u207_80, u207_81, u207_82, u207_85, u207_87, u207_88, u207_89, u207_90, u207_92, u207_95, u207_98, u207_99, u207_101, u207_103, u207_104, u207_107, u207_110, u207_111, u207_114, u207_116, u207_117, u207_119, u207_122, u207_123, u207_125, u207_126, u207_127, u207_129, u207_132, u207_135, u207_136, u207_137, u207_140, u207_143, u207_144, u207_148, u207_149, u207_152, u207_155, u207_156, u207_159, u207_161, u207_162, u207_163, u207_166, u207_167, u207_169, u207_170, u207_171, u207_173, u207_176, u207_179, u207_180, u207_182, u207_183, u207_186, u207_188, u207_189, u207_192, u207_195, u207_196, u207_197, u207_200, u207_203, u207_204, hN, nI_nlt (Nat.le_refl k) (show k < 2 ^ 31 by omega), if_false]
      simp [mj_anyF]
    | succ j ih =>
      intro k hk
      have hr := ih (k + 1) (by omega)
      have hlt : nI k < σ.1 61 0 := by rw [hN]; exact nI_lt (by omega) (by omega)
      refine u207_146.mpr ?_
      simp only [mj_anyF]
      by_cases c1 : σ.1 65 k = 5
      · have h68 := hth k (by omega) c1
        have hin := sp_M_isIn (X := X) (d := d + 1) (σ := σ) (m := t) (show (σ.1 68 k).toNatClampNeg < 32 by have := mj_in_lt h68; omega)
        rw [← mj_in_eq h68 (by decide)] at hin
        simp only [u207_0, u207_1, u207_4, u207_5, u207_6, u207_7, u207_8, u207_10, u207_13, u207_14, u207_17, u207_18, u207_19, u207_22, u207_23, u207_24, u207_25, u207_27, u207_28, u207_30, u207_32, u207_33, u207_36, u207_39, u207_40, u207_41, u207_43, u207_46, u207_49, u207_50, u207_53, u207_55, u207_56, u207_57, u207_60, u207_61, u207_63, u207_64, u207_67, u207_69, u207_70, u207_73, u207_76, u207_77, u207_78, u207_80, u207_81, u207_82, u207_85, u207_87, u207_88, u207_89, u207_90, u207_92, u207_95, u207_98, u207_99, u207_101, u207_103, u207_104, u207_107, u207_110, u207_111, u207_114, u207_116, u207_117, u207_119, u207_122, u207_123, u207_125, u207_126, u207_127, u207_129, u207_132, u207_135, u207_136, u207_137, u207_140, u207_143, u207_144, u207_148, u207_149, u207_152, u207_155, u207_156, u207_159, u207_161, u207_162, u207_163, u207_166, u207_167, u207_169, u207_170, u207_171, u207_173, u207_176, u207_179, u207_180, u207_182, u207_183, u207_186, u207_188, u207_189, u207_192, u207_195, u207_196, u207_197, u207_200, u207_203, u207_204, hlt, if_true, c1, sp_M_isBarring (show k < 9 by omega), hin, mj_in_nI (show k < 9 by omega) (by decide), mj_nz9 (show k < 9 by omega) (by decide), mj_cc_v, mj_cc_n, List.all_cons, List.all_nil, mj_noMk_int, mj_noMk_long, mj_noMk_ref, mj_noMk_junk, List.length_nil, List.length_cons, Nat.zero_le, Nat.reduceLeDiff, Nat.reduceAdd, Bool.and_true, Bool.true_and, Bool.and_self, Nat.reduceBNe, true_or, or_true, true_and, and_true, mj_z0, mj_z1, mj_z01, nI_1]
        cases c2 : mj_bar σ h o mt k
        · simp only [c1, c2, decide_true, decide_false, Bool.true_and, Bool.false_and, Bool.and_true, Bool.and_false, Bool.true_or, Bool.false_or, Bool.or_false, Bool.or_true, Bool.not_true, Bool.not_false, Bool.and_self, Bool.or_self, if_true, if_false, Bool.true_eq_false, Bool.false_eq_true, not_true, not_false_eq_true] at hr ⊢
          exact hr
        · cases c3 : mj_b t (σ.1 68 k).toNatClampNeg
          · simp only [c1, c2, c3, decide_true, decide_false, Bool.true_and, Bool.false_and, Bool.and_true, Bool.and_false, Bool.true_or, Bool.false_or, Bool.or_false, Bool.or_true, Bool.not_true, Bool.not_false, Bool.and_self, Bool.or_self, if_true, if_false, Bool.true_eq_false, Bool.false_eq_true, not_true, not_false_eq_true] at hr ⊢
            exact hr
          · simp
      · simp only [u207_0, u207_1, u207_4, u207_5, u207_6, u207_7, u207_8, u207_10, u207_13, u207_14, u207_17, u207_18, u207_19, u207_22, u207_23, u207_24, u207_25, u207_27, u207_28, u207_30, u207_32, u207_33, u207_36, u207_39, u207_40, u207_41, u207_43, u207_46, u207_49, u207_50, u207_53, u207_55, u207_56, u207_57, u207_60, u207_61, u207_63, u207_64, u207_67, u207_69, u207_70, u207_73, u207_76, u207_77, u207_78, u207_80, u207_81, u207_82, u207_85, u207_87, u207_88, u207_89, u207_90, u207_92, u207_95, u207_98, u207_99, u207_101, u207_103, u207_104, u207_107, u207_110, u207_111, u207_114, u207_116, u207_117, u207_119, u207_122, u207_123, u207_125, u207_126, u207_127, u207_129, u207_132, u207_135, u207_136, u207_137, u207_140, u207_143, u207_144, u207_148, u207_149, u207_152, u207_155, u207_156, u207_159, u207_161, u207_162, u207_163, u207_166, u207_167, u207_169, u207_170, u207_171, u207_173, u207_176, u207_179, u207_180, u207_182, u207_183, u207_186, u207_188, u207_189, u207_192, u207_195, u207_196, u207_197, u207_200, u207_203, u207_204, hlt, if_true, c1, mj_in_nI (show k < 9 by omega) (by decide), mj_nz9 (show k < 9 by omega) (by decide), mj_cc_v, mj_cc_n, List.all_cons, List.all_nil, mj_noMk_int, mj_noMk_long, mj_noMk_ref, mj_noMk_junk, List.length_nil, List.length_cons, Nat.zero_le, Nat.reduceLeDiff, Nat.reduceAdd, Bool.and_true, Bool.true_and, Bool.and_self, Nat.reduceBNe, true_or, or_true, true_and, and_true, mj_z0, mj_z1, mj_z01, decide_true, decide_false, Bool.true_and, Bool.false_and, Bool.and_true, Bool.and_false, Bool.true_or, Bool.false_or, Bool.or_false, Bool.or_true, Bool.not_true, Bool.not_false, Bool.and_self, Bool.or_self, if_true, if_false, Bool.true_eq_false, Bool.false_eq_true, not_true, not_false_eq_true, nI_1]
        exact hr
  have L101 : ∀ (t : Int32) (j k : Nat), k + j = N → mj_Runs X (mj_ev X (d + 2)) 6 (some .int) prog_8_method_46_code (101, [.ref 61, .int set, .int h, .int o, .int mt, .int t, .int (nI k)], [], σ) (some (.int (if mj_anyF (fun j => decide (σ.1 65 j = 6) && mj_bar σ h o mt j) k j = true then 4 else if mj_anyF (fun j => decide (σ.1 65 j = 5) && (mj_bar σ h o mt j && mj_b t (σ.1 68 j).toNatClampNeg)) 0 N = true then 5 else 0)), σ) := by
    intro t j
    induction j with
    | zero =>
      intro k hk
      have hkN : k = N := by omega
      subst hkN
      refine u207_101.mpr ?_
      simp only [u207_0, u207_1, u207_4, u207_5, u207_6, u207_7, u207_8, u207_10, u207_13, u207_14, u207_17, u207_18, u207_19, u207_22, u207_23, u207_24, u207_25, u207_27, u207_28, u207_30, u207_32, u207_33, u207_36, u207_39, u207_40, u207_41, u207_43, u207_46, u207_49, u207_50, u207_53, u207_55, u207_56, u207_57, u207_60, u207_61, u207_63, u207_64, u207_67, u207_69, u207_70, u207_73, u207_76, u207_77, u207_78, u207_80, u207_81, u207_82, u207_85, u207_87, u207_88, u207_89, u207_90, u207_92, u207_95, u207_98, u207_99, u207_103, u207_104, u207_107, u207_110, u207_111, u207_114, u207_116, u207_117, u207_119, u207_122, u207_123, u207_125, u207_126, u207_127, u207_129, u207_132, u207_135, u207_136, u207_137, u207_140, u207_143, u207_144, u207_148, u207_149, u207_152, u207_155, u207_156, u207_159, u207_161, u207_162, u207_163, u207_166, u207_167, u207_169, u207_170, u207_171, u207_173, u207_176, u207_179, u207_180, u207_182, u207_183, u207_186, u207_188, u207_189, u207_192, u207_195, u207_196, u207_197, u207_200, u207_203, u207_204, hN, nI_nlt (Nat.le_refl k) (show k < 2 ^ 31 by omega), if_false, mj_anyF, decide_true, decide_false, Bool.true_and, Bool.false_and, Bool.and_true, Bool.and_false, Bool.true_or, Bool.false_or, Bool.or_false, Bool.or_true, Bool.not_true, Bool.not_false, Bool.and_self, Bool.or_self, if_true, if_false, Bool.true_eq_false, Bool.false_eq_true, not_true, not_false_eq_true]
      exact L146 t k 0 (by omega)
    | succ j ih =>
      intro k hk
      have hr := ih (k + 1) (by omega)
      have hlt : nI k < σ.1 61 0 := by rw [hN]; exact nI_lt (by omega) (by omega)
      refine u207_101.mpr ?_
      simp only [mj_anyF]
      by_cases c1 : σ.1 65 k = 6
      · simp only [u207_0, u207_1, u207_4, u207_5, u207_6, u207_7, u207_8, u207_10, u207_13, u207_14, u207_17, u207_18, u207_19, u207_22, u207_23, u207_24, u207_25, u207_27, u207_28, u207_30, u207_32, u207_33, u207_36, u207_39, u207_40, u207_41, u207_43, u207_46, u207_49, u207_50, u207_53, u207_55, u207_56, u207_57, u207_60, u207_61, u207_63, u207_64, u207_67, u207_69, u207_70, u207_73, u207_76, u207_77, u207_78, u207_80, u207_81, u207_82, u207_85, u207_87, u207_88, u207_89, u207_90, u207_92, u207_95, u207_98, u207_99, u207_103, u207_104, u207_107, u207_110, u207_111, u207_114, u207_116, u207_117, u207_119, u207_122, u207_123, u207_125, u207_126, u207_127, u207_129, u207_132, u207_135, u207_136, u207_137, u207_140, u207_143, u207_144, u207_148, u207_149, u207_152, u207_155, u207_156, u207_159, u207_161, u207_162, u207_163, u207_166, u207_167, u207_169, u207_170, u207_171, u207_173, u207_176, u207_179, u207_180, u207_182, u207_183, u207_186, u207_188, u207_189, u207_192, u207_195, u207_196, u207_197, u207_200, u207_203, u207_204, hlt, c1, if_true, sp_M_isBarring (show k < 9 by omega), mj_in_nI (show k < 9 by omega) (by decide), mj_nz9 (show k < 9 by omega) (by decide), mj_cc_v, mj_cc_n, List.all_cons, List.all_nil, mj_noMk_int, mj_noMk_long, mj_noMk_ref, mj_noMk_junk, List.length_nil, List.length_cons, Nat.zero_le, Nat.reduceLeDiff, Nat.reduceAdd, Bool.and_true, Bool.true_and, Bool.and_self, Nat.reduceBNe, true_or, or_true, true_and, and_true, mj_z0, mj_z1, mj_z01, nI_1]
        cases c2 : mj_bar σ h o mt k
        · simp only [c1, c2, decide_true, decide_false, Bool.true_and, Bool.false_and, Bool.and_true, Bool.and_false, Bool.true_or, Bool.false_or, Bool.or_false, Bool.or_true, Bool.not_true, Bool.not_false, Bool.and_self, Bool.or_self, if_true, if_false, Bool.true_eq_false, Bool.false_eq_true, not_true, not_false_eq_true] at hr ⊢
          exact hr
        · simp
      · simp only [u207_0, u207_1, u207_4, u207_5, u207_6, u207_7, u207_8, u207_10, u207_13, u207_14, u207_17, u207_18, u207_19, u207_22, u207_23, u207_24, u207_25, u207_27, u207_28, u207_30, u207_32, u207_33, u207_36, u207_39, u207_40, u207_41, u207_43, u207_46, u207_49, u207_50, u207_53, u207_55, u207_56, u207_57, u207_60, u207_61, u207_63, u207_64, u207_67, u207_69, u207_70, u207_73, u207_76, u207_77, u207_78, u207_80, u207_81, u207_82, u207_85, u207_87, u207_88, u207_89, u207_90, u207_92, u207_95, u207_98, u207_99, u207_103, u207_104, u207_107, u207_110, u207_111, u207_114, u207_116, u207_117, u207_119, u207_122, u207_123, u207_125, u207_126, u207_127, u207_129, u207_132, u207_135, u207_136, u207_137, u207_140, u207_143, u207_144, u207_148, u207_149, u207_152, u207_155, u207_156, u207_159, u207_161, u207_162, u207_163, u207_166, u207_167, u207_169, u207_170, u207_171, u207_173, u207_176, u207_179, u207_180, u207_182, u207_183, u207_186, u207_188, u207_189, u207_192, u207_195, u207_196, u207_197, u207_200, u207_203, u207_204, hlt, if_true, c1, mj_in_nI (show k < 9 by omega) (by decide), mj_nz9 (show k < 9 by omega) (by decide), mj_cc_v, mj_cc_n, List.all_cons, List.all_nil, mj_noMk_int, mj_noMk_long, mj_noMk_ref, mj_noMk_junk, List.length_nil, List.length_cons, Nat.zero_le, Nat.reduceLeDiff, Nat.reduceAdd, Bool.and_true, Bool.true_and, Bool.and_self, Nat.reduceBNe, true_or, or_true, true_and, and_true, mj_z0, mj_z1, mj_z01, decide_true, decide_false, Bool.true_and, Bool.false_and, Bool.and_true, Bool.and_false, Bool.true_or, Bool.false_or, Bool.or_false, Bool.or_true, Bool.not_true, Bool.not_false, Bool.and_self, Bool.or_self, if_true, if_false, Bool.true_eq_false, Bool.false_eq_true, not_true, not_false_eq_true, nI_1]
        exact hr
  have L30 : ∀ (j k : Nat) (t : Int32), k + j = N → mj_Runs X (mj_ev X (d + 2)) 6 (some .int) prog_8_method_46_code (30, [.ref 61, .int set, .int h, .int o, .int mt, .int t, .int (nI k)], [], σ) (some (.int (match mj_tl (σ.1 68) set k j t with
      | none => 3
      | some t => if mj_anyF (fun j => decide (σ.1 65 j = 6) && mj_bar σ h o mt j) 0 N = true then 4 else if mj_anyF (fun j => decide (σ.1 65 j = 5) && (mj_bar σ h o mt j && mj_b t (σ.1 68 j).toNatClampNeg)) 0 N = true then 5 else 0)), σ) := by
    intro j
    induction j with
    | zero =>
      intro k t hk
      have hkN : k = N := by omega
      subst hkN
      refine u207_30.mpr ?_
      simp only [u207_0, u207_1, u207_4, u207_5, u207_6, u207_7, u207_8, u207_10, u207_13, u207_14, u207_17, u207_18, u207_19, u207_22, u207_23, u207_24, u207_25, u207_27, u207_28, u207_32, u207_33, u207_36, u207_39, u207_40, u207_41, u207_43, u207_46, u207_49, u207_50, u207_53, u207_55, u207_56, u207_57, u207_60, u207_61, u207_63, u207_64, u207_67, u207_69, u207_70, u207_73, u207_76, u207_77, u207_78, u207_80, u207_81, u207_82, u207_85, u207_87, u207_88, u207_89, u207_90, u207_92, u207_95, u207_98, u207_99, u207_103, u207_104, u207_107, u207_110, u207_111, u207_114, u207_116, u207_117, u207_119, u207_122, u207_123, u207_125, u207_126, u207_127, u207_129, u207_132, u207_135, u207_136, u207_137, u207_140, u207_143, u207_144, u207_146, u207_148, u207_149, u207_152, u207_155, u207_156, u207_159, u207_161, u207_162, u207_163, u207_166, u207_167, u207_169, u207_170, u207_171, u207_173, u207_176, u207_179, u207_180, u207_182, u207_183, u207_186, u207_188, u207_189, u207_192, u207_195, u207_196, u207_197, u207_200, u207_203, u207_204, hN, nI_nlt (Nat.le_refl k) (show k < 2 ^ 31 by omega), if_false, mj_tl, decide_true, decide_false, Bool.true_and, Bool.false_and, Bool.and_true, Bool.and_false, Bool.true_or, Bool.false_or, Bool.or_false, Bool.or_true, Bool.not_true, Bool.not_false, Bool.and_self, Bool.or_self, if_true, if_false, Bool.true_eq_false, Bool.false_eq_true, not_true, not_false_eq_true]
      exact L101 t k 0 (by omega)
    | succ j ih =>
      intro k t hk
      have hlt : nI k < σ.1 61 0 := by rw [hN]; exact nI_lt (by omega) (by omega)
      refine u207_30.mpr ?_
      simp only [mj_tl]
      cases c1 : mj_b set k
      · have hr := ih (k + 1) t (by omega)
        simp only [u207_0, u207_1, u207_4, u207_5, u207_6, u207_7, u207_8, u207_10, u207_13, u207_14, u207_17, u207_18, u207_19, u207_22, u207_23, u207_24, u207_25, u207_27, u207_28, u207_32, u207_33, u207_36, u207_39, u207_40, u207_41, u207_43, u207_46, u207_49, u207_50, u207_53, u207_55, u207_56, u207_57, u207_60, u207_61, u207_63, u207_64, u207_67, u207_69, u207_70, u207_73, u207_76, u207_77, u207_78, u207_80, u207_81, u207_82, u207_85, u207_87, u207_88, u207_89, u207_90, u207_92, u207_95, u207_98, u207_99, u207_103, u207_104, u207_107, u207_110, u207_111, u207_114, u207_116, u207_117, u207_119, u207_122, u207_123, u207_125, u207_126, u207_127, u207_129, u207_132, u207_135, u207_136, u207_137, u207_140, u207_143, u207_144, u207_146, u207_148, u207_149, u207_152, u207_155, u207_156, u207_159, u207_161, u207_162, u207_163, u207_166, u207_167, u207_169, u207_170, u207_171, u207_173, u207_176, u207_179, u207_180, u207_182, u207_183, u207_186, u207_188, u207_189, u207_192, u207_195, u207_196, u207_197, u207_200, u207_203, u207_204, hlt, if_true, sp_M_isIn (show k < 32 by omega), c1, mj_cc_v, mj_cc_n, List.all_cons, List.all_nil, mj_noMk_int, mj_noMk_long, mj_noMk_ref, mj_noMk_junk, List.length_nil, List.length_cons, Nat.zero_le, Nat.reduceLeDiff, Nat.reduceAdd, Bool.and_true, Bool.true_and, Bool.and_self, Nat.reduceBNe, true_or, or_true, true_and, and_true, mj_z0, mj_z1, mj_z01, decide_true, decide_false, Bool.true_and, Bool.false_and, Bool.and_true, Bool.and_false, Bool.true_or, Bool.false_or, Bool.or_false, Bool.or_true, Bool.not_true, Bool.not_false, Bool.and_self, Bool.or_self, if_true, if_false, Bool.true_eq_false, Bool.false_eq_true, not_true, not_false_eq_true, nI_1, false_and]
        exact hr
      · by_cases c2 : σ.1 68 k = -1
        · have hr := ih (k + 1) t (by omega)
          simp only [u207_0, u207_1, u207_4, u207_5, u207_6, u207_7, u207_8, u207_10, u207_13, u207_14, u207_17, u207_18, u207_19, u207_22, u207_23, u207_24, u207_25, u207_27, u207_28, u207_32, u207_33, u207_36, u207_39, u207_40, u207_41, u207_43, u207_46, u207_49, u207_50, u207_53, u207_55, u207_56, u207_57, u207_60, u207_61, u207_63, u207_64, u207_67, u207_69, u207_70, u207_73, u207_76, u207_77, u207_78, u207_80, u207_81, u207_82, u207_85, u207_87, u207_88, u207_89, u207_90, u207_92, u207_95, u207_98, u207_99, u207_103, u207_104, u207_107, u207_110, u207_111, u207_114, u207_116, u207_117, u207_119, u207_122, u207_123, u207_125, u207_126, u207_127, u207_129, u207_132, u207_135, u207_136, u207_137, u207_140, u207_143, u207_144, u207_146, u207_148, u207_149, u207_152, u207_155, u207_156, u207_159, u207_161, u207_162, u207_163, u207_166, u207_167, u207_169, u207_170, u207_171, u207_173, u207_176, u207_179, u207_180, u207_182, u207_183, u207_186, u207_188, u207_189, u207_192, u207_195, u207_196, u207_197, u207_200, u207_203, u207_204, hlt, if_true, sp_M_isIn (show k < 32 by omega), c1, c2, mj_in_nI (show k < 9 by omega) (by decide), mj_nz9 (show k < 9 by omega) (by decide), mj_cc_v, mj_cc_n, List.all_cons, List.all_nil, mj_noMk_int, mj_noMk_long, mj_noMk_ref, mj_noMk_junk, List.length_nil, List.length_cons, Nat.zero_le, Nat.reduceLeDiff, Nat.reduceAdd, Bool.and_true, Bool.true_and, Bool.and_self, Nat.reduceBNe, true_or, or_true, true_and, and_true, mj_z0, mj_z1, mj_z01, decide_true, decide_false, Bool.true_and, Bool.false_and, Bool.and_true, Bool.and_false, Bool.true_or, Bool.false_or, Bool.or_false, Bool.or_true, Bool.not_true, Bool.not_false, Bool.and_self, Bool.or_self, if_true, if_false, Bool.true_eq_false, Bool.false_eq_true, not_true, not_false_eq_true, nI_1, and_false]
          exact hr
        · have h68 := ((hok k (by omega)).2.2.2).resolve_left c2
          have hin := sp_M_isIn (X := X) (d := d + 1) (σ := σ) (m := t) (show (σ.1 68 k).toNatClampNeg < 32 by have := mj_in_lt h68; omega)
          rw [← mj_in_eq h68 (by decide)] at hin
          simp only [u207_0, u207_1, u207_4, u207_5, u207_6, u207_7, u207_8, u207_10, u207_13, u207_14, u207_17, u207_18, u207_19, u207_22, u207_23, u207_24, u207_25, u207_27, u207_28, u207_32, u207_33, u207_36, u207_39, u207_40, u207_41, u207_43, u207_46, u207_49, u207_50, u207_53, u207_55, u207_56, u207_57, u207_60, u207_61, u207_63, u207_64, u207_67, u207_69, u207_70, u207_73, u207_76, u207_77, u207_78, u207_80, u207_81, u207_82, u207_85, u207_87, u207_88, u207_89, u207_90, u207_92, u207_95, u207_98, u207_99, u207_103, u207_104, u207_107, u207_110, u207_111, u207_114, u207_116, u207_117, u207_119, u207_122, u207_123, u207_125, u207_126, u207_127, u207_129, u207_132, u207_135, u207_136, u207_137, u207_140, u207_143, u207_144, u207_146, u207_148, u207_149, u207_152, u207_155, u207_156, u207_159, u207_161, u207_162, u207_163, u207_166, u207_167, u207_169, u207_170, u207_171, u207_173, u207_176, u207_179, u207_180, u207_182, u207_183, u207_186, u207_188, u207_189, u207_192, u207_195, u207_196, u207_197, u207_200, u207_203, u207_204, hlt, if_true, sp_M_isIn (show k < 32 by omega), hin, c1, c2, mj_in_nI (show k < 9 by omega) (by decide), mj_nz9 (show k < 9 by omega) (by decide), mj_cc_v, mj_cc_n, List.all_cons, List.all_nil, mj_noMk_int, mj_noMk_long, mj_noMk_ref, mj_noMk_junk, List.length_nil, List.length_cons, Nat.zero_le, Nat.reduceLeDiff, Nat.reduceAdd, Bool.and_true, Bool.true_and, Bool.and_self, Nat.reduceBNe, true_or, or_true, true_and, and_true, mj_z0, mj_z1, mj_z01, decide_true, decide_false, Bool.true_and, Bool.false_and, Bool.and_true, Bool.and_false, Bool.true_or, Bool.false_or, Bool.or_false, Bool.or_true, Bool.not_true, Bool.not_false, Bool.and_self, Bool.or_self, if_true, if_false, Bool.true_eq_false, Bool.false_eq_true, not_true, not_false_eq_true, nI_1]
          cases c3 : mj_b t (σ.1 68 k).toNatClampNeg
          · simp only [c3, decide_true, decide_false, Bool.true_and, Bool.false_and, Bool.and_true, Bool.and_false, Bool.true_or, Bool.false_or, Bool.or_false, Bool.or_true, Bool.not_true, Bool.not_false, Bool.and_self, Bool.or_self, if_true, if_false, Bool.true_eq_false, Bool.false_eq_true, not_true, not_false_eq_true]
            exact ih (k + 1) _ (by omega)
          · simp
  unfold mj_Mbars
  have h9m := sp_M_many (X := X) (d := d + 1) (σ := σ) (set := set) (B := 9) (by decide)
  have e9 : nI 9 = 9 := rfl
  rw [e9] at h9m
  simp only [u207_0, u207_1, u207_4, u207_5, u207_6, u207_7, u207_8, u207_10, u207_13, u207_14, u207_17, u207_18, u207_19, u207_22, u207_23, u207_24, u207_25, u207_27, u207_28, u207_32, u207_33, u207_36, u207_39, u207_40, u207_41, u207_43, u207_46, u207_49, u207_50, u207_53, u207_55, u207_56, u207_57, u207_60, u207_61, u207_63, u207_64, u207_67, u207_69, u207_70, u207_73, u207_76, u207_77, u207_78, u207_80, u207_81, u207_82, u207_85, u207_87, u207_88, u207_89, u207_90, u207_92, u207_95, u207_98, u207_99, u207_101, u207_103, u207_104, u207_107, u207_110, u207_111, u207_114, u207_116, u207_117, u207_119, u207_122, u207_123, u207_125, u207_126, u207_127, u207_129, u207_132, u207_135, u207_136, u207_137, u207_140, u207_143, u207_144, u207_146, u207_148, u207_149, u207_152, u207_155, u207_156, u207_159, u207_161, u207_162, u207_163, u207_166, u207_167, u207_169, u207_170, u207_171, u207_173, u207_176, u207_179, u207_180, u207_182, u207_183, u207_186, u207_188, u207_189, u207_192, u207_195, u207_196, u207_197, u207_200, u207_203, u207_204, h9m, hh, mj_cc_v, mj_cc_n, List.all_cons, List.all_nil, mj_noMk_int, mj_noMk_long, mj_noMk_ref, mj_noMk_junk, List.length_nil, List.length_cons, Nat.zero_le, Nat.reduceLeDiff, Nat.reduceAdd, Bool.and_true, Bool.true_and, Bool.and_self, Nat.reduceBNe, true_or, or_true, true_and, and_true, mj_z0, mj_z1, mj_z01]
  by_cases c1 : set = 0
  · simp [c1]
  · by_cases c2 : σ.1 63 h.toNatClampNeg < mj_cnt set 9
    · simp [c1, c2]
    · simp only [c1, c2, if_false, true_and]
      exact L30 N 0 0 (by omega)
end
