section
variable {X : mj_X} {d : Nat} {σ τ ρ : mj_St}
/-- what an hour of work leaves -/
def mj_wkS (σ : mj_St) (set L : Int32) (n : Nat) : mj_St := (fun c i => if c = 76 ∧ i < n ∧ mj_b set i = true then σ.1 76 i - 1 else if c = 77 ∧ i < n ∧ mj_b L i = true then 1 else σ.1 c i, σ.2)
theorem mj_wkS_0 {set L : Int32} : mj_wkS σ set L 0 = σ := by
  unfold mj_wkS
  refine Prod.ext ?_ rfl
  funext c i
  show (if c = 76 ∧ i < 0 ∧ mj_b set i = true then σ.1 76 i - 1 else if c = 77 ∧ i < 0 ∧ mj_b L i = true then 1 else σ.1 c i) = σ.1 c i
  rw [if_neg (by omega), if_neg (by omega)]
theorem mj_wkS_s {set L : Int32} {n : Nat} : mj_wkS σ set L (n + 1) = if mj_b L n = true then mj_setI (if mj_b set n = true then mj_setI (mj_wkS σ set L n) 76 n (σ.1 76 n - 1) else mj_wkS σ set L n) 77 n 1 else (if mj_b set n = true then mj_setI (mj_wkS σ set L n) 76 n (σ.1 76 n - 1) else mj_wkS σ set L n) := by
  have key : ∀ c i, (mj_wkS σ set L (n + 1)).1 c i = (if mj_b L n = true then mj_setI (if mj_b set n = true then mj_setI (mj_wkS σ set L n) 76 n (σ.1 76 n - 1) else mj_wkS σ set L n) 77 n 1 else (if mj_b set n = true then mj_setI (mj_wkS σ set L n) 76 n (σ.1 76 n - 1) else mj_wkS σ set L n)).1 c i := by
    intro c i
    by_cases e : i = n
    · subst e
      have l1 : i < i + 1 := by omega
      have l2 : ¬ i < i := by omega
      by_cases c1 : c = 76
      · subst c1
        cases b1 : mj_b L i <;> cases b2 : mj_b set i <;> simp [mj_wkS, mj_rI, b1, b2]
      · by_cases c2 : c = 77
        · subst c2
          cases b1 : mj_b L i <;> cases b2 : mj_b set i <;> simp [mj_wkS, mj_rI, b1, b2]
        · cases b1 : mj_b L i <;> cases b2 : mj_b set i <;> simp [mj_wkS, mj_rI, c1, c2]
    · have l1 : (i < n + 1) = (i < n) := by
        apply propext
        omega
      cases b1 : mj_b L n <;> cases b2 : mj_b set n <;> simp [mj_wkS, mj_rI, l1, e]
  refine Prod.ext (funext fun c => funext fun i => key c i) ?_
  cases b1 : mj_b L n <;> cases b2 : mj_b set n <;> simp [mj_wkS, mj_setI]
theorem mj_wkS_o {set L : Int32} {n c : Nat} (h1 : c ≠ 76) (h2 : c ≠ 77) : (mj_wkS σ set L n).1 c = σ.1 c := by
  funext i
  show (if c = 76 ∧ i < n ∧ mj_b set i = true then σ.1 76 i - 1 else if c = 77 ∧ i < n ∧ mj_b L i = true then 1 else σ.1 c i) = σ.1 c i
  rw [if_neg (fun z => h1 z.1), if_neg (fun z => h2 z.1)]
theorem mj_wkS_76 {set L : Int32} {n i : Nat} : (mj_wkS σ set L n).1 76 i = if i < n ∧ mj_b set i = true then σ.1 76 i - 1 else σ.1 76 i := by
  show (if 76 = 76 ∧ i < n ∧ mj_b set i = true then σ.1 76 i - 1 else if 76 = 77 ∧ i < n ∧ mj_b L i = true then 1 else σ.1 76 i) = _
  by_cases c : i < n ∧ mj_b set i = true
  · rw [if_pos ⟨rfl, c⟩, if_pos c]
  · rw [if_neg (fun z => c z.2), if_neg (fun z => absurd z.1 (by decide)), if_neg c]
theorem mj_wkS_77 {set L : Int32} {n i : Nat} : (mj_wkS σ set L n).1 77 i = if i < n ∧ mj_b L i = true then 1 else σ.1 77 i := by
  show (if 77 = 76 ∧ i < n ∧ mj_b set i = true then σ.1 76 i - 1 else if 77 = 77 ∧ i < n ∧ mj_b L i = true then 1 else σ.1 77 i) = _
  rw [if_neg (fun z => absurd z.1 (by decide))]
  by_cases c : i < n ∧ mj_b L i = true
  · rw [if_pos ⟨rfl, c⟩, if_pos c]
  · rw [if_neg (fun z => c z.2), if_neg c]
def mj_wok (σ : mj_St) (N w t : Nat) (set : Int32) : Bool := decide (set &&& (mj_Gset (mj_cnS σ N) (nI w) (nI t) (mj_evy σ) (mj_lvn σ) N ^^^ -1) = 0) && decide (mj_Mbars (mj_cnS σ N) set (nI w) (nI t) (mj_evy σ) N = 0)
def mj_wlo (σ : mj_St) (N w t : Nat) (set : Int32) : Int32 := mj_nxl (mj_cnS σ N) (nI w) set (nI t) (mj_evy σ) (mj_lvn σ) N
def mj_wst (σ : mj_St) (N w t : Nat) (set : Int32) : mj_St := mj_setI (mj_wkS (mj_setI (mj_cnS σ N) 61 47 (mj_wlo σ N w t set)) set (mj_wlo σ N w t set) N) 61 1 (nI (w + 1))
theorem sp_M_work {N R w t : Nat} {set : Int32} (hM : mj_Mst σ N R w t) : mj_ev X (d + 5) 239 [.ref 61, .int set] σ = some (if w = 12 then (some (.int (-6)), mj_rfM σ (-6)) else if mj_wok σ N w t set = true then (some (.int (mj_wlo σ N w t set)), mj_wst σ N w t set) else (some (.int (-6)), mj_rfM (mj_cnS σ N) (-6))) := by
  obtain ⟨hW, hS, hw, hw12, ht, ht8⟩ := hM
  have hN := hW.1
  have h9 := hW.2.1
  have h6 : ∀ σ', mj_ev X (d + 4) 158 [.ref 61, .int (-6)] σ' = some (some (.int (-6)), mj_rfM σ' (-6)) := fun σ' => sp_no6 (d := d + 3)
  refine st239 ?_
  by_cases c0 : w = 12
  · subst c0
    have hw' : σ.1 61 1 = 12 := hw
    rw [if_pos rfl]
    simp only [u239_0, u239_1, u239_4, u239_6, u239_9, u239_10, u239_12, u239_15, u239_16, u239_17, u239_20, u239_21, u239_22, u239_25, u239_26, u239_27, u239_28, u239_29, u239_32, u239_33, u239_34, u239_37, u239_38, u239_41, u239_42, u239_43, u239_44, u239_47, u239_48, u239_49, u239_50, u239_53, u239_54, u239_57, u239_58, u239_61, u239_64, u239_65, u239_67, u239_70, u239_71, u239_72, u239_73, u239_76, u239_77, u239_78, u239_79, u239_82, u239_83, u239_86, u239_87, u239_88, u239_92, u239_93, u239_96, u239_99, u239_100, u239_101, u239_103, u239_106, u239_109, u239_110, u239_113, u239_115, u239_116, u239_117, u239_118, u239_119, u239_120, u239_121, u239_122, u239_125, u239_127, u239_130, u239_133, u239_134, u239_137, u239_139, u239_140, u239_141, u239_144, u239_147, u239_148, u239_149, u239_152, u239_153, u239_154, u239_157, u239_158, u239_161, hw', h6, mj_cc_v, mj_cc_n, List.all_cons, List.all_nil, mj_noMk_int, mj_noMk_long, mj_noMk_ref, mj_noMk_junk, List.length_nil, List.length_cons, Nat.zero_le, Nat.reduceLeDiff, Nat.reduceAdd, Bool.and_true, Bool.true_and, Bool.and_self, Nat.reduceBNe, true_or, or_true, true_and, and_true, mj_z0, mj_z1, mj_z01, decide_true, decide_false, Bool.true_and, Bool.false_and, Bool.and_true, Bool.and_false, Bool.true_or, Bool.false_or, Bool.or_false, Bool.or_true, Bool.not_true, Bool.not_false, Bool.and_self, Bool.or_self, if_true, if_false, Bool.true_eq_false, Bool.false_eq_true, not_true, not_false_eq_true]
  · rw [if_neg c0]
    have hwlt : w < 12 := by omega
    have n12 : ¬ nI w = 12 := fun z => c0 ((nI_eq (b := 12) (by omega) (by decide)).mp z)
    have hRd := mj_cnS_Rdy hW hS.1
    have hD : mj_Dg (mj_lvn σ) N := hW.2.2.2.2.2.2.2
    have ec : mj_cno (mj_cnS σ N) = mj_cno σ := by
      funext l n
      unfold mj_cno mj_wc
      rw [mj_cnS_o (by decide) (by decide), mj_cnS_o (by decide) (by decide)]
    have hcn : mj_ev X (d + 4) 197 [.ref 61] σ = some (some (.int (mj_cno (mj_cnS σ N) (mj_lvn σ) N)), mj_cnS σ N) := by
      rw [ec]
      exact sp_M_codeNow (d := d + 2) hN h9 hW.2.2.2.2.2.1
    have hev : mj_ev X (d + 4) 192 [.ref 61] (mj_cnS σ N) = some (some (.int (mj_evy σ)), mj_cnS σ N) := sp_M_everything (d := d + 3)
    have e1 : (mj_cnS σ N).1 61 1 = nI w := hw
    have e2 : (mj_cnS σ N).1 61 2 = nI t := ht
    have hos : mj_ev X (d + 4) 203 [.ref 61, .int (nI w), .int (mj_cno (mj_cnS σ N) (mj_lvn σ) N), .int (nI t), .int (mj_evy σ)] (mj_cnS σ N) = some (some (.int (mj_Gset (mj_cnS σ N) (nI w) (nI t) (mj_evy σ) (mj_lvn σ) N)), mj_cnS σ N) := by
      have q := sp_M_openSet (X := X) (d := d + 1) (σ := mj_cnS σ N) (h := nI w) (code := mj_cno (mj_cnS σ N) (mj_lvn σ) N) (o := nI t) (mt := mj_evy σ) hRd.1 hRd.2.1 hRd.2.2.1 hRd.2.2.2.1
      rw [mj_oset_l hRd hD] at q
      exact q
    have hba : mj_ev X (d + 4) 207 [.ref 61, .int set, .int (nI w), .int (nI t), .int (mj_evy σ)] (mj_cnS σ N) = some (some (.int (mj_Mbars (mj_cnS σ N) set (nI w) (nI t) (mj_evy σ) N)), mj_cnS σ N) := sp_M_bars (d := d + 1) hRd.1 hRd.2.1 hRd.2.2.2.1 hRd.2.2.2.2.2.2 (mj_in_nI hwlt (by decide))
    have hbh : mj_ev X (d + 4) 210 [.ref 61, .int (nI w), .int (mj_cno (mj_cnS σ N) (mj_lvn σ) N), .int set, .int (nI t), .int (mj_evy σ)] (mj_cnS σ N) = some (some (.int (mj_cno (mj_cnS σ N) (mj_nxd (mj_cnS σ N) (nI w) set (nI t) (mj_evy σ) (mj_lvn σ)) N)), mj_setI (mj_cnS σ N) 61 47 (mj_wlo σ N w t set)) := by
      have q := sp_M_behind (X := X) (d := d + 2) (σ := mj_cnS σ N) (set := set) (h := nI w) (code := mj_cno (mj_cnS σ N) (mj_lvn σ) N) (o := nI t) (mt := mj_evy σ) hRd.1 hRd.2.1 hRd.2.2.1 hRd.2.2.2.1
      rw [mj_bhd_N hRd hD] at q
      exact q
    unfold mj_wok
    by_cases c1 : set &&& (mj_Gset (mj_cnS σ N) (nI w) (nI t) (mj_evy σ) (mj_lvn σ) N ^^^ -1) = 0
    · by_cases c2 : mj_Mbars (mj_cnS σ N) set (nI w) (nI t) (mj_evy σ) N = 0
      · rw [decide_eq_true c1, decide_eq_true c2, Bool.and_self, if_pos rfl]
        have hl : mj_Runs X (mj_ev X (d + 4)) 6 (some .int) prog_8_method_85_code (90, [.ref 61, .int set, .int (mj_cno (mj_cnS σ N) (mj_lvn σ) N), .int (mj_evy σ), .int (nI 0)], [], mj_wkS (mj_setI (mj_cnS σ N) 61 47 (mj_wlo σ N w t set)) set (mj_wlo σ N w t set) 0) (some (.int (mj_wlo σ N w t set)), mj_wst σ N w t set) :=
          mj_count (X := X) (call := mj_ev X (d + 4)) (oc := 6) (ret := (some .int)) (cc := prog_8_method_85_code) (N := N) (S := fun k => (90, [.ref 61, .int set, .int (mj_cno (mj_cnS σ N) (mj_lvn σ) N), .int (mj_evy σ), .int (nI k)], [], mj_wkS (mj_setI (mj_cnS σ N) 61 47 (mj_wlo σ N w t set)) set (mj_wlo σ N w t set) k)) (fun k hk hr => by
            have hk9 : k < 9 := by omega
            have q : nI k < nI N := nI_lt hk (by omega)
            have x0 : (mj_wkS (mj_setI (mj_cnS σ N) 61 47 (mj_wlo σ N w t set)) set (mj_wlo σ N w t set) k).1 61 0 = nI N := by
              rw [mj_wkS_o (by decide) (by decide)]
              exact hN
            have x47 : (mj_wkS (mj_setI (mj_cnS σ N) 61 47 (mj_wlo σ N w t set)) set (mj_wlo σ N w t set) k).1 61 47 = mj_wlo σ N w t set := by
              rw [mj_wkS_o (by decide) (by decide)]
              exact mj_setI_eq
            have x76 : (mj_wkS (mj_setI (mj_cnS σ N) 61 47 (mj_wlo σ N w t set)) set (mj_wlo σ N w t set) k).1 76 k = (mj_setI (mj_cnS σ N) 61 47 (mj_wlo σ N w t set)).1 76 k := by
              rw [mj_wkS_76, if_neg (by omega)]
            rw [mj_wkS_s] at hr
            generalize hσ5 : mj_setI (mj_cnS σ N) 61 47 (mj_wlo σ N w t set) = σ5 at *
            generalize hL : mj_wlo σ N w t set = L at *
            have hin := sp_M_isIn (X := X) (d := d + 3) (σ := mj_wkS σ5 set L k) (m := set) (k := k) (by omega)
            have hin2 : ∀ σ', mj_ev X (d + 4) 195 [.ref 61, .int L, .int (nI k)] σ' = some (some (.int (mj_z (mj_b L k))), σ') := fun σ' => sp_M_isIn (d := d + 3) (by omega)
            refine u239_90.mpr ?_
            cases b1 : mj_b set k
            · rw [b1] at hin hr
              rw [if_neg mj_ft] at hr
              cases b2 : mj_b L k
              · rw [b2] at hin2 hr
                rw [if_neg mj_ft] at hr
                simp only [u239_0, u239_1, u239_4, u239_6, u239_9, u239_10, u239_12, u239_15, u239_16, u239_17, u239_20, u239_21, u239_22, u239_25, u239_26, u239_27, u239_28, u239_29, u239_32, u239_33, u239_34, u239_37, u239_38, u239_41, u239_42, u239_43, u239_44, u239_47, u239_48, u239_49, u239_50, u239_53, u239_54, u239_57, u239_58, u239_61, u239_64, u239_65, u239_67, u239_70, u239_71, u239_72, u239_73, u239_76, u239_77, u239_78, u239_79, u239_82, u239_83, u239_86, u239_87, u239_88, u239_92, u239_93, u239_96, u239_99, u239_100, u239_101, u239_103, u239_106, u239_109, u239_110, u239_113, u239_115, u239_116, u239_117, u239_118, u239_119, u239_120, u239_121, u239_122, u239_125, u239_127, u239_130, u239_133, u239_134, u239_137, u239_139, u239_140, u239_141, u239_144, u239_147, u239_148, u239_149, u239_152, u239_153, u239_154, u239_157, u239_158, u239_161, x0, q, hin, hin2, x47, mj_zF, nI_1, mj_cc_v, mj_cc_n, List.all_cons, List.all_nil, mj_noMk_int, mj_noMk_long, mj_noMk_ref, mj_noMk_junk, List.length_nil, List.length_cons, Nat.zero_le, Nat.reduceLeDiff, Nat.reduceAdd, Bool.and_true, Bool.true_and, Bool.and_self, Nat.reduceBNe, true_or, or_true, true_and, and_true, mj_z0, mj_z1, mj_z01, decide_true, decide_false, Bool.true_and, Bool.false_and, Bool.and_true, Bool.and_false, Bool.true_or, Bool.false_or, Bool.or_false, Bool.or_true, Bool.not_true, Bool.not_false, Bool.and_self, Bool.or_self, if_true, if_false, Bool.true_eq_false, Bool.false_eq_true, not_true, not_false_eq_true]
                exact hr
              · rw [b2] at hin2 hr
                rw [if_pos rfl] at hr
                simp only [u239_0, u239_1, u239_4, u239_6, u239_9, u239_10, u239_12, u239_15, u239_16, u239_17, u239_20, u239_21, u239_22, u239_25, u239_26, u239_27, u239_28, u239_29, u239_32, u239_33, u239_34, u239_37, u239_38, u239_41, u239_42, u239_43, u239_44, u239_47, u239_48, u239_49, u239_50, u239_53, u239_54, u239_57, u239_58, u239_61, u239_64, u239_65, u239_67, u239_70, u239_71, u239_72, u239_73, u239_76, u239_77, u239_78, u239_79, u239_82, u239_83, u239_86, u239_87, u239_88, u239_92, u239_93, u239_96, u239_99, u239_100, u239_101, u239_103, u239_106, u239_109, u239_110, u239_113, u239_115, u239_116, u239_117, u239_118, u239_119, u239_120, u239_121, u239_122, u239_125, u239_127, u239_130, u239_133, u239_134, u239_137, u239_139, u239_140, u239_141, u239_144, u239_147, u239_148, u239_149, u239_152, u239_153, u239_154, u239_157, u239_158, u239_161, x0, q, hin, hin2, x47, mj_in_nI hk9 (by decide), mj_nz9 hk9 (by decide), mj_zT, mj_zF, mj_n10, nI_1, mj_cc_v, mj_cc_n, List.all_cons, List.all_nil, mj_noMk_int, mj_noMk_long, mj_noMk_ref, mj_noMk_junk, List.length_nil, List.length_cons, Nat.zero_le, Nat.reduceLeDiff, Nat.reduceAdd, Bool.and_true, Bool.true_and, Bool.and_self, Nat.reduceBNe, true_or, or_true, true_and, and_true, mj_z0, mj_z1, mj_z01, decide_true, decide_false, Bool.true_and, Bool.false_and, Bool.and_true, Bool.and_false, Bool.true_or, Bool.false_or, Bool.or_false, Bool.or_true, Bool.not_true, Bool.not_false, Bool.and_self, Bool.or_self, if_true, if_false, Bool.true_eq_false, Bool.false_eq_true, not_true, not_false_eq_true]
                exact hr
            · rw [b1] at hin hr
              rw [if_pos rfl] at hr
              have y47 : (mj_setI (mj_wkS σ5 set L k) 76 k (σ5.1 76 k - 1)).1 61 47 = L := x47
              cases b2 : mj_b L k
              · rw [b2] at hin2 hr
                rw [if_neg mj_ft] at hr
                simp only [u239_0, u239_1, u239_4, u239_6, u239_9, u239_10, u239_12, u239_15, u239_16, u239_17, u239_20, u239_21, u239_22, u239_25, u239_26, u239_27, u239_28, u239_29, u239_32, u239_33, u239_34, u239_37, u239_38, u239_41, u239_42, u239_43, u239_44, u239_47, u239_48, u239_49, u239_50, u239_53, u239_54, u239_57, u239_58, u239_61, u239_64, u239_65, u239_67, u239_70, u239_71, u239_72, u239_73, u239_76, u239_77, u239_78, u239_79, u239_82, u239_83, u239_86, u239_87, u239_88, u239_92, u239_93, u239_96, u239_99, u239_100, u239_101, u239_103, u239_106, u239_109, u239_110, u239_113, u239_115, u239_116, u239_117, u239_118, u239_119, u239_120, u239_121, u239_122, u239_125, u239_127, u239_130, u239_133, u239_134, u239_137, u239_139, u239_140, u239_141, u239_144, u239_147, u239_148, u239_149, u239_152, u239_153, u239_154, u239_157, u239_158, u239_161, x0, q, hin, hin2, x76, y47, mj_in_nI hk9 (by decide), mj_nz9 hk9 (by decide), mj_zT, mj_zF, mj_n10, nI_1, mj_cc_v, mj_cc_n, List.all_cons, List.all_nil, mj_noMk_int, mj_noMk_long, mj_noMk_ref, mj_noMk_junk, List.length_nil, List.length_cons, Nat.zero_le, Nat.reduceLeDiff, Nat.reduceAdd, Bool.and_true, Bool.true_and, Bool.and_self, Nat.reduceBNe, true_or, or_true, true_and, and_true, mj_z0, mj_z1, mj_z01, decide_true, decide_false, Bool.true_and, Bool.false_and, Bool.and_true, Bool.and_false, Bool.true_or, Bool.false_or, Bool.or_false, Bool.or_true, Bool.not_true, Bool.not_false, Bool.and_self, Bool.or_self, if_true, if_false, Bool.true_eq_false, Bool.false_eq_true, not_true, not_false_eq_true]
                exact hr
              · rw [b2] at hin2 hr
                rw [if_pos rfl] at hr
                simp only [u239_0, u239_1, u239_4, u239_6, u239_9, u239_10, u239_12, u239_15, u239_16, u239_17, u239_20, u239_21, u239_22, u239_25, u239_26, u239_27, u239_28, u239_29, u239_32, u239_33, u239_34, u239_37, u239_38, u239_41, u239_42, u239_43, u239_44, u239_47, u239_48, u239_49, u239_50, u239_53, u239_54, u239_57, u239_58, u239_61, u239_64, u239_65, u239_67, u239_70, u239_71, u239_72, u239_73, u239_76, u239_77, u239_78, u239_79, u239_82, u239_83, u239_86, u239_87, u239_88, u239_92, u239_93, u239_96, u239_99, u239_100, u239_101, u239_103, u239_106, u239_109, u239_110, u239_113, u239_115, u239_116, u239_117, u239_118, u239_119, u239_120, u239_121, u239_122, u239_125, u239_127, u239_130, u239_133, u239_134, u239_137, u239_139, u239_140, u239_141, u239_144, u239_147, u239_148, u239_149, u239_152, u239_153, u239_154, u239_157, u239_158, u239_161, x0, q, hin, hin2, x76, y47, mj_in_nI hk9 (by decide), mj_nz9 hk9 (by decide), mj_zT, mj_n10, nI_1, mj_cc_v, mj_cc_n, List.all_cons, List.all_nil, mj_noMk_int, mj_noMk_long, mj_noMk_ref, mj_noMk_junk, List.length_nil, List.length_cons, Nat.zero_le, Nat.reduceLeDiff, Nat.reduceAdd, Bool.and_true, Bool.true_and, Bool.and_self, Nat.reduceBNe, true_or, or_true, true_and, and_true, mj_z0, mj_z1, mj_z01, decide_true, decide_false, Bool.true_and, Bool.false_and, Bool.and_true, Bool.and_false, Bool.true_or, Bool.false_or, Bool.or_false, Bool.or_true, Bool.not_true, Bool.not_false, Bool.and_self, Bool.or_self, if_true, if_false, Bool.true_eq_false, Bool.false_eq_true, not_true, not_false_eq_true]
                exact hr) (by
            have q : ¬ nI N < nI N := nI_nlt (Nat.le_refl _) (by omega)
            have x0 : (mj_wkS (mj_setI (mj_cnS σ N) 61 47 (mj_wlo σ N w t set)) set (mj_wlo σ N w t set) N).1 61 0 = nI N := by
              rw [mj_wkS_o (by decide) (by decide)]
              exact hN
            have x1 : (mj_wkS (mj_setI (mj_cnS σ N) 61 47 (mj_wlo σ N w t set)) set (mj_wlo σ N w t set) N).1 61 1 = nI w := by
              rw [mj_wkS_o (by decide) (by decide)]
              exact hw
            have x47 : (mj_setI (mj_wkS (mj_setI (mj_cnS σ N) 61 47 (mj_wlo σ N w t set)) set (mj_wlo σ N w t set) N) 61 1 (nI (w + 1))).1 61 47 = mj_wlo σ N w t set := by
              rw [mj_setI_i (by decide), mj_wkS_o (by decide) (by decide)]
              exact mj_setI_eq
            unfold mj_wst
            refine u239_90.mpr ?_
            simp only [u239_0, u239_1, u239_4, u239_6, u239_9, u239_10, u239_12, u239_15, u239_16, u239_17, u239_20, u239_21, u239_22, u239_25, u239_26, u239_27, u239_28, u239_29, u239_32, u239_33, u239_34, u239_37, u239_38, u239_41, u239_42, u239_43, u239_44, u239_47, u239_48, u239_49, u239_50, u239_53, u239_54, u239_57, u239_58, u239_61, u239_64, u239_65, u239_67, u239_70, u239_71, u239_72, u239_73, u239_76, u239_77, u239_78, u239_79, u239_82, u239_83, u239_86, u239_87, u239_88, u239_92, u239_93, u239_96, u239_99, u239_100, u239_101, u239_103, u239_106, u239_109, u239_110, u239_113, u239_115, u239_116, u239_117, u239_118, u239_119, u239_120, u239_121, u239_122, u239_125, u239_127, u239_130, u239_133, u239_134, u239_137, u239_139, u239_140, u239_141, u239_144, u239_147, u239_148, u239_149, u239_152, u239_153, u239_154, u239_157, u239_158, u239_161, x0, x1, q, x47, nI_1, mj_cc_v, mj_cc_n, List.all_cons, List.all_nil, mj_noMk_int, mj_noMk_long, mj_noMk_ref, mj_noMk_junk, List.length_nil, List.length_cons, Nat.zero_le, Nat.reduceLeDiff, Nat.reduceAdd, Bool.and_true, Bool.true_and, Bool.and_self, Nat.reduceBNe, true_or, or_true, true_and, and_true, mj_z0, mj_z1, mj_z01, decide_true, decide_false, Bool.true_and, Bool.false_and, Bool.and_true, Bool.and_false, Bool.true_or, Bool.false_or, Bool.or_false, Bool.or_true, Bool.not_true, Bool.not_false, Bool.and_self, Bool.or_self, if_true, if_false, Bool.true_eq_false, Bool.false_eq_true, not_true, not_false_eq_true]) 0 (Nat.zero_le _)
        have e0 : nI 0 = 0 := rfl
        rw [e0, mj_wkS_0] at hl
        simp only [u239_0, u239_1, u239_4, u239_6, u239_9, u239_10, u239_12, u239_15, u239_16, u239_17, u239_20, u239_21, u239_22, u239_25, u239_26, u239_27, u239_28, u239_29, u239_32, u239_33, u239_34, u239_37, u239_38, u239_41, u239_42, u239_43, u239_44, u239_47, u239_48, u239_49, u239_50, u239_53, u239_54, u239_57, u239_58, u239_61, u239_64, u239_65, u239_67, u239_70, u239_71, u239_72, u239_73, u239_76, u239_77, u239_78, u239_79, u239_82, u239_83, u239_86, u239_87, u239_88, u239_92, u239_93, u239_96, u239_99, u239_100, u239_101, u239_103, u239_106, u239_109, u239_110, u239_113, u239_115, u239_116, u239_117, u239_118, u239_119, u239_120, u239_121, u239_122, u239_125, u239_127, u239_130, u239_133, u239_134, u239_137, u239_139, u239_140, u239_141, u239_144, u239_147, u239_148, u239_149, u239_152, u239_153, u239_154, u239_157, u239_158, u239_161, hw, n12, hcn, hev, e1, e2, hos, hba, hbh, c1, c2, mj_cc_v, mj_cc_n, List.all_cons, List.all_nil, mj_noMk_int, mj_noMk_long, mj_noMk_ref, mj_noMk_junk, List.length_nil, List.length_cons, Nat.zero_le, Nat.reduceLeDiff, Nat.reduceAdd, Bool.and_true, Bool.true_and, Bool.and_self, Nat.reduceBNe, true_or, or_true, true_and, and_true, mj_z0, mj_z1, mj_z01, decide_true, decide_false, Bool.true_and, Bool.false_and, Bool.and_true, Bool.and_false, Bool.true_or, Bool.false_or, Bool.or_false, Bool.or_true, Bool.not_true, Bool.not_false, Bool.and_self, Bool.or_self, if_true, if_false, Bool.true_eq_false, Bool.false_eq_true, not_true, not_false_eq_true]
        exact hl
      · rw [decide_eq_true c1, decide_eq_false c2, Bool.and_false, if_neg mj_ft]
        simp only [u239_0, u239_1, u239_4, u239_6, u239_9, u239_10, u239_12, u239_15, u239_16, u239_17, u239_20, u239_21, u239_22, u239_25, u239_26, u239_27, u239_28, u239_29, u239_32, u239_33, u239_34, u239_37, u239_38, u239_41, u239_42, u239_43, u239_44, u239_47, u239_48, u239_49, u239_50, u239_53, u239_54, u239_57, u239_58, u239_61, u239_64, u239_65, u239_67, u239_70, u239_71, u239_72, u239_73, u239_76, u239_77, u239_78, u239_79, u239_82, u239_83, u239_86, u239_87, u239_88, u239_92, u239_93, u239_96, u239_99, u239_100, u239_101, u239_103, u239_106, u239_109, u239_110, u239_113, u239_115, u239_116, u239_117, u239_118, u239_119, u239_120, u239_121, u239_122, u239_125, u239_127, u239_130, u239_133, u239_134, u239_137, u239_139, u239_140, u239_141, u239_144, u239_147, u239_148, u239_149, u239_152, u239_153, u239_154, u239_157, u239_158, u239_161, hw, n12, hcn, hev, e1, e2, hos, hba, c1, c2, h6, mj_cc_v, mj_cc_n, List.all_cons, List.all_nil, mj_noMk_int, mj_noMk_long, mj_noMk_ref, mj_noMk_junk, List.length_nil, List.length_cons, Nat.zero_le, Nat.reduceLeDiff, Nat.reduceAdd, Bool.and_true, Bool.true_and, Bool.and_self, Nat.reduceBNe, true_or, or_true, true_and, and_true, mj_z0, mj_z1, mj_z01, decide_true, decide_false, Bool.true_and, Bool.false_and, Bool.and_true, Bool.and_false, Bool.true_or, Bool.false_or, Bool.or_false, Bool.or_true, Bool.not_true, Bool.not_false, Bool.and_self, Bool.or_self, if_true, if_false, Bool.true_eq_false, Bool.false_eq_true, not_true, not_false_eq_true]
    · rw [decide_eq_false c1, Bool.false_and, if_neg mj_ft]
      simp only [u239_0, u239_1, u239_4, u239_6, u239_9, u239_10, u239_12, u239_15, u239_16, u239_17, u239_20, u239_21, u239_22, u239_25, u239_26, u239_27, u239_28, u239_29, u239_32, u239_33, u239_34, u239_37, u239_38, u239_41, u239_42, u239_43, u239_44, u239_47, u239_48, u239_49, u239_50, u239_53, u239_54, u239_57, u239_58, u239_61, u239_64, u239_65, u239_67, u239_70, u239_71, u239_72, u239_73, u239_76, u239_77, u239_78, u239_79, u239_82, u239_83, u239_86, u239_87, u239_88, u239_92, u239_93, u239_96, u239_99, u239_100, u239_101, u239_103, u239_106, u239_109, u239_110, u239_113, u239_115, u239_116, u239_117, u239_118, u239_119, u239_120, u239_121, u239_122, u239_125, u239_127, u239_130, u239_133, u239_134, u239_137, u239_139, u239_140, u239_141, u239_144, u239_147, u239_148, u239_149, u239_152, u239_153, u239_154, u239_157, u239_158, u239_161, hw, n12, hcn, hev, e1, e2, hos, c1, h6, mj_cc_v, mj_cc_n, List.all_cons, List.all_nil, mj_noMk_int, mj_noMk_long, mj_noMk_ref, mj_noMk_junk, List.length_nil, List.length_cons, Nat.zero_le, Nat.reduceLeDiff, Nat.reduceAdd, Bool.and_true, Bool.true_and, Bool.and_self, Nat.reduceBNe, true_or, or_true, true_and, and_true, mj_z0, mj_z1, mj_z01, decide_true, decide_false, Bool.true_and, Bool.false_and, Bool.and_true, Bool.and_false, Bool.true_or, Bool.false_or, Bool.or_false, Bool.or_true, Bool.not_true, Bool.not_false, Bool.and_self, Bool.or_self, if_true, if_false, Bool.true_eq_false, Bool.false_eq_true, not_true, not_false_eq_true]
theorem mj_Mst_work {N R w t : Nat} {set : Int32} (hM : mj_Mst σ N R w t) (hw : w < 12) (hok : mj_wok σ N w t set = true) : mj_Mst (mj_wst σ N w t set) N R (w + 1) t := by
  obtain ⟨hW, hS, m1, m2, m3, m4⟩ := hM
  have h9 := hW.2.1
  unfold mj_wok at hok
  simp only [Bool.and_eq_true, decide_eq_true_eq] at hok
  have c : ∀ c, c ≠ 61 → c ≠ 76 → c ≠ 77 → c ≠ 85 → (mj_wst σ N w t set).1 c = σ.1 c := by
    intro c h1 h2 h3 h4
    unfold mj_wst
    rw [mj_setI_ne _ _ _ h1, mj_wkS_o h2 h3, mj_setI_ne _ _ _ h1, mj_cnS_o h4 h1]
  have ci : ∀ i, i ≠ 1 → i ≠ 46 → i ≠ 47 → (mj_wst σ N w t set).1 61 i = σ.1 61 i := by
    intro i h1 h2 h3
    unfold mj_wst
    rw [mj_setI_i h1, mj_wkS_o (by decide) (by decide), mj_setI_i h3]
    have F := mj_cnS_Fq (σ := σ) (N := N)
    by_cases h5 : i = 51 ∨ i = 52 ∨ i = 53 ∨ i = 54
    · rcases h5 with q | q | q | q <;> subst q <;> rfl
    · exact F.2.2 i h2 h3 (by omega) (by omega) (by omega) (by omega)
  have i76 : ∀ i, (mj_wst σ N w t set).1 76 i = if i < N ∧ mj_b set i = true then σ.1 76 i - 1 else σ.1 76 i := by
    intro i
    unfold mj_wst
    rw [mj_setI_ne _ _ _ (by decide), mj_wkS_76, mj_setI_ne _ _ _ (by decide), mj_cnS_o (by decide) (by decide)]
  have i77 : ∀ i, (mj_wst σ N w t set).1 77 i = if i < N ∧ mj_b (mj_wlo σ N w t set) i = true then 1 else σ.1 77 i := by
    intro i
    unfold mj_wst
    rw [mj_setI_ne _ _ _ (by decide), mj_wkS_77, mj_setI_ne _ _ _ (by decide), mj_cnS_o (by decide) (by decide)]
  have e85 : (mj_wst σ N w t set).1 85 = (mj_cnS σ N).1 85 := by
    unfold mj_wst
    rw [mj_setI_ne _ _ _ (by decide), mj_wkS_o (by decide) (by decide), mj_setI_ne _ _ _ (by decide)]
  have ew : mj_wc (mj_wst σ N w t set) = mj_wc σ := by
    funext n
    unfold mj_wc
    rw [c 65 (by decide) (by decide) (by decide) (by decide)]
  have hPc := mj_cnS_Pw (N := N) hS.1
  refine ⟨?_, ?_, ?_, by omega, ?_, m4⟩
  · obtain ⟨w1, w2, w3, w4, w5, w6, w7, w8⟩ := hW
    unfold mj_Wd mj_Mok at *
    rw [ew, c 65 (by decide) (by decide) (by decide) (by decide), c 68 (by decide) (by decide) (by decide) (by decide), c 69 (by decide) (by decide) (by decide) (by decide), c 70 (by decide) (by decide) (by decide) (by decide), c 75 (by decide) (by decide) (by decide) (by decide), ci 0 (by decide) (by decide) (by decide)]
    refine ⟨w1, w2, w3, w4, w5, w6, w7, fun i hi => ?_⟩
    unfold mj_lvn
    rw [i76, i77]
    have hD := w8 i hi
    by_cases g : i < N ∧ mj_b (mj_wlo σ N w t set) i = true
    · rw [if_pos g, if_pos rfl]
      exact ⟨4, by omega, rfl⟩
    · rw [if_neg g]
      unfold mj_lvn at hD
      by_cases g2 : σ.1 77 i = 1
      · rw [if_pos g2]
        exact ⟨4, by omega, rfl⟩
      · rw [if_neg g2] at hD ⊢
        by_cases g3 : i < N ∧ mj_b set i = true
        · rw [if_pos g3]
          have ho := mj_Gset_bit w2 (mj_sub_b hok.1 g3.2) (by omega)
          have hne := mj_Gopn_ne ho
          obtain ⟨n, hn, e⟩ := hD
          unfold mj_lvn at hne
          rw [if_neg g2, e] at hne
          have n1 : 1 ≤ n := by
            apply Classical.byContradiction
            intro z
            have : n = 0 := by omega
            subst this
            exact hne rfl
          refine ⟨n - 1, by omega, ?_⟩
          rw [e]
          show nI n - nI 1 = nI (n - 1)
          exact mj_nI_sub n1
        · rw [if_neg g3]
          exact hD
  · unfold mj_Scr mj_Pw at hS ⊢
    rw [e85, c 84 (by decide) (by decide) (by decide) (by decide), c 87 (by decide) (by decide) (by decide) (by decide), ci 51 (by decide) (by decide) (by decide)]
    unfold mj_Pw at hPc
    rw [mj_cnS_o (c := 84) (by decide) (by decide)] at hPc
    exact ⟨⟨hPc.1, hPc.2⟩, hS.2⟩
  · unfold mj_wst
    exact mj_setI_eq
  · rw [ci 2 (by decide) (by decide) (by decide)]
    exact m3
end
