section
variable {X : mj_X} {d : Nat} {σ τ ρ : mj_St}
-- how far the marks may grow
def mj_rmL : List Nat := [2, 4, 6, 8, 10, 12, 14, 16, 18, 20, 22, 24, 28, 32, 36, 40, 44, 48, 56, 64, 72, 80, 88, 96, 112, 128, 144, 160, 176, 192, 224, 256, 288, 320, 352, 384, 448, 512, 576, 640, 704, 768, 896, 1024, 1152, 1280, 1408, 1536, 1792, 2048, 2304, 2560, 2816, 3072, 4096, 5120, 6144, 7168, 8192, 9216, 10240, 11264, 12288]
def mj_rmS (l : List Nat) (m : Nat) : Nat := match l with
  | [] => 0
  | e :: l => (if e ≤ m then e + 1 else 0) + mj_rmS l m
def mj_rmB (m : Nat) : Nat := mj_rmS mj_rmL m
theorem mj_rmS_le {a b : Nat} (h : a ≤ b) : ∀ l, mj_rmS l a ≤ mj_rmS l b := by
  intro l
  induction l with
  | nil => exact Nat.le_refl _
  | cons e l ih =>
    simp only [mj_rmS]
    by_cases c : e ≤ a
    · rw [if_pos c, if_pos (by omega)]
      omega
    · rw [if_neg c]
      omega
theorem mj_rmS_in {a b : Nat} (h : a < b) : ∀ l, b ∈ l → mj_rmS l a + (b + 1) ≤ mj_rmS l b := by
  intro l
  induction l with
  | nil => intro z; exact absurd z (by simp)
  | cons e l ih =>
    intro z
    simp only [mj_rmS]
    by_cases c : e = b
    · have h1 := mj_rmS_le (Nat.le_of_lt h) l
      rw [if_neg (by omega), if_pos (by omega)]
      omega
    · have z' : b ∈ l := by
        rcases List.mem_cons.mp z with q | q
        · exact absurd q.symm c
        · exact q
      have h1 := ih z'
      by_cases c1 : e ≤ a
      · rw [if_pos c1, if_pos (by omega)]
        omega
      · rw [if_neg c1]
        omega
theorem mj_rm1 : ∀ w, w < 12 → ∀ n, n < 7 → 2 * mj_hf w 1 n ∈ mj_rmL := by decide +kernel
theorem mj_rm8 : ∀ w, w < 12 → ∀ n, n < 7 → 2 * mj_hf w 8 n ∈ mj_rmL := by decide +kernel
theorem mj_rmB_le {m : Nat} : mj_rmB m ≤ 102903 := by
  have h : ∀ l : List Nat, mj_rmS l m ≤ (l.map (fun e => e + 1)).sum := by
    intro l
    induction l with
    | nil => exact Nat.le_refl _
    | cons e l ih =>
      simp only [mj_rmS, List.map_cons, List.sum_cons]
      by_cases c : e ≤ m
      · rw [if_pos c]; omega
      · rw [if_neg c]; omega
  have e : (mj_rmL.map (fun e => e + 1)).sum = 102903 := by decide +kernel
  rw [← e]
  exact h mj_rmL
/-- the room that marks of such a length may have taken -/
def mj_Rb (B : Nat) (σ : mj_St) : Prop := σ.2.2.2.2 ≤ B + mj_rmB σ.2.2.2.1
theorem mj_clrS_Rb {B m : Nat} (hm : m ∈ mj_rmL) (h : mj_Rb B σ) : mj_Rb B (mj_clrS σ m) := by
  unfold mj_clrS
  by_cases c : σ.2.2.2.1 < m
  · rw [if_pos c]
    have h1 := mj_rmS_in c mj_rmL hm
    unfold mj_Rb at h ⊢
    show σ.2.2.2.2 + (m + 1) ≤ B + mj_rmB m
    unfold mj_rmB at h ⊢
    omega
  · rw [if_neg c]
    exact h
/-- the same but for a search -/
def mj_Fs (σ ρ : mj_St) : Prop := (∀ c, c < 46 ∨ 54 < c → ρ.1 c = σ.1 c) ∧ (∀ c, c ≠ 999 → ρ.2.1 c = σ.2.1 c) ∧ (∀ c, c ≠ 46 → ρ.2.2.1 c = σ.2.2.1 c) ∧ (σ.2.2.2.1 ≤ 20000 → ρ.2.2.2.1 ≤ 20000) ∧ ∀ B, mj_Rb B σ → mj_Rb B ρ
theorem mj_Fs_rf : mj_Fs σ σ := ⟨fun _ _ => rfl, fun _ _ => rfl, fun _ _ => rfl, fun h => h, fun _ h => h⟩
theorem mj_Fs_tr (h : mj_Fs σ τ) (g : mj_Fs τ ρ) : mj_Fs σ ρ := ⟨fun c q => (g.1 c q).trans (h.1 c q), fun c q => (g.2.1 c q).trans (h.2.1 c q), fun c q => (g.2.2.1 c q).trans (h.2.2.1 c q), fun q => g.2.2.2.1 (h.2.2.2.1 q), fun B q => g.2.2.2.2 B (h.2.2.2.2 B q)⟩
theorem mj_Fs_Fm (h : mj_Fm σ ρ) : mj_Fs σ ρ := ⟨fun c _ => by rw [h.1], h.2.1, fun c _ => by rw [h.2.2], fun q => by rw [h.2.2]; exact q, fun B q => by unfold mj_Rb at q ⊢; rw [h.2.2]; exact q⟩
theorem mj_Fs_pc {N w : Nat} (h : mj_Fs σ ρ) (hc : mj_pc σ N w) : mj_pc ρ N w := by
  obtain ⟨c1, c2, c3, c4, c5, c6, c7, c8⟩ := hc
  have e : ∀ c, c < 46 → ρ.1 c = σ.1 c := fun c q => h.1 c (Or.inl q)
  refine ⟨by rw [e 14 (by decide)]; exact c1, c2, by rw [e 14 (by decide)]; exact c3, c4, by rw [e 20 (by decide)]; exact c5, by rw [e 15 (by decide)]; exact c6, ?_, h.2.2.2.1 c8⟩
  rw [e 15 (by decide), e 25 (by decide)]
  exact c7
theorem mj_Fs_pe (h : mj_Fs σ ρ) (he : mj_pe σ) : mj_pe ρ := by
  unfold mj_pe at he ⊢
  rw [h.1 18 (Or.inl (by decide)), h.1 17 (Or.inl (by decide))]
  exact he
theorem mj_mkR_Fs {w gr n : Nat} (hw : w < 12) (hn : n ≤ 6) (hgr : gr = 1 ∨ gr = 8) : mj_Fs σ (mj_mkR σ w gr n) := by
  have hin : 2 * mj_hf w gr n ∈ mj_rmL := by
    rcases hgr with z | z <;> subst z
    · exact mj_rm1 w hw n (by omega)
    · exact mj_rm8 w hw n (by omega)
  refine ⟨fun c q => mj_mkR_o (by omega) (by omega), fun c q => mj_mkR_l q, fun c _ => by rw [mj_mkR_r], fun q => mj_mkR_n q hn hgr, fun B q => ?_⟩
  have q' : mj_Rb B (mj_mkH σ w gr n) := q
  unfold mj_mkR
  by_cases b : mj_hop σ w gr n = true
  · rw [if_pos b]; exact q'
  · rw [if_neg b]
    exact mj_clrS_Rb hin q'
theorem mj_q4_Fs {set o : Int32} {gr N : Nat} : mj_Fs σ (mj_q4 σ set gr o N) := by
  refine ⟨fun c q => ?_, fun c _ => rfl, fun c q => ?_, fun q => q, fun B q => q⟩
  · show (mj_fpS _ _ _ _).1 c = _
    rw [mj_fpS_o (by omega) (by omega)]
    exact mj_q3_o (by omega)
  · funext i
    show (if c = 46 ∧ i = 0 then some 14 else σ.2.2.1 c i) = σ.2.2.1 c i
    rw [if_neg (fun z => q z.1)]
theorem mj_prS_Fs {set o : Int32} {gr N w : Nat} (hc : mj_pc σ N w) (hgr : gr = 1 ∨ gr = 8) : mj_Fs σ (mj_prS σ set gr o N w) := by
  have n6 : mj_qn σ set gr o N ≤ 6 := mj_q3_len (set := set) (o := o) (gr := gr) hc
  unfold mj_prS
  by_cases b : mj_hp0 σ set = true ∨ w = 12
  · rw [if_pos b]
    exact mj_q4_Fs
  · rw [if_neg b]
    have hw := hc.2.2.2.1
    refine mj_Fs_tr (mj_q4_Fs (set := set) (o := o) (gr := gr) (N := N)) (mj_Fs_tr ?_ (mj_mkR_Fs (by omega) n6 hgr))
    refine ⟨fun c q => ?_, fun c _ => rfl, fun c _ => rfl, fun q => q, fun B q => q⟩
    rw [mj_Th_o (by omega) (by omega) (by omega), mj_q7_o (by omega) (by omega) (by omega) (by omega)]
/-- whether a search for this set succeeds -/
def mj_ckg (σ : mj_St) (set : Int32) (gr : Nat) (o : Int32) (N w : Nat) : Bool := !(mj_hp0 σ set) && (decide (w = 12) || mj_suc (mj_prS σ set gr o N w) (mj_qn σ set gr o N) w (mj_sgr σ N gr).toNatClampNeg (mj_stn (mj_q3 σ set gr o N) (mj_plL (mj_q3 σ set gr o N) N)))
theorem mj_prsuc {set o : Int32} {gr N w : Nat} (hX : mj_XS X) (hc : mj_pc σ N w) (hgr : gr = 1 ∨ gr = 8) (he : mj_pe σ) : ∃ ρ, mj_Fm (mj_prS σ set gr o N w) ρ ∧ (mj_hp0 σ set = false → w < 12 → (mj_prS σ set gr o N w).1 46 4 = 0 → mj_MI ρ (mj_qn σ set gr o N) w gr) ∧ ∀ d, mj_ev X (d + 40) 86 [.ref 46] (mj_prS σ set gr o N w) = some (some (.int (mj_z (mj_ckg σ set gr o N w))), ρ) := by
  unfold mj_ckg
  cases b1 : mj_hp0 σ set
  · by_cases b2 : w = 12
    · have e : mj_prS σ set gr o N w = mj_q4 σ set gr o N := by
        unfold mj_prS
        rw [if_pos (Or.inr b2)]
      have e4 : (mj_q4 σ set gr o N).1 46 4 = 0 := by
        show (mj_fpS _ _ _ _).1 46 4 = 0
        rw [mj_fpS_46 (by decide) (by decide)]
        unfold mj_q3
        rw [mj_setI_eq, b1]
        rfl
      have ew : (mj_q4 σ set gr o N).1 14 17 = nI w := by
        rw [mj_q4_Fs.1 14 (Or.inl (by decide))]
        exact hc.2.2.1
      have r4 : (mj_q4 σ set gr o N).2.2.1 46 0 = some 14 := rfl
      rw [e]
      refine ⟨_, mj_Fm_rf, fun _ z => absurd z (by omega), fun d => ?_⟩
      have q : ¬ nI 12 < 12 := by decide
      have hwd : ∀ a c : Int32, mj_ev X (d + 39) 87 [.ref 46, .int (nI 12), .int a, .int c] (mj_q4 σ set gr o N) = some (some (.int 1), mj_q4 σ set gr o N) := by
        intro a c
        refine st87 ?_
        simp only [u87_0, u87_1, u87_3, u87_6, u87_7, u87_8, u87_9, u87_10, u87_13, u87_16, u87_17, u87_18, u87_21, u87_22, u87_23, u87_24, u87_25, u87_26, u87_29, u87_30, u87_31, u87_32, u87_33, u87_35, u87_37, u87_39, u87_40, u87_42, u87_43, u87_46, u87_48, u87_50, u87_53, u87_55, u87_57, u87_58, u87_59, u87_62, u87_63, u87_66, u87_67, u87_68, u87_69, u87_71, u87_73, u87_74, u87_75, u87_77, u87_78, u87_81, u87_83, u87_84, u87_86, u87_87, u87_88, u87_89, u87_92, u87_93, u87_94, u87_95, u87_98, u87_100, u87_102, u87_103, u87_104, u87_106, u87_107, u87_108, u87_109, u87_112, u87_113, u87_114, u87_115, u87_116, u87_117, u87_118, u87_121, u87_123, u87_125, u87_126, u87_129, u87_130, u87_132, u87_133, u87_134, u87_135, u87_138, u87_141, u87_142, u87_145, u87_146, u87_148, u87_149, u87_152, u87_154, u87_157, u87_159, u87_162, u87_164, u87_166, u87_167, u87_168, u87_169, u87_171, u87_172, u87_173, u87_175, q, mj_cc_v, mj_cc_n, List.all_cons, List.all_nil, mj_noMk_int, mj_noMk_long, mj_noMk_ref, mj_noMk_junk, List.length_nil, List.length_cons, Nat.zero_le, Nat.reduceLeDiff, Nat.reduceAdd, Bool.and_true, Bool.true_and, Bool.and_self, Nat.reduceBNe, true_or, or_true, true_and, and_true, mj_z0, mj_z1, mj_z01, decide_true, decide_false, Bool.true_and, Bool.false_and, Bool.and_true, Bool.and_false, Bool.true_or, Bool.false_or, Bool.or_false, Bool.or_true, Bool.not_true, Bool.not_false, Bool.and_self, Bool.or_self, if_true, if_false, Bool.true_eq_false, Bool.false_eq_true, not_true, not_false_eq_true]
      rw [decide_eq_true b2]
      rw [b2] at ew
      generalize mj_q4 σ set gr o N = s4 at *
      refine st86 ?_
      simp only [u86_0, u86_1, u86_4, u86_4n, u86_7, u86_8, u86_11, u86_14, u86_15, u86_16, u86_19, u86_22, u86_23, u86_26, u86_27, u86_30, u86_33, u86_36, u86_37, u86_40, u86_41, r4, mj_rf_some, mj_rf14, mj_noMk_ref, e4, ew, hwd, mj_zT, mj_n10, mj_cc_v, mj_cc_n, List.all_cons, List.all_nil, mj_noMk_int, mj_noMk_long, mj_noMk_ref, mj_noMk_junk, List.length_nil, List.length_cons, Nat.zero_le, Nat.reduceLeDiff, Nat.reduceAdd, Bool.and_true, Bool.true_and, Bool.and_self, Nat.reduceBNe, true_or, or_true, true_and, and_true, mj_z0, mj_z1, mj_z01, decide_true, decide_false, Bool.true_and, Bool.false_and, Bool.and_true, Bool.and_false, Bool.true_or, Bool.false_or, Bool.or_false, Bool.or_true, Bool.not_true, Bool.not_false, Bool.and_self, Bool.or_self, if_true, if_false, Bool.true_eq_false, Bool.false_eq_true, not_true, not_false_eq_true]
      try simp
    · have hw : w < 12 := by have := hc.2.2.2.1; omega
      obtain ⟨sd, sf, mi, e7, e6⟩ := mj_pr_ready (set := set) (o := o) hc hgr he b1 hw
      obtain ⟨s, hs, es⟩ := mj_sgr_lt (σ := σ) (N := N) hgr
      have ec : (mj_sgr σ N gr).toNatClampNeg = s := by rw [es]; exact nI_clamp (by omega)
      rw [es] at e7
      obtain ⟨ρ, F, M, h⟩ := sp_succeeds hX sd sf e7 e6 hs (mj_stn_lt _) (fun z _ => mi z)
      refine ⟨ρ, F, fun _ _ z => M z hw, fun d => ?_⟩
      rw [decide_eq_false b2, ec]
      exact h d
  · have e : mj_prS σ set gr o N w = mj_q4 σ set gr o N := by
      unfold mj_prS
      rw [if_pos (Or.inl b1)]
    have e4 : (mj_q4 σ set gr o N).1 46 4 = 1 := by
      show (mj_fpS _ _ _ _).1 46 4 = 1
      rw [mj_fpS_46 (by decide) (by decide)]
      unfold mj_q3
      rw [mj_setI_eq, b1]
      rfl
    have r4 : (mj_q4 σ set gr o N).2.2.1 46 0 = some 14 := rfl
    rw [e]
    refine ⟨_, mj_Fm_rf, fun z => absurd z (by decide), fun d => ?_⟩
    generalize mj_q4 σ set gr o N = s4 at *
    refine st86 ?_
    simp only [u86_0, u86_1, u86_4, u86_4n, u86_7, u86_8, u86_11, u86_14, u86_15, u86_16, u86_19, u86_22, u86_23, u86_26, u86_27, u86_30, u86_33, u86_36, u86_37, u86_40, u86_41, r4, mj_rf_some, mj_rf14, mj_noMk_ref, e4, mj_n10, mj_zF, mj_cc_v, mj_cc_n, List.all_cons, List.all_nil, mj_noMk_int, mj_noMk_long, mj_noMk_ref, mj_noMk_junk, List.length_nil, List.length_cons, Nat.zero_le, Nat.reduceLeDiff, Nat.reduceAdd, Bool.and_true, Bool.true_and, Bool.and_self, Nat.reduceBNe, true_or, or_true, true_and, and_true, mj_z0, mj_z1, mj_z01, decide_true, decide_false, Bool.true_and, Bool.false_and, Bool.and_true, Bool.and_false, Bool.true_or, Bool.false_or, Bool.or_false, Bool.or_true, Bool.not_true, Bool.not_false, Bool.and_self, Bool.or_self, if_true, if_false, Bool.true_eq_false, Bool.false_eq_true, not_true, not_false_eq_true]
    try simp
def mj_ckp (σ : mj_St) (set o : Int32) (N w : Nat) : Bool := mj_ckg σ set 1 o N w
theorem sp_keptC {set o : Int32} {N w : Nat} (hX : mj_XS X) (hc : mj_pc σ N w) (he : mj_pe σ) : ∃ ρ, mj_Fs σ ρ ∧ ∀ d, mj_ev X (d + 41) 54 [.ref 0, .int set, .int o] σ = some (some (.int (mj_z (mj_ckp σ set o N w))), ρ) := by
  obtain ⟨ρ, F, -, h⟩ := mj_prsuc (set := set) (o := o) (gr := 1) hX hc (Or.inl rfl) he
  refine ⟨ρ, mj_Fs_tr (mj_prS_Fs hc (Or.inl rfl)) (mj_Fs_Fm F), fun d => ?_⟩
  have hp := sp_prepare (X := X) (d := d + 35) (set := set) (gc := 1) (o := o) (gr := 1) hX hc (Or.inr ⟨by decide, rfl⟩)
  have hd := h d
  unfold mj_ckp
  refine st54 ?_
  cases b : mj_ckg σ set 1 o N w
  · rw [b] at hd
    simp only [u54_0, u54_1, u54_4, u54_5, u54_8, u54_9, u54_10, u54_11, u54_14, u54_15, u54_18, u54_21, hp, hd, mj_zF, mj_cc_v, mj_cc_n, List.all_cons, List.all_nil, mj_noMk_int, mj_noMk_long, mj_noMk_ref, mj_noMk_junk, List.length_nil, List.length_cons, Nat.zero_le, Nat.reduceLeDiff, Nat.reduceAdd, Bool.and_true, Bool.true_and, Bool.and_self, Nat.reduceBNe, true_or, or_true, true_and, and_true, mj_z0, mj_z1, mj_z01, decide_true, decide_false, Bool.true_and, Bool.false_and, Bool.and_true, Bool.and_false, Bool.true_or, Bool.false_or, Bool.or_false, Bool.or_true, Bool.not_true, Bool.not_false, Bool.and_self, Bool.or_self, if_true, if_false, Bool.true_eq_false, Bool.false_eq_true, not_true, not_false_eq_true]
  · rw [b] at hd
    simp only [u54_0, u54_1, u54_4, u54_5, u54_8, u54_9, u54_10, u54_11, u54_14, u54_15, u54_18, u54_21, hp, hd, mj_zT, mj_n10, mj_cc_v, mj_cc_n, List.all_cons, List.all_nil, mj_noMk_int, mj_noMk_long, mj_noMk_ref, mj_noMk_junk, List.length_nil, List.length_cons, Nat.zero_le, Nat.reduceLeDiff, Nat.reduceAdd, Bool.and_true, Bool.true_and, Bool.and_self, Nat.reduceBNe, true_or, or_true, true_and, and_true, mj_z0, mj_z1, mj_z01, decide_true, decide_false, Bool.true_and, Bool.false_and, Bool.and_true, Bool.and_false, Bool.true_or, Bool.false_or, Bool.or_false, Bool.or_true, Bool.not_true, Bool.not_false, Bool.and_self, Bool.or_self, if_true, if_false, Bool.true_eq_false, Bool.false_eq_true, not_true, not_false_eq_true]
end
