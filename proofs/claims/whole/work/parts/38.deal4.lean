section
variable {X : mj_X} {d : Nat} {σ : mj_St}
def mj_pop (x : Int32) : Int32 :=
  let a := x - ((x.toUInt32 >>> ((1 : Int32).toUInt32 &&& Int32.toUInt32 31)).toInt32 &&& 1431655765)
  let b := (a &&& 858993459) + ((a.toUInt32 >>> ((2 : Int32).toUInt32 &&& Int32.toUInt32 31)).toInt32 &&& 858993459)
  let c := (b + (b.toUInt32 >>> ((4 : Int32).toUInt32 &&& Int32.toUInt32 31)).toInt32) &&& 252645135
  let e := c + (c.toUInt32 >>> ((8 : Int32).toUInt32 &&& Int32.toUInt32 31)).toInt32
  let f := e + (e.toUInt32 >>> ((16 : Int32).toUInt32 &&& Int32.toUInt32 31)).toInt32
  f &&& 63
theorem sp_bitCount {x : Int32} : mj_ev X (d + 1) 68 [.int x] σ = some (some (.int (mj_pop x)), σ) := by
  refine st68 ?_
  simp only [u68_0, u68_1, u68_2, u68_3, u68_4, u68_7, u68_8, u68_9, u68_10, u68_11, u68_14, u68_15, u68_16, u68_17, u68_18, u68_21, u68_22, u68_23, u68_24, u68_25, u68_26, u68_27, u68_28, u68_29, u68_32, u68_33, u68_34, u68_35, u68_36, u68_38, u68_39, u68_40, u68_41, u68_42, u68_43, u68_45, u68_46, u68_47, u68_48, u68_49, u68_51, u68_52]
  rfl
def mj_aOpen (σ : mj_St) (a : Nat) (set h o g : Int32) (N : Nat) : Bool := decide (set &&& (((1 <<< (σ.1 14 14 &&& 31)) - 1) ^^^ -1) = 0) && (decide (set &&& mj_ring σ N = 0) && !(mj_anyF (fun i => mj_b set i && !(mj_wk (σ.1 15 i) && mj_opn σ a g h o i)) 0 N))
theorem sp_areOpen {N a : Nat} {set h o g : Int32} (hN : σ.1 14 14 = nI N) (h9 : N ≤ 9) (ha : mj_shp a = (1, 9, [])) (hf : ∀ k, k < N → σ.1 20 k = -1 ∨ mj_inb (σ.1 20 k) 3 = true) : mj_ev X (d + 4) 131 [.ref 14, .int set, .int h, .int o, .ref a, .int g] σ = some (some (.int (mj_z (mj_aOpen σ a set h o g N))), σ) := by
  have h9' : (σ.1 14 14).toInt ≤ 9 := by rw [hN, nI_toInt (by omega)]; omega
  refine st131 ?_
  simp only [u131_0, u131_1, u131_2, u131_5, u131_6, u131_7, u131_8, u131_11, u131_12, u131_13, u131_16, u131_17, u131_20, u131_21, u131_22, u131_23, u131_27, u131_28, u131_31, u131_34, u131_35, u131_37, u131_38, u131_39, u131_40, u131_43, u131_44, u131_46, u131_49, u131_52, u131_53, u131_55, u131_56, u131_57, u131_59, u131_61, u131_64, u131_67, u131_68, u131_69, u131_72, u131_75, u131_76, sp_everyone, sp_ringOnes hN h9, mj_cc_v, mj_cc_n, List.all_cons, List.all_nil, mj_noMk_int, mj_noMk_long, mj_noMk_ref, mj_noMk_junk, List.length_nil, List.length_cons, Nat.zero_le, Nat.reduceLeDiff, Nat.reduceAdd, Bool.and_true, Bool.true_and, Bool.and_self, Nat.reduceBNe, true_or, or_true, true_and, and_true, mj_z0, mj_z1, mj_z01]
  unfold mj_aOpen
  by_cases h1 : set &&& (((1 <<< (σ.1 14 14 &&& 31)) - 1) ^^^ -1) = 0
  · by_cases h2 : set &&& mj_ring σ N = 0
    · simp only [h1, h2, if_true, decide_true, Bool.true_and]
      have key : ∀ j k : Nat, k + j = N → mj_Runs X (mj_ev X (d + 3)) 1 (some .boolean) prog_3_method_24_code (25, [.ref 14, .int set, .int h, .int o, .ref a, .int g, .int (nI k)], [], σ) (some (.int (mj_z (!(mj_anyF (fun i => mj_b set i && !(mj_wk (σ.1 15 i) && mj_opn σ a g h o i)) k j)))), σ) := by
        intro j
        induction j with
        | zero =>
          intro k hk
          have hkN : k = N := by omega
          subst hkN
          refine u131_25.mpr ?_
          simp only [u131_0, u131_1, u131_2, u131_5, u131_6, u131_7, u131_8, u131_11, u131_12, u131_13, u131_16, u131_17, u131_20, u131_21, u131_22, u131_23, u131_27, u131_28, u131_31, u131_34, u131_35, u131_37, u131_38, u131_39, u131_40, u131_43, u131_44, u131_46, u131_49, u131_52, u131_53, u131_55, u131_56, u131_57, u131_59, u131_61, u131_64, u131_67, u131_68, u131_69, u131_72, u131_75, u131_76, hN, nI_nlt (Nat.le_refl k) (show k < 2 ^ 31 by omega), if_false]
          simp [mj_anyF, mj_z]
        | succ j ih =>
          intro k hk
          have hr := ih (k + 1) (by omega)
          have hl := mj_lt0_nI (show k < N by omega) (show N < 2147483648 by omega)
          rw [← hN] at hl
          have hlt : nI k < σ.1 14 14 := by rw [hN]; exact nI_lt (by omega) (by omega)
          refine u131_25.mpr ?_
          simp only [u131_0, u131_1, u131_2, u131_5, u131_6, u131_7, u131_8, u131_11, u131_12, u131_13, u131_16, u131_17, u131_20, u131_21, u131_22, u131_23, u131_27, u131_28, u131_31, u131_34, u131_35, u131_37, u131_38, u131_39, u131_40, u131_43, u131_44, u131_46, u131_49, u131_52, u131_53, u131_55, u131_56, u131_57, u131_59, u131_61, u131_64, u131_67, u131_68, u131_69, u131_72, u131_75, u131_76, hlt, if_true, sp_isWork h9', sp_isOpen (show k < 9 by omega) ha h9' (hf k (by omega)), hl, mj_nz9 (show k < 9 by omega) (by decide), mj_cc_v, mj_cc_n, List.all_cons, List.all_nil, mj_noMk_int, mj_noMk_long, mj_noMk_ref, mj_noMk_junk, List.length_nil, List.length_cons, Nat.zero_le, Nat.reduceLeDiff, Nat.reduceAdd, Bool.and_true, Bool.true_and, Bool.and_self, Nat.reduceBNe, true_or, or_true, true_and, and_true, mj_z0, mj_z1, mj_z01, nI_1, mj_b0 (show k < 32 by omega), mj_anyF]
          cases hb : mj_b set k
          · simp only [if_true, Bool.false_and, Bool.false_or] at hr ⊢
            exact hr
          · cases hw : mj_wk (σ.1 15 k)
            · simp [mj_z]
            · cases ho : mj_opn σ a g h o k
              · simp [mj_z]
              · simp only [Bool.true_eq_false, if_false, Bool.and_self, Bool.not_true, Bool.and_false, Bool.false_or] at hr ⊢
                exact hr
      exact key N 0 (by omega)
    · simp [h1, h2, mj_z]
  · simp only [h1, if_false, decide_false, Bool.false_and]
    simp [mj_z]
/-- whether a thing is needed twice -/
def mj_twc (th : Nat → Int32) (set : Int32) (N : Nat) : Nat → Nat → Int32 → Bool
  | _, 0, _ => false
  | k, j + 1, t => !(decide (t &&& mj_things th (mj_b (set &&& (1 <<< (nI k &&& 31)))) N = 0)) || mj_twc th set N (k + 1) j (t ||| mj_things th (mj_b (set &&& (1 <<< (nI k &&& 31)))) N)
theorem sp_hasThingTwice {N : Nat} {set : Int32} (hN : σ.1 14 14 = nI N) (h9 : N ≤ 9) : mj_ev X (d + 2) 133 [.ref 14, .int set] σ = some (some (.int (mj_z (mj_twc (σ.1 18) set N 0 N 0))), σ) := by
  refine st133 ?_
  simp only [u133_0, u133_1, u133_2, u133_3, u133_5, u133_6, u133_9, u133_12, u133_13, u133_14, u133_15, u133_16, u133_17, u133_18, u133_21, u133_23, u133_24, u133_26, u133_27, u133_30, u133_31, u133_32, u133_33, u133_35, u133_36, u133_37, u133_40, u133_43, u133_44]
  have key : ∀ (j k : Nat) (t : Int32) (v : Value), mj_noMk v = true → k + j = N → mj_Runs X (mj_ev X (d + 1)) 1 (some .boolean) prog_3_method_27_code (4, [.ref 14, .int set, .int t, .int (nI k), v], [], σ) (some (.int (mj_z (mj_twc (σ.1 18) set N k j t))), σ) := by
    intro j
    induction j with
    | zero =>
      intro k t v hv hk
      have hkN : k = N := by omega
      subst hkN
      refine u133_4.mpr ?_
      simp only [u133_0, u133_1, u133_2, u133_3, u133_5, u133_6, u133_9, u133_12, u133_13, u133_14, u133_15, u133_16, u133_17, u133_18, u133_21, u133_23, u133_24, u133_26, u133_27, u133_30, u133_31, u133_32, u133_33, u133_35, u133_36, u133_37, u133_40, u133_43, u133_44, hN, nI_nlt (Nat.le_refl k) (show k < 2 ^ 31 by omega), if_false]
      simp [mj_twc, mj_z]
    | succ j ih =>
      intro k t v hv hk
      have hlt : nI k < σ.1 14 14 := by rw [hN]; exact nI_lt (by omega) (by omega)
      refine u133_4.mpr ?_
      simp only [u133_0, u133_1, u133_2, u133_3, u133_5, u133_6, u133_9, u133_12, u133_13, u133_14, u133_15, u133_16, u133_17, u133_18, u133_21, u133_23, u133_24, u133_26, u133_27, u133_30, u133_31, u133_32, u133_33, u133_35, u133_36, u133_37, u133_40, u133_43, u133_44, hlt, if_true, sp_thingsOf hN h9, mj_cc_v, mj_cc_n, List.all_cons, List.all_nil, mj_noMk_int, mj_noMk_long, mj_noMk_ref, mj_noMk_junk, List.length_nil, List.length_cons, Nat.zero_le, Nat.reduceLeDiff, Nat.reduceAdd, Bool.and_true, Bool.true_and, Bool.and_self, Nat.reduceBNe, true_or, or_true, true_and, and_true, mj_z0, mj_z1, mj_z01, nI_1, mj_twc, hv]
      by_cases h1 : t &&& mj_things (σ.1 18) (mj_b (set &&& (1 <<< (nI k &&& 31)))) N = 0
      · simp only [h1, if_true, decide_true, Bool.not_true, Bool.false_or]
        exact ih (k + 1) _ _ rfl (by omega)
      · simp [h1, mj_z]
  exact key N 0 0 _ rfl (by omega)
def mj_why (σ : mj_St) (a : Nat) (set h o g : Int32) (N : Nat) : Int32 := if mj_aOpen σ a set h o g N = true then (if σ.1 27 h.toNatClampNeg < mj_pop set then 2 else if mj_twc (σ.1 18) set N 0 N 0 = true then 3 else if ¬ set = 0 ∧ ¬ mj_broken σ 6 set h o N N = 0 then 4 else if mj_broken σ 5 set h o N N = 0 then 0 else 5) else 1
theorem sp_whyNot {N a : Nat} {set h o g : Int32} (hN : σ.1 14 14 = nI N) (h9 : N ≤ 9) (ha : mj_shp a = (1, 9, [])) (hf : ∀ k, k < N → σ.1 20 k = -1 ∨ mj_inb (σ.1 20 k) 3 = true) (hh : mj_inb h 12 = true) : mj_ev X (d + 5) 130 [.ref 14, .int set, .int h, .int o, .ref a, .int g] σ = some (some (.int (mj_why σ a set h o g N)), σ) := by
  refine st130 ?_
  simp only [u130_0, u130_1, u130_2, u130_3, u130_4, u130_6, u130_8, u130_11, u130_14, u130_15, u130_16, u130_17, u130_20, u130_21, u130_24, u130_25, u130_26, u130_29, u130_30, u130_31, u130_32, u130_33, u130_36, u130_39, u130_40, u130_41, u130_42, u130_45, u130_46, u130_48, u130_49, u130_50, u130_51, u130_54, u130_57, u130_58, u130_59, u130_60, u130_61, u130_62, u130_63, u130_64, u130_67, u130_70, u130_71, u130_74, u130_75, sp_areOpen hN h9 ha hf, sp_bitCount, sp_hasThingTwice hN h9, sp_brokenOnes hN h9, hh, mj_cc_v, mj_cc_n, List.all_cons, List.all_nil, mj_noMk_int, mj_noMk_long, mj_noMk_ref, mj_noMk_junk, List.length_nil, List.length_cons, Nat.zero_le, Nat.reduceLeDiff, Nat.reduceAdd, Bool.and_true, Bool.true_and, Bool.and_self, Nat.reduceBNe, true_or, or_true, true_and, and_true, mj_z0, mj_z1, mj_z01]
  unfold mj_why
  cases h1 : mj_aOpen σ a set h o g N
  · simp
  · by_cases h2 : σ.1 27 h.toNatClampNeg < mj_pop set
    · simp [h2]
    · cases h3 : mj_twc (σ.1 18) set N 0 N 0
      · by_cases h4 : set = 0
        · subst h4
          by_cases h5 : mj_broken σ 5 0 h o N N = 0 <;> simp [h2, h5]
        · by_cases h6 : mj_broken σ 6 set h o N N = 0
          · by_cases h5 : mj_broken σ 5 set h o N N = 0 <;> simp [h2, h4, h5, h6]
          · simp [h2, h4, h6]
      · simp [h2]
end
