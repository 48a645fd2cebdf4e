section
variable {s : State} {b : Nat} {A : Nat → Prop}
def lw_fl : List Cond := flatC (Jvm.Cond.and given_1 narrow_1)
def lw_tm (i : Nat) : Term := .string "KeptPromises$Reader" ((mj_strL.getD i (0, "", [])).1)
theorem lw_tx1 : ((List.range 15).all fun i => decide (Cond.exactly (lw_tm i) "java/lang/String" ∈ lw_fl) && decide (Cond.eq (.field (lw_tm i) "java/lang/String" "coder" "B") (.int 0) ∈ lw_fl) && decide (Cond.arrayOf (.field (lw_tm i) "java/lang/String" "value" "[B") .byte ∈ lw_fl) && decide (Cond.eq (.length (.field (lw_tm i) "java/lang/String" "value" "[B")) (.int (Int32.ofNat (mj_sLen.getD i 0))) ∈ lw_fl)) = true := by decide +kernel
theorem lw_tx2 : ((List.range 15).all fun i => (List.range (mj_sLen.getD i 0)).all fun j => decide (Cond.eq (.elem (.field (lw_tm i) "java/lang/String" "value" "[B") (.int (Int32.ofNat j))) (.int ((mj_sByt.getD i []).getD j 0)) ∈ lw_fl)) = true := by decide +kernel
def lw_bs : List Nat := [0, 76, 86, 98, 111, 123, 138, 152, 164, 181, 200, 217, 233, 253, 274]
def lw_qd (j : Nat) : Bool := (List.range j).all fun i => decide (lw_fl[lw_bs.getD j 0 + i]? = some (Cond.not (Cond.eq (lw_tm i) (lw_tm j))))
theorem lw_qd_0 : lw_qd 0 = true := by decide +kernel
theorem lw_qd_1 : lw_qd 1 = true := by decide +kernel
theorem lw_qd_2 : lw_qd 2 = true := by decide +kernel
theorem lw_qd_3 : lw_qd 3 = true := by decide +kernel
theorem lw_qd_4 : lw_qd 4 = true := by decide +kernel
theorem lw_qd_5 : lw_qd 5 = true := by decide +kernel
theorem lw_qd_6 : lw_qd 6 = true := by decide +kernel
theorem lw_qd_7 : lw_qd 7 = true := by decide +kernel
theorem lw_qd_8 : lw_qd 8 = true := by decide +kernel
theorem lw_qd_9 : lw_qd 9 = true := by decide +kernel
theorem lw_qd_10 : lw_qd 10 = true := by decide +kernel
theorem lw_qd_11 : lw_qd 11 = true := by decide +kernel
theorem lw_qd_12 : lw_qd 12 = true := by decide +kernel
theorem lw_qd_13 : lw_qd 13 = true := by decide +kernel
theorem lw_qd_14 : lw_qd 14 = true := by decide +kernel
theorem lw_tx3 : ∀ i j : Nat, i < j → j < 15 → Cond.not (Cond.eq (lw_tm i) (lw_tm j)) ∈ lw_fl := by
  intro i j hij hj
  have h : lw_qd j = true := by
    have : j = 0 ∨ j = 1 ∨ j = 2 ∨ j = 3 ∨ j = 4 ∨ j = 5 ∨ j = 6 ∨ j = 7 ∨ j = 8 ∨ j = 9 ∨ j = 10 ∨ j = 11 ∨ j = 12 ∨ j = 13 ∨ j = 14 := by omega
    rcases this with z | z | z | z | z | z | z | z | z | z | z | z | z | z | z <;> subst z
    · exact lw_qd_0
    · exact lw_qd_1
    · exact lw_qd_2
    · exact lw_qd_3
    · exact lw_qd_4
    · exact lw_qd_5
    · exact lw_qd_6
    · exact lw_qd_7
    · exact lw_qd_8
    · exact lw_qd_9
    · exact lw_qd_10
    · exact lw_qd_11
    · exact lw_qd_12
    · exact lw_qd_13
    · exact lw_qd_14
  have h2 := List.all_eq_true.mp h i (List.mem_range.mpr hij)
  exact List.mem_of_getElem? (of_decide_eq_true h2)
theorem lw_tx4 : ((List.range 15).all fun i => decide (mj_sLen.getD i 0 < 2 ^ 31)) = true := by decide +kernel
/-- the texts, as the start has them -/
theorem lw_texts (hgv : (Jvm.Cond.and given_1 narrow_1).before #[Value.ref b] s = true) (hA : ∀ a : Nat, a < s.heap.size → ¬ A a) : ∃ adK adV : Nat → Nat, vk_S 15 mj_sLen mj_sByt adK adV A s s.heap ∧ ∀ i : Nat, i < 15 → (lw_tm i).eval #[Value.ref b] s none [] s = some (.ref (adK i)) := by
  have hs : ∀ c ∈ lw_fl, c.before #[Value.ref b] s = true := flat_of_before _ hgv
  have k1 := lw_tx1
  have k2 := lw_tx2
  have k4 := lw_tx4
  simp only [List.all_eq_true, List.mem_range, Bool.and_eq_true, Bool.or_eq_true, decide_eq_true_eq] at k1 k2 k4
  refine vk_Sof (tm := lw_tm) k4 (fun i hi => hs _ (k1 i hi).1.1.1) (fun i hi => hs _ (k1 i hi).1.1.2) (fun i hi => hs _ (k1 i hi).1.2) (fun i hi => hs _ (k1 i hi).2) (fun i hi j hj => hs _ (k2 i hi j hj)) (fun i j hi hj hne => ?_) hA
  rcases Nat.lt_or_gt_of_ne hne with z | z
  · exact Or.inl (hs _ (lw_tx3 i j z hj))
  · exact Or.inr (hs _ (lw_tx3 j i z hi))
end
