section
variable {s : State} {b : Nat} {A : Nat → Prop}
/-- SETS, as the start has it -/
theorem lw_sets (hgv : (Jvm.Cond.and given_1 narrow_1).before #[Value.ref b] s = true) (hts : ∀ w ∈ lw_tbl, w.before #[Value.ref b] s = true) (hA : ∀ a : Nat, a < s.heap.size → ¬ A a) : ∃ t : Nat, va_Z "KeptPromises$Search" "SETS" "[I" (.ref t) A s s.heap ∧ va_T .int t 22 (fun k => .int (nI (mj_sK k))) A s s.heap := by
  have hs := flat_of_before _ hgv
  obtain ⟨t, ht, hT⟩ := va_Tof (tm := .static "KeptPromises$Search" "SETS" "[I") (ty := .int) (N := 22) (f := fun k => .int (nI (mj_sK k))) (A := A) (by decide) (hs _ (by decide +kernel)) (va_eqt (hs (.eq (.length (.static "KeptPromises$Search" "SETS" "[I")) (.int 22)) (by decide +kernel))) (fun j hj => va_eqt (hs (.eq (.elem (.static "KeptPromises$Search" "SETS" "[I") (.int (Int32.ofNat j))) (.int (nI (mj_sK j)))) (by
    have : j = 0 ∨ j = 1 ∨ j = 2 ∨ j = 3 ∨ j = 4 ∨ j = 5 ∨ j = 6 ∨ j = 7 ∨ j = 8 ∨ j = 9 ∨ j = 10 ∨ j = 11 ∨ j = 12 ∨ j = 13 ∨ j = 14 ∨ j = 15 ∨ j = 16 ∨ j = 17 ∨ j = 18 ∨ j = 19 ∨ j = 20 ∨ j = 21 := by omega
    rcases this with z | z | z | z | z | z | z | z | z | z | z | z | z | z | z | z | z | z | z | z | z | z <;> subst z <;> decide +kernel))) hA
  exact ⟨t, va_Zof (hts _ (mj_mt (by decide +kernel))) (hts (.initialized "KeptPromises$Search") (mj_mt (by decide +kernel))) ht hA, hT⟩
/-- TAKES, as the start has it -/
theorem lw_takes (hgv : (Jvm.Cond.and given_1 narrow_1).before #[Value.ref b] s = true) (hts : ∀ w ∈ lw_tbl, w.before #[Value.ref b] s = true) (hA : ∀ a : Nat, a < s.heap.size → ¬ A a) : ∃ t : Nat, va_Z "KeptPromises$Search" "TAKES" "[I" (.ref t) A s s.heap ∧ va_T .int t 22 (fun k => .int (nI (mj_tK k))) A s s.heap := by
  have hs := flat_of_before _ hgv
  obtain ⟨t, ht, hT⟩ := va_Tof (tm := .static "KeptPromises$Search" "TAKES" "[I") (ty := .int) (N := 22) (f := fun k => .int (nI (mj_tK k))) (A := A) (by decide) (hs _ (by decide +kernel)) (va_eqt (hs (.eq (.length (.static "KeptPromises$Search" "TAKES" "[I")) (.int 22)) (by decide +kernel))) (fun j hj => va_eqt (hs (.eq (.elem (.static "KeptPromises$Search" "TAKES" "[I") (.int (Int32.ofNat j))) (.int (nI (mj_tK j)))) (by
    have : j = 0 ∨ j = 1 ∨ j = 2 ∨ j = 3 ∨ j = 4 ∨ j = 5 ∨ j = 6 ∨ j = 7 ∨ j = 8 ∨ j = 9 ∨ j = 10 ∨ j = 11 ∨ j = 12 ∨ j = 13 ∨ j = 14 ∨ j = 15 ∨ j = 16 ∨ j = 17 ∨ j = 18 ∨ j = 19 ∨ j = 20 ∨ j = 21 := by omega
    rcases this with z | z | z | z | z | z | z | z | z | z | z | z | z | z | z | z | z | z | z | z | z | z <;> subst z <;> decide +kernel))) hA
  exact ⟨t, va_Zof (hts _ (mj_mt (by decide +kernel))) (hts (.initialized "KeptPromises$Search") (mj_mt (by decide +kernel))) ht hA, hT⟩
/-- the statics of the JDK that the texts ask -/
theorem lw_compact (hgv : (Jvm.Cond.and given_1 narrow_1).before #[Value.ref b] s = true) (hts : ∀ w ∈ lw_tbl, w.before #[Value.ref b] s = true) (hA : ∀ a : Nat, a < s.heap.size → ¬ A a) : va_Z "java/lang/String" "COMPACT_STRINGS" "Z" (.int 1) A s s.heap := by
  have hs := flat_of_before _ hgv
  exact va_Zof (hts _ (mj_mt (by decide +kernel))) (hts (.initialized "java/lang/String") (mj_mt (by decide +kernel))) (va_eqt (hs (.eq (.static "java/lang/String" "COMPACT_STRINGS" "Z") (.int 1)) (by decide +kernel))) hA
theorem lw_sioobe (hgv : (Jvm.Cond.and given_1 narrow_1).before #[Value.ref b] s = true) (hts : ∀ w ∈ lw_tbl, w.before #[Value.ref b] s = true) (hA : ∀ a : Nat, a < s.heap.size → ¬ A a) : va_Zq "jdk/internal/util/Preconditions" "SIOOBE_FORMATTER" "Ljava/util/function/BiFunction;" A s s.heap := by
  have hs := flat_of_before _ hgv
  exact va_Zqof (hts _ (mj_mt (by decide +kernel))) (hts (.initialized "jdk/internal/util/Preconditions") (mj_mt (by decide +kernel))) (hs (.isRef (.static "jdk/internal/util/Preconditions" "SIOOBE_FORMATTER" "Ljava/util/function/BiFunction;")) (by decide +kernel)) hA
end
