/-! one instruction of a run, as an equivalence -/
section RR
variable {X : mj_X} {call : mj_Call} {oc : Nat} {ret : Option FieldType} {cc : ByteArray} {pc : Nat} {lo st : List Value} {σ : mj_St} {r : mj_Rs} {c' : mj_Cf} {i : Instr} {n : Nat}
def mj_inb (i : Int32) (n : Nat) : Bool := !(decide (i < 0 ∨ n ≤ i.toNatClampNeg))
theorem mj_in_iff {i : Int32} {n : Nat} : mj_inb i n = true ↔ ¬ (i < 0 ∨ n ≤ i.toNatClampNeg) := by
  unfold mj_inb
  rw [Bool.not_eq_true', decide_eq_false_iff_not]
theorem mj_Runs_nx (h : mj_step X call oc ret cc (pc, lo, st, σ) = some (.inl c')) : mj_Runs X call oc ret cc (pc, lo, st, σ) r ↔ mj_Runs X call oc ret cc c' r := by
  constructor
  · rintro ⟨n, hn⟩
    cases n with
    | zero => cases hn
    | succ n =>
      unfold mj_go at hn
      rw [h] at hn
      exact ⟨n, hn⟩
  · exact mj_Runs.step h
theorem mj_Runs_end {r0 : mj_Rs} (h : mj_step X call oc ret cc (pc, lo, st, σ) = some (.inr r0)) : mj_Runs X call oc ret cc (pc, lo, st, σ) r ↔ r = r0 := by
  constructor
  · rintro ⟨n, hn⟩
    cases n with
    | zero => cases hn
    | succ n =>
      unfold mj_go at hn
      rw [h] at hn
      cases hn
      rfl
  · rintro rfl
    exact mj_Runs.done h
theorem mj_Runs_no (h : mj_step X call oc ret cc (pc, lo, st, σ) = none) : mj_Runs X call oc ret cc (pc, lo, st, σ) r ↔ False := by
  constructor
  · rintro ⟨n, hn⟩
    cases n with
    | zero => cases hn
    | succ n =>
      unfold mj_go at hn
      rw [h] at hn
      cases hn
  · exact False.elim
theorem mj_st (hd : decode cc pc = .ok (i, n)) (hn : i ≠ Instr.newarray .long := by intro h; cases h) : mj_step X call oc ret cc (pc, lo, st, σ) = mj_ex X call oc ret pc i n lo st σ := by
  unfold mj_step
  simp only [hd]
  split
  · rename_i h
    cases h
    exact absurd rfl hn
  · rename_i h
    cases h
    rfl
  · rename_i h1 h2
    exact absurd rfl (h2 _ _)
theorem mr (hd : decode cc pc = .ok (i, n)) (h : mj_ex X call oc ret pc i n lo st σ = some (.inl c')) (hn : i ≠ Instr.newarray .long := by intro h; cases h) : mj_Runs X call oc ret cc (pc, lo, st, σ) r ↔ mj_Runs X call oc ret cc c' r := mj_Runs_nx ((mj_st hd hn).trans h)
theorem mr_br {b : Bool} {off : Int} {t f : Nat} {st0 : List Value} (hd : decode cc pc = .ok (i, n)) (h : mj_ex X call oc ret pc i n lo st σ = mj_br b pc off 3 lo st0 σ) (ht : (pc : Int) + off = (t : Int)) (hf : pc + 3 = f) (hn : i ≠ Instr.newarray .long := by intro h; cases h) :
    mj_Runs X call oc ret cc (pc, lo, st, σ) r ↔ (if b = true then mj_Runs X call oc ret cc (t, lo, st0, σ) r else mj_Runs X call oc ret cc (f, lo, st0, σ) r) := by
  have h0 : 0 ≤ (pc : Int) + off := by omega
  have e : ((pc : Int) + off).toNat = t := by omega
  unfold mj_br at h
  rw [if_pos h0, e] at h
  subst hf
  cases b
  · exact mj_Runs_nx ((mj_st hd hn).trans h)
  · exact mj_Runs_nx ((mj_st hd hn).trans h)
theorem mr_eq {x y : Int32} {off : Int} {t f : Nat} {st0 : List Value} (hd : decode cc pc = .ok (i, n)) (h : mj_ex X call oc ret pc i n lo st σ = mj_br (mj_cmp .eq x y) pc off 3 lo st0 σ) (ht : (pc : Int) + off = (t : Int)) (hf : pc + 3 = f) (hn : i ≠ Instr.newarray .long := by intro h; cases h) :
    mj_Runs X call oc ret cc (pc, lo, st, σ) r ↔ (if x = y then mj_Runs X call oc ret cc (t, lo, st0, σ) r else mj_Runs X call oc ret cc (f, lo, st0, σ) r) := by
  rw [mr_br hd h ht hf hn]
  by_cases q : x = y <;> simp [mj_cmp, q]
theorem mr_ne {x y : Int32} {off : Int} {t f : Nat} {st0 : List Value} (hd : decode cc pc = .ok (i, n)) (h : mj_ex X call oc ret pc i n lo st σ = mj_br (mj_cmp .ne x y) pc off 3 lo st0 σ) (ht : (pc : Int) + off = (t : Int)) (hf : pc + 3 = f) (hn : i ≠ Instr.newarray .long := by intro h; cases h) :
    mj_Runs X call oc ret cc (pc, lo, st, σ) r ↔ (if x = y then mj_Runs X call oc ret cc (f, lo, st0, σ) r else mj_Runs X call oc ret cc (t, lo, st0, σ) r) := by
  rw [mr_br hd h ht hf hn]
  by_cases q : x = y <;> simp [mj_cmp, q]
theorem mr_lt {x y : Int32} {off : Int} {t f : Nat} {st0 : List Value} (hd : decode cc pc = .ok (i, n)) (h : mj_ex X call oc ret pc i n lo st σ = mj_br (mj_cmp .lt x y) pc off 3 lo st0 σ) (ht : (pc : Int) + off = (t : Int)) (hf : pc + 3 = f) (hn : i ≠ Instr.newarray .long := by intro h; cases h) :
    mj_Runs X call oc ret cc (pc, lo, st, σ) r ↔ (if x < y then mj_Runs X call oc ret cc (t, lo, st0, σ) r else mj_Runs X call oc ret cc (f, lo, st0, σ) r) := by
  rw [mr_br hd h ht hf hn]
  by_cases q : x < y <;> simp [mj_cmp, q]
theorem mr_gt {x y : Int32} {off : Int} {t f : Nat} {st0 : List Value} (hd : decode cc pc = .ok (i, n)) (h : mj_ex X call oc ret pc i n lo st σ = mj_br (mj_cmp .gt x y) pc off 3 lo st0 σ) (ht : (pc : Int) + off = (t : Int)) (hf : pc + 3 = f) (hn : i ≠ Instr.newarray .long := by intro h; cases h) :
    mj_Runs X call oc ret cc (pc, lo, st, σ) r ↔ (if y < x then mj_Runs X call oc ret cc (t, lo, st0, σ) r else mj_Runs X call oc ret cc (f, lo, st0, σ) r) := by
  rw [mr_br hd h ht hf hn]
  by_cases q : y < x <;> simp [mj_cmp, q]
theorem mr_ge {x y : Int32} {off : Int} {t f : Nat} {st0 : List Value} (hd : decode cc pc = .ok (i, n)) (h : mj_ex X call oc ret pc i n lo st σ = mj_br (mj_cmp .ge x y) pc off 3 lo st0 σ) (ht : (pc : Int) + off = (t : Int)) (hf : pc + 3 = f) (hn : i ≠ Instr.newarray .long := by intro h; cases h) :
    mj_Runs X call oc ret cc (pc, lo, st, σ) r ↔ (if x < y then mj_Runs X call oc ret cc (f, lo, st0, σ) r else mj_Runs X call oc ret cc (t, lo, st0, σ) r) := by
  rw [mr_br hd h ht hf hn]
  by_cases q : x < y
  · have q' : ¬ y ≤ x := Int32.not_le.mpr q
    simp [mj_cmp, q, q']
  · have q' : y ≤ x := Int32.not_lt.mp q
    simp [mj_cmp, q, q']
theorem mr_le {x y : Int32} {off : Int} {t f : Nat} {st0 : List Value} (hd : decode cc pc = .ok (i, n)) (h : mj_ex X call oc ret pc i n lo st σ = mj_br (mj_cmp .le x y) pc off 3 lo st0 σ) (ht : (pc : Int) + off = (t : Int)) (hf : pc + 3 = f) (hn : i ≠ Instr.newarray .long := by intro h; cases h) :
    mj_Runs X call oc ret cc (pc, lo, st, σ) r ↔ (if y < x then mj_Runs X call oc ret cc (f, lo, st0, σ) r else mj_Runs X call oc ret cc (t, lo, st0, σ) r) := by
  rw [mr_br hd h ht hf hn]
  by_cases q : y < x
  · have q' : ¬ x ≤ y := Int32.not_le.mpr q
    simp [mj_cmp, q, q']
  · have q' : x ≤ y := Int32.not_lt.mp q
    simp [mj_cmp, q, q']
theorem mr_in {o : mj_O} {j : Int32} {k : Nat} {c1 : mj_Cf} (hd : decode cc pc = .ok (i, n)) (h : mj_ex X call oc ret pc i n lo st σ = if j < 0 ∨ k ≤ j.toNatClampNeg then none else some (.inl c1)) (hn : i ≠ Instr.newarray .long := by intro h; cases h) :
    mj_Runs X call oc ret cc (pc, lo, st, σ) r ↔ mj_inb j k = true ∧ mj_Runs X call oc ret cc c1 r := by
  rw [mj_in_iff]
  by_cases q : j < 0 ∨ k ≤ j.toNatClampNeg
  · rw [if_pos q] at h
    rw [mj_Runs_no ((mj_st hd hn).trans h)]
    simp [q]
  · rw [if_neg q] at h
    rw [mj_Runs_nx ((mj_st hd hn).trans h)]
    simp [q]
theorem mr_nz {x : Int32} {c1 : mj_Cf} (hd : decode cc pc = .ok (i, n)) (h : mj_ex X call oc ret pc i n lo st σ = if x = 0 then none else some (.inl c1)) (hn : i ≠ Instr.newarray .long := by intro h; cases h) :
    mj_Runs X call oc ret cc (pc, lo, st, σ) r ↔ ¬ x = 0 ∧ mj_Runs X call oc ret cc c1 r := by
  by_cases q : x = 0
  · rw [if_pos q] at h
    rw [mj_Runs_no ((mj_st hd hn).trans h)]
    simp [q]
  · rw [if_neg q] at h
    rw [mj_Runs_nx ((mj_st hd hn).trans h)]
    simp [q]
theorem mr_if {P : Prop} {dp : Decidable P} {c1 : mj_Cf} (hd : decode cc pc = .ok (i, n)) (h : mj_ex X call oc ret pc i n lo st σ = if P then some (.inl c1) else none) (hn : i ≠ Instr.newarray .long := by intro h; cases h) :
    mj_Runs X call oc ret cc (pc, lo, st, σ) r ↔ P ∧ mj_Runs X call oc ret cc c1 r := by
  by_cases q : P
  · rw [if_pos q] at h
    rw [mj_Runs_nx ((mj_st hd hn).trans h)]
    simp [q]
  · rw [if_neg q] at h
    rw [mj_Runs_no ((mj_st hd hn).trans h)]
    simp [q]
theorem mr_end {r0 : mj_Rs} (hd : decode cc pc = .ok (i, n)) (h : mj_ex X call oc ret pc i n lo st σ = some (.inr r0)) (hn : i ≠ Instr.newarray .long := by intro h; cases h) : mj_Runs X call oc ret cc (pc, lo, st, σ) r ↔ r = r0 := mj_Runs_end ((mj_st hd hn).trans h)
theorem mr_endz {x : Int32} (hd : decode cc pc = .ok (.ireturn, 1)) (hr : ret = some .boolean) : mj_Runs X call oc ret cc (pc, lo, [.int x], σ) r ↔ (x = 0 ∨ x = 1) ∧ r = (some (.int x), σ) := by
  subst hr
  have h : mj_step X call oc (some .boolean) cc (pc, lo, [.int x], σ) = if (some FieldType.boolean = some .int ∨ (some FieldType.boolean = some .boolean ∧ (x = 0 ∨ x = 1))) then some (.inr (some (.int x), σ)) else none := mj_st hd
  by_cases q : x = 0 ∨ x = 1
  · rw [if_pos (Or.inr ⟨rfl, q⟩)] at h
    rw [mj_Runs_end h]
    simp [q]
  · rw [if_neg (by simp [q])] at h
    rw [mj_Runs_no h]
    simp [q]
/-- a call; b: neither locals nor stack hold the marks -/
def mj_cc (X : mj_X) (call0 : mj_Call) (oc : Nat) (ret : Option FieldType) (cc : ByteArray) (pc : Nat) (lo st : List Value) (r : mj_Rs) (b : Bool) (σ : mj_St) (o : Option mj_Rs) : Prop := match o with
  | some (v, σ') => (b = true ∨ σ'.2.2.2.2 = σ.2.2.2.2) ∧ mj_Runs X call0 oc ret cc (pc, lo, v.toList ++ st, σ') r
  | none => False
theorem mr_call {idx mid na sv f : Nat} {as st0 : List Value} (virt : Bool) (hd : decode cc pc = .ok (if virt = true then .invokevirtual idx else .invokestatic idx, 3)) (hi : mj_inv oc idx = some (mid, na, sv)) (hm : ¬ 1000 ≤ mid) (hv : virt = (sv != 0)) (hs : st = as.reverse ++ st0) (hl : as.length = na) (hrc : mj_rcv sv as = true) (hf : pc + 3 = f) (h77 : ¬ mid = 77 := by decide) :
    mj_Runs X call oc ret cc (pc, lo, st, σ) r ↔ st0.length ≤ 4 ∧ mj_cc X call oc ret cc f lo st0 r (lo.all mj_noMk && (as.all mj_noMk && st0.all mj_noMk)) σ (call mid as σ) := by
  have hst : mj_step X call oc ret cc (pc, lo, st, σ) = mj_ivk call virt oc idx pc lo st σ := by
    rw [mj_st hd (by cases virt <;> (intro h; cases h))]
    cases virt <;> rfl
  have htk : st.take na = as.reverse := by
    rw [hs, ← hl]
    rw [show as.length = as.reverse.length from (List.length_reverse).symm, List.take_left']
    rfl
  have hdr : st.drop na = st0 := by
    rw [hs, ← hl]
    rw [show as.length = as.reverse.length from (List.length_reverse).symm, List.drop_left']
    rfl
  have hal : st.all mj_noMk = (as.all mj_noMk && st0.all mj_noMk) := by
    rw [hs, List.all_append, List.all_reverse]
  have hle : na ≤ st.length := by
    rw [hs, List.length_append, List.length_reverse]
    omega
  unfold mj_ivk at hst
  rw [hi] at hst
  simp only [if_neg hm, htk, hdr, hal, List.reverse_reverse] at hst
  subst hf
  by_cases q : st0.length ≤ 4
  · rw [if_pos ⟨hv, hle, by unfold mj_dep; rw [if_neg h77]; exact decide_eq_true q, hrc⟩] at hst
    unfold mj_cc
    simp only [q, true_and]
    cases hc : call mid as σ with
    | none =>
      rw [hc] at hst
      exact mj_Runs_no hst
    | some w =>
      obtain ⟨v, σ'⟩ := w
      rw [hc] at hst
      simp only at hst ⊢
      by_cases q2 : (lo.all mj_noMk && (as.all mj_noMk && st0.all mj_noMk)) = true ∨ σ'.2.2.2.2 = σ.2.2.2.2
      · rw [if_pos q2] at hst
        rw [mj_Runs_nx hst]
        exact ⟨fun h => ⟨q2, h⟩, fun h => h.2⟩
      · rw [if_neg q2] at hst
        rw [mj_Runs_no hst]
        exact ⟨False.elim, fun h => q2 h.1⟩
  · rw [if_neg (fun z => q (by have z1 := z.2.2.1; unfold mj_dep at z1; rw [if_neg h77] at z1; exact of_decide_eq_true z1))] at hst
    rw [mj_Runs_no hst]
    simp [q]
theorem mr_call7 {idx na sv f : Nat} {as st0 : List Value} (virt : Bool) (hd : decode cc pc = .ok (if virt = true then .invokevirtual idx else .invokestatic idx, 3)) (hi : mj_inv oc idx = some (77, na, sv)) (hv : virt = (sv != 0)) (hs : st = as.reverse ++ st0) (hl : as.length = na) (hrc : mj_rcv sv as = true) (hf : pc + 3 = f) :
    mj_Runs X call oc ret cc (pc, lo, st, σ) r ↔ (st0.length ≤ 6 ∧ st0.all mj_one = true) ∧ mj_cc X call oc ret cc f lo st0 r (lo.all mj_noMk && (as.all mj_noMk && st0.all mj_noMk)) σ (call 77 as σ) := by
  have hst : mj_step X call oc ret cc (pc, lo, st, σ) = mj_ivk call virt oc idx pc lo st σ := by
    rw [mj_st hd (by cases virt <;> (intro h; cases h))]
    cases virt <;> rfl
  have htk : st.take na = as.reverse := by
    rw [hs, ← hl]
    rw [show as.length = as.reverse.length from (List.length_reverse).symm, List.take_left']
    rfl
  have hdr : st.drop na = st0 := by
    rw [hs, ← hl]
    rw [show as.length = as.reverse.length from (List.length_reverse).symm, List.drop_left']
    rfl
  have hal : st.all mj_noMk = (as.all mj_noMk && st0.all mj_noMk) := by
    rw [hs, List.all_append, List.all_reverse]
  have hle : na ≤ st.length := by
    rw [hs, List.length_append, List.length_reverse]
    omega
  unfold mj_ivk at hst
  rw [hi] at hst
  simp only [if_neg (show ¬ 1000 ≤ 77 by decide), htk, hdr, hal, List.reverse_reverse] at hst
  subst hf
  by_cases q : st0.length ≤ 6 ∧ st0.all mj_one = true
  · rw [if_pos ⟨hv, hle, by unfold mj_dep; rw [if_pos rfl, q.2, Bool.and_true]; exact decide_eq_true q.1, hrc⟩] at hst
    unfold mj_cc
    simp only [q, true_and]
    cases hc : call 77 as σ with
    | none =>
      rw [hc] at hst
      exact mj_Runs_no hst
    | some w =>
      obtain ⟨v, σ'⟩ := w
      rw [hc] at hst
      simp only at hst ⊢
      by_cases q2 : (lo.all mj_noMk && (as.all mj_noMk && st0.all mj_noMk)) = true ∨ σ'.2.2.2.2 = σ.2.2.2.2
      · rw [if_pos q2] at hst
        rw [mj_Runs_nx hst]
        exact ⟨fun h => ⟨q2, h⟩, fun h => h.2⟩
      · rw [if_neg q2] at hst
        rw [mj_Runs_no hst]
        exact ⟨False.elim, fun h => q2 h.1⟩
  · rw [if_neg (fun z => q (by have z1 := z.2.2.1; unfold mj_dep at z1; rw [if_pos rfl, Bool.and_eq_true] at z1; exact ⟨of_decide_eq_true z1.1, z1.2⟩))] at hst
    rw [mj_Runs_no hst]
    exact ⟨False.elim, fun h => absurd h.1 q⟩
theorem mj_one_int {x : Int32} : mj_one (.int x) = true := rfl
theorem mj_one_ref {k : Nat} : mj_one (.ref k) = true := rfl
end RR
/-! rows that aren't known by their number, switches, booleans -/
def mj_kI (X : mj_X) (σ : mj_St) (a : Nat) (i : Int32) (k : Int32 → Prop) : Prop := match mj_rowI X σ a with
  | some (n, f) => mj_inb i n = true ∧ k (f i.toNatClampNeg)
  | none => False
def mj_kL (σ : mj_St) (a : Nat) (i : Int32) (k : Int64 → Prop) : Prop := match mj_lenL σ a with
  | some n => mj_inb i n = true ∧ k (σ.2.1 a i.toNatClampNeg)
  | none => False
def mj_kS (a : Nat) (i : Int32) (k : Prop) : Prop := match mj_shp a with
  | (1, n, _) => mj_inb i n = true ∧ k
  | _ => False
def mj_kT (σ : mj_St) (a : Nat) (i : Int32) (k : Prop) : Prop := match mj_lenL σ a with
  | some n => mj_inb i n = true ∧ k
  | none => False
def mj_lenA (X : mj_X) (σ : mj_St) (a : Nat) : Option Int32 := if a = 999 then some (Int32.ofNat σ.2.2.2.1) else if 1000 ≤ a then (match X (a - 1000) with
    | some (n, _) => some (Int32.ofNat n)
    | none => none)
  else match mj_shp a with
    | (0, _, _) => none
    | (9, _, _) => none
    | (_, n, _) => some (Int32.ofNat n)
def mj_kN (X : mj_X) (σ : mj_St) (a : Nat) (k : Int32 → Prop) : Prop := match mj_lenA X σ a with
  | some w => k w
  | none => False
section RS
variable {X : mj_X} {call : mj_Call} {oc : Nat} {ret : Option FieldType} {cc : ByteArray} {pc f : Nat} {lo st : List Value} {σ : mj_St} {r : mj_Rs}
theorem mr_iald {i : Int32} {a : Nat} (hd : decode cc pc = .ok (.iaload, 1)) (hf : pc + 1 = f) : mj_Runs X call oc ret cc (pc, lo, .int i :: .ref a :: st, σ) r ↔ mj_kI X σ a i (fun w => mj_Runs X call oc ret cc (f, lo, .int w :: st, σ) r) := by
  subst hf
  have hs : mj_step X call oc ret cc (pc, lo, .int i :: .ref a :: st, σ) = mj_ald X pc lo (.int i :: .ref a :: st) σ := mj_st hd
  unfold mj_ald at hs
  unfold mj_kI
  simp only at hs
  cases hr : mj_rowI X σ a with
  | none => rw [hr] at hs; exact mj_Runs_no hs
  | some w =>
    obtain ⟨n, g⟩ := w
    rw [hr] at hs
    simp only at hs ⊢
    rw [mj_in_iff]
    by_cases q : i < 0 ∨ n ≤ i.toNatClampNeg
    · rw [if_pos q] at hs
      rw [mj_Runs_no hs]
      simp [q]
    · rw [if_neg q] at hs
      rw [mj_Runs_nx hs]
      simp [q]
theorem mr_lald {i : Int32} {a : Nat} (hd : decode cc pc = .ok (.laload, 1)) (hf : pc + 1 = f) : mj_Runs X call oc ret cc (pc, lo, .int i :: .ref a :: st, σ) r ↔ mj_kL σ a i (fun w => mj_Runs X call oc ret cc (f, lo, .long w :: st, σ) r) := by
  subst hf
  have hs : mj_step X call oc ret cc (pc, lo, .int i :: .ref a :: st, σ) = mj_lld pc lo (.int i :: .ref a :: st) σ := mj_st hd
  unfold mj_lld at hs
  unfold mj_kL
  simp only at hs
  cases hr : mj_lenL σ a with
  | none => rw [hr] at hs; exact mj_Runs_no hs
  | some n =>
    rw [hr] at hs
    simp only at hs ⊢
    rw [mj_in_iff]
    by_cases q : i < 0 ∨ n ≤ i.toNatClampNeg
    · rw [if_pos q] at hs
      rw [mj_Runs_no hs]
      simp [q]
    · rw [if_neg q] at hs
      rw [mj_Runs_nx hs]
      simp [q]
theorem mr_last {i : Int32} {a : Nat} {x : Int64} (hd : decode cc pc = .ok (.lastore, 1)) (hf : pc + 1 = f) : mj_Runs X call oc ret cc (pc, lo, .long x :: .int i :: .ref a :: st, σ) r ↔ mj_kT σ a i (mj_Runs X call oc ret cc (f, lo, st, mj_setL σ a i.toNatClampNeg x) r) := by
  subst hf
  have hs : mj_step X call oc ret cc (pc, lo, .long x :: .int i :: .ref a :: st, σ) = mj_lst pc lo (.long x :: .int i :: .ref a :: st) σ := mj_st hd
  unfold mj_lst at hs
  unfold mj_kT
  simp only at hs
  cases hr : mj_lenL σ a with
  | none => rw [hr] at hs; exact mj_Runs_no hs
  | some n =>
    rw [hr] at hs
    simp only at hs ⊢
    rw [mj_in_iff]
    by_cases q : i < 0 ∨ n ≤ i.toNatClampNeg
    · rw [if_pos q] at hs
      rw [mj_Runs_no hs]
      simp [q]
    · rw [if_neg q] at hs
      rw [mj_Runs_nx hs]
      simp [q]
theorem mr_iast {i x : Int32} {a : Nat} (hd : decode cc pc = .ok (.iastore, 1)) (hf : pc + 1 = f) : mj_Runs X call oc ret cc (pc, lo, .int x :: .int i :: .ref a :: st, σ) r ↔ mj_kS a i (mj_Runs X call oc ret cc (f, lo, st, mj_setI σ a i.toNatClampNeg x) r) := by
  subst hf
  have hs : mj_step X call oc ret cc (pc, lo, .int x :: .int i :: .ref a :: st, σ) = mj_ast pc lo (.int x :: .int i :: .ref a :: st) σ := mj_st hd
  unfold mj_ast at hs
  unfold mj_kS
  simp only at hs
  split at hs
  · rename_i n fl he
    rw [he]
    simp only
    rw [mj_in_iff]
    by_cases q : i < 0 ∨ n ≤ i.toNatClampNeg
    · rw [if_pos q] at hs
      rw [mj_Runs_no hs]
      simp [q]
    · rw [if_neg q] at hs
      rw [mj_Runs_nx hs]
      simp [q]
  · rename_i he
    rw [mj_Runs_no hs]
    split
    · rename_i he2
      exact absurd he2 (he _ _)
    · rfl
theorem mr_len {a : Nat} (hd : decode cc pc = .ok (.arraylength, 1)) (hf : pc + 1 = f) : mj_Runs X call oc ret cc (pc, lo, .ref a :: st, σ) r ↔ mj_kN X σ a (fun w => mj_Runs X call oc ret cc (f, lo, .int w :: st, σ) r) := by
  subst hf
  have hs : mj_step X call oc ret cc (pc, lo, .ref a :: st, σ) = mj_len X pc lo (.ref a :: st) σ := mj_st hd
  have e : mj_len X pc lo (.ref a :: st) σ = match mj_lenA X σ a with
      | some w => some (.inl (pc + 1, lo, .int w :: st, σ))
      | none => none := by
    unfold mj_len mj_lenA
    simp only
    (repeat' split) <;> first | rfl | (simp_all; done) | (simp_all; rfl)
  rw [e] at hs
  unfold mj_kN
  cases hr : mj_lenA X σ a with
  | none => rw [hr] at hs; exact mj_Runs_no hs
  | some w => rw [hr] at hs; exact mj_Runs_nx hs
theorem mr_qald {i : Int32} {a n b : Nat} (hd : decode cc pc = .ok (.aaload, 1)) (hf : pc + 1 = f) (hs0 : mj_shp a = (4, n, (List.range n).map (fun k => b + k))) (hb : b + n ≤ 999) : mj_Runs X call oc ret cc (pc, lo, .int i :: .ref a :: st, σ) r ↔ mj_inb i n = true ∧ mj_Runs X call oc ret cc (f, lo, .ref (b + i.toNatClampNeg) :: st, σ) r := by
  subst hf
  have hs : mj_step X call oc ret cc (pc, lo, .int i :: .ref a :: st, σ) = mj_qld pc lo (.int i :: .ref a :: st) σ := mj_st hd
  unfold mj_qld at hs
  simp only [hs0] at hs
  rw [mj_in_iff]
  by_cases q : i < 0 ∨ n ≤ i.toNatClampNeg
  · rw [if_pos q] at hs
    rw [mj_Runs_no hs]
    simp [q]
  · rw [if_neg q] at hs
    have hlt : i.toNatClampNeg < n := Nat.not_le.mp fun z => q (Or.inr z)
    rw [List.getElem?_map, List.getElem?_range hlt] at hs
    simp only [Option.map_some] at hs
    rw [if_pos (by omega)] at hs
    rw [mj_Runs_nx hs]
    simp [q]
theorem mr_bast {i x : Int32} {a n : Nat} {fl : List Nat} (hd : decode cc pc = .ok (.bastore, 1)) (hf : pc + 1 = f) (hs0 : mj_shp a = (2, n, fl)) : mj_Runs X call oc ret cc (pc, lo, .int x :: .int i :: .ref a :: st, σ) r ↔ mj_inb i n = true ∧ (x = 0 ∨ x = 1) ∧ mj_Runs X call oc ret cc (f, lo, st, mj_setI σ a i.toNatClampNeg x) r := by
  subst hf
  have hs : mj_step X call oc ret cc (pc, lo, .int x :: .int i :: .ref a :: st, σ) = mj_bst pc lo (.int x :: .int i :: .ref a :: st) σ := mj_st hd
  unfold mj_bst at hs
  simp only [hs0] at hs
  rw [mj_in_iff]
  by_cases q : i < 0 ∨ n ≤ i.toNatClampNeg
  · rw [if_pos q] at hs
    rw [mj_Runs_no hs]
    simp [q]
  · rw [if_neg q] at hs
    by_cases q2 : x = 0 ∨ x = 1
    · rw [if_pos q2] at hs
      rw [mj_Runs_nx hs]
      simp [q, q2]
    · rw [if_neg q2] at hs
      rw [mj_Runs_no hs]
      simp [q2]
theorem mr_putz {idx c ci k : Nat} {x : Int32} {fl : List Nat} (hd : decode cc pc = .ok (.putfield idx, 3)) (hf : pc + 3 = f) (hfl : mj_fld oc idx = some (ci, k)) (hs0 : mj_shp c = (0, ci, fl)) (hk : fl[k]? = some 3) : mj_Runs X call oc ret cc (pc, lo, .int x :: .ref c :: st, σ) r ↔ (x = 0 ∨ x = 1) ∧ mj_Runs X call oc ret cc (f, lo, st, mj_setI σ c k x) r := by
  subst hf
  have hs : mj_step X call oc ret cc (pc, lo, .int x :: .ref c :: st, σ) = mj_put oc idx pc lo (.int x :: .ref c :: st) σ := mj_st hd
  unfold mj_put mj_putv at hs
  simp only [hfl, hs0, hk, if_true] at hs
  by_cases q2 : x = 0 ∨ x = 1
  · simp only [if_pos q2] at hs
    rw [mj_Runs_nx hs]
    simp [q2]
  · simp only [if_neg q2] at hs
    rw [mj_Runs_no hs]
    simp [q2]
/-- the places of a switch, one after the other -/
def mj_swR (P : Nat → Prop) (pc : Nat) (d : Int) : Int → List Int → Int32 → Prop
  | _, [], _ => P ((pc : Int) + d).toNat
  | v, o :: os, x => if x = Int32.ofInt v then P ((pc : Int) + o).toNat else mj_swR P pc d (v + 1) os x
theorem mj_swR_out {P : Nat → Prop} {d : Int} {x : Int32} : ∀ (os : List Int) (v : Int), -2147483648 ≤ v → v + os.length ≤ 2147483648 → (x.toInt < v ∨ v + os.length ≤ x.toInt) → (mj_swR P pc d v os x ↔ P ((pc : Int) + d).toNat) := by
  intro os
  induction os with
  | nil => intro v _ _ _; rfl
  | cons o os ih =>
    intro v h1 h2 h3
    simp only [List.length_cons] at h2 h3
    have hne : ¬ x = Int32.ofInt v := by
      intro e
      have e2 : x.toInt = v := by rw [e, Int32.toInt_ofInt_of_le (by omega) (by omega)]
      omega
    unfold mj_swR
    rw [if_neg hne]
    exact ih (v + 1) (by omega) (by omega) (by omega)
theorem mj_swR_in {P : Nat → Prop} {d : Int} {x : Int32} : ∀ (os : List Int) (v : Int) (o : Int), -2147483648 ≤ v → v + os.length ≤ 2147483648 → v ≤ x.toInt → os[(x.toInt - v).toNat]? = some o → (mj_swR P pc d v os x ↔ P ((pc : Int) + o).toNat) := by
  intro os
  induction os with
  | nil => intro v o _ _ _ h; simp at h
  | cons o os ih =>
    intro v o' h1 h2 h3 h4
    simp only [List.length_cons] at h2
    unfold mj_swR
    by_cases e : x = Int32.ofInt v
    · rw [if_pos e]
      have e2 : x.toInt = v := by rw [e, Int32.toInt_ofInt_of_le (by omega) (by omega)]
      rw [e2, Int.sub_self] at h4
      simp at h4
      rw [h4]
    · rw [if_neg e]
      have hne : x.toInt ≠ v := by
        intro q
        apply e
        rw [← q, Int32.ofInt_toInt]
      have e3 : (x.toInt - v).toNat = (x.toInt - (v + 1)).toNat + 1 := by omega
      rw [e3, List.getElem?_cons_succ] at h4
      exact ih (v + 1) o' (by omega) (by omega) (by omega) h4
theorem mr_tsw {d lo0 hi0 : Int} {offs : Array Int} {n : Nat} {x : Int32} (hd : decode cc pc = .ok (.tableswitch d lo0 hi0 offs, n)) (hlo : -2147483648 ≤ lo0) (hhi : lo0 + offs.toList.length ≤ 2147483648) (hsz : hi0 + 1 = lo0 + offs.toList.length) (hp : (d :: offs.toList).all (fun o => decide (0 ≤ (pc : Int) + o)) = true) :
    mj_Runs X call oc ret cc (pc, lo, .int x :: st, σ) r ↔ mj_swR (fun t => mj_Runs X call oc ret cc (t, lo, st, σ) r) pc d lo0 offs.toList x := by
  have hs : mj_step X call oc ret cc (pc, lo, .int x :: st, σ) = mj_tsw d lo0 hi0 offs pc lo (.int x :: st) σ := mj_st hd
  unfold mj_tsw mj_jmp at hs
  simp only at hs
  simp only [List.all_cons, Bool.and_eq_true, decide_eq_true_eq] at hp
  by_cases q : x.toInt < lo0 ∨ hi0 < x.toInt
  · rw [if_pos q, if_pos hp.1] at hs
    rw [mj_Runs_nx hs, mj_swR_out offs.toList lo0 hlo hhi (by omega)]
  · rw [if_neg q] at hs
    have hlt : (x.toInt - lo0).toNat < offs.toList.length := by omega
    have hg : offs.toList[(x.toInt - lo0).toNat]? = some (offs.toList[(x.toInt - lo0).toNat]'hlt) := List.getElem?_eq_getElem hlt
    have hg2 : offs[(x.toInt - lo0).toNat]? = some (offs.toList[(x.toInt - lo0).toNat]'hlt) := by rw [← Array.getElem?_toList]; exact hg
    rw [hg2] at hs
    have h0 : 0 ≤ (pc : Int) + offs.toList[(x.toInt - lo0).toNat]'hlt := of_decide_eq_true (List.all_eq_true.mp hp.2 _ (List.getElem_mem hlt))
    simp only [if_pos h0] at hs
    rw [mj_Runs_nx hs, mj_swR_in offs.toList lo0 _ hlo hhi (by omega) hg]
end RS
/-- the pairs of a switch, one after the other -/
def mj_swP (P : Nat → Prop) (pc : Nat) (d : Int) : List (Int × Int) → Int32 → Prop
  | [], _ => P ((pc : Int) + d).toNat
  | (v, o) :: os, x => if x = Int32.ofInt v then P ((pc : Int) + o).toNat else mj_swP P pc d os x
theorem mj_swP_spec {pc : Nat} {P : Nat → Prop} {d : Int} {x : Int32} : ∀ os : List (Int × Int), (∀ q ∈ os, -2147483648 ≤ q.1 ∧ q.1 < 2147483648) → (mj_swP P pc d os x ↔ P ((pc : Int) + Op.lookupswitch.offset os d x.toInt).toNat) := by
  intro os
  induction os with
  | nil => intro _; rfl
  | cons q os ih =>
    intro h
    obtain ⟨v, o⟩ := q
    have hv := h (v, o) List.mem_cons_self
    simp only at hv
    unfold mj_swP
    have e2 : (Int32.ofInt v).toInt = v := Int32.toInt_ofInt_of_le (by omega) (by omega)
    by_cases e : x = Int32.ofInt v
    · rw [if_pos e]
      have e3 : x.toInt = v := by rw [e, e2]
      simp [Op.lookupswitch.offset, e3]
    · rw [if_neg e]
      have e3 : ¬ v = x.toInt := by
        intro z
        apply e
        rw [z, Int32.ofInt_toInt]
      rw [ih (fun q hq => h q (List.mem_cons_of_mem _ hq))]
      simp [Op.lookupswitch.offset, e3]
theorem mr_lsw {X : mj_X} {call : mj_Call} {oc : Nat} {ret : Option FieldType} {cc : ByteArray} {pc : Nat} {lo st : List Value} {σ : mj_St} {r : mj_Rs} {d : Int} {ps : Array (Int × Int)} {n : Nat} {x : Int32} (hd : decode cc pc = .ok (.lookupswitch d ps, n)) (hp : (ps.toList.zip (ps.toList.drop 1)).all (fun (a, next) => a.1 < next.1) = true)
    (hq : (ps.toList.all (fun q => decide (-2147483648 ≤ q.1 ∧ q.1 < 2147483648))) = true ∧ (d :: ps.toList.map (fun q => q.2)).all (fun o => decide (0 ≤ (pc : Int) + o)) = true) :
    mj_Runs X call oc ret cc (pc, lo, .int x :: st, σ) r ↔ mj_swP (fun t => mj_Runs X call oc ret cc (t, lo, st, σ) r) pc d ps.toList x := by
  have hs : mj_step X call oc ret cc (pc, lo, .int x :: st, σ) = mj_lsw d ps pc lo (.int x :: st) σ := mj_st hd
  unfold mj_lsw mj_jmp at hs
  simp only at hs
  rw [if_pos hp] at hs
  have hoff : ∀ os : List (Int × Int), Op.lookupswitch.offset os d x.toInt = d ∨ Op.lookupswitch.offset os d x.toInt ∈ os.map (fun q => q.2) := by
    intro os
    induction os with
    | nil => exact Or.inl rfl
    | cons q os ih =>
      obtain ⟨v, o⟩ := q
      by_cases e : v = x.toInt
      · right
        simp [Op.lookupswitch.offset, e]
      · rcases ih with h | h
        · left
          have e2 : Op.lookupswitch.offset ((v, o) :: os) d x.toInt = Op.lookupswitch.offset os d x.toInt := by simp [Op.lookupswitch.offset, e]
          rw [e2, h]
        · right
          have e2 : Op.lookupswitch.offset ((v, o) :: os) d x.toInt = Op.lookupswitch.offset os d x.toInt := by simp [Op.lookupswitch.offset, e]
          rw [e2]
          exact List.mem_cons_of_mem _ h
  have h0 : 0 ≤ (pc : Int) + Op.lookupswitch.offset ps.toList d x.toInt := by
    refine of_decide_eq_true (List.all_eq_true.mp hq.2 _ ?_)
    rcases hoff ps.toList with h | h
    · rw [h]; exact List.mem_cons_self
    · exact List.mem_cons_of_mem _ h
  rw [if_pos h0] at hs
  rw [mj_Runs_nx hs, mj_swP_spec ps.toList (fun q hq0 => of_decide_eq_true (List.all_eq_true.mp hq.1 q hq0))]
def mj_kO (o : Option Int32) (k : Int32 → Prop) : Prop := match o with
  | some w => k w
  | none => False
def mj_kP (o : Option mj_St) (k : mj_St → Prop) : Prop := match o with
  | some w => k w
  | none => False
def mj_tlen (a : Nat) : Option Int32 := if 1100 ≤ a then (mj_strL[a - 1100]?).map (fun e => Int32.ofNat e.2.2.length) else none
def mj_tchr (a : Nat) (i : Int32) : Option Int32 := if 1100 ≤ a ∧ ¬ i < 0 then (mj_strL[a - 1100]?).bind (fun e => e.2.2[i.toNatClampNeg]?) else none
def mj_cpS (σ : mj_St) (a b sp dp n : Nat) : Option mj_St := match mj_shp a, mj_shp b with
  | (1, n0, _), (1, n1, _) => if sp + n ≤ n0 ∧ dp + n ≤ n1 then some (mj_cpyI σ a b sp dp n) else none
  | (3, n0, _), (3, n1, _) => if sp + n ≤ n0 ∧ dp + n ≤ n1 then some (mj_cpyL σ a b sp dp n) else none
  | _, _ => none
section RT
variable {X : mj_X} {call : mj_Call} {oc : Nat} {ret : Option FieldType} {cc : ByteArray} {pc f : Nat} {lo st : List Value} {σ : mj_St} {r : mj_Rs}
theorem mr_nat {idx mid : Nat} {o : mj_O} (hd : decode cc pc = .ok (.invokestatic idx, 3)) (hi : mj_inv oc idx = some (mid, 0, 0)) (hm : 1000 ≤ mid) (ho : mj_nat mid pc lo st σ = o) : mj_step X call oc ret cc (pc, lo, st, σ) = o := by
  rw [mj_st hd, ← ho]
  show mj_ivk call false oc idx pc lo st σ = _
  unfold mj_ivk
  rw [hi]
  simp only [if_pos hm, if_true]
theorem mr_txt {idx mid : Nat} {o : mj_O} (hd : decode cc pc = .ok (.invokevirtual idx, 3)) (hi : mj_inv oc idx = some (mid, 0, 0)) (hm : 1000 ≤ mid) (ho : mj_txt mid pc lo st σ = o) : mj_step X call oc ret cc (pc, lo, st, σ) = o := by
  rw [mj_st hd, ← ho]
  show mj_ivk call true oc idx pc lo st σ = _
  unfold mj_ivk
  rw [hi]
  simp only [if_pos hm]
  rfl
theorem mr_min {idx : Nat} {x y : Int32} (hd : decode cc pc = .ok (.invokestatic idx, 3)) (hi : mj_inv oc idx = some (1001, 0, 0)) (hf : pc + 3 = f) : mj_Runs X call oc ret cc (pc, lo, .int y :: .int x :: st, σ) r ↔ st.length ≤ 4 ∧ mj_Runs X call oc ret cc (f, lo, .int (if y < x then y else x) :: st, σ) r := by
  subst hf
  have h := mr_nat (X := X) (call := call) (ret := ret) (lo := lo) (st := .int y :: .int x :: st) (σ := σ) hd hi (by decide) rfl
  have e : mj_nat 1001 pc lo (.int y :: .int x :: st) σ = if st.length ≤ 4 then mj_nx (pc + 3) lo (.int (if y < x then y else x) :: st) σ else none := rfl
  rw [e] at h
  by_cases q : st.length ≤ 4
  · rw [if_pos q] at h
    rw [mj_Runs_nx h]
    simp [q]
  · rw [if_neg q] at h
    rw [mj_Runs_no h]
    simp [q]
theorem mr_max {idx : Nat} {x y : Int32} (hd : decode cc pc = .ok (.invokestatic idx, 3)) (hi : mj_inv oc idx = some (1002, 0, 0)) (hf : pc + 3 = f) : mj_Runs X call oc ret cc (pc, lo, .int y :: .int x :: st, σ) r ↔ st.length ≤ 4 ∧ mj_Runs X call oc ret cc (f, lo, .int (if x < y then y else x) :: st, σ) r := by
  subst hf
  have h := mr_nat (X := X) (call := call) (ret := ret) (lo := lo) (st := .int y :: .int x :: st) (σ := σ) hd hi (by decide) rfl
  have e : mj_nat 1002 pc lo (.int y :: .int x :: st) σ = if st.length ≤ 4 then mj_nx (pc + 3) lo (.int (if x < y then y else x) :: st) σ else none := rfl
  rw [e] at h
  by_cases q : st.length ≤ 4
  · rw [if_pos q] at h
    rw [mj_Runs_nx h]
    simp [q]
  · rw [if_neg q] at h
    rw [mj_Runs_no h]
    simp [q]
theorem mr_cpy {idx : Nat} {sp dp n : Int32} {a b : Nat} (hd : decode cc pc = .ok (.invokestatic idx, 3)) (hi : mj_inv oc idx = some (1000, 0, 0)) (hf : pc + 3 = f) : mj_Runs X call oc ret cc (pc, lo, .int n :: .int dp :: .ref b :: .int sp :: .ref a :: st, σ) r ↔ (st.length ≤ 4 ∧ ¬ sp < 0 ∧ ¬ dp < 0 ∧ ¬ n < 0) ∧ mj_kP (mj_cpS σ a b sp.toNatClampNeg dp.toNatClampNeg n.toNatClampNeg) (fun w => mj_Runs X call oc ret cc (f, lo, st, w) r) := by
  subst hf
  have h := mr_nat (X := X) (call := call) (ret := ret) (lo := lo) (st := .int n :: .int dp :: .ref b :: .int sp :: .ref a :: st) (σ := σ) hd hi (by decide) rfl
  have e : mj_nat 1000 pc lo (.int n :: .int dp :: .ref b :: .int sp :: .ref a :: st) σ = if st.length ≤ 4 ∧ ¬ sp < 0 ∧ ¬ dp < 0 ∧ ¬ n < 0 then (match mj_cpS σ a b sp.toNatClampNeg dp.toNatClampNeg n.toNatClampNeg with
      | some w => mj_nx (pc + 3) lo st w
      | none => none) else none := by
    unfold mj_nat mj_cpS
    simp only [show ¬ (1000 : Nat) = 1001 by decide, show ¬ (1000 : Nat) = 1002 by decide, if_false, if_true]
    by_cases q : st.length ≤ 4 ∧ ¬ sp < 0 ∧ ¬ dp < 0 ∧ ¬ n < 0
    · simp only [if_pos q]
      generalize mj_shp a = sa
      generalize mj_shp b = sb
      split
      · simp only
        split <;> rfl
      · simp only
        split <;> rfl
      · rename_i h1 h2
        split
        · rename_i w hw
          split at hw
          · exact absurd rfl (h1 _ _ _ _ rfl)
          · exact absurd rfl (h2 _ _ _ _ rfl)
          · cases hw
        · rfl
    · simp only [if_neg q]
  rw [e] at h
  by_cases q : st.length ≤ 4 ∧ ¬ sp < 0 ∧ ¬ dp < 0 ∧ ¬ n < 0
  · rw [if_pos q] at h
    unfold mj_kP
    cases hw : mj_cpS σ a b sp.toNatClampNeg dp.toNatClampNeg n.toNatClampNeg with
    | none =>
      rw [hw] at h
      rw [mj_Runs_no h]
      simp
    | some w =>
      rw [hw] at h
      rw [mj_Runs_nx h]
      simp only [q, and_self, not_false_eq_true, true_and]
  · rw [if_neg q] at h
    rw [mj_Runs_no h]
    simp only [q, false_and]
set_option maxRecDepth 100000 in
theorem mr_tlen {idx a : Nat} (hd : decode cc pc = .ok (.invokevirtual idx, 3)) (hi : mj_inv oc idx = some (1003, 0, 0)) (hf : pc + 3 = f) : mj_Runs X call oc ret cc (pc, lo, .ref a :: st, σ) r ↔ st.length ≤ 4 ∧ mj_kO (mj_tlen a) (fun w => mj_Runs X call oc ret cc (f, lo, .int w :: st, σ) r) := by
  subst hf
  have h := mr_txt (X := X) (call := call) (ret := ret) (lo := lo) (st := .ref a :: st) (σ := σ) hd hi (by decide) rfl
  unfold mj_txt at h
  simp only [if_true] at h
  unfold mj_kO mj_tlen
  by_cases q : 1100 ≤ a ∧ st.length ≤ 4
  · rw [if_pos q] at h
    rw [if_pos q.1]
    cases hw : mj_strL[a - 1100]? with
    | none =>
      rw [hw] at h
      rw [mj_Runs_no h]
      simp
    | some w =>
      rw [hw] at h
      rw [mj_Runs_nx h]
      simp [q]
  · rw [if_neg q] at h
    rw [mj_Runs_no h]
    constructor
    · exact False.elim
    · rintro ⟨h3, h4⟩
      by_cases q1 : 1100 ≤ a
      · exact q ⟨q1, h3⟩
      · rw [if_neg q1] at h4
        exact h4
set_option maxRecDepth 100000 in
theorem mr_tchr {idx a : Nat} {i : Int32} (hd : decode cc pc = .ok (.invokevirtual idx, 3)) (hi : mj_inv oc idx = some (1004, 0, 0)) (hf : pc + 3 = f) : mj_Runs X call oc ret cc (pc, lo, .int i :: .ref a :: st, σ) r ↔ st.length ≤ 4 ∧ mj_kO (mj_tchr a i) (fun w => mj_Runs X call oc ret cc (f, lo, .int w :: st, σ) r) := by
  subst hf
  have h := mr_txt (X := X) (call := call) (ret := ret) (lo := lo) (st := .int i :: .ref a :: st) (σ := σ) hd hi (by decide) rfl
  unfold mj_txt at h
  simp only [show ¬ (1004 : Nat) = 1003 by decide, if_false, if_true] at h
  unfold mj_kO mj_tchr
  by_cases q : 1100 ≤ a ∧ st.length ≤ 4 ∧ ¬ i < 0
  · rw [if_pos q] at h
    rw [if_pos ⟨q.1, q.2.2⟩]
    cases hw : mj_strL[a - 1100]? with
    | none =>
      rw [hw] at h
      rw [mj_Runs_no h]
      simp
    | some w =>
      rw [hw] at h
      simp only [Option.bind_some]
      simp only at h
      cases hv : w.2.2[i.toNatClampNeg]? with
      | none =>
        rw [hv] at h
        rw [mj_Runs_no h]
        simp
      | some v =>
        rw [hv] at h
        rw [mj_Runs_nx h]
        simp [q]
  · rw [if_neg q] at h
    rw [mj_Runs_no h]
    constructor
    · exact False.elim
    · rintro ⟨h3, h4⟩
      by_cases q1 : 1100 ≤ a ∧ ¬ i < 0
      · exact q ⟨q1.1, h3, q1.2⟩
      · rw [if_neg q1] at h4
        exact h4
theorem mr_mkn {idx : Nat} {n : Int32} (hd : decode cc pc = .ok (.newarray .long, 2)) (hd2 : decode cc (pc + 2) = .ok (.putfield idx, 3)) (hfl : mj_fld oc idx = some (3, 19)) (hf : pc + 5 = f) : mj_Runs X call oc ret cc (pc, lo, .int n :: .ref 46 :: st, σ) r ↔ (¬ n < 0 ∧ n.toNatClampNeg ≤ 20000 ∧ lo.all mj_noMk = true ∧ st.all mj_noMk = true) ∧ mj_Runs X call oc ret cc (f, lo, st, mj_newMk σ n.toNatClampNeg) r := by
  subst hf
  have h : mj_step X call oc ret cc (pc, lo, .int n :: .ref 46 :: st, σ) = mj_mkn oc cc pc lo (.int n :: .ref 46 :: st) σ := by
    unfold mj_step
    simp only [hd]
  unfold mj_mkn at h
  simp only [hd2] at h
  by_cases q : ¬ n < 0 ∧ n.toNatClampNeg ≤ 20000 ∧ lo.all mj_noMk = true ∧ st.all mj_noMk = true
  · rw [if_pos ⟨hfl, trivial, q.1, q.2.1, q.2.2.1, q.2.2.2⟩] at h
    rw [mj_Runs_nx h]
    simp only [q, and_self, not_false_eq_true, true_and]
  · rw [if_neg (fun z => q ⟨z.2.2.1, z.2.2.2.1, z.2.2.2.2.1, z.2.2.2.2.2⟩)] at h
    rw [mj_Runs_no h]
    simp only [q, false_and]
theorem mr_getr {idx c ci k : Nat} {fl : List Nat} (hd : decode cc pc = .ok (.getfield idx, 3)) (hf : pc + 3 = f) (hfl : mj_fld oc idx = some (ci, k)) (hs0 : mj_shp c = (0, ci, fl)) (hk : fl[k]? = some 1) : mj_Runs X call oc ret cc (pc, lo, .ref c :: st, σ) r ↔ mj_noMk (va_rf (σ.2.2.1 c k)) = true ∧ mj_Runs X call oc ret cc (f, lo, va_rf (σ.2.2.1 c k) :: st, σ) r := by
  subst hf
  have hs : mj_step X call oc ret cc (pc, lo, .ref c :: st, σ) = mj_get oc idx pc lo (.ref c :: st) σ := mj_st hd
  unfold mj_get mj_getv at hs
  simp only [hfl, hs0, hk, if_true] at hs
  by_cases q2 : mj_noMk (va_rf (σ.2.2.1 c k)) = true
  · simp only [if_pos q2] at hs
    rw [mj_Runs_nx hs]
    simp [q2]
  · simp only [if_neg q2] at hs
    rw [mj_Runs_no hs]
    simp [q2]
theorem mr_putr {idx c ci k j : Nat} {fl : List Nat} (hd : decode cc pc = .ok (.putfield idx, 3)) (hf : pc + 3 = f) (hfl : mj_fld oc idx = some (ci, k)) (hs0 : mj_shp c = (0, ci, fl)) (hk : fl[k]? = some 1) : mj_Runs X call oc ret cc (pc, lo, .ref j :: .ref c :: st, σ) r ↔ ¬ j = 999 ∧ mj_Runs X call oc ret cc (f, lo, st, mj_setR σ c k (some j)) r := by
  subst hf
  have hs : mj_step X call oc ret cc (pc, lo, .ref j :: .ref c :: st, σ) = mj_put oc idx pc lo (.ref j :: .ref c :: st) σ := mj_st hd
  unfold mj_put mj_putv at hs
  simp only [hfl, hs0, hk, if_true] at hs
  by_cases q2 : j = 999
  · simp only [if_pos q2] at hs
    rw [mj_Runs_no hs]
    simp [q2]
  · simp only [if_neg q2] at hs
    rw [mj_Runs_nx hs]
    simp [q2]
end RT
