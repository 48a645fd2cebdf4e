/-! one instruction of a run, as an equivalence -/
section RR
variable {X : mj_X} {call : mj_Call} {oc : Nat} {ret : Option FieldType} {cc : ByteArray} {pc : Nat} {lo st : List Value} {σ : mj_St} {r : mj_Rs} {c' : mj_Cf} {i : Instr} {n : Nat}
def mj_in (i : Int32) (n : Nat) : Prop := ¬ (i < 0 ∨ n ≤ i.toNatClampNeg)
def mj_cok (lo st : List Value) : Bool := lo.all mj_noMk && st.all mj_noMk && decide (st.length ≤ 4)
theorem mj_Runs_nx (h : mj_step X call oc ret cc (pc, lo, st, σ) = some (.inl c')) : mj_Runs X call oc ret cc (pc, lo, st, σ) r ↔ mj_Runs X call oc ret cc c' r := by
  constructor
  · rintro ⟨n, hn⟩
    cases n with
    | zero => cases hn
    | succ n =>
      unfold mj_go at hn
      rw [h] at hn
      exact ⟨n, hn⟩
  · exact mj_Runs.step h
theorem mj_Runs_end {r0 : mj_Rs} (h : mj_step X call oc ret cc (pc, lo, st, σ) = some (.inr r0)) : mj_Runs X call oc ret cc (pc, lo, st, σ) r ↔ r = r0 := by
  constructor
  · rintro ⟨n, hn⟩
    cases n with
    | zero => cases hn
    | succ n =>
      unfold mj_go at hn
      rw [h] at hn
      cases hn
      rfl
  · rintro rfl
    exact mj_Runs.done h
theorem mj_Runs_no (h : mj_step X call oc ret cc (pc, lo, st, σ) = none) : mj_Runs X call oc ret cc (pc, lo, st, σ) r ↔ False := by
  constructor
  · rintro ⟨n, hn⟩
    cases n with
    | zero => cases hn
    | succ n =>
      unfold mj_go at hn
      rw [h] at hn
      cases hn
  · exact False.elim
theorem mj_st (hd : decode cc pc = .ok (i, n)) : mj_step X call oc ret cc (pc, lo, st, σ) = mj_ex X call oc ret pc i n lo st σ := by
  simp only [mj_step, hd]
theorem mr (hd : decode cc pc = .ok (i, n)) (h : mj_ex X call oc ret pc i n lo st σ = some (.inl c')) : mj_Runs X call oc ret cc (pc, lo, st, σ) r ↔ mj_Runs X call oc ret cc c' r := mj_Runs_nx ((mj_st hd).trans h)
theorem mr_br {b : Bool} {off : Int} {t f : Nat} {st0 : List Value} (hd : decode cc pc = .ok (i, n)) (h : mj_ex X call oc ret pc i n lo st σ = mj_br b pc off 3 lo st0 σ) (ht : (pc : Int) + off = (t : Int)) (hf : pc + 3 = f) :
    mj_Runs X call oc ret cc (pc, lo, st, σ) r ↔ (if b = true then mj_Runs X call oc ret cc (t, lo, st0, σ) r else mj_Runs X call oc ret cc (f, lo, st0, σ) r) := by
  have h0 : 0 ≤ (pc : Int) + off := by omega
  have e : ((pc : Int) + off).toNat = t := by omega
  unfold mj_br at h
  rw [if_pos h0, e] at h
  subst hf
  cases b
  · exact mj_Runs_nx ((mj_st hd).trans h)
  · exact mj_Runs_nx ((mj_st hd).trans h)
theorem mr_eq {x y : Int32} {off : Int} {t f : Nat} {st0 : List Value} (hd : decode cc pc = .ok (i, n)) (h : mj_ex X call oc ret pc i n lo st σ = mj_br (mj_cmp .eq x y) pc off 3 lo st0 σ) (ht : (pc : Int) + off = (t : Int)) (hf : pc + 3 = f) :
    mj_Runs X call oc ret cc (pc, lo, st, σ) r ↔ (if x = y then mj_Runs X call oc ret cc (t, lo, st0, σ) r else mj_Runs X call oc ret cc (f, lo, st0, σ) r) := by
  rw [mr_br hd h ht hf]
  by_cases q : x = y <;> simp [mj_cmp, q]
theorem mr_ne {x y : Int32} {off : Int} {t f : Nat} {st0 : List Value} (hd : decode cc pc = .ok (i, n)) (h : mj_ex X call oc ret pc i n lo st σ = mj_br (mj_cmp .ne x y) pc off 3 lo st0 σ) (ht : (pc : Int) + off = (t : Int)) (hf : pc + 3 = f) :
    mj_Runs X call oc ret cc (pc, lo, st, σ) r ↔ (if x = y then mj_Runs X call oc ret cc (f, lo, st0, σ) r else mj_Runs X call oc ret cc (t, lo, st0, σ) r) := by
  rw [mr_br hd h ht hf]
  by_cases q : x = y <;> simp [mj_cmp, q]
theorem mr_lt {x y : Int32} {off : Int} {t f : Nat} {st0 : List Value} (hd : decode cc pc = .ok (i, n)) (h : mj_ex X call oc ret pc i n lo st σ = mj_br (mj_cmp .lt x y) pc off 3 lo st0 σ) (ht : (pc : Int) + off = (t : Int)) (hf : pc + 3 = f) :
    mj_Runs X call oc ret cc (pc, lo, st, σ) r ↔ (if x < y then mj_Runs X call oc ret cc (t, lo, st0, σ) r else mj_Runs X call oc ret cc (f, lo, st0, σ) r) := by
  rw [mr_br hd h ht hf]
  by_cases q : x < y <;> simp [mj_cmp, q]
theorem mr_gt {x y : Int32} {off : Int} {t f : Nat} {st0 : List Value} (hd : decode cc pc = .ok (i, n)) (h : mj_ex X call oc ret pc i n lo st σ = mj_br (mj_cmp .gt x y) pc off 3 lo st0 σ) (ht : (pc : Int) + off = (t : Int)) (hf : pc + 3 = f) :
    mj_Runs X call oc ret cc (pc, lo, st, σ) r ↔ (if y < x then mj_Runs X call oc ret cc (t, lo, st0, σ) r else mj_Runs X call oc ret cc (f, lo, st0, σ) r) := by
  rw [mr_br hd h ht hf]
  by_cases q : y < x <;> simp [mj_cmp, q]
theorem mr_ge {x y : Int32} {off : Int} {t f : Nat} {st0 : List Value} (hd : decode cc pc = .ok (i, n)) (h : mj_ex X call oc ret pc i n lo st σ = mj_br (mj_cmp .ge x y) pc off 3 lo st0 σ) (ht : (pc : Int) + off = (t : Int)) (hf : pc + 3 = f) :
    mj_Runs X call oc ret cc (pc, lo, st, σ) r ↔ (if x < y then mj_Runs X call oc ret cc (f, lo, st0, σ) r else mj_Runs X call oc ret cc (t, lo, st0, σ) r) := by
  rw [mr_br hd h ht hf]
  by_cases q : x < y
  · have q' : ¬ y ≤ x := Int32.not_le.mpr q
    simp [mj_cmp, q, q']
  · have q' : y ≤ x := Int32.not_lt.mp q
    simp [mj_cmp, q, q']
theorem mr_le {x y : Int32} {off : Int} {t f : Nat} {st0 : List Value} (hd : decode cc pc = .ok (i, n)) (h : mj_ex X call oc ret pc i n lo st σ = mj_br (mj_cmp .le x y) pc off 3 lo st0 σ) (ht : (pc : Int) + off = (t : Int)) (hf : pc + 3 = f) :
    mj_Runs X call oc ret cc (pc, lo, st, σ) r ↔ (if y < x then mj_Runs X call oc ret cc (f, lo, st0, σ) r else mj_Runs X call oc ret cc (t, lo, st0, σ) r) := by
  rw [mr_br hd h ht hf]
  by_cases q : y < x
  · have q' : ¬ x ≤ y := Int32.not_le.mpr q
    simp [mj_cmp, q, q']
  · have q' : x ≤ y := Int32.not_lt.mp q
    simp [mj_cmp, q, q']
theorem mr_in {o : mj_O} {j : Int32} {k : Nat} {c1 : mj_Cf} (hd : decode cc pc = .ok (i, n)) (h : mj_ex X call oc ret pc i n lo st σ = if j < 0 ∨ k ≤ j.toNatClampNeg then none else some (.inl c1)) :
    mj_Runs X call oc ret cc (pc, lo, st, σ) r ↔ mj_in j k ∧ mj_Runs X call oc ret cc c1 r := by
  unfold mj_in
  by_cases q : j < 0 ∨ k ≤ j.toNatClampNeg
  · rw [if_pos q] at h
    rw [mj_Runs_no ((mj_st hd).trans h)]
    simp [q]
  · rw [if_neg q] at h
    rw [mj_Runs_nx ((mj_st hd).trans h)]
    simp [q]
theorem mr_nz {x : Int32} {c1 : mj_Cf} (hd : decode cc pc = .ok (i, n)) (h : mj_ex X call oc ret pc i n lo st σ = if x = 0 then none else some (.inl c1)) :
    mj_Runs X call oc ret cc (pc, lo, st, σ) r ↔ ¬ x = 0 ∧ mj_Runs X call oc ret cc c1 r := by
  by_cases q : x = 0
  · rw [if_pos q] at h
    rw [mj_Runs_no ((mj_st hd).trans h)]
    simp [q]
  · rw [if_neg q] at h
    rw [mj_Runs_nx ((mj_st hd).trans h)]
    simp [q]
theorem mr_if {P : Prop} {dp : Decidable P} {c1 : mj_Cf} (hd : decode cc pc = .ok (i, n)) (h : mj_ex X call oc ret pc i n lo st σ = if P then some (.inl c1) else none) :
    mj_Runs X call oc ret cc (pc, lo, st, σ) r ↔ P ∧ mj_Runs X call oc ret cc c1 r := by
  by_cases q : P
  · rw [if_pos q] at h
    rw [mj_Runs_nx ((mj_st hd).trans h)]
    simp [q]
  · rw [if_neg q] at h
    rw [mj_Runs_no ((mj_st hd).trans h)]
    simp [q]
theorem mr_end {r0 : mj_Rs} (hd : decode cc pc = .ok (i, n)) (h : mj_ex X call oc ret pc i n lo st σ = some (.inr r0)) : mj_Runs X call oc ret cc (pc, lo, st, σ) r ↔ r = r0 := mj_Runs_end ((mj_st hd).trans h)
theorem mr_endz {x : Int32} (hd : decode cc pc = .ok (.ireturn, 1)) (hr : ret = some .boolean) : mj_Runs X call oc ret cc (pc, lo, [.int x], σ) r ↔ (x = 0 ∨ x = 1) ∧ r = (some (.int x), σ) := by
  subst hr
  have h : mj_step X call oc (some .boolean) cc (pc, lo, [.int x], σ) = if (some FieldType.boolean = some .int ∨ (some FieldType.boolean = some .boolean ∧ (x = 0 ∨ x = 1))) then some (.inr (some (.int x), σ)) else none := mj_st hd
  by_cases q : x = 0 ∨ x = 1
  · rw [if_pos (Or.inr ⟨rfl, q⟩)] at h
    rw [mj_Runs_end h]
    simp [q]
  · rw [if_neg (by simp [q])] at h
    rw [mj_Runs_no h]
    simp [q]
/-- a call -/
def mj_cc (X : mj_X) (call0 : mj_Call) (oc : Nat) (ret : Option FieldType) (cc : ByteArray) (pc : Nat) (lo st : List Value) (r : mj_Rs) (o : Option mj_Rs) : Prop := match o with
  | some (v, σ') => mj_Runs X call0 oc ret cc (pc, lo, v.toList ++ st, σ') r
  | none => False
theorem mr_call {idx mid na sv f : Nat} {as st0 : List Value} (virt : Bool) (hd : decode cc pc = .ok (if virt = true then .invokevirtual idx else .invokestatic idx, 3)) (hi : mj_inv oc idx = some (mid, na, sv)) (hm : ¬ 1000 ≤ mid) (hv : virt = (sv != 0)) (hs : st = as.reverse ++ st0) (hl : as.length = na) (hrc : mj_rcv sv as = true) (has : as.all mj_noMk = true) (hf : pc + 3 = f) :
    mj_Runs X call oc ret cc (pc, lo, st, σ) r ↔ mj_cok lo st0 = true ∧ mj_cc X call oc ret cc f lo st0 r (call mid as σ) := by
  have hst : mj_step X call oc ret cc (pc, lo, st, σ) = mj_ivk call virt oc idx pc lo st σ := by
    rw [mj_st hd]
    cases virt <;> rfl
  have htk : st.take na = as.reverse := by
    rw [hs, ← hl]
    rw [show as.length = as.reverse.length from (List.length_reverse).symm, List.take_left']
    rfl
  have hdr : st.drop na = st0 := by
    rw [hs, ← hl]
    rw [show as.length = as.reverse.length from (List.length_reverse).symm, List.drop_left']
    rfl
  have hal : st.all mj_noMk = st0.all mj_noMk := by
    rw [hs, List.all_append, List.all_reverse, has, Bool.true_and]
  have hle : na ≤ st.length := by
    rw [hs, List.length_append, List.length_reverse]
    omega
  unfold mj_ivk at hst
  rw [hi] at hst
  simp only [if_neg hm, htk, hdr, hal, List.reverse_reverse] at hst
  subst hf
  by_cases q : mj_cok lo st0 = true
  · have q2 := q
    unfold mj_cok at q2
    simp only [Bool.and_eq_true, decide_eq_true_eq] at q2
    rw [if_pos ⟨hv, hle, q2.2, q2.1.1, q2.1.2, hrc⟩] at hst
    unfold mj_cc
    simp only [q, true_and]
    cases hc : call mid as σ with
    | none =>
      rw [hc] at hst
      exact mj_Runs_no hst
    | some w =>
      obtain ⟨v, σ'⟩ := w
      rw [hc] at hst
      exact mj_Runs_nx hst
  · rw [if_neg (fun z => q (by unfold mj_cok; simp only [Bool.and_eq_true, decide_eq_true_eq]; exact ⟨⟨z.2.2.2.1, z.2.2.2.2.1⟩, z.2.2.1⟩))] at hst
    rw [mj_Runs_no hst]
    simp [q]
end RR
