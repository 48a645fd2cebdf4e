/-! runs, and a method's contract out of its run -/
def mj_go (X : mj_X) (call : mj_Call) (oc : Nat) (ret : Option FieldType) (cc : ByteArray) : Nat → mj_Cf → Option mj_Rs
  | 0, _ => none
  | n + 1, c => match mj_step X call oc ret cc c with
    | some (.inl c') => mj_go X call oc ret cc n c'
    | some (.inr r) => some r
    | none => none
def mj_exp (as : List Value) : List Value := as.flatMap (fun v => if v.category = 2 then [v, mj_junk] else [v])
def mj_ent (as : List Value) (n : Nat) : List Value := mj_exp as ++ List.replicate (n - (mj_exp as).length) mj_junk
/-- from c there is a run to the answer r -/
def mj_Runs (X : mj_X) (call : mj_Call) (oc : Nat) (ret : Option FieldType) (cc : ByteArray) (c : mj_Cf) (r : mj_Rs) : Prop := ∃ n, mj_go X call oc ret cc n c = some r
noncomputable def mj_evS (X : mj_X) (call : mj_Call) : mj_Call := fun mid as σ => match mj_mL[mid]? with
    | some e => match Classical.propDecidable ((mj_exp as).length ≤ e.2.2.1 ∧ ∃ r, mj_Runs X call e.2.2.2.2.2.2.2.2.2.2 e.2.2.2.1 e.2.1 (0, mj_ent as e.2.2.1, [], σ) r) with
      | .isTrue h => some h.2.choose
      | .isFalse _ => none
    | none => none
noncomputable def mj_ev (X : mj_X) : Nat → mj_Call
  | 0 => fun _ _ _ => none
  | d + 1 => mj_evS X (mj_ev X d)
theorem mj_go_det {X : mj_X} {call : mj_Call} {oc : Nat} {ret : Option FieldType} {cc : ByteArray} : ∀ (n k : Nat) (c : mj_Cf) (r r' : mj_Rs), mj_go X call oc ret cc n c = some r → mj_go X call oc ret cc k c = some r' → r = r' := by
  intro n
  induction n with
  | zero => intro k c r r' h; cases h
  | succ n ih =>
    intro k c r r' h h'
    cases k with
    | zero => cases h'
    | succ k =>
      unfold mj_go at h h'
      split at h
      · rename_i c' hc
        rw [hc] at h'
        exact ih k c' r r' h h'
      · rename_i r0 hc
        rw [hc] at h'
        cases h
        cases h'
        rfl
      · cases h
theorem mj_ev_of {X : mj_X} {d mid : Nat} {as : List Value} {σ : mj_St} {e : mj_M} {r : mj_Rs} (he : mj_mL[mid]? = some e) (hl : (mj_exp as).length ≤ e.2.2.1) (h : mj_Runs X (mj_ev X d) e.2.2.2.2.2.2.2.2.2.2 e.2.2.2.1 e.2.1 (0, mj_ent as e.2.2.1, [], σ) r) : mj_ev X (d + 1) mid as σ = some r := by
  show mj_evS X (mj_ev X d) mid as σ = some r
  unfold mj_evS
  rw [he]
  simp only
  split
  · rename_i hx _
    obtain ⟨n, hn⟩ := h
    obtain ⟨k, hk⟩ := hx.2.choose_spec
    rw [mj_go_det k n _ _ _ hk hn]
  · rename_i hx _
    exact absurd ⟨hl, r, h⟩ hx
theorem mj_ev_run {X : mj_X} {d mid : Nat} {as : List Value} {σ : mj_St} {r : mj_Rs} (h : mj_ev X (d + 1) mid as σ = some r) : ∃ e : mj_M, mj_mL[mid]? = some e ∧ (mj_exp as).length ≤ e.2.2.1 ∧ mj_Runs X (mj_ev X d) e.2.2.2.2.2.2.2.2.2.2 e.2.2.2.1 e.2.1 (0, mj_ent as e.2.2.1, [], σ) r := by
  replace h : mj_evS X (mj_ev X d) mid as σ = some r := h
  unfold mj_evS at h
  split at h
  · rename_i e he
    split at h
    · rename_i hx _
      cases h
      exact ⟨e, he, hx.1, hx.2.choose_spec⟩
    · cases h
  · cases h
theorem mj_Runs.step {X : mj_X} {call : mj_Call} {oc : Nat} {ret : Option FieldType} {cc : ByteArray} {c c' : mj_Cf} {r : mj_Rs} (h : mj_step X call oc ret cc c = some (.inl c')) (k : mj_Runs X call oc ret cc c' r) : mj_Runs X call oc ret cc c r := by
  obtain ⟨n, hn⟩ := k
  refine ⟨n + 1, ?_⟩
  unfold mj_go
  rw [h]
  exact hn
theorem mj_Runs.done {X : mj_X} {call : mj_Call} {oc : Nat} {ret : Option FieldType} {cc : ByteArray} {c : mj_Cf} {r : mj_Rs} (h : mj_step X call oc ret cc c = some (.inr r)) : mj_Runs X call oc ret cc c r := by
  refine ⟨1, ?_⟩
  unfold mj_go
  rw [h]
theorem mj_exp_args (G : mj_G) (am : Nat) : ∀ (as : List Value) (n i : Nat) (v : Value), (mj_exp as)[i]? = some v → (∀ x, v ≠ .retAddr x) → (n + i, mj_cv G am v) ∈ lv_args n (as.map (mj_cv G am)) := by
  intro as
  induction as with
  | nil => intro n i v h; simp [mj_exp] at h
  | cons a as ih =>
    intro n i v h hne
    have e : mj_exp (a :: as) = (if a.category = 2 then [a, mj_junk] else [a]) ++ mj_exp as := by simp [mj_exp]
    rw [e] at h
    simp only [List.map_cons, lv_args, mj_cv_cat]
    by_cases hc : a.category = 2
    · rw [if_pos hc] at h ⊢
      match i, h with
      | 0, h =>
        simp at h
        subst h
        exact List.mem_cons_self
      | 1, h =>
        simp at h
        subst h
        exact absurd rfl (hne 0)
      | i + 2, h =>
        refine List.mem_cons_of_mem _ ?_
        have := ih (n + 2) i v (by simpa using h) hne
        rwa [show n + 2 + i = n + (i + 2) by omega] at this
    · rw [if_neg hc] at h ⊢
      match i, h with
      | 0, h =>
        simp at h
        subst h
        exact List.mem_cons_self
      | i + 1, h =>
        refine List.mem_cons_of_mem _ ?_
        have := ih (n + 1) i v (by simpa using h) hne
        rwa [show n + 1 + i = n + (i + 1) by omega] at this
theorem mj_exp_sl (G : mj_G) (am : Nat) (as : List Value) : (lg_sl (as.map (mj_cv G am))).length = (mj_exp as).length := by
  induction as with
  | nil => rfl
  | cons a as ih =>
    have e : mj_exp (a :: as) = (if a.category = 2 then [a, mj_junk] else [a]) ++ mj_exp as := by simp [mj_exp]
    have e2 : lg_sl ((a :: as).map (mj_cv G am)) = (if (mj_cv G am a).category = 2 then [Slot.val (mj_cv G am a), .second] else [.val (mj_cv G am a)]) ++ lg_sl (as.map (mj_cv G am)) := by simp [lg_sl]
    rw [e, e2, List.length_append, List.length_append, ih, mj_cv_cat]
    split <;> rfl
theorem mj_entry {G : mj_G} {am n : Nat} {as : List Value} (h : (mj_exp as).length ≤ n) : mj_LV G am n ((lg_sl (as.map (mj_cv G am)) ++ List.replicate (n - (lg_sl (as.map (mj_cv G am))).length) Slot.unset).toArray) (mj_ent as n) := by
  have h2 := lv_entry (as.map (mj_cv G am)) (n := n) (by rw [mj_exp_sl]; exact h)
  refine ⟨by simp [mj_ent]; omega, h2.1, h2.2.1, fun q hq => ?_⟩
  obtain ⟨v, hv, hne, he⟩ := mj_lvl_mem.mp hq
  unfold mj_ent at hv
  by_cases hlt : q.1 < (mj_exp as).length
  · rw [List.getElem?_append_left hlt] at hv
    have := mj_exp_args G am as 0 q.1 v hv hne
    rw [Nat.zero_add, ← he] at this
    exact h2.2.2 q this
  · rw [List.getElem?_append_right (Nat.not_lt.mp hlt), List.getElem?_replicate] at hv
    split at hv
    · cases hv
      exact absurd rfl (hne 0)
    · cases hv
theorem mj_nr_nx {pc : Nat} {lo st : List Value} {σ : mj_St} {r : mj_Rs} : mj_nx pc lo st σ ≠ some (.inr r) := by intro h; cases h
section NR
variable {X : mj_X} {call : mj_Call} {k n pc : Nat} {d d2 d3 : Int} {b : Bool} {f : Int32 → Int32 → Int32} {f1 : Int32 → Int32} {fl : Int64 → Int64 → Int64} {oa : Array Int} {pa : Array (Int × Int)} {lo st : List Value} {σ : mj_St} {r : mj_Rs}
theorem mj_nr_ldI : mj_ldI k n pc lo st σ ≠ some (.inr r) := by
  intro h
  unfold mj_ldI at h
  (repeat' (split at h)) <;> first | exact mj_nr_nx h | cases h
theorem mj_nr_ldL : mj_ldL k n pc lo st σ ≠ some (.inr r) := by
  intro h
  unfold mj_ldL at h
  (repeat' (split at h)) <;> first | exact mj_nr_nx h | cases h
theorem mj_nr_ldA : mj_ldA k n pc lo st σ ≠ some (.inr r) := by
  intro h
  unfold mj_ldA at h
  (repeat' (split at h)) <;> first | exact mj_nr_nx h | cases h
theorem mj_nr_stI : mj_stI k n pc lo st σ ≠ some (.inr r) := by
  intro h
  unfold mj_stI at h
  (repeat' (split at h)) <;> first | exact mj_nr_nx h | cases h
theorem mj_nr_stL : mj_stL k n pc lo st σ ≠ some (.inr r) := by
  intro h
  unfold mj_stL at h
  (repeat' (split at h)) <;> first | exact mj_nr_nx h | cases h
theorem mj_nr_stA : mj_stA k n pc lo st σ ≠ some (.inr r) := by
  intro h
  unfold mj_stA at h
  (repeat' (split at h)) <;> first | exact mj_nr_nx h | cases h
theorem mj_nr_inc : mj_inc k d n pc lo st σ ≠ some (.inr r) := by
  intro h
  unfold mj_inc at h
  (repeat' (split at h)) <;> first | exact mj_nr_nx h | cases h
theorem mj_nr_b2 : mj_b2 f pc lo st σ ≠ some (.inr r) := by
  intro h
  unfold mj_b2 at h
  (repeat' (split at h)) <;> first | exact mj_nr_nx h | cases h
theorem mj_nr_bl : mj_bl fl pc lo st σ ≠ some (.inr r) := by
  intro h
  unfold mj_bl at h
  (repeat' (split at h)) <;> first | exact mj_nr_nx h | cases h
theorem mj_nr_dv : mj_dv f pc lo st σ ≠ some (.inr r) := by
  intro h
  unfold mj_dv at h
  (repeat' (split at h)) <;> first | exact mj_nr_nx h | cases h
theorem mj_nr_u1 : mj_u1 f1 pc lo st σ ≠ some (.inr r) := by
  intro h
  unfold mj_u1 at h
  (repeat' (split at h)) <;> first | exact mj_nr_nx h | cases h
theorem mj_nr_jmp : mj_jmp pc d lo st σ ≠ some (.inr r) := by
  intro h
  unfold mj_jmp at h
  (repeat' (split at h)) <;> first | exact mj_nr_nx h | cases h
theorem mj_nr_br : mj_br b pc d n lo st σ ≠ some (.inr r) := by
  intro h
  unfold mj_br at h
  (repeat' (split at h)) <;> first | exact mj_nr_nx h | cases h
theorem mj_nr_ald : mj_ald X pc lo st σ ≠ some (.inr r) := by
  intro h
  unfold mj_ald at h
  (repeat' (split at h)) <;> first | exact mj_nr_nx h | cases h
theorem mj_nr_bld : mj_bld pc lo st σ ≠ some (.inr r) := by
  intro h
  unfold mj_bld at h
  (repeat' (split at h)) <;> first | exact mj_nr_nx h | cases h
theorem mj_nr_lld : mj_lld pc lo st σ ≠ some (.inr r) := by
  intro h
  unfold mj_lld at h
  (repeat' (split at h)) <;> first | exact mj_nr_nx h | cases h
theorem mj_nr_qld : mj_qld pc lo st σ ≠ some (.inr r) := by
  intro h
  unfold mj_qld at h
  (repeat' (split at h)) <;> first | exact mj_nr_nx h | cases h
theorem mj_nr_ast : mj_ast pc lo st σ ≠ some (.inr r) := by
  intro h
  unfold mj_ast at h
  (repeat' (split at h)) <;> first | exact mj_nr_nx h | cases h
theorem mj_nr_bst : mj_bst pc lo st σ ≠ some (.inr r) := by
  intro h
  unfold mj_bst at h
  (repeat' (split at h)) <;> first | exact mj_nr_nx h | cases h
theorem mj_nr_lst : mj_lst pc lo st σ ≠ some (.inr r) := by
  intro h
  unfold mj_lst at h
  (repeat' (split at h)) <;> first | exact mj_nr_nx h | cases h
theorem mj_nr_len : mj_len X pc lo st σ ≠ some (.inr r) := by
  intro h
  unfold mj_len at h
  (repeat' (split at h)) <;> first | exact mj_nr_nx h | cases h
theorem mj_nr_get : mj_get k n pc lo st σ ≠ some (.inr r) := by
  intro h
  unfold mj_get at h
  (repeat' (split at h)) <;> first | exact mj_nr_nx h | cases h
theorem mj_nr_put : mj_put k n pc lo st σ ≠ some (.inr r) := by
  intro h
  unfold mj_put at h
  (repeat' (split at h)) <;> first | exact mj_nr_nx h | cases h
theorem mj_nr_nat : mj_nat k pc lo st σ ≠ some (.inr r) := by
  intro h
  unfold mj_nat at h
  (repeat' (split at h)) <;> first | exact mj_nr_nx h | cases h
theorem mj_nr_tsw : mj_tsw d d2 d3 oa pc lo st σ ≠ some (.inr r) := by
  intro h
  unfold mj_tsw at h
  (repeat' (split at h)) <;> first | exact mj_nr_jmp h | cases h
theorem mj_nr_lsw : mj_lsw d pa pc lo st σ ≠ some (.inr r) := by
  intro h
  unfold mj_lsw at h
  (repeat' (split at h)) <;> first | exact mj_nr_jmp h | cases h
theorem mj_nr_txt : mj_txt k pc lo st σ ≠ some (.inr r) := by
  intro h
  unfold mj_txt at h
  (repeat' (split at h)) <;> first | exact mj_nr_nx h | cases h
theorem mj_nr_mkn {cc : ByteArray} : mj_mkn k cc pc lo st σ ≠ some (.inr r) := by
  intro h
  unfold mj_mkn at h
  (repeat' (split at h)) <;> first | exact mj_nr_nx h | cases h
theorem mj_nr_ivk : mj_ivk call b k n pc lo st σ ≠ some (.inr r) := by
  intro h
  unfold mj_ivk at h
  (repeat' (split at h)) <;> first | exact mj_nr_nat h | exact mj_nr_txt h | exact mj_nr_nx h | cases h
end NR
theorem mj_ret_key {X : mj_X} {call : mj_Call} {oc pc n : Nat} {i : Instr} {ret : Option FieldType} {lo st : List Value} {σ σ' : mj_St} {v : Option Value} (h : mj_ex X call oc ret pc i n lo st σ = some (.inr (v, σ'))) : (∃ x, i = .ireturn ∧ n = 1 ∧ st = [.int x] ∧ (ret = some .int ∨ (ret = some .boolean ∧ (x = 0 ∨ x = 1))) ∧ v = some (.int x) ∧ σ' = σ) ∨ (∃ x, i = .lreturn ∧ n = 1 ∧ st = [.long x] ∧ ret = some .long ∧ v = some (.long x) ∧ σ' = σ) ∨ (i = .return_ ∧ n = 1 ∧ st = [] ∧ ret = none ∧ v = none ∧ σ' = σ) := by
  unfold mj_ex at h
  split at h
  · exact absurd h mj_nr_ldI
  · exact absurd h mj_nr_ldI
  · exact absurd h mj_nr_ldL
  · exact absurd h mj_nr_ldL
  · exact absurd h mj_nr_ldA
  · exact absurd h mj_nr_ldA
  · exact absurd h mj_nr_stI
  · exact absurd h mj_nr_stI
  · exact absurd h mj_nr_stL
  · exact absurd h mj_nr_stL
  · exact absurd h mj_nr_stA
  · exact absurd h mj_nr_stA
  · exact absurd h mj_nr_inc
  · exact absurd h mj_nr_nx
  · exact absurd h mj_nr_nx
  · exact absurd h mj_nr_nx
  · exact absurd h mj_nr_nx
  · exact absurd h mj_nr_b2
  · exact absurd h mj_nr_b2
  · exact absurd h mj_nr_b2
  · exact absurd h mj_nr_b2
  · exact absurd h mj_nr_b2
  · exact absurd h mj_nr_b2
  · exact absurd h mj_nr_b2
  · exact absurd h mj_nr_b2
  · exact absurd h mj_nr_b2
  · exact absurd h mj_nr_dv
  · exact absurd h mj_nr_dv
  · exact absurd h mj_nr_u1
  · exact absurd h mj_nr_u1
  · exact absurd h mj_nr_u1
  · exact absurd h mj_nr_bl
  · exact absurd h mj_nr_bl
  · exact absurd h mj_nr_bl
  · (repeat' (split at h)) <;> first | exact absurd h mj_nr_nx | cases h
  · (repeat' (split at h)) <;> first | exact absurd h mj_nr_nx | cases h
  · (repeat' (split at h)) <;> first | exact absurd h mj_nr_nx | cases h
  · (repeat' (split at h)) <;> first | exact absurd h mj_nr_nx | cases h
  · (repeat' (split at h)) <;> first | exact absurd h mj_nr_nx | cases h
  · (repeat' (split at h)) <;> first | exact absurd h mj_nr_nx | cases h
  · (repeat' (split at h)) <;> first | exact absurd h mj_nr_nx | cases h
  · exact absurd h mj_nr_jmp
  · split at h
    · exact absurd h mj_nr_br
    · cases h
  · split at h
    · exact absurd h mj_nr_br
    · cases h
  · split at h
    · exact absurd h mj_nr_nx
    · exact absurd h mj_nr_jmp
    · cases h
  · exact absurd h mj_nr_tsw
  · exact absurd h mj_nr_lsw
  · exact absurd h mj_nr_ald
  · exact absurd h mj_nr_bld
  · exact absurd h mj_nr_lld
  · exact absurd h mj_nr_qld
  · exact absurd h mj_nr_ast
  · exact absurd h mj_nr_bst
  · exact absurd h mj_nr_lst
  · exact absurd h mj_nr_len
  · exact absurd h mj_nr_get
  · exact absurd h mj_nr_put
  · (repeat' (split at h)) <;> first | exact absurd h mj_nr_nx | cases h
  · exact absurd h mj_nr_ivk
  · exact absurd h mj_nr_ivk
  · (repeat' (split at h)) <;> first | exact absurd h mj_nr_nx | cases h
  · (repeat' (split at h)) <;> first | exact absurd h mj_nr_nx | cases h
  · (repeat' (split at h)) <;> first | exact absurd h mj_nr_nx | cases h
  · split at h
    · split at h
      · rename_i hret
        cases h
        exact Or.inl ⟨_, rfl, rfl, rfl, hret, rfl, rfl⟩
      · cases h
    · cases h
  · split at h
    · split at h
      · rename_i hret
        cases h
        exact Or.inr (Or.inl ⟨_, rfl, rfl, rfl, hret, rfl, rfl⟩)
      · cases h
    · cases h
  · split at h
    · split at h
      · rename_i hret
        cases h
        exact Or.inr (Or.inr ⟨rfl, rfl, rfl, hret, rfl, rfl⟩)
      · cases h
    · cases h
  · cases h
section MO
variable {X : mj_X} {call : mj_Call} {k n pc : Nat} {d d2 d3 : Int} {b : Bool} {f : Int32 → Int32 → Int32} {f1 : Int32 → Int32} {fl : Int64 → Int64 → Int64} {oa : Array Int} {pa : Array (Int × Int)} {lo st : List Value} {σ : mj_St} {c' : mj_Cf}
theorem mj_mo_ldI (h : mj_ldI k n pc lo st σ = some (.inl c')) : c'.2.2.2.2.2.2.2 = σ.2.2.2.2 := by
  unfold mj_ldI at h
  (repeat' (split at h)) <;> first | (cases mj_nx_inv h; rfl) | cases h
theorem mj_mo_ldL (h : mj_ldL k n pc lo st σ = some (.inl c')) : c'.2.2.2.2.2.2.2 = σ.2.2.2.2 := by
  unfold mj_ldL at h
  (repeat' (split at h)) <;> first | (cases mj_nx_inv h; rfl) | cases h
theorem mj_mo_ldA (h : mj_ldA k n pc lo st σ = some (.inl c')) : c'.2.2.2.2.2.2.2 = σ.2.2.2.2 := by
  unfold mj_ldA at h
  (repeat' (split at h)) <;> first | (cases mj_nx_inv h; rfl) | cases h
theorem mj_mo_stI (h : mj_stI k n pc lo st σ = some (.inl c')) : c'.2.2.2.2.2.2.2 = σ.2.2.2.2 := by
  unfold mj_stI at h
  (repeat' (split at h)) <;> first | (cases mj_nx_inv h; rfl) | cases h
theorem mj_mo_stL (h : mj_stL k n pc lo st σ = some (.inl c')) : c'.2.2.2.2.2.2.2 = σ.2.2.2.2 := by
  unfold mj_stL at h
  (repeat' (split at h)) <;> first | (cases mj_nx_inv h; rfl) | cases h
theorem mj_mo_stA (h : mj_stA k n pc lo st σ = some (.inl c')) : c'.2.2.2.2.2.2.2 = σ.2.2.2.2 := by
  unfold mj_stA at h
  (repeat' (split at h)) <;> first | (cases mj_nx_inv h; rfl) | cases h
theorem mj_mo_inc (h : mj_inc k d n pc lo st σ = some (.inl c')) : c'.2.2.2.2.2.2.2 = σ.2.2.2.2 := by
  unfold mj_inc at h
  (repeat' (split at h)) <;> first | (cases mj_nx_inv h; rfl) | cases h
theorem mj_mo_b2 (h : mj_b2 f pc lo st σ = some (.inl c')) : c'.2.2.2.2.2.2.2 = σ.2.2.2.2 := by
  unfold mj_b2 at h
  (repeat' (split at h)) <;> first | (cases mj_nx_inv h; rfl) | cases h
theorem mj_mo_bl (h : mj_bl fl pc lo st σ = some (.inl c')) : c'.2.2.2.2.2.2.2 = σ.2.2.2.2 := by
  unfold mj_bl at h
  (repeat' (split at h)) <;> first | (cases mj_nx_inv h; rfl) | cases h
theorem mj_mo_dv (h : mj_dv f pc lo st σ = some (.inl c')) : c'.2.2.2.2.2.2.2 = σ.2.2.2.2 := by
  unfold mj_dv at h
  (repeat' (split at h)) <;> first | (cases mj_nx_inv h; rfl) | cases h
theorem mj_mo_u1 (h : mj_u1 f1 pc lo st σ = some (.inl c')) : c'.2.2.2.2.2.2.2 = σ.2.2.2.2 := by
  unfold mj_u1 at h
  (repeat' (split at h)) <;> first | (cases mj_nx_inv h; rfl) | cases h
theorem mj_mo_jmp (h : mj_jmp pc d lo st σ = some (.inl c')) : c'.2.2.2.2.2.2.2 = σ.2.2.2.2 := by
  unfold mj_jmp at h
  (repeat' (split at h)) <;> first | (cases mj_nx_inv h; rfl) | cases h
theorem mj_mo_br (h : mj_br b pc d n lo st σ = some (.inl c')) : c'.2.2.2.2.2.2.2 = σ.2.2.2.2 := by
  unfold mj_br at h
  (repeat' (split at h)) <;> first | (cases mj_nx_inv h; rfl) | cases h
theorem mj_mo_ald (h : mj_ald X pc lo st σ = some (.inl c')) : c'.2.2.2.2.2.2.2 = σ.2.2.2.2 := by
  unfold mj_ald at h
  (repeat' (split at h)) <;> first | (cases mj_nx_inv h; rfl) | cases h
theorem mj_mo_bld (h : mj_bld pc lo st σ = some (.inl c')) : c'.2.2.2.2.2.2.2 = σ.2.2.2.2 := by
  unfold mj_bld at h
  (repeat' (split at h)) <;> first | (cases mj_nx_inv h; rfl) | cases h
theorem mj_mo_lld (h : mj_lld pc lo st σ = some (.inl c')) : c'.2.2.2.2.2.2.2 = σ.2.2.2.2 := by
  unfold mj_lld at h
  (repeat' (split at h)) <;> first | (cases mj_nx_inv h; rfl) | cases h
theorem mj_mo_qld (h : mj_qld pc lo st σ = some (.inl c')) : c'.2.2.2.2.2.2.2 = σ.2.2.2.2 := by
  unfold mj_qld at h
  (repeat' (split at h)) <;> first | (cases mj_nx_inv h; rfl) | cases h
theorem mj_mo_ast (h : mj_ast pc lo st σ = some (.inl c')) : c'.2.2.2.2.2.2.2 = σ.2.2.2.2 := by
  unfold mj_ast at h
  (repeat' (split at h)) <;> first | (cases mj_nx_inv h; rfl) | cases h
theorem mj_mo_bst (h : mj_bst pc lo st σ = some (.inl c')) : c'.2.2.2.2.2.2.2 = σ.2.2.2.2 := by
  unfold mj_bst at h
  (repeat' (split at h)) <;> first | (cases mj_nx_inv h; rfl) | cases h
theorem mj_mo_lst (h : mj_lst pc lo st σ = some (.inl c')) : c'.2.2.2.2.2.2.2 = σ.2.2.2.2 := by
  unfold mj_lst at h
  (repeat' (split at h)) <;> first | (cases mj_nx_inv h; rfl) | cases h
theorem mj_mo_len (h : mj_len X pc lo st σ = some (.inl c')) : c'.2.2.2.2.2.2.2 = σ.2.2.2.2 := by
  unfold mj_len at h
  (repeat' (split at h)) <;> first | (cases mj_nx_inv h; rfl) | cases h
theorem mj_mo_get (h : mj_get k n pc lo st σ = some (.inl c')) : c'.2.2.2.2.2.2.2 = σ.2.2.2.2 := by
  unfold mj_get at h
  (repeat' (split at h)) <;> first | (cases mj_nx_inv h; rfl) | cases h
theorem mj_mo_nat (h : mj_nat k pc lo st σ = some (.inl c')) : c'.2.2.2.2.2.2.2 = σ.2.2.2.2 := by
  unfold mj_nat at h
  (repeat' (split at h)) <;> first | (cases mj_nx_inv h; rfl) | cases h
theorem mj_mo_tsw (h : mj_tsw d d2 d3 oa pc lo st σ = some (.inl c')) : c'.2.2.2.2.2.2.2 = σ.2.2.2.2 := by
  unfold mj_tsw at h
  (repeat' (split at h)) <;> first | exact mj_mo_jmp h | cases h
theorem mj_mo_lsw (h : mj_lsw d pa pc lo st σ = some (.inl c')) : c'.2.2.2.2.2.2.2 = σ.2.2.2.2 := by
  unfold mj_lsw at h
  (repeat' (split at h)) <;> first | exact mj_mo_jmp h | cases h
theorem mj_mo_put (h : mj_put k n pc lo st σ = some (.inl c')) : c'.2.2.2.2.2.2.2 = σ.2.2.2.2 := by
  unfold mj_put at h
  split at h
  · split at h
    · split at h
      · rename_i σ' hv
        cases mj_nx_inv h
        unfold mj_putv at hv
        (repeat' (split at hv)) <;> first | (cases hv; rfl) | cases hv
      · cases h
    · cases h
  · cases h
theorem mj_mo_txt (h : mj_txt k pc lo st σ = some (.inl c')) : c'.2.2.2.2.2.2.2 = σ.2.2.2.2 := by
  unfold mj_txt at h
  (repeat' (split at h)) <;> first | (cases mj_nx_inv h; rfl) | cases h
theorem mj_mo_mkn {cc : ByteArray} (h : mj_mkn k cc pc lo st σ = some (.inl c')) : σ.2.2.2.2 ≤ c'.2.2.2.2.2.2.2 := by
  unfold mj_mkn at h
  (repeat' (split at h)) <;> first | (cases mj_nx_inv h; exact Nat.le_add_right _ _) | cases h
theorem mj_mo_ivk (hcall : ∀ mid as σ v σ', call mid as σ = some (v, σ') → σ.2.2.2.2 ≤ σ'.2.2.2.2) (h : mj_ivk call b k n pc lo st σ = some (.inl c')) : σ.2.2.2.2 ≤ c'.2.2.2.2.2.2.2 := by
  unfold mj_ivk at h
  split at h
  · split at h
    · split at h
      · rw [mj_mo_nat h]; exact Nat.le_refl _
      · rw [mj_mo_txt h]; exact Nat.le_refl _
    · split at h
      · split at h
        · rename_i v σ' hc
          split at h
          case isFalse => cases h
          cases mj_nx_inv h
          exact hcall _ _ _ _ _ hc
        · cases h
      · cases h
  · cases h
theorem mj_mo_step {oc : Nat} {ret : Option FieldType} {cc : ByteArray} (hcall : ∀ mid as σ v σ', call mid as σ = some (v, σ') → σ.2.2.2.2 ≤ σ'.2.2.2.2) (h : mj_step X call oc ret cc (pc, lo, st, σ) = some (.inl c')) : σ.2.2.2.2 ≤ c'.2.2.2.2.2.2.2 := by
  unfold mj_step at h
  split at h
  · exact mj_mo_mkn h
  · rename_i hne _
    clear hne
    simp only at h
    unfold mj_ex at h
    split at h
    · rw [mj_mo_ldI h]; exact Nat.le_refl _
    · rw [mj_mo_ldI h]; exact Nat.le_refl _
    · rw [mj_mo_ldL h]; exact Nat.le_refl _
    · rw [mj_mo_ldL h]; exact Nat.le_refl _
    · rw [mj_mo_ldA h]; exact Nat.le_refl _
    · rw [mj_mo_ldA h]; exact Nat.le_refl _
    · rw [mj_mo_stI h]; exact Nat.le_refl _
    · rw [mj_mo_stI h]; exact Nat.le_refl _
    · rw [mj_mo_stL h]; exact Nat.le_refl _
    · rw [mj_mo_stL h]; exact Nat.le_refl _
    · rw [mj_mo_stA h]; exact Nat.le_refl _
    · rw [mj_mo_stA h]; exact Nat.le_refl _
    · rw [mj_mo_inc h]; exact Nat.le_refl _
    · cases mj_nx_inv h; exact Nat.le_refl _
    · cases mj_nx_inv h; exact Nat.le_refl _
    · cases mj_nx_inv h; exact Nat.le_refl _
    · cases mj_nx_inv h; exact Nat.le_refl _
    · rw [mj_mo_b2 h]; exact Nat.le_refl _
    · rw [mj_mo_b2 h]; exact Nat.le_refl _
    · rw [mj_mo_b2 h]; exact Nat.le_refl _
    · rw [mj_mo_b2 h]; exact Nat.le_refl _
    · rw [mj_mo_b2 h]; exact Nat.le_refl _
    · rw [mj_mo_b2 h]; exact Nat.le_refl _
    · rw [mj_mo_b2 h]; exact Nat.le_refl _
    · rw [mj_mo_b2 h]; exact Nat.le_refl _
    · rw [mj_mo_b2 h]; exact Nat.le_refl _
    · rw [mj_mo_dv h]; exact Nat.le_refl _
    · rw [mj_mo_dv h]; exact Nat.le_refl _
    · rw [mj_mo_u1 h]; exact Nat.le_refl _
    · rw [mj_mo_u1 h]; exact Nat.le_refl _
    · rw [mj_mo_u1 h]; exact Nat.le_refl _
    · rw [mj_mo_bl h]; exact Nat.le_refl _
    · rw [mj_mo_bl h]; exact Nat.le_refl _
    · rw [mj_mo_bl h]; exact Nat.le_refl _
    · (repeat' (split at h)) <;> first | (cases mj_nx_inv h; exact Nat.le_refl _) | cases h
    · (repeat' (split at h)) <;> first | (cases mj_nx_inv h; exact Nat.le_refl _) | cases h
    · (repeat' (split at h)) <;> first | (cases mj_nx_inv h; exact Nat.le_refl _) | cases h
    · (repeat' (split at h)) <;> first | (cases mj_nx_inv h; exact Nat.le_refl _) | cases h
    · (repeat' (split at h)) <;> first | (cases mj_nx_inv h; exact Nat.le_refl _) | cases h
    · (repeat' (split at h)) <;> first | (cases mj_nx_inv h; exact Nat.le_refl _) | cases h
    · (repeat' (split at h)) <;> first | (cases mj_nx_inv h; exact Nat.le_refl _) | cases h
    · rw [mj_mo_jmp h]; exact Nat.le_refl _
    · split at h
      · rw [mj_mo_br h]; exact Nat.le_refl _
      · cases h
    · split at h
      · rw [mj_mo_br h]; exact Nat.le_refl _
      · cases h
    · split at h
      · cases mj_nx_inv h; exact Nat.le_refl _
      · rw [mj_mo_jmp h]; exact Nat.le_refl _
      · cases h
    · rw [mj_mo_tsw h]; exact Nat.le_refl _
    · rw [mj_mo_lsw h]; exact Nat.le_refl _
    · rw [mj_mo_ald h]; exact Nat.le_refl _
    · rw [mj_mo_bld h]; exact Nat.le_refl _
    · rw [mj_mo_lld h]; exact Nat.le_refl _
    · rw [mj_mo_qld h]; exact Nat.le_refl _
    · rw [mj_mo_ast h]; exact Nat.le_refl _
    · rw [mj_mo_bst h]; exact Nat.le_refl _
    · rw [mj_mo_lst h]; exact Nat.le_refl _
    · rw [mj_mo_len h]; exact Nat.le_refl _
    · rw [mj_mo_get h]; exact Nat.le_refl _
    · rw [mj_mo_put h]; exact Nat.le_refl _
    · (repeat' (split at h)) <;> first | (cases mj_nx_inv h; exact Nat.le_refl _) | cases h
    · exact mj_mo_ivk hcall h
    · exact mj_mo_ivk hcall h
    · (repeat' (split at h)) <;> first | (cases mj_nx_inv h; exact Nat.le_refl _) | cases h
    · (repeat' (split at h)) <;> first | (cases mj_nx_inv h; exact Nat.le_refl _) | cases h
    · (repeat' (split at h)) <;> first | (cases mj_nx_inv h; exact Nat.le_refl _) | cases h
    · (repeat' (split at h)) <;> cases h
    · (repeat' (split at h)) <;> cases h
    · (repeat' (split at h)) <;> cases h
    · cases h
  · cases h
theorem mj_mo_go {oc : Nat} {ret : Option FieldType} {cc : ByteArray} (hcall : ∀ mid as σ v σ', call mid as σ = some (v, σ') → σ.2.2.2.2 ≤ σ'.2.2.2.2) {v : Option Value} {σ' : mj_St} : ∀ (n : Nat) (c : mj_Cf), mj_go X call oc ret cc n c = some (v, σ') → c.2.2.2.2.2.2.2 ≤ σ'.2.2.2.2 ∧ ∀ w ∈ v, ∀ (G : mj_G) (am : Nat), mj_cv G am w = w := by
  intro n
  induction n with
  | zero => intro c h; cases h
  | succ n ih =>
    intro c h
    obtain ⟨pc, lo, st, σ⟩ := c
    unfold mj_go at h
    split at h
    · rename_i c' hc
      obtain ⟨h1, h2⟩ := ih c' h
      exact ⟨Nat.le_trans (mj_mo_step hcall hc) h1, h2⟩
    · rename_i r hc
      cases h
      unfold mj_step at hc
      split at hc
      · exact absurd hc mj_nr_mkn
      · rcases mj_ret_key hc with ⟨x, -, -, -, -, rfl, rfl⟩ | ⟨x, -, -, -, -, rfl, rfl⟩ | ⟨-, -, -, -, rfl, rfl⟩
        · exact ⟨Nat.le_refl _, fun w hw => by cases hw; exact fun _ _ => rfl⟩
        · exact ⟨Nat.le_refl _, fun w hw => by cases hw; exact fun _ _ => rfl⟩
        · exact ⟨Nat.le_refl _, fun w hw => by cases hw⟩
      · cases hc
    · cases h
end MO
theorem mj_ev_mo {X : mj_X} : ∀ (d mid : Nat) (as : List Value) (σ : mj_St) (v : Option Value) (σ' : mj_St), mj_ev X d mid as σ = some (v, σ') → σ.2.2.2.2 ≤ σ'.2.2.2.2 ∧ ∀ w ∈ v, ∀ (G : mj_G) (am : Nat), mj_cv G am w = w := by
  intro d
  induction d with
  | zero => intro mid as σ v σ' h; cases h
  | succ d ih =>
    intro mid as σ v σ' h
    obtain ⟨em, he, hl, n, hn⟩ := mj_ev_run h
    exact mj_mo_go (fun mid as σ v σ' h => (ih mid as σ v σ' h).1) n _ hn
section MJ
variable {p : Program} {l : Launch} {e : Env} {R : Room} {s : State} {m : MethodId} {args : Array Value} {below : List Frame} {meth : Method} {c : Code} {Q : State → Prop}
variable {G : mj_G} {X : mj_X} {oc nL F : Nat} {Z : Nat × Nat} {cc : ByteArray}
variable {pc : Nat} {lo st : List Value} {σ : mj_St} {c' : mj_Cf}
abbrev mj_Q (G : mj_G) (Z : Nat × Nat) (v : Option Value) (σ' : mj_St) : Array Value → State → Outcome → State → Prop := fun _ st oc t => oc = .returned v ∧ (∃ am', (σ'.2.2.2.2 = Z.1 → am' = Z.2) ∧ mj_Rep G am' σ' t.heap) ∧ va_F (mj_A G) st t
theorem mj_ret_sound {call : mj_Call} (fx : mj_FX G X oc cc nL p s m c) {ret : Option FieldType} (hr : meth.sig.returnType = ret) (hlocks : meth.locks = false) {mc : Nat} (hRc : R.cells = mc) (hRs : R.slots = mc) {v : Option Value} {σ' : mj_St}
    (h : mj_step X call oc ret cc (pc, lo, st, σ) = some (.inr (v, σ'))) : σ' = σ ∧ (∀ w ∈ v, ∀ am, mj_cv G am w = w) ∧ mj_At G nL σ'.2.2.2.2 Z p l e R s m args below meth c (MQ below (mj_Q G Z v σ') args s mc mc (mj_A G)) (pc, lo, st, σ) := by
  obtain ⟨hx, hb, hml, hown, hTB, hK, hE, hbase, hSR⟩ := fx
  have hno : ∀ {pc' : Nat} {l' st' : List Value} {τ : mj_St}, mj_nx pc' l' st' τ ≠ some (.inr (v, σ')) := fun h => by cases h
  unfold mj_step at h
  split at h
  · exact absurd h mj_nr_mkn
  · rename_i i n hne hdg
    clear hne
    simp only at hdg h
    have key := mj_ret_key h
    rcases key with ⟨x, rfl, rfl, rfl, hret, rfl, rfl⟩ | ⟨x, rfl, rfl, rfl, hret, rfl, rfl⟩ | ⟨rfl, rfl, rfl, hret, rfl, rfl⟩
    · refine ⟨rfl, (fun w hw am => by cases hw; rfl), Nat.le_refl _, fun am H locs cells slots ls hZ hR hS hL h1 h2 => ?_⟩
      simp only at h1 h2
      refine W.widen (k := mc) (n := mc) (by omega) (by omega) ?_
      have hq : ∀ t : State, t.heap = H → s.WarmedH t.vm → mj_Q G Z (some (.int x)) σ' args s (.returned (some (.int x))) t := fun t ht _ => ⟨rfl, ⟨am, hZ.2, by rw [ht]; exact hR⟩, by rw [va_F, ht]; exact ⟨hS.1, hS.2.1⟩⟩
      rcases hret with rfl | ⟨rfl, hx01⟩
      · exact W.iret hx hb hr hq hS.2.2 hdg hlocks
      · exact W.zret (ty := .boolean) hx hb hr (by rcases hx01 with rfl | rfl <;> rfl) hq hS.2.2 hdg hlocks
    · refine ⟨rfl, (fun w hw am => by cases hw; rfl), Nat.le_refl _, fun am H locs cells slots ls hZ hR hS hL h1 h2 => ?_⟩
      simp only at h1 h2
      refine W.widen (k := mc) (n := mc) (by omega) (by omega) ?_
      have hq : ∀ t : State, t.heap = H → s.WarmedH t.vm → mj_Q G Z (some (.long x)) σ' args s (.returned (some (.long x))) t := fun t ht _ => ⟨rfl, ⟨am, hZ.2, by rw [ht]; exact hR⟩, by rw [va_F, ht]; exact ⟨hS.1, hS.2.1⟩⟩
      exact W.lret hx hb (by rw [hr, hret]) hq hS.2.2 hdg hlocks
    · refine ⟨rfl, (fun w hw am => by cases hw), Nat.le_refl _, fun am H locs cells slots ls hZ hR hS hL h1 h2 => ?_⟩
      simp only at h1 h2
      refine W.widen (k := mc) (n := mc) (by omega) (by omega) ?_
      have hq : ∀ t : State, t.heap = H → s.WarmedH t.vm → mj_Q G Z none σ' args s (.returned none) t := fun t ht _ => ⟨rfl, ⟨am, hZ.2, by rw [ht]; exact hR⟩, by rw [va_F, ht]; exact ⟨hS.1, hS.2.1⟩⟩
      exact W.vret hx hb (by rw [hr, hret]) hq hS.2.2 hdg hlocks
  · cases h
theorem mj_go_sound (fx : mj_FX G X oc cc nL p s m c) {d : Nat} (hRf : d + 21 ≤ R.frames) (hRl : 64 * (d + 1) + 2000 ≤ R.locals) {call : mj_Call} (hstr : mj_Str l G X) (hcall : ∀ mid as σ v σ', call mid as σ = some (v, σ') → mj_MetOk l G X d mid as σ v σ')
    {ret : Option FieldType} (hr : meth.sig.returnType = ret) (hlocks : meth.locks = false) {mc : Nat} (hRc : R.cells = mc) (hRs : R.slots = mc) {v : Option Value} {σ' : mj_St} :
    ∀ (n : Nat) (cf : mj_Cf), mj_go X call oc ret cc n cf = some (v, σ') → (∀ w ∈ v, ∀ am, mj_cv G am w = w) ∧ mj_At G nL σ'.2.2.2.2 Z p l e R s m args below meth c (MQ below (mj_Q G Z v σ') args s mc mc (mj_A G)) cf := by
  intro n
  induction n with
  | zero => intro cf h; cases h
  | succ n ih =>
    intro cf h
    obtain ⟨pc, lo, st, σ⟩ := cf
    unfold mj_go at h
    split at h
    · rename_i c' hc
      obtain ⟨h1, h2⟩ := ih c' h
      exact ⟨h1, mj_step_sound fx hRf hRl hstr hcall hc h2⟩
    · rename_i r hc
      cases h
      obtain ⟨-, h1, h2⟩ := mj_ret_sound fx hr hlocks hRc hRs hc
      exact ⟨h1, h2⟩
    · cases h
end MJ
theorem mj_ev_ok (l : Launch) (G : mj_G) (X : mj_X) (hstr : mj_Str l G X) : ∀ (d mid : Nat) (as : List Value) (σ : mj_St) (v : Option Value) (σ' : mj_St), mj_ev X d mid as σ = some (v, σ') → mj_MetOk l G X d mid as σ v σ' := by
  intro d
  induction d with
  | zero => intro mid as σ v σ' h; cases h
  | succ d ih =>
    intro mid as σ v σ' h
    obtain ⟨hmo, hvc⟩ := mj_ev_mo (d + 1) mid as σ v σ' h
    obtain ⟨em, he, hl, n, hn⟩ := mj_ev_run h
    refine ⟨hmo, fun w hw am => hvc w hw G am, fun e' he' am => ?_⟩
    rw [he] at he'
    cases he'
    obtain ⟨y, bytes, ml, ret, na, sv, cp, ip, sp, inp, oc⟩ := em
    obtain ⟨wcode, wstat, winst, winit, wcls, wpar, wpl, wml, wown⟩ := mj_m_spec he
    simp only at hl hn ⊢
    refine Met.ofW (cc := bytes) (maxL := ml) (ret := ret) (ws' := []) wpl rfl ?_
    intro p e s m args below meth c s₁ B hml hv
    obtain ⟨rfl, hTB, hK, hE, hbase, hSR, hR⟩ := hv
    have hown : s.vm.findClass (mj_own oc) = some m.cls := by rw [← wown]; exact findClass_of_methodNamed B.named
    have fx : mj_FX G X oc bytes ml p s m c := ⟨B.exec, B.bytes, hml, hown, hTB, hK, hE, hbase, hSR⟩
    obtain ⟨-, hAt⟩ := mj_go_sound (Z := (σ.2.2.2.2, am)) (l := l) (e := e) (R := (headSpec [Cond.code y bytes ml ret] { frames := d + 1 + 20, cells := σ'.2.2.2.2 - σ.2.2.2.2, slots := σ'.2.2.2.2 - σ.2.2.2.2, locals := 64 * (d + 1) + 2000 }).room) (args := (as.map (mj_cv G am)).toArray) (below := below) fx (d := d) (Nat.le_of_eq (by show d + 21 = d + 1 + 20; omega)) (Nat.le_refl _) hstr ih B.returns B.notSynchronized (mc := σ'.2.2.2.2 - σ.2.2.2.2) rfl rfl n _ hn
    rw [lg_entry_eq]
    exact hAt.2 am s.heap [] 0 0 _ ⟨Nat.le_refl _, fun _ => rfl⟩ hR va_S.rf (mj_entry hl) (by simp [headSpec]) (by simp [headSpec])
