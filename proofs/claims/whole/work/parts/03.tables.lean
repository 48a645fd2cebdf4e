theorem mj_mt {w : Cond} (h : w ∈ tables_1) : w ∈ lw_tbl := List.mem_append_right _ h
/-- words that stay true while the tables get warmer -/
def mj_okw : Cond → Bool
  | .fieldLinkNest .. => true
  | .methodLinkNest .. => true
  | w => goodWord w
/-- all words of the tables hold at a state, whatever the arguments -/
def mj_TB (U : State) : Prop := ∀ w ∈ lw_tbl, mj_okw w = true → ∀ a : Array Value, w.before a U = true
theorem mj_okw_on : ∀ w : Cond, mj_okw w = true → w.onTables = true ∨ ∃ ty, w = .arrayClass ty := by
  intro w h
  cases w <;> first | exact Or.inr ⟨_, rfl⟩ | exact Or.inl rfl | (simp only [mj_okw, goodWord, Bool.and_eq_true] at h; exact Or.inl h.1)
theorem mj_TB_warm {s U : State} (hW : s.WarmedH U.vm) (h : mj_TB s) : mj_TB U := by
  intro w hw ho a
  have h0 := h w hw ho a
  cases w
  case fieldLinkNest => exact va_Nw.use rfl (va_Nw.warmF hW (va_Nw.of rfl h0))
  case methodLinkNest => exact va_Nw.use rfl (va_Nw.warmM hW (va_Nw.of rfl h0))
  all_goals exact word_at hW (good_of_word ho) h0
theorem mj_TB_blind {U : State} {g : JFrame} {mk : MethodId} {a : Array Value} (h : mj_TB U) : mj_TB (U.calling g mk a) := by
  intro w hw ho b
  have h0 := h w hw ho b
  rcases mj_okw_on w ho with hon | ⟨ty, rfl⟩
  · exact va_tabs hon (u := U) rfl h0
  · exact h0
-- the links of the fields
def mj_fldW (e : Nat × Nat × Nat × Nat × Nat × String) : Cond := match mj_classes[e.2.2.1]? with
  | some (C, T, _) => if e.2.2.2.2.2 = "" then .fieldLink (mj_own e.1) e.2.1 C (T e.2.2.2.1).2.1 (T e.2.2.2.1).2.2.1 else .fieldLinkNest (mj_own e.1) e.2.1 C (T e.2.2.2.1).2.1 (T e.2.2.2.1).2.2.1 e.2.2.2.2.2
  | none => .returned
def mj_fldC (e : Nat × Nat × Nat × Nat × Nat × String) : Bool := match mj_classes[e.2.2.1]? with
  | some (C, T, N) => decide (e.2.2.2.1 < N) && decide ((T e.2.2.2.1).1 = C) && decide (tables_1[e.2.2.2.2.1]? = some (mj_fldW e))
  | none => false
theorem mj_fld_ok : mj_fldL.all mj_fldC = true := by decide +kernel
def mj_fld (oc idx : Nat) : Option (Nat × Nat) := (mj_fldL.find? (fun e => e.1 == oc && e.2.1 == idx)).map (fun e => (e.2.2.1, e.2.2.2.1))
theorem mj_fld_spec {oc idx ci k : Nat} (h : mj_fld oc idx = some (ci, k)) : ∃ C T N, mj_classes[ci]? = some (C, T, N) ∧ k < N ∧ (T k).1 = C ∧
    (Cond.fieldLink (mj_own oc) idx C (T k).2.1 (T k).2.2.1 ∈ lw_tbl ∨ ∃ host, Cond.fieldLinkNest (mj_own oc) idx C (T k).2.1 (T k).2.2.1 host ∈ lw_tbl) := by
  unfold mj_fld at h
  obtain ⟨e, he, h2⟩ := Option.map_eq_some_iff.mp h
  have hm := List.mem_of_find?_eq_some he
  have hp := List.find?_some he
  have hc := List.all_eq_true.mp mj_fld_ok e hm
  obtain ⟨a, b, c, d, pos, host⟩ := e
  simp only [Bool.and_eq_true, beq_iff_eq] at hp
  cases h2
  obtain ⟨rfl, rfl⟩ := hp
  simp only [mj_fldC] at hc
  split at hc
  case h_2 => cases hc
  case h_1 C T N hcl =>
    simp only [Bool.and_eq_true, decide_eq_true_eq] at hc
    refine ⟨C, T, N, hcl, hc.1.1, hc.1.2, ?_⟩
    have hw := hc.2
    simp only [mj_fldW, hcl] at hw
    split at hw
    · exact Or.inl (mj_mt (List.mem_of_getElem? hw))
    · exact Or.inr ⟨host, mj_mt (List.mem_of_getElem? hw)⟩
-- the methods
abbrev mj_M : Type := MethodName × ByteArray × Nat × Option FieldType × Nat × Nat × Nat × Nat × Nat × Nat × Nat
def mj_mC (e : mj_M) : Bool := match e with
  | (y, b, ml, ret, na, s, cp, ip, sp, inp, oc) => (if s = 0 then decide (tables_1[ip]? = some (.static y)) else decide (tables_1[ip]? = some (.instanceMethod y)) && decide (lw_tbl[sp]? = some (.selects y.cls y y))) && decide (tables_1[inp]? = some (.initialized y.cls)) && decide (y.cls ≠ "java/lang/invoke/MethodHandle") && decide (y.cls ≠ "java/lang/invoke/VarHandle") && decide ((parseMethodDescriptor y.desc).map (fun d => d.parameters.length + (if s = 0 then 0 else 1)) = some na) && plainName y.cls && decide (ml ≤ 40) && decide (y.cls = mj_own oc) && (if s = 0 then true else decide ((mj_classes[s - 1]?).map (fun q => q.1) = some y.cls))
theorem mj_m_ok : mj_mL.all mj_mC = true := by decide +kernel
def mj_natY : Nat → MethodName := fun k => match k with
  | 1000 => arraycopyName
  | 1001 => Lib.Math.min.name
  | 1002 => Lib.Math.max.name
  | 1003 => ⟨"java/lang/String", "length", "()I"⟩
  | _ => ⟨"java/lang/String", "charAt", "(I)C"⟩
def mj_calY (mid : Nat) : MethodName := if 1000 ≤ mid then mj_natY mid else match mj_mL[mid]? with
  | some e => e.1
  | none => mj_natY 0
def mj_calW (e : Nat × Nat × Nat × Nat × String) : Cond := if e.2.2.2.2 = "" then .methodLink (mj_own e.1) e.2.1 (mj_calY e.2.2.1) else .methodLinkNest (mj_own e.1) e.2.1 (mj_calY e.2.2.1) e.2.2.2.2
theorem mj_cal_ok : mj_calL.all (fun e => decide (tables_1[e.2.2.2.1]? = some (mj_calW e)) && decide (e.2.2.1 < 1000 → e.2.2.1 < mj_mL.length)) = true := by decide +kernel
def mj_cal (oc idx : Nat) : Option Nat := (mj_calL.find? (fun e => e.1 == oc && e.2.1 == idx)).map (fun e => e.2.2.1)
theorem mj_cal_spec {oc idx mid : Nat} (h : mj_cal oc idx = some mid) : (Cond.methodLink (mj_own oc) idx (mj_calY mid) ∈ lw_tbl ∨ ∃ host, Cond.methodLinkNest (mj_own oc) idx (mj_calY mid) host ∈ lw_tbl) := by
  unfold mj_cal at h
  obtain ⟨e, he, h2⟩ := Option.map_eq_some_iff.mp h
  have hm := List.mem_of_find?_eq_some he
  have hp := List.find?_some he
  have hc := List.all_eq_true.mp mj_cal_ok e hm
  obtain ⟨a, b, c, pos, host⟩ := e
  simp only [Bool.and_eq_true, beq_iff_eq] at hp
  cases h2
  obtain ⟨rfl, rfl⟩ := hp
  simp only [Bool.and_eq_true, decide_eq_true_eq] at hc
  have hw := hc.1
  simp only [mj_calW] at hw
  split at hw
  · exact Or.inl (mj_mt (List.mem_of_getElem? hw))
  · exact Or.inr ⟨host, mj_mt (List.mem_of_getElem? hw)⟩
