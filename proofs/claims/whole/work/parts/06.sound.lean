/-! the machine of part 05 is the JVM's -/
def mj_tys (G : mj_G) : List (ClassId × FieldType) := [(G.2.2.1 0, .int), (G.2.2.1 1, .boolean), (G.2.2.1 2, .long), (G.2.2.1 3, .array .long)]
def mj_sLen : List Nat := mj_strL.map (fun e => e.2.2.length)
def mj_sByt : List (List Int32) := mj_strL.map (fun e => e.2.2)
/-- what the reader's texts hold -/
def mj_Txt (G : mj_G) (U : State) (H : Heap) : Prop := va_Z "java/lang/String" "COMPACT_STRINGS" "Z" (.int 1) (mj_A G) U H ∧ vk_S 15 mj_sLen mj_sByt (fun i => G.2.1 (1100 + i)) (fun i => G.2.1 (1200 + i)) (mj_A G) U H ∧ va_Zq "jdk/internal/util/Preconditions" "SIOOBE_FORMATTER" "Ljava/util/function/BiFunction;" (mj_A G) U H
theorem mj_Txt.moved {G : mj_G} {u U : State} {H : Heap} (hvm : u.vm.Alike U.vm) (h : mj_Txt G u H) : mj_Txt G U H := ⟨va_Z.moved hvm h.1, vk_S.moved hvm h.2.1, va_Zq.moved hvm h.2.2⟩
theorem mj_Txt.kept {G : mj_G} {U : State} {H H1 : Heap} (h : mj_Txt G U H) (hq : ∀ a : Nat, a < H.size → ¬ mj_A G a → H1[a]? = H[a]?) : mj_Txt G U H1 := ⟨va_Z.kept h.1 hq, vk_S.kept h.2.1 hq, va_Zq.kept h.2.2 hq⟩
def mj_Ext (G : mj_G) (X : mj_X) (U : State) (H : Heap) : Prop :=
  (∀ e n f, X e = some (n, f) → va_T .int (G.2.1 (1000 + e)) n (fun j => .int (f j)) (mj_A G) U H) ∧
  va_Z "KeptPromises$Search" "SETS" "[I" (.ref (G.2.1 1001)) (mj_A G) U H ∧ va_Z "KeptPromises$Search" "TAKES" "[I" (.ref (G.2.1 1002)) (mj_A G) U H ∧
  (∀ j, j < 15 → va_O "java/lang/String" (G.2.1 (1100 + j)) (mj_A G) U H) ∧ mj_Txt G U H
theorem mj_Ext.moved {G : mj_G} {X : mj_X} {u U : State} {H : Heap} (hvm : u.vm.Alike U.vm) (h : mj_Ext G X u H) : mj_Ext G X U H :=
  ⟨fun e n f q => va_T.moved hvm (h.1 e n f q), va_Z.moved hvm h.2.1, va_Z.moved hvm h.2.2.1, fun j hj => va_O.moved hvm (h.2.2.2.1 j hj), mj_Txt.moved hvm h.2.2.2.2⟩
theorem mj_Ext.kept {G : mj_G} {X : mj_X} {U : State} {H H1 : Heap} (h : mj_Ext G X U H) (hq : ∀ a : Nat, a < H.size → ¬ mj_A G a → H1[a]? = H[a]?) : mj_Ext G X U H1 :=
  ⟨fun e n f q => va_T.kept (h.1 e n f q) hq, va_Z.kept h.2.1 hq, va_Z.kept h.2.2.1 hq, fun j hj => va_O.kept (h.2.2.2.1 j hj) hq, mj_Txt.kept h.2.2.2.2 hq⟩
/-- the reader's texts are where they are -/
def mj_SR (G : mj_G) (U : State) : Prop := ∀ (j : Nat) (e : Nat × String × List Int32), mj_strL[j]? = some e → vk_R "KeptPromises$Reader" e.1 e.2.1 (G.2.1 (1100 + j)) U
theorem mj_SR.warm {G : mj_G} {s U : State} (hW : s.WarmedH U.vm) (h : mj_SR G s) : mj_SR G U := fun j e he => vk_R.warm hW (h j e he)
theorem mj_SR.same {G : mj_G} {u U : State} (hv : U.vm = u.vm) (h : mj_SR G u) : mj_SR G U := fun j e he => vk_R.same hv (h j e he)
def mj_Rep (G : mj_G) (am : Nat) (σ : mj_St) (H : Heap) : Prop := va_P G.1 mj_classes (mj_ws G am σ) H ∧ va_D (mj_A G) (mj_ws G am σ)
def mj_FX (G : mj_G) (X : mj_X) (oc : Nat) (cc : ByteArray) (nL : Nat) (p : Program) (s : State) (m : MethodId) (c : Code) : Prop :=
  p.tables.exec = Jvm.exec ∧ c.code = cc ∧ c.maxLocals = nL ∧ s.vm.findClass (mj_own oc) = some m.cls ∧ mj_TB s ∧ va_K G.1 mj_classes (mj_tys G) s ∧ mj_Ext G X s s.heap ∧ G.2.2.2 ≤ s.heap.size ∧ mj_SR G s
/-- the marks stand where they stood, as long as no room was used -/
def mj_Zok (Z : Nat × Nat) (u am : Nat) : Prop := Z.1 ≤ u ∧ (u = Z.1 → am = Z.2)
def mj_At (G : mj_G) (nL F : Nat) (Z : Nat × Nat) (p : Program) (l : Launch) (e : Env) (R : Room) (s : State) (m : MethodId) (args : Array Value) (below : List Frame) (meth : Method) (c : Code) (Q : State → Prop) (cf : mj_Cf) : Prop :=
  cf.2.2.2.2.2.2.2 ≤ F ∧ ∀ (am : Nat) (H : Heap) (locs : List Loc) (cells slots : Nat) (ls : Array Slot), mj_Zok Z cf.2.2.2.2.2.2.2 am → mj_Rep G am cf.2.2.2 H → va_S (mj_A G) s.heap H locs → mj_LV G am nL ls cf.2.1 →
    cells + (F - cf.2.2.2.2.2.2.2) ≤ R.cells → slots + (F - cf.2.2.2.2.2.2.2) ≤ R.slots → W p l e R s m args below meth c H locs cells slots Q (F0 m cf.1 ls (cf.2.2.1.map (mj_cv G am)))
section MJ
variable {p : Program} {l : Launch} {e : Env} {R : Room} {s : State} {m : MethodId} {args : Array Value} {below : List Frame} {meth : Method} {c : Code} {Q : State → Prop}
variable {G : mj_G} {X : mj_X} {oc nL F : Nat} {Z : Nat × Nat} {cc : ByteArray}
variable {pc : Nat} {lo st : List Value} {σ : mj_St} {c' : mj_Cf}
/-- a step that leaves locals and state -/
theorem mj_pure {pc' : Nat} {st' : List Value} (k : mj_At G nL F Z p l e R s m args below meth c Q (pc', lo, st', σ))
    (h : ∀ (am : Nat) (H : Heap) (locs : List Loc) (cells slots : Nat) (ls : Array Slot), mj_Rep G am σ H → va_S (mj_A G) s.heap H locs → mj_LV G am nL ls lo →
      W p l e R s m args below meth c H locs cells slots Q (F0 m pc' ls (st'.map (mj_cv G am))) → W p l e R s m args below meth c H locs cells slots Q (F0 m pc ls (st.map (mj_cv G am)))) :
    mj_At G nL F Z p l e R s m args below meth c Q (pc, lo, st, σ) :=
  ⟨k.1, fun am H locs cells slots ls hZ hR hS hL h1 h2 => h am H locs cells slots ls hR hS hL (k.2 am H locs cells slots ls hZ hR hS hL h1 h2)⟩
theorem mj_nx_inv {pc' : Nat} {l' st' : List Value} {σ' : mj_St} (h : mj_nx pc' l' st' σ' = some (.inl c')) : c' = (pc', l', st', σ') := by
  cases h; rfl
theorem mj_s_ldI {i k n : Nat} (h : mj_ldI k n pc lo st σ = some (.inl c'))
    (row : ∀ {H : Heap} {locs : List Loc} {cells slots : Nat} {ls : Array Slot} {rest : List Value} {x : Int32}, ls[k]? = some (.val (.int x)) → W p l e R s m args below meth c H locs cells slots Q (F0 m (pc + n) ls (.int x :: rest)) → W p l e R s m args below meth c H locs cells slots Q (F0 m pc ls rest))
    (kk : mj_At G nL F Z p l e R s m args below meth c Q c') : mj_At G nL F Z p l e R s m args below meth c Q (pc, lo, st, σ) := by
  unfold mj_ldI at h
  split at h
  · rename_i x hx
    cases mj_nx_inv h
    exact mj_pure kk (fun am H locs cells slots ls _ _ hL k => row (hL.at hx (fun _ q => by cases q)) k)
  · cases h
theorem mj_s_ldL {i k n : Nat} (h : mj_ldL k n pc lo st σ = some (.inl c'))
    (row : ∀ {H : Heap} {locs : List Loc} {cells slots : Nat} {ls : Array Slot} {rest : List Value} {x : Int64}, ls[k]? = some (.val (.long x)) → W p l e R s m args below meth c H locs cells slots Q (F0 m (pc + n) ls (.long x :: rest)) → W p l e R s m args below meth c H locs cells slots Q (F0 m pc ls rest))
    (kk : mj_At G nL F Z p l e R s m args below meth c Q c') : mj_At G nL F Z p l e R s m args below meth c Q (pc, lo, st, σ) := by
  unfold mj_ldL at h
  split at h
  · rename_i x hx
    cases mj_nx_inv h
    exact mj_pure kk (fun am H locs cells slots ls _ _ hL k => row (hL.at hx (fun _ q => by cases q)) k)
  · cases h
theorem mj_s_ldA {i k n : Nat} (h : mj_ldA k n pc lo st σ = some (.inl c'))
    (row : ∀ {H : Heap} {locs : List Loc} {cells slots : Nat} {ls : Array Slot} {rest : List Value} {x : Nat}, ls[k]? = some (.val (.ref x)) → W p l e R s m args below meth c H locs cells slots Q (F0 m (pc + n) ls (.ref x :: rest)) → W p l e R s m args below meth c H locs cells slots Q (F0 m pc ls rest))
    (kk : mj_At G nL F Z p l e R s m args below meth c Q c') : mj_At G nL F Z p l e R s m args below meth c Q (pc, lo, st, σ) := by
  unfold mj_ldA at h
  split at h
  · rename_i x hx
    cases mj_nx_inv h
    exact mj_pure kk (fun am H locs cells slots ls _ _ hL k => row (hL.at hx (fun _ q => by cases q)) k)
  · cases h
/-- a step that sets a local -/
theorem mj_loc {pc' : Nat} {l' st' : List Value} (k : mj_At G nL F Z p l e R s m args below meth c Q (pc', l', st', σ))
    (h : ∀ (am : Nat) (H : Heap) (locs : List Loc) (cells slots : Nat) (ls : Array Slot), mj_LV G am nL ls lo →
      (∀ ls' : Array Slot, mj_LV G am nL ls' l' → W p l e R s m args below meth c H locs cells slots Q (F0 m pc' ls' (st'.map (mj_cv G am)))) → W p l e R s m args below meth c H locs cells slots Q (F0 m pc ls (st.map (mj_cv G am)))) :
    mj_At G nL F Z p l e R s m args below meth c Q (pc, lo, st, σ) :=
  ⟨k.1, fun am H locs cells slots ls hZ hR hS hL h1 h2 => h am H locs cells slots ls hL (fun ls' hL' => k.2 am H locs cells slots ls' hZ hR hS hL' h1 h2)⟩
theorem mj_s_stI {k n : Nat} (h : mj_stI k n pc lo st σ = some (.inl c'))
    (row : ∀ {H : Heap} {locs : List Loc} {cells slots : Nat} {ls : Array Slot} {rest : List Value} {x : Int32} {lv : List (Nat × Value)}, lv_has ls nL lv → k < nL → (∀ ls' : Array Slot, lv_has ls' nL ((k, Value.int x) :: lv.filter (fun q => !(q.1 == k) && !(q.1 + 1 == k && q.2.category == 2))) → W p l e R s m args below meth c H locs cells slots Q (F0 m (pc + n) ls' rest)) → W p l e R s m args below meth c H locs cells slots Q (F0 m pc ls (.int x :: rest)))
    (kk : mj_At G nL F Z p l e R s m args below meth c Q c') : mj_At G nL F Z p l e R s m args below meth c Q (pc, lo, st, σ) := by
  unfold mj_stI at h
  split at h
  · rename_i x r
    split at h
    · rename_i hk
      cases mj_nx_inv h
      exact mj_loc kk (fun am H locs cells slots ls hL k => row hL.2 (Nat.lt_of_lt_of_le hk hL.1) (fun ls' h' => k ls' (mj_LV.of hL.1 h' mj_lset_mem)))
    · cases h
  · cases h
theorem mj_s_stA {k n : Nat} (h : mj_stA k n pc lo st σ = some (.inl c'))
    (row : ∀ {H : Heap} {locs : List Loc} {cells slots : Nat} {ls : Array Slot} {rest : List Value} {x : Nat} {lv : List (Nat × Value)}, lv_has ls nL lv → k < nL → (∀ ls' : Array Slot, lv_has ls' nL ((k, Value.ref x) :: lv.filter (fun q => !(q.1 == k) && !(q.1 + 1 == k && q.2.category == 2))) → W p l e R s m args below meth c H locs cells slots Q (F0 m (pc + n) ls' rest)) → W p l e R s m args below meth c H locs cells slots Q (F0 m pc ls (.ref x :: rest)))
    (kk : mj_At G nL F Z p l e R s m args below meth c Q c') : mj_At G nL F Z p l e R s m args below meth c Q (pc, lo, st, σ) := by
  unfold mj_stA at h
  split at h
  · rename_i x r
    split at h
    · rename_i hk
      cases mj_nx_inv h
      exact mj_loc kk (fun am H locs cells slots ls hL k => row hL.2 (Nat.lt_of_lt_of_le hk hL.1) (fun ls' h' => k ls' (mj_LV.of (v := .ref x) hL.1 h' mj_lset_mem)))
    · cases h
  · cases h
theorem mj_s_stL {k n : Nat} (h : mj_stL k n pc lo st σ = some (.inl c'))
    (row : ∀ {H : Heap} {locs : List Loc} {cells slots : Nat} {ls : Array Slot} {rest : List Value} {x : Int64} {lv : List (Nat × Value)}, lv_has ls nL lv → k + 1 < nL → (∀ ls' : Array Slot, lv_has ls' nL ((k, Value.long x) :: lv.filter (fun q => !(q.1 == k) && (!(q.1 == k + 1) && !(q.1 + 1 == k && q.2.category == 2)))) → W p l e R s m args below meth c H locs cells slots Q (F0 m (pc + n) ls' rest)) → W p l e R s m args below meth c H locs cells slots Q (F0 m pc ls (.long x :: rest)))
    (kk : mj_At G nL F Z p l e R s m args below meth c Q c') : mj_At G nL F Z p l e R s m args below meth c Q (pc, lo, st, σ) := by
  unfold mj_stL at h
  split at h
  · rename_i x r
    split at h
    · rename_i hk
      cases mj_nx_inv h
      exact mj_loc kk (fun am H locs cells slots ls hL k => row hL.2 (Nat.lt_of_lt_of_le hk hL.1) (fun ls' h' => k ls' (mj_LV.of2 hL.1 h' mj_lset2_mem)))
    · cases h
  · cases h
theorem mj_s_inc {k n : Nat} {d : Int} (h : mj_inc k d n pc lo st σ = some (.inl c')) (hb : c.code = cc) (hx : p.tables.exec = Jvm.exec) (hdg : decode cc pc = .ok (.iinc k d, 3)) (hn : n = 3)
    (kk : mj_At G nL F Z p l e R s m args below meth c Q c') : mj_At G nL F Z p l e R s m args below meth c Q (pc, lo, st, σ) := by
  subst hn
  unfold mj_inc at h
  split at h
  · rename_i x hx0
    cases mj_nx_inv h
    refine mj_loc kk (fun am H locs cells slots ls hL k => ?_)
    obtain ⟨j, hj⟩ := List.getElem?_of_mem (mj_lvl_mem (G := G) (am := am) (q := (_, Value.int x)).mpr ⟨_, hx0, fun _ q => (by cases q), rfl⟩)
    exact lv_iinc hx hb hdg hL.2 hj rfl (Nat.lt_of_lt_of_le (List.getElem?_eq_some_iff.mp hx0).1 hL.1) rfl (fun ls' h' => k ls' (mj_LV.of hL.1 h' mj_lset_mem))
  · cases h
theorem mj_s_b2 {f : Int32 → Int32 → Int32} (h : mj_b2 f pc lo st σ = some (.inl c'))
    (row : ∀ {H : Heap} {locs : List Loc} {cells slots : Nat} {ls : Array Slot} {rest : List Value} {x y : Int32}, W p l e R s m args below meth c H locs cells slots Q (F0 m (pc + 1) ls (.int (f x y) :: rest)) → W p l e R s m args below meth c H locs cells slots Q (F0 m pc ls (.int y :: .int x :: rest)))
    (kk : mj_At G nL F Z p l e R s m args below meth c Q c') : mj_At G nL F Z p l e R s m args below meth c Q (pc, lo, st, σ) := by
  unfold mj_b2 at h
  split at h
  · cases mj_nx_inv h
    exact mj_pure kk (fun am H locs cells slots ls _ _ hL k => row k)
  · cases h
theorem mj_s_bl {f : Int64 → Int64 → Int64} (h : mj_bl f pc lo st σ = some (.inl c'))
    (row : ∀ {H : Heap} {locs : List Loc} {cells slots : Nat} {ls : Array Slot} {rest : List Value} {x y : Int64}, W p l e R s m args below meth c H locs cells slots Q (F0 m (pc + 1) ls (.long (f x y) :: rest)) → W p l e R s m args below meth c H locs cells slots Q (F0 m pc ls (.long y :: .long x :: rest)))
    (kk : mj_At G nL F Z p l e R s m args below meth c Q c') : mj_At G nL F Z p l e R s m args below meth c Q (pc, lo, st, σ) := by
  unfold mj_bl at h
  split at h
  · cases mj_nx_inv h
    exact mj_pure kk (fun am H locs cells slots ls _ _ hL k => row k)
  · cases h
theorem mj_s_dv {f : Int32 → Int32 → Int32} (h : mj_dv f pc lo st σ = some (.inl c'))
    (row : ∀ {H : Heap} {locs : List Loc} {cells slots : Nat} {ls : Array Slot} {rest : List Value} {x y : Int32}, ¬ y = 0 → W p l e R s m args below meth c H locs cells slots Q (F0 m (pc + 1) ls (.int (f x y) :: rest)) → W p l e R s m args below meth c H locs cells slots Q (F0 m pc ls (.int y :: .int x :: rest)))
    (kk : mj_At G nL F Z p l e R s m args below meth c Q c') : mj_At G nL F Z p l e R s m args below meth c Q (pc, lo, st, σ) := by
  unfold mj_dv at h
  split at h
  · split at h
    · cases h
    · rename_i hy
      cases mj_nx_inv h
      exact mj_pure kk (fun am H locs cells slots ls _ _ hL k => row hy k)
  · cases h
theorem mj_s_u1 {f : Int32 → Int32} (h : mj_u1 f pc lo st σ = some (.inl c'))
    (row : ∀ {H : Heap} {locs : List Loc} {cells slots : Nat} {ls : Array Slot} {rest : List Value} {x : Int32}, W p l e R s m args below meth c H locs cells slots Q (F0 m (pc + 1) ls (.int (f x) :: rest)) → W p l e R s m args below meth c H locs cells slots Q (F0 m pc ls (.int x :: rest)))
    (kk : mj_At G nL F Z p l e R s m args below meth c Q c') : mj_At G nL F Z p l e R s m args below meth c Q (pc, lo, st, σ) := by
  unfold mj_u1 at h
  split at h
  · cases mj_nx_inv h
    exact mj_pure kk (fun am H locs cells slots ls _ _ hL k => row k)
  · cases h
theorem mj_s_jmp {off : Int} {st0 : List Value} (h : mj_jmp pc off lo st0 σ = some (.inl c'))
    (row : ∀ {H : Heap} {locs : List Loc} {cells slots : Nat} {ls : Array Slot} {am : Nat} {tgt : Nat}, (pc : Int) + off = (tgt : Int) → W p l e R s m args below meth c H locs cells slots Q (F0 m tgt ls (st0.map (mj_cv G am))) → W p l e R s m args below meth c H locs cells slots Q (F0 m pc ls (st.map (mj_cv G am))))
    (kk : mj_At G nL F Z p l e R s m args below meth c Q c') : mj_At G nL F Z p l e R s m args below meth c Q (pc, lo, st, σ) := by
  unfold mj_jmp at h
  split at h
  · rename_i h0
    cases mj_nx_inv h
    exact mj_pure kk (fun am H locs cells slots ls _ _ hL k => row (Int.toNat_of_nonneg h0).symm k)
  · cases h
end MJ
