section
/-! what a constructor finds, and what it leaves -/
def cs_t (cI cZ cJ : ClassId) : List (ClassId × FieldType) := [(cI, .int), (cZ, .boolean), (cJ, .long)]
theorem cs_arr {D : va_G} {cl : List vw_C} {tys : List (ClassId × FieldType)} {s : State} {cA cB : ClassId} {ty : FieldType} (ho : ∀ C, ty ≠ .object C) (i j : Nat) (hi : tys[i]? = some (cA, ty)) (hj : tys[j]? = some (cB, ty)) (hK : va_K D cl tys s) : cA = cB := by
  have h1 := (hK.2 i _ hi).2
  have h2 := (hK.2 j _ hj).2
  cases ty <;> first | exact absurd rfl (ho _) | exact Option.some.inj (h1.symm.trans h2)
def cs_B (D : va_G) (cI cZ cJ : ClassId) (ws : va_W) (sz : Nat) (U : State) : Prop := U.heap.size = sz ∧ va_P D mj_classes ws U.heap ∧ va_K D mj_classes (cs_t cI cZ cJ) U ∧ va_D (fun _ => True) ws ∧ mj_TB U ∧ (Cond.arrayOver (.array .long)).before #[] U = true
theorem cs_Bof {D : va_G} {cI cZ cJ : ClassId} {wc : va_W} {H : Heap} {s : State} (hP : va_P D mj_classes wc H) (hK : va_K D mj_classes (cs_t cI cZ cJ) s) (hD : va_D (fun _ => True) wc) (hTB : mj_TB s) (hO : (Cond.arrayOver (.array .long)).before #[] s = true) (U : State) (hU : U.heap = H) (hW : s.WarmedH U.vm) : cs_B D cI cZ cJ wc H.size U :=
  ⟨by rw [hU], by rw [hU]; exact hP, va_K.moved hW.alike hK, hD, mj_TB_warm hW hTB, over_moved hW.alike hO⟩
theorem cs_B_blind {D : va_G} {cI cZ cJ : ClassId} {ws : va_W} {sz : Nat} {av : List Value} : FrameBlind (va_Pc av (cs_B D cI cZ cJ ws sz)) := by
  intro a U g mk h
  obtain ⟨h0, h1, h2, h3, h4, h5, h6⟩ := h
  exact ⟨h0, h1, h2, va_K.moved (u := U) (U := U.calling g mk a) (Vm.Alike.refl U.vm) h3, h4, mj_TB_blind h5, over_moved (u := U) (E := U.calling g mk a) (Vm.Alike.refl U.vm) h6⟩
/-- a constructor's contract (or that of a void method) -/
def cs_C (l : Launch) (D : va_G) (cI cZ cJ : ClassId) (y : MethodName) (b : ByteArray) (ml : Nat) (av : List Value) (ws : va_W) (sz fr cl sl lc : Nat) (ex : Bool) (Post : (Nat → Nat) → ClassId → va_W) : Prop :=
  Met l y [Cond.code y b ml none] { frames := fr, cells := cl, slots := sl, locals := lc } (va_Pc av (cs_B D cI cZ cJ ws sz))
    (va_Qv (fun _ : Unit => True) (fun _ t => ∃ (r : Nat → Nat) (cQ : ClassId), va_P D mj_classes (Post r cQ) t.heap ∧ va_D (va_A ws sz) (Post r cQ) ∧ (ex = true → va_K D mj_classes [(cQ, .array .long)] t)) (va_A ws sz)) cl sl (va_A ws sz)
theorem cs_fld {oc idx ci k : Nat} (h : (mj_fldL.find? (fun e => e.1 == oc && e.2.1 == idx)).map (fun e => (e.2.2.1, e.2.2.2.1, e.2.2.2.2.2)) = some (ci, k, "")) : ∃ C T N, mj_classes[ci]? = some (C, T, N) ∧ k < N ∧ (T k).1 = C ∧ Cond.fieldLink (mj_own oc) idx C (T k).2.1 (T k).2.2.1 ∈ lw_tbl := by
  obtain ⟨e, he, h2⟩ := Option.map_eq_some_iff.mp h
  have hm := List.mem_of_find?_eq_some he
  have hp := List.find?_some he
  have hc := List.all_eq_true.mp mj_fld_ok e hm
  obtain ⟨a, b, c, d, pos, host⟩ := e
  simp only [Bool.and_eq_true, beq_iff_eq] at hp
  obtain ⟨rfl, rfl⟩ := hp
  simp only [Prod.mk.injEq] at h2
  obtain ⟨rfl, rfl, rfl⟩ := h2
  simp only [mj_fldC] at hc
  split at hc
  case h_2 => cases hc
  case h_1 C T N hcl =>
    simp only [Bool.and_eq_true, decide_eq_true_eq] at hc
    refine ⟨C, T, N, hcl, hc.1.1, hc.1.2, ?_⟩
    have hw := hc.2
    simp only [mj_fldW, hcl, if_true] at hw
    exact mj_mt (List.mem_of_getElem? hw)
theorem cs_wI : Cond.arrayClass .int ∈ lw_tbl := mj_mt (by decide +kernel)
theorem cs_wZ : Cond.arrayClass .boolean ∈ lw_tbl := mj_mt (by decide +kernel)
/-! new long[8][60] -/
def cs_rows (cQ cJ : ClassId) (q : Nat) : va_W := (List.range 9).map (fun j => (q + j, match j with | 0 => .inl (cQ, 8, .inr (.inr (.inr (.inr (fun i => if i < 8 then some (q + 1 + i) else none))))) | _ + 1 => .inl (cJ, 60, .inr (.inl (fun _ => 0)))))
theorem cs_outer (c : ClassId) (N h0 : Nat) (i : Nat) : Jvm.Free.Multi.outerC c N h0 i = arrV c N (fun j => va_rf (if j < i then some (h0 + 1 + j) else none)) := by
  induction i with
  | zero =>
    show ({ cls := c, slots := Array.replicate N .null, vm := .none } : Cell) = _
    rw [arrV_new]
    exact congrArg (arrV c N) (funext fun j => by simp [va_rf])
  | succ i ih =>
    show (Jvm.Free.Multi.outerC c N h0 i).setSlot i (.ref (h0 + 1 + i)) = _
    rw [ih, arrV_store]
    refine congrArg (arrV c N) (funext fun j => ?_)
    unfold updV
    by_cases e : j = i
    · rw [if_pos e, if_pos (by omega), e]
      rfl
    · rw [if_neg e]
      show va_rf (if j < i then some (h0 + 1 + j) else none) = va_rf (if j < i + 1 then some (h0 + 1 + j) else none)
      by_cases h : j < i
      · rw [if_pos h, if_pos (by omega)]
      · rw [if_neg h, if_neg (by omega)]
theorem cs_rowsD {A : Nat → Prop} {ws : va_W} {z : Nat} (hD : va_D A ws) (hlt : ∀ (k : Nat) (q : Nat × va_E), ws[k]? = some q → q.1 < z) (g : Nat → va_E) (n : Nat) (hA : ∀ q, z ≤ q → A q) : va_D A (ws ++ (List.range n).map (fun j => (z + j, g j))) := by
  have hr : ∀ (k : Nat) (x : Nat × va_E), ((List.range n).map (fun j => (z + j, g j)))[k]? = some x → x.1 = z + k := by
    intro k x hx
    rw [List.getElem?_map] at hx
    by_cases h : k < n
    · rw [List.getElem?_range h] at hx
      cases hx
      rfl
    · rw [List.getElem?_eq_none (by rw [List.length_range]; omega)] at hx
      cases hx
  exact va_D.app hD ⟨fun i j p q hi hj hpq => by have := hr i p hi; have := hr j q hj; omega, fun k q hk => hA _ (by rw [hr k q hk]; omega)⟩ (fun i j p q hi hj h => by have := hlt i p hi; have := hr j q hj; omega)
section CS
variable {p : Program} {l : Launch} {e : Env} {R : Room} {s : State} {m : MethodId} {args : Array Value} {below : List Frame} {meth : Method} {c : Code} {H : Heap} {locs : List Loc} {cells slots : Nat} {Q : State → Prop}
variable {cc : ByteArray} {pc : Nat} {ls : Array Slot} {rest : List Value} {D : va_G} {A : Nat → Prop} {a : Nat} {tys : List (ClassId × FieldType)} {ws : va_W} {H0 : Heap}
theorem cs_newI (hx : p.tables.exec = Jvm.exec) (hb : c.code = cc) (hTB : mj_TB s) (hK : va_K D mj_classes tys s) (t0 : Nat) {cA : ClassId} (ht : tys[t0]? = some (cA, .int)) (hP : va_P D mj_classes ws H) (hD : va_D A ws) (hS : va_S A H0 H locs) (hA : ∀ q, H0.size ≤ q → A q)
    {n : Int32} {N' : Nat} (hn : ¬ n < 0) (hN : n.toNatClampNeg = N') (hbytes : N' * 4 ≤ 536870912) (hcells : cells + 1 ≤ R.cells) (hslots : slots + N' ≤ R.slots) (hdg : decode cc pc = .ok (.newarray .int, 2))
    (kk : ∀ (q : Nat) (H1 : Heap), va_P D mj_classes (ws ++ [(q, .inl (cA, N', .inl (fun _ => 0)))]) H1 → va_D A (ws ++ [(q, .inl (cA, N', .inl (fun _ => 0)))]) → va_S A H0 H1 locs →
      W p l e R s m args below meth c H1 locs (cells + 1) (slots + N') Q (F0 m (pc + 2) ls (.ref q :: rest))) : W p l e R s m args below meth c H locs cells slots Q (F0 m pc ls (.int n :: rest)) := by
  refine va_newa (atype := .int) (ty := .int) (N' := N') (a0 := (N', .inl (fun _ => 0))) hx hb (hTB _ cs_wI rfl _) rfl hK hP hD hS hA (fun cA => (show vp_cell cA (N', .inl (fun _ => 0)) = arrV cA N' (fun _ => Value.int 0) from rfl)) hn hN hbytes hcells hslots hdg (fun q cB H1 hK1 hP1 hD1 hS1 => ?_)
  have e : cB = cA := cs_arr (ty := .int) (fun C q => by cases q) tys.length t0 (by simp) (by rw [List.getElem?_append_left (List.getElem?_eq_some_iff.mp ht).1]; exact ht) hK1
  subst e
  exact kk q H1 hP1 hD1 hS1
theorem cs_newZ (hx : p.tables.exec = Jvm.exec) (hb : c.code = cc) (hTB : mj_TB s) (hK : va_K D mj_classes tys s) (t0 : Nat) {cA : ClassId} (ht : tys[t0]? = some (cA, .boolean)) (hP : va_P D mj_classes ws H) (hD : va_D A ws) (hS : va_S A H0 H locs) (hA : ∀ q, H0.size ≤ q → A q)
    {n : Int32} {N' : Nat} (hn : ¬ n < 0) (hN : n.toNatClampNeg = N') (hbytes : N' * 4 ≤ 536870912) (hcells : cells + 1 ≤ R.cells) (hslots : slots + N' ≤ R.slots) (hdg : decode cc pc = .ok (.newarray .boolean, 2))
    (kk : ∀ (q : Nat) (H1 : Heap), va_P D mj_classes (ws ++ [(q, .inl (cA, N', .inl (fun _ => 0)))]) H1 → va_D A (ws ++ [(q, .inl (cA, N', .inl (fun _ => 0)))]) → va_S A H0 H1 locs →
      W p l e R s m args below meth c H1 locs (cells + 1) (slots + N') Q (F0 m (pc + 2) ls (.ref q :: rest))) : W p l e R s m args below meth c H locs cells slots Q (F0 m pc ls (.int n :: rest)) := by
  refine va_newa (atype := .boolean) (ty := .boolean) (N' := N') (a0 := (N', .inl (fun _ => 0))) hx hb (hTB _ cs_wZ rfl _) rfl hK hP hD hS hA (fun cA => (show vp_cell cA (N', .inl (fun _ => 0)) = arrV cA N' (fun _ => Value.int 0) from rfl)) hn hN (by have : componentBytes .boolean = 1 := rfl; rw [this]; omega) hcells hslots hdg (fun q cB H1 hK1 hP1 hD1 hS1 => ?_)
  have e : cB = cA := cs_arr (ty := .boolean) (fun C q => by cases q) tys.length t0 (by simp) (by rw [List.getElem?_append_left (List.getElem?_eq_some_iff.mp ht).1]; exact ht) hK1
  subst e
  exact kk q H1 hP1 hD1 hS1
theorem cs_newJ (hx : p.tables.exec = Jvm.exec) (hb : c.code = cc) (hTB : mj_TB s) (hK : va_K D mj_classes tys s) (t0 : Nat) {cA : ClassId} (ht : tys[t0]? = some (cA, .long)) (hP : va_P D mj_classes ws H) (hD : va_D A ws) (hS : va_S A H0 H locs) (hA : ∀ q, H0.size ≤ q → A q)
    {n : Int32} {N' : Nat} (hn : ¬ n < 0) (hN : n.toNatClampNeg = N') (hbytes : N' * 8 ≤ 536870912) (hcells : cells + 1 ≤ R.cells) (hslots : slots + N' ≤ R.slots) (hdg : decode cc pc = .ok (.newarray .long, 2))
    (kk : ∀ (q : Nat) (H1 : Heap), va_P D mj_classes (ws ++ [(q, .inl (cA, N', .inr (.inl (fun _ => 0))))]) H1 → va_D A (ws ++ [(q, .inl (cA, N', .inr (.inl (fun _ => 0))))]) → va_S A H0 H1 locs →
      W p l e R s m args below meth c H1 locs (cells + 1) (slots + N') Q (F0 m (pc + 2) ls (.ref q :: rest))) : W p l e R s m args below meth c H locs cells slots Q (F0 m pc ls (.int n :: rest)) := by
  refine va_newa (atype := .long) (ty := .long) (N' := N') (a0 := (N', .inr (.inl (fun _ => 0)))) hx hb (hTB _ mj_wJ rfl _) rfl hK hP hD hS hA (fun cA => (show vp_cell cA (N', .inr (.inl (fun _ => 0))) = arrV cA N' (fun _ => Value.long 0) from rfl)) hn hN hbytes hcells hslots hdg (fun q cB H1 hK1 hP1 hD1 hS1 => ?_)
  have e : cB = cA := cs_arr (ty := .long) (fun C q => by cases q) tys.length t0 (by simp) (by rw [List.getElem?_append_left (List.getElem?_eq_some_iff.mp ht).1]; exact ht) hK1
  subst e
  exact kk q H1 hP1 hD1 hS1
theorem cs_put {oc index ci k q0 : Nat} {C : String} {T : u_T} {N : Nat} {fs : List Value} (hx : p.tables.exec = Jvm.exec) (hb : c.code = cc) (hTB : mj_TB s) (hown : s.vm.findClass (mj_own oc) = some m.cls) (hin : meth.name = "<init>") (hK : va_K D mj_classes tys s) (hP : va_P D mj_classes ws H) (hD : va_D A ws) (hS : va_S A H0 H locs)
    (hf : (mj_fldL.find? (fun e => e.1 == oc && e.2.1 == index)).map (fun e => (e.2.2.1, e.2.2.2.1, e.2.2.2.2.2)) = some (ci, k, "")) (he : ws[q0]? = some (a, .inr (ci, fs))) (hcl : mj_classes[ci]? = some (C, T, N)) (hC : C = mj_own oc) {ty : FieldType} {v : Value} (hd : parseFieldDescriptor (T k).2.2.1 = some ty) (hn : narrow ty v = v) (hfit : fits ty v = true) (hl : k < fs.length)
    (hdg : decode cc pc = .ok (.putfield index, 3)) (kk : ∀ (H1 : Heap) (locs1 : List Loc), va_P D mj_classes (ws.set q0 (a, .inr (ci, fs.set k v))) H1 → va_D A (ws.set q0 (a, .inr (ci, fs.set k v))) → va_S A H0 H1 locs1 → W p l e R s m args below meth c H1 locs1 cells slots Q (F0 m (pc + 3) ls rest)) : W p l e R s m args below meth c H locs cells slots Q (F0 m pc ls (v :: .ref a :: rest)) := by
  obtain ⟨C', T', N', hcl', hk, hTk, hlink⟩ := cs_fld hf
  have h3 : (C', T', N') = (C, T, N) := Option.some.inj (hcl'.symm.trans hcl)
  obtain ⟨rfl, h4⟩ := Prod.mk.inj h3
  obtain ⟨rfl, rfl⟩ := Prod.mk.inj h4
  obtain ⟨-, ⟨ty0, hty⟩, hnm⟩ := mj_uws hcl
  by_cases hfin : (T' k).2.2.2 = true
  · exact va_putF (Ts := u_ws C' T' N') hx hb (hTB.uws hcl) (fun w q => q) ty0 hty hnm hown hK hP hD hS q0 he hcl k hk (hTB _ hlink rfl _) (fun x q => by rw [← hTk]; exact q) hfin hin (hTk.trans hC) hd hn hfit hl hdg kk
  · exact va_put (Ts := u_ws C' T' N') hx hb (hTB.uws hcl) (fun w q => q) ty0 hty hnm hown hK hP hD hS q0 he hcl k hk (hTB _ hlink rfl _) (fun x q => by rw [← hTk]; exact q) (by simpa using hfin) hd hn hfit hl hdg kk
theorem cs_get {oc index ci k q0 : Nat} {C : String} {T : u_T} {N : Nat} {fs : List Value} (hx : p.tables.exec = Jvm.exec) (hb : c.code = cc) (hTB : mj_TB s) (hown : s.vm.findClass (mj_own oc) = some m.cls) (hK : va_K D mj_classes tys s) (hP : va_P D mj_classes ws H)
    (hf : (mj_fldL.find? (fun e => e.1 == oc && e.2.1 == index)).map (fun e => (e.2.2.1, e.2.2.2.1, e.2.2.2.2.2)) = some (ci, k, "")) (he : ws[q0]? = some (a, .inr (ci, fs))) (hcl : mj_classes[ci]? = some (C, T, N)) {v : Value} (hv : fs[k]? = some v)
    (hdg : decode cc pc = .ok (.getfield index, 3)) (kk : W p l e R s m args below meth c H locs cells slots Q (F0 m (pc + 3) ls (v :: rest))) : W p l e R s m args below meth c H locs cells slots Q (F0 m pc ls (.ref a :: rest)) := by
  obtain ⟨C', T', N', hcl', hk, hTk, hlink⟩ := cs_fld hf
  have h3 : (C', T', N') = (C, T, N) := Option.some.inj (hcl'.symm.trans hcl)
  obtain ⟨rfl, h4⟩ := Prod.mk.inj h3
  obtain ⟨rfl, rfl⟩ := Prod.mk.inj h4
  exact va_get (Ts := u_ws C' T' N') hx hb (hTB.uws hcl) (fun w q => q) hown hK hP q0 he hcl k hk (hTB _ hlink rfl _) (fun x q => by rw [← hTk]; exact q) hv hdg kk
theorem cs_pay {y : MethodName} {b : ByteArray} {ml : Nat} (hTB : mj_TB s) (w1 : Cond.code y b ml none ∈ lw_tbl) : ∀ w ∈ [Cond.code y b ml none], ∀ (a' : Array Value) (U : State), s.WarmedH U.vm → w.before a' U = true := by
  intro w hw a' U hW
  rw [List.mem_singleton.mp hw]
  exact mj_TB_warm hW hTB _ w1 rfl a'
theorem cs_CN {own host : String} {index fr cl sl lc ml : Nat} {y : MethodName} {b : ByteArray} (hTB : mj_TB s) (w1 : Cond.code y b ml none ∈ lw_tbl) (w2 : Cond.initialized y.cls ∈ lw_tbl) (w3 : Cond.instanceMethod y ∈ lw_tbl) (w4 : Cond.methodLinkNest own index y host ∈ lw_tbl) (hy : y.name = "<init>" ∧ y.desc = "()V") (hc : y.cls ≠ "java/lang/invoke/MethodHandle" ∧ y.cls ≠ "java/lang/invoke/VarHandle") (hfr : fr + 1 ≤ R.frames) (hlc : 8 + (ml + 11) + lc ≤ R.locals) :
    va_CN R s args own index y host b ml none [Cond.code y b ml none] { frames := fr, cells := cl, slots := sl, locals := lc } cl sl 0 ∧ y.name = "<init>" ∧ (Cond.instanceMethod y).before args s = true :=
  ⟨⟨⟨rfl, rfl, hfr, hlc, cs_pay hTB w1, List.mem_singleton.mpr rfl⟩, hTB _ w1 rfl _, hTB _ w2 rfl _, hc, fun sig hsig => by
    have hd : (parseMethodDescriptor y.desc).map (fun d => d.parameters.length) = some 0 := by rw [hy.2]; decide +kernel
    rw [hsig] at hd
    exact (Option.some.inj hd).symm, hTB _ w4 rfl _⟩, hy.1, hTB _ w3 rfl _⟩
theorem cs_CI {own : String} {index fr cl sl lc ml : Nat} {y : MethodName} {b : ByteArray} (hTB : mj_TB s) (w1 : Cond.code y b ml none ∈ lw_tbl) (w2 : Cond.initialized y.cls ∈ lw_tbl) (w3 : Cond.instanceMethod y ∈ lw_tbl) (w4 : Cond.methodLink own index y ∈ lw_tbl) (hy : y.name = "<init>" ∧ y.desc = "()V") (hc : y.cls ≠ "java/lang/invoke/MethodHandle" ∧ y.cls ≠ "java/lang/invoke/VarHandle") (hfr : fr + 1 ≤ R.frames) (hlc : 8 + (ml + 11) + lc ≤ R.locals) :
    CallB R s args own index y b ml none [Cond.code y b ml none] { frames := fr, cells := cl, slots := sl, locals := lc } cl sl 0 ∧ y.name = "<init>" ∧ (Cond.instanceMethod y).before args s = true :=
  ⟨⟨rfl, rfl, hfr, hlc, cs_pay hTB w1, List.mem_singleton.mpr rfl, hTB _ w1 rfl _, hTB _ w2 rfl _, hc, fun sig hsig => by
    have hd : (parseMethodDescriptor y.desc).map (fun d => d.parameters.length) = some 0 := by rw [hy.2]; decide +kernel
    rw [hsig] at hd
    exact (Option.some.inj hd).symm, hTB _ w4 rfl _⟩, hy.1, hTB _ w3 rfl _⟩
theorem cs_CS {own : String} {index fr cl sl lc ml n : Nat} {y : MethodName} {b : ByteArray} (hTB : mj_TB s) (w1 : Cond.code y b ml none ∈ lw_tbl) (w2 : Cond.initialized y.cls ∈ lw_tbl) (w3 : Cond.static y ∈ lw_tbl) (w4 : Cond.methodLink own index y ∈ lw_tbl) (hy : (parseMethodDescriptor y.desc).map (fun d => d.parameters.length) = some n) (hc : y.cls ≠ "java/lang/invoke/MethodHandle" ∧ y.cls ≠ "java/lang/invoke/VarHandle") (hfr : fr + 1 ≤ R.frames) (hlc : 8 + (ml + 11) + lc ≤ R.locals) :
    CallB R s args own index y b ml none [Cond.code y b ml none] { frames := fr, cells := cl, slots := sl, locals := lc } cl sl n ∧ (Cond.static y).before args s = true :=
  ⟨⟨rfl, rfl, hfr, hlc, cs_pay hTB w1, List.mem_singleton.mpr rfl, hTB _ w1 rfl _, hTB _ w2 rfl _, hc, fun sig hsig => by
    have hd := hy
    rw [hsig] at hd
    exact (Option.some.inj hd).symm, hTB _ w4 rfl _⟩, hTB _ w3 rfl _⟩
/-- the words that Object's constructor asks -/
theorem cs_o1 : Cond.instanceMethod Lib.objectInit ∈ lw_tbl := mj_mt (by decide +kernel)
theorem cs_o2 : Cond.code Lib.objectInit ⟨#[0xb1]⟩ 1 none ∈ lw_tbl := mj_mt (by decide +kernel)
/-- a cell of ints, another function that says the same below its length -/
theorem cs_cellI {cA : ClassId} {n : Nat} {f g : Nat → Int32} (h : ∀ j, j < n → f j = g j) : vp_cell cA (n, .inl f) = vp_cell cA (n, .inl g) := by
  show ({ cls := cA, slots := Array.ofFn (n := n) fun j => Value.int (f j.val), vm := .none } : Cell) = { cls := cA, slots := Array.ofFn (n := n) fun j => Value.int (g j.val), vm := .none }
  congr 2
  funext j
  rw [h j.val j.isLt]
theorem cs_setI {cl : List vw_C} {ws : va_W} {q0 a n : Nat} {cA : ClassId} {f g : Nat → Int32} (he : ws[q0]? = some (a, .inl (cA, n, .inl f))) (h : ∀ j, j < n → f j = g j) (hP : va_P D cl ws H) (hD : va_D A ws) : va_P D cl (ws.set q0 (a, .inl (cA, n, .inl g))) H ∧ va_D A (ws.set q0 (a, .inl (cA, n, .inl g))) := by
  refine ⟨fun k q hk => ?_, hD.set he⟩
  rw [List.getElem?_set] at hk
  split at hk
  · rename_i hq
    subst hq
    split at hk
    · cases hk
      have h1 := hP q0 _ he
      show H[a]? = some (vp_cell cA (n, .inl g))
      rw [← cs_cellI h]
      exact h1
    · cases hk
  · exact hP k q hk
set_option maxRecDepth 20000 in
theorem cs_mna {own : String} {index : Nat} (hx : p.tables.exec = Jvm.exec) (hb : c.code = cc) (hown : s.vm.findClass own = some m.cls) (hclink : (Cond.classLink own index "[[J").before args s = true) (hO : (Cond.arrayOver (.array .long)).before #[] s = true) (hTB : mj_TB s) (hK : va_K D mj_classes tys s) (t0 : Nat) {cJ : ClassId} (ht : tys[t0]? = some (cJ, .long)) (hP : va_P D mj_classes ws H) (hD : va_D A ws) (hS : va_S A H0 H locs) (hA : ∀ q, H0.size ≤ q → A q)
    {n k : Int32} (hn : ¬ n < 0) (hk : ¬ k < 0) (hN : n.toNatClampNeg = 8) (hM : k.toNatClampNeg = 60) (hcells : cells + 9 ≤ R.cells) (hslots : slots + 488 ≤ R.slots) (hdg : decode cc pc = .ok (.multianewarray index 2, 4))
    (kk : ∀ (q : Nat) (cQ : ClassId) (H1 : Heap), va_K D mj_classes [(cQ, .array .long)] s → va_P D mj_classes (ws ++ cs_rows cQ cJ q) H1 → va_D A (ws ++ cs_rows cQ cJ q) → va_S A H0 H1 locs →
      W p l e R s m args below meth c H1 locs (cells + 9) (slots + 488) Q (F0 m (pc + 4) ls (.ref q :: rest))) : W p l e R s m args below meth c H locs cells slots Q (F0 m pc ls (.int k :: .int n :: rest)) := by
  intro T hT Xs
  have hcl2 : (Cond.classLink own index ("[" ++ (FieldType.array .long).toString)).before args s = true := by
    have e : "[" ++ (FieldType.array .long).toString = "[[J" := by decide +kernel
    rw [e]
    exact hclink
  obtain ⟨vm₁, cA, comp, -, fA, fC, hO2, -, X', step⟩ := Xs.multianewarray2F hx hown hcl2 (over_moved (Vm.Alike.refl s.vm) hO) (hTB _ mj_wJ rfl _) (g := F0 m pc ls (.int k :: .int n :: rest)) rfl (by rw [hb]; exact hdg) rfl hn hk (by rw [hN]; decide) (by rw [hM]; decide) (by rw [hM]; decide) rfl rfl (by rw [hN]; exact hcells) (by rw [hN, hM]; exact hslots)
  have hc0 : s.vm.findClass ("[" ++ FieldType.long.toString) = some cJ := (hK.2 t0 _ ht).2
  have hcJ : comp = cJ := Option.some.inj (fC.symm.trans hc0)
  subst hcJ
  rw [hN, hM] at X' step
  generalize hF : Jvm.Free.Multi.fill (T.setVm vm₁) cA comp 8 60 (defaultValue .long) 8 = F at X' step
  have hTh : (T.setVm vm₁).heap = H := hT
  obtain ⟨f1, f2, -, -⟩ := Jvm.Free.Multi.fill_facts (T.setVm vm₁) cA comp 8 60 (defaultValue .long) 8
  rw [hF, hTh] at f1 f2
  have hold : ∀ x : Nat, x < H.size → F.heap[x]? = H[x]? := fun x hx2 => by
    have := Jvm.Free.Multi.fill_old (T.setVm vm₁) cA comp 8 60 (defaultValue .long) (a := x) (by rw [hTh]; exact hx2) 8
    rw [hF, hTh] at this
    exact this
  have hrow : ∀ j : Nat, j < 8 → F.heap[H.size + 1 + j]? = some (vp_cell comp (60, .inr (.inl (fun _ => 0)))) := fun j hj => by
    have := Jvm.Free.Multi.fill_inner (T.setVm vm₁) cA comp 8 60 (defaultValue .long) 8 j hj
    rw [hF, hTh] at this
    rw [this]
    show some ({ cls := comp, slots := Array.replicate 60 (Value.long 0), vm := .none } : Cell) = _
    rw [arrV_new]
    rfl
  rw [cs_outer] at f2
  have hPn : va_P D mj_classes (ws ++ cs_rows cA comp H.size) F.heap := (hP.kept (fun i x hx2 => hold x.1 ((hP i x hx2).lt))).app (fun i x hx2 => by
    unfold cs_rows at hx2
    rw [List.getElem?_map] at hx2
    by_cases h : i < 9
    · rw [List.getElem?_range h] at hx2
      cases hx2
      cases i with
      | zero => exact f2
      | succ i =>
        have := hrow i (by omega)
        rw [show H.size + 1 + i = H.size + (i + 1) by omega] at this
        exact this
    · rw [List.getElem?_eq_none (by rw [List.length_range]; omega)] at hx2
      cases hx2)
  have hDn : va_D A (ws ++ cs_rows cA comp H.size) := cs_rowsD hD (fun i x hx2 => (hP i x hx2).lt) _ 9 (fun q hq => hA q (Nat.le_trans hS.1 hq))
  have hKn : va_K D mj_classes [(cA, .array .long)] s := ⟨hK.1, fun i x hx2 => by
    have hz : i < 1 := (List.getElem?_eq_some_iff.mp hx2).1
    rw [show i = 0 by omega] at hx2
    cases hx2
    refine ⟨fun N9 z9 => ?_, fA⟩
    obtain ⟨-, k9, hk9, cm9, hkk9⟩ := (hO2 0 0 0).1
    exact ⟨(fun q hq => by cases hq), k9, hk9, cm9, hkk9⟩⟩
  obtain ⟨t, a1, b1⟩ := kk H.size cA F.heap hKn hPn hDn ⟨by rw [f1]; have := hS.1; omega, fun x h1 h2 => (hold x (Nat.lt_of_lt_of_le h1 hS.1)).trans (hS.2.1 x h1 h2), hS.2.2⟩ F rfl X'
  refine ⟨t, step t ?_, b1⟩
  have e2 : T.heap.size = H.size := by rw [hT]
  rw [e2]
  exact a1
/-! Arrays.fill of a row of ints -/
def cs_yFill : MethodName := ⟨"java/util/Arrays", "fill", "([II)V"⟩
theorem cs_fill_loop (hx : p.tables.exec = Jvm.exec) (hb : c.code = prog_15_method_103_code) {q n : Nat} {cA : ClassId} {v : Int32} (hn : n < 2 ^ 31) (hK : va_K D mj_classes tys s) (t0 : Nat) (ht : tys[t0]? = some (cA, .int))
    (kk : ∀ (f : Nat → Int32) (H : Heap) (locs : List Loc) (ls : Array Slot), (∀ j, j < n → f j = v) → va_P D mj_classes [(q, .inl (cA, n, .inl f))] H → va_D A [(q, .inl (cA, n, .inl f))] → va_S A H0 H locs → W p l e R s m args below meth c H locs cells slots Q (F0 m 20 ls [])) :
    ∀ (d i : Nat) (f : Nat → Int32) (H : Heap) (locs : List Loc) (ls : Array Slot), i + d = n → (∀ j, j < i → f j = v) → va_P D mj_classes [(q, .inl (cA, n, .inl f))] H → va_D A [(q, .inl (cA, n, .inl f))] → va_S A H0 H locs → lv_has ls 4 [(0, .ref q), (1, .int v), (2, .int (nI i)), (3, .int (nI n))] →
      W p l e R s m args below meth c H locs cells slots Q (F0 m 5 ls []) := by
  intro d
  induction d with
  | zero =>
    intro i f H locs ls hi hf hP hD hS hl
    have hin : i = n := by omega
    subst hin
    refine lv_iload_n hx hb (by decide +kernel : decode prog_15_method_103_code 5 = .ok (.iload_n 2, 1)) rfl (lv_at hl 2 rfl) ?_
    refine lv_iload_n hx hb (by decide +kernel : decode prog_15_method_103_code 6 = .ok (.iload_n 3, 1)) rfl (lv_at hl 3 rfl) ?_
    exact lv_icmp_ge hx hb (by show decode prog_15_method_103_code 7 = .ok (.if_icmp .ge 13, 3); decide +kernel) (tgt := 20) (by decide) (fun _ => kk f H locs ls hf hP hD hS) (fun z => absurd (nI_le (Nat.le_refl i) hn) z)
  | succ d ih =>
    intro i f H locs ls hi hf hP hD hS hl
    have hlt : i < n := by omega
    refine lv_iload_n hx hb (by decide +kernel : decode prog_15_method_103_code 5 = .ok (.iload_n 2, 1)) rfl (lv_at hl 2 rfl) ?_
    refine lv_iload_n hx hb (by decide +kernel : decode prog_15_method_103_code 6 = .ok (.iload_n 3, 1)) rfl (lv_at hl 3 rfl) ?_
    refine lv_icmp_ge hx hb (by show decode prog_15_method_103_code 7 = .ok (.if_icmp .ge 13, 3); decide +kernel) (tgt := 20) (by decide) (fun z => absurd z (nI_ge hlt hn)) (fun _ => ?_)
    refine W.eq (g2 := F0 m 10 ls []) rfl ?_
    refine lv_aload_n hx hb (by decide +kernel : decode prog_15_method_103_code 10 = .ok (.aload_n 0, 1)) rfl (lv_at hl 0 rfl) ?_
    refine lv_iload_n hx hb (by decide +kernel : decode prog_15_method_103_code 11 = .ok (.iload_n 2, 1)) rfl (lv_at hl 2 rfl) ?_
    refine lv_iload_n hx hb (by decide +kernel : decode prog_15_method_103_code 12 = .ok (.iload_n 1, 1)) rfl (lv_at hl 1 rfl) ?_
    refine va_iast hx hb hK hP hD hS 0 t0 rfl ht (nI_in hlt hn) (by decide +kernel : decode prog_15_method_103_code 13 = .ok (.iastore, 1)) (fun H1 locs1 hP1 hD1 hS1 => ?_)
    rw [nI_clamp (Nat.lt_trans hlt hn)] at hP1 hD1
    refine lv_iinc hx hb (by decide +kernel : decode prog_15_method_103_code 14 = .ok (.iinc 2 1, 3)) hl (k := 2) rfl (v := nI (i + 1)) (nI_1 i) (by decide) rfl (fun ls1 hl1 => ?_)
    refine lv_goto hx hb (by decide +kernel : decode prog_15_method_103_code 17 = .ok (.goto (-12), 3)) (tgt := 5) (by decide) ?_
    refine ih (i + 1) (upd f i v) H1 locs1 ls1 (by omega) (fun j hj => ?_) hP1 hD1 hS1 (lv_sub hl1 [1, 2, 0, 3] rfl)
    unfold upd
    by_cases e : j = i
    · rw [if_pos e]
    · rw [if_neg e]
      exact hf j (by omega)
end CS
theorem cs_fill (l : Launch) (D : va_G) (cI cZ cJ : ClassId) (q n : Nat) (f : Nat → Int32) (v : Int32) (sz : Nat) (hn : n < 2 ^ 31) : cs_C l D cI cZ cJ cs_yFill prog_15_method_103_code 4 [.ref q, .int v] [(q, .inl (cI, n, .inl f))] sz 1 0 0 100 false (fun _ _ => [(q, .inl (cI, n, .inl (fun _ => v)))]) := by
  refine Met.ofW (cc := prog_15_method_103_code) (maxL := 4) (ret := none) (ws' := []) (by decide) rfl ?_
  intro p e s m args below meth c s₁ B hml hv
  obtain ⟨rfl, hsz, hP, hK, hD0, hTB, hO⟩ := hv
  have hx := B.exec
  have hb := B.bytes
  have hr := B.returns
  have hlocks := B.notSynchronized
  subst hsz
  have hD := hD0.self (sz := s.heap.size)
  generalize hAe : va_A [(q, .inl (cI, n, .inl f))] s.heap.size = A at hD ⊢
  have hS : va_S A s.heap s.heap [] := va_S.rf
  have hl := lv_entry ([.ref q, .int v]) (n := 4) (Nat.le_of_ble_eq_true rfl)
  rw [lg_entry_eq]
  generalize (lg_sl ([.ref q, .int v]) ++ List.replicate (4 - (lg_sl ([.ref q, .int v])).length) Slot.unset).toArray = ls at hl ⊢
  have hl : lv_has ls 4 [(0, .ref q), (1, .int v)] := hl
  refine lv_iconst (v := 0) hx hb (by decide +kernel : decode prog_15_method_103_code 0 = .ok (.iconst 0, 1)) (by decide) ?_
  refine lv_istore_n hx hb (by decide +kernel : decode prog_15_method_103_code 1 = .ok (.istore_n 2, 1)) rfl hl (by decide) rfl (fun ls1 hl1 => ?_)
  have hl1 : lv_has ls1 4 [(2, .int 0), (0, .ref q), (1, .int v)] := hl1
  refine lv_aload_n hx hb (by decide +kernel : decode prog_15_method_103_code 2 = .ok (.aload_n 0, 1)) rfl (lv_at hl1 1 rfl) ?_
  refine va_alen hx hb hK hP 0 0 rfl rfl (v := nI n) rfl (by decide +kernel : decode prog_15_method_103_code 3 = .ok (.arraylength, 1)) ?_
  refine lv_istore_n hx hb (by decide +kernel : decode prog_15_method_103_code 4 = .ok (.istore_n 3, 1)) rfl hl1 (by decide) rfl (fun ls2 hl2 => ?_)
  have hl2 : lv_has ls2 4 [(3, .int (nI n)), (2, .int 0), (0, .ref q), (1, .int v)] := hl2
  refine W.eq (g2 := F0 m 5 ls2 []) rfl ?_
  refine cs_fill_loop (A := A) (H0 := s.heap) hx hb hn hK 0 rfl (fun f2 H2 locs2 ls3 hf2 hP2 hD2 hS2 => ?_) n 0 f s.heap [] ls2 (Nat.zero_add n) (fun j hj => absurd hj (Nat.not_lt_zero j)) hP hD hS (lv_sub hl2 [2, 3, 1, 0] rfl)
  obtain ⟨hP9, hD9⟩ := cs_setI (g := fun _ => v) (q0 := 0) rfl hf2 hP2 hD2
  exact W.vret hx hb hr (fun t ht hW => ⟨⟨(), rfl, trivial, fun _ => 0, cI, by rw [ht]; exact hP9, hD9, fun z => by cases z⟩, hS2.F ht⟩) hS2.2.2 (by decide +kernel : decode prog_15_method_103_code 20 = .ok (.return_, 1))
end
