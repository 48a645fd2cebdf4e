theorem mj_cal_ok2 : mj_calL.all (fun e => decide (1000 ≤ e.2.2.1 → e.2.2.2.2 = "")) = true := by decide +kernel
theorem mj_cal_nat {oc idx mid : Nat} (h : mj_cal oc idx = some mid) (hm : 1000 ≤ mid) : Cond.methodLink (mj_own oc) idx (mj_natY mid) ∈ lw_tbl := by
  unfold mj_cal at h
  obtain ⟨e, he, h2⟩ := Option.map_eq_some_iff.mp h
  have hme := List.mem_of_find?_eq_some he
  have hp := List.find?_some he
  have hc := List.all_eq_true.mp mj_cal_ok e hme
  have hc2 := List.all_eq_true.mp mj_cal_ok2 e hme
  obtain ⟨a, b, c, pos, host⟩ := e
  simp only [Bool.and_eq_true, beq_iff_eq] at hp
  cases h2
  obtain ⟨rfl, rfl⟩ := hp
  simp only [Bool.and_eq_true, decide_eq_true_eq] at hc hc2
  have hw := hc.1
  have hh := hc2 hm
  subst hh
  simp only [mj_calW, mj_calY, if_pos hm] at hw
  exact mj_mt (List.mem_of_getElem? hw)
theorem mj_m_spec {mid : Nat} {y : MethodName} {b : ByteArray} {ml na sv cp ip sp inp oc' : Nat} {ret : Option FieldType} (h : mj_mL[mid]? = some (y, b, ml, ret, na, sv, cp, ip, sp, inp, oc')) :
    Cond.code y b ml ret ∈ lw_tbl ∧ (sv = 0 → Cond.static y ∈ lw_tbl) ∧ (sv ≠ 0 → Cond.instanceMethod y ∈ lw_tbl ∧ Cond.selects y.cls y y ∈ lw_tbl ∧ (mj_classes[sv - 1]?).map (fun q => q.1) = some y.cls) ∧ Cond.initialized y.cls ∈ lw_tbl ∧
    (y.cls ≠ "java/lang/invoke/MethodHandle" ∧ y.cls ≠ "java/lang/invoke/VarHandle") ∧ (parseMethodDescriptor y.desc).map (fun d => d.parameters.length + (if sv = 0 then 0 else 1)) = some na ∧ plainName y.cls = true ∧ ml ≤ 40 ∧ y.cls = mj_own oc' := by
  have hm := List.mem_of_getElem? h
  have hc := List.all_eq_true.mp mj_m_ok _ hm
  have hcode := mj_mcode _ hm
  simp only [mj_mC, Bool.and_eq_true, decide_eq_true_eq] at hc
  obtain ⟨⟨⟨⟨⟨⟨⟨⟨h1, h2⟩, h3⟩, h4⟩, h5⟩, h6⟩, h7⟩, h8⟩, h9⟩ := hc
  refine ⟨mj_mt hcode, fun q => ?_, fun q => ?_, mj_mt (List.mem_of_getElem? h2), ⟨h3, h4⟩, h5, h6, h7, h8⟩
  · rw [if_pos q] at h1
    exact mj_mt (List.mem_of_getElem? (of_decide_eq_true h1))
  · rw [if_neg q, Bool.and_eq_true, decide_eq_true_eq, decide_eq_true_eq] at h1
    rw [if_neg q, decide_eq_true_eq] at h9
    exact ⟨mj_mt (List.mem_of_getElem? h1.1), List.mem_of_getElem? h1.2, h9⟩
/-- what a call needs of the world at its entry -/
def mj_B (G : mj_G) (X : mj_X) (am : Nat) (σ : mj_St) (U : State) : Prop := mj_TB U ∧ va_K G.1 mj_classes (mj_tys G) U ∧ mj_Ext G X U U.heap ∧ G.2.2.2 ≤ U.heap.size ∧ mj_SR G U ∧ mj_Rep G am σ U.heap
/-- a method's contract, at a depth: from σ, with these arguments, it answers v and leaves σ' -/
def mj_MetOk (l : Launch) (G : mj_G) (X : mj_X) (d mid : Nat) (as : List Value) (σ : mj_St) (v : Option Value) (σ' : mj_St) : Prop :=
  σ.2.2.2.2 ≤ σ'.2.2.2.2 ∧ (∀ w ∈ v, ∀ am, mj_cv G am w = w) ∧ ∀ (e : mj_M), mj_mL[mid]? = some e → ∀ am : Nat,
    Met l e.1 [Cond.code e.1 e.2.1 e.2.2.1 e.2.2.2.1] { frames := d + 20, cells := σ'.2.2.2.2 - σ.2.2.2.2, slots := σ'.2.2.2.2 - σ.2.2.2.2, locals := 64 * d + 2000 }
      (va_Pc (as.map (mj_cv G am)) (mj_B G X am σ)) (fun _ st oc t => oc = .returned v ∧ (∃ am', (σ'.2.2.2.2 = σ.2.2.2.2 → am' = am) ∧ mj_Rep G am' σ' t.heap) ∧ va_F (mj_A G) st t)
      (σ'.2.2.2.2 - σ.2.2.2.2) (σ'.2.2.2.2 - σ.2.2.2.2) (mj_A G)
theorem mj_B_blind {G : mj_G} {X : mj_X} {am : Nat} {σ : mj_St} {av : List Value} : FrameBlind (va_Pc av (mj_B G X am σ)) := by
  intro a U g mk h
  obtain ⟨h0, h1, h2, h3, h4, h5, h6⟩ := h
  exact ⟨h0, mj_TB_blind h1, va_K.moved (u := U) (U := U.calling g mk a) (Vm.Alike.refl U.vm) h2, mj_Ext.moved (u := U) (U := U.calling g mk a) (Vm.Alike.refl U.vm) h3, h4, mj_SR.same (u := U) rfl h5, h6⟩
theorem mj_noMk_cv {G : mj_G} {am am' : Nat} {v : Value} (h : mj_noMk v = true) : mj_cv G am v = mj_cv G am' v := by
  cases v
  case ref k =>
    simp only [mj_noMk, bne_iff_ne, ne_eq] at h
    simp [mj_cv, mj_adr, h]
  all_goals rfl
theorem mj_noMk_map {G : mj_G} {am am' : Nat} {l : List Value} (h : l.all mj_noMk = true) : l.map (mj_cv G am) = l.map (mj_cv G am') :=
  List.map_congr_left (fun v hv => mj_noMk_cv (List.all_eq_true.mp h v hv))
theorem mj_noMk_LV {G : mj_G} {am am' nL : Nat} {ls : Array Slot} {l : List Value} (h : l.all mj_noMk = true) (hL : mj_LV G am nL ls l) : mj_LV G am' nL ls l := by
  refine ⟨hL.1, hL.2.1, hL.2.2.1, fun q hq => ?_⟩
  obtain ⟨v, hv, hne, he⟩ := mj_lvl_mem.mp hq
  refine hL.2.2.2 q (mj_lvl_mem.mpr ⟨v, hv, hne, ?_⟩)
  rw [he]
  exact mj_noMk_cv (List.all_eq_true.mp h v (List.mem_of_getElem? hv))
theorem mj_cat_le (l : List Value) : (l.map fun v => v.category).sum ≤ 2 * l.length := by
  induction l with
  | nil => simp
  | cons a l ih =>
    have : a.category ≤ 2 := by cases a <;> simp [Value.category]
    simp only [List.map_cons, List.sum_cons, List.length_cons]
    omega
theorem mj_cat_map (G : mj_G) (am : Nat) (l : List Value) (h : l.length ≤ 4) : ((l.map (mj_cv G am)).map fun v => v.category).sum ≤ 8 := by
  have := mj_cat_le (l.map (mj_cv G am))
  rw [List.length_map] at this
  omega
theorem mj_cat_cv (G : mj_G) (am : Nat) (v : Value) : (mj_cv G am v).category = v.category := by cases v <;> rfl
theorem mj_cat_one (G : mj_G) (am : Nat) (l : List Value) (h : l.all mj_one = true) : ((l.map (mj_cv G am)).map fun v => v.category).sum = l.length := by
  induction l with
  | nil => rfl
  | cons a l ih =>
    rw [List.all_cons, Bool.and_eq_true] at h
    have e : a.category = 1 := of_decide_eq_true h.1
    simp only [List.map_cons, List.sum_cons, List.length_cons]
    rw [ih h.2, mj_cat_cv, e]
    omega
theorem mj_cat_dep (G : mj_G) (am : Nat) {mid : Nat} (l : List Value) (h : mj_dep mid l = true) : ((l.map (mj_cv G am)).map fun v => v.category).sum ≤ 8 := by
  unfold mj_dep at h
  by_cases c : mid = 77
  · rw [if_pos c, Bool.and_eq_true] at h
    rw [mj_cat_one G am l h.2]
    have := of_decide_eq_true h.1
    omega
  · rw [if_neg c] at h
    exact mj_cat_map G am l (of_decide_eq_true h)
/-- the contracts of the two methods of a text (to be given) -/
def mj_yLen : MethodName := ⟨"java/lang/String", "length", "()I"⟩
def mj_yChr : MethodName := ⟨"java/lang/String", "charAt", "(I)C"⟩
def mj_strW : List Cond := [Cond.instanceMethod mj_yLen, Cond.selects mj_yLen.cls mj_yLen mj_yLen, Cond.instanceMethod mj_yChr, Cond.selects mj_yChr.cls mj_yChr mj_yChr, Cond.initialized "java/lang/String"]
def mj_Str (l : Launch) (G : mj_G) (X : mj_X) : Prop := ∃ (cl ch : ByteArray) (nl nh : Nat) (rl rh : Option FieldType), Cond.code mj_yLen cl nl rl ∈ lw_tbl ∧ Cond.code mj_yChr ch nh rh ∈ lw_tbl ∧ nl ≤ 40 ∧ nh ≤ 40 ∧
  ∀ (j : Nat) (e : Nat × String × List Int32), mj_strL[j]? = some e → ∀ (am : Nat) (σ : mj_St),
    Met l mj_yLen [Cond.code mj_yLen cl nl rl] { frames := 20, cells := 0, slots := 0, locals := 1900 } (va_Pc [.ref (G.2.1 (1100 + j))] (mj_B G X am σ)) (fun _ st oc t => oc = .returned (some (.int (Int32.ofNat e.2.2.length))) ∧ mj_Rep G am σ t.heap ∧ va_F (mj_A G) st t) 0 0 (mj_A G) ∧
    ∀ (i w : Int32), ¬ i < 0 → e.2.2[i.toNatClampNeg]? = some w →
      Met l mj_yChr [Cond.code mj_yChr ch nh rh] { frames := 20, cells := 0, slots := 0, locals := 1900 } (va_Pc [.ref (G.2.1 (1100 + j)), .int i] (mj_B G X am σ)) (fun _ st oc t => oc = .returned (some (.int w)) ∧ mj_Rep G am σ t.heap ∧ va_F (mj_A G) st t) 0 0 (mj_A G)
section MJ
variable {p : Program} {l : Launch} {e : Env} {R : Room} {s : State} {m : MethodId} {args : Array Value} {below : List Frame} {meth : Method} {c : Code} {Q : State → Prop}
variable {G : mj_G} {X : mj_X} {oc nL F : Nat} {Z : Nat × Nat} {cc : ByteArray}
variable {pc : Nat} {lo st : List Value} {σ : mj_St} {c' : mj_Cf}
theorem mj_run {H : Heap} {locs : List Loc} {cells slots mc ms : Nat} {ls : Array Slot} {st0 rest : List Value} {Qa : State → Outcome → State → Prop} {v : Option Value} {σ' : mj_St} {Y : Nat → Prop}
    (hr : va_Run p l e R s m args below meth c H locs cells slots mc ms (F0 m pc ls st0) rest Qa (mj_A G))
    (hQ : ∀ (w : Option Value) (st t : State), Qa st (.returned w) t → w = v ∧ (∃ am', Y am' ∧ mj_Rep G am' σ' t.heap) ∧ va_F (mj_A G) st t)
    (hS : va_S (mj_A G) s.heap H locs)
    (kk : ∀ (am' : Nat) (H1 : Heap) (locs1 : List Loc), Y am' → mj_Rep G am' σ' H1 → va_S (mj_A G) s.heap H1 locs1 → W p l e R s m args below meth c H1 locs1 (cells + mc) (slots + ms) Q (F0 m (pc + 3) ls (v.toList ++ rest))) :
    W p l e R s m args below meth c H locs cells slots Q (F0 m pc ls st0) := by
  intro T hT Xs
  obtain ⟨w, st₀, t, T', L, h0, X', hL, e1, e2, hq, stp⟩ := hr T hT Xs
  obtain ⟨rfl, ⟨am', hY, hR⟩, hz, hk⟩ := hQ w st₀ t hq
  rw [h0] at hz hk
  obtain ⟨t2, a1, b1⟩ := kk am' T'.heap (locs ++ L) hY (by rw [e1]; exact hR) ⟨Nat.le_trans hS.1 (by rw [e1]; exact hz), fun q h1 h2 => by
      rw [e1, hk q (Nat.lt_of_lt_of_le h1 hS.1) h2]
      exact hS.2.1 q h1 h2, fun q hq => by
      rcases List.mem_append.mp hq with h | h
      · exact hS.2.2 q h
      · exact hL q h⟩ T' rfl X'
  exact ⟨t2, stp t2 a1, b1⟩
set_option maxRecDepth 100000 in
theorem mj_s_ivk (fx : mj_FX G X oc cc nL p s m c) {d : Nat} (hRf : d + 21 ≤ R.frames) (hRl : 64 * (d + 1) + 2000 ≤ R.locals) {call : mj_Call} (hcall : ∀ mid as σ v σ', call mid as σ = some (v, σ') → mj_MetOk l G X d mid as σ v σ')
    {virt : Bool} {idx mid na sv : Nat} (hinv : mj_inv oc idx = some (mid, na, sv)) (hm : ¬ 1000 ≤ mid) (hdg : decode cc pc = .ok (if virt = true then .invokevirtual idx else .invokestatic idx, 3))
    (hcond : virt = (sv != 0) ∧ na ≤ st.length ∧ mj_dep mid (st.drop na) = true ∧ mj_rcv sv (st.take na).reverse = true) {v : Option Value} {σ' : mj_St} (hc0 : call mid (st.take na).reverse σ = some (v, σ')) (hmk : (lo.all mj_noMk && st.all mj_noMk) = true ∨ σ'.2.2.2.2 = σ.2.2.2.2)
    (kk : mj_At G nL F Z p l e R s m args below meth c Q (pc + 3, lo, v.toList ++ st.drop na, σ')) : mj_At G nL F Z p l e R s m args below meth c Q (pc, lo, st, σ) := by
  obtain ⟨hx, hb, hml, hown, hTB, hK, hE, hbase, hSR⟩ := fx
  obtain ⟨hvirt, hna, hrest, hrcv⟩ := hcond
  obtain ⟨hu, hvc, hMet⟩ := hcall mid _ σ v σ' hc0
  have hcal : mj_cal oc idx = some mid ∧ ∃ e : mj_M, mj_mL[mid]? = some e ∧ e.2.2.2.2.1 = na ∧ e.2.2.2.2.2.1 = sv := by
    unfold mj_inv at hinv
    split at hinv
    · rename_i mid' hcl
      split at hinv
      · rename_i h9
        cases hinv
        exact absurd h9 hm
      · split at hinv
        · rename_i e he
          cases hinv
          exact ⟨hcl, e, he, rfl, rfl⟩
        · cases hinv
    · cases hinv
  obtain ⟨hcal, em, hem, hna', hsv'⟩ := hcal
  obtain ⟨y, bytes, ml, ret, na0, sv0, cp, ip, sp, inp, oc'⟩ := em
  simp only at hna' hsv'
  subst hna' hsv'
  obtain ⟨wcode, wstat, winst, winit, wcls, wpar, wpl, wml, wown⟩ := mj_m_spec hem
  have hY : mj_calY mid = y := by
    unfold mj_calY
    rw [if_neg hm, hem]
  have hlink := mj_cal_spec hcal
  rw [hY] at hlink
  refine ⟨Nat.le_trans hu kk.1, fun am H locs cells slots ls hZ hR hS hL hc1 hc2 => ?_⟩
  have hF := kk.1
  simp only at hF hc1 hc2
  have hM := hMet _ hem am
  simp only at hM
  have hB : ∀ U : State, U.heap = H → s.WarmedH U.vm → mj_B G X am σ U := fun U hU hW => by
    refine ⟨mj_TB_warm hW hTB, va_K.moved hW.alike hK, ?_, ?_, mj_SR.warm hW hSR, ?_⟩
    · rw [hU]
      exact mj_Ext.moved hW.alike (hE.kept (fun a h1 h2 => hS.2.1 a h1 h2))
    · rw [hU]
      exact Nat.le_trans hbase hS.1
    · rw [hU]
      exact hR
  have hfin : ∀ (am' : Nat) (H1 : Heap) (locs1 : List Loc), (σ'.2.2.2.2 = σ.2.2.2.2 → am' = am) → mj_Rep G am' σ' H1 → va_S (mj_A G) s.heap H1 locs1 → W p l e R s m args below meth c H1 locs1 (cells + (σ'.2.2.2.2 - σ.2.2.2.2)) (slots + (σ'.2.2.2.2 - σ.2.2.2.2)) Q (F0 m (pc + 3) ls (v.toList ++ (st.drop na0).map (mj_cv G am))) := by
    intro am' H1 locs1 hY hR1 hS1
    have hZ' : mj_Zok Z σ'.2.2.2.2 am' := by
      refine ⟨Nat.le_trans hZ.1 hu, fun q => ?_⟩
      have q1 : σ'.2.2.2.2 = σ.2.2.2.2 := Nat.le_antisymm (by rw [q]; exact hZ.1) hu
      rw [hY q1]
      exact hZ.2 (by rw [← q1]; exact q)
    have hLV : mj_LV G am' nL ls lo := by
      rcases hmk with h | h
      · simp only [Bool.and_eq_true] at h
        exact mj_noMk_LV h.1 hL
      · rw [hY h]
        exact hL
    have e2 : (st.drop na0).map (mj_cv G am') = (st.drop na0).map (mj_cv G am) := by
      rcases hmk with h | h
      · simp only [Bool.and_eq_true] at h
        exact mj_noMk_map (List.all_eq_true.mpr (fun x hx => List.all_eq_true.mp h.2 x (List.mem_of_mem_drop hx)))
      · rw [hY h]
    have k2 := kk.2 am' H1 locs1 (cells + (σ'.2.2.2.2 - σ.2.2.2.2)) (slots + (σ'.2.2.2.2 - σ.2.2.2.2)) ls hZ' hR1 hS1 hLV (by simp only; omega) (by simp only; omega)
    simp only [List.map_append] at k2
    have e1 : v.toList.map (mj_cv G am') = v.toList := by
      cases v with
      | none => rfl
      | some w => simp [hvc w rfl am']
    rw [e1, e2] at k2
    exact k2
  have hpay : ∀ w ∈ [Cond.code y bytes ml ret], ∀ (a' : Array Value) (U : State), s.WarmedH U.vm → w.before a' U = true := by
    intro w hw a' U hW
    rw [List.mem_singleton.mp hw]
    exact mj_TB_warm hW hTB _ wcode rfl a'
  have hroom : ({ frames := d + 20, cells := σ'.2.2.2.2 - σ.2.2.2.2, slots := σ'.2.2.2.2 - σ.2.2.2.2, locals := 64 * d + 2000 } : Room).frames + 1 ≤ R.frames := by
    show d + 20 + 1 ≤ R.frames
    omega
  have hroom2 : 8 + (ml + 11) + ({ frames := d + 20, cells := σ'.2.2.2.2 - σ.2.2.2.2, slots := σ'.2.2.2.2 - σ.2.2.2.2, locals := 64 * d + 2000 } : Room).locals ≤ R.locals := by
    show 8 + (ml + 11) + (64 * d + 2000) ≤ R.locals
    omega
  have hsz : (F0 m pc ls (st.map (mj_cv G am))).locals.size = nL := hL.2.1
  have hcat := mj_cat_dep G am (st.drop na0) hrest
  have hsplit : st = (st.take na0).reverse.reverse ++ st.drop na0 := by rw [List.reverse_reverse, List.take_append_drop]
  have hQ : ∀ (a' : Array Value) (w : Option Value) (st t : State), (fun (_ : Array Value) (st : State) (oc : Outcome) (t : State) => oc = Outcome.returned v ∧ (∃ am', (σ'.2.2.2.2 = σ.2.2.2.2 → am' = am) ∧ mj_Rep G am' σ' t.heap) ∧ va_F (mj_A G) st t) a' st (.returned w) t → w = v ∧ (∃ am', (σ'.2.2.2.2 = σ.2.2.2.2 → am' = am) ∧ mj_Rep G am' σ' t.heap) ∧ va_F (mj_A G) st t := by
    intro a' w st t h
    obtain ⟨h1, h2, h3⟩ := h
    cases h1
    exact ⟨rfl, h2, h3⟩
  have hlen : (st.take na0).reverse.length = na0 := by
    rw [List.length_reverse, List.length_take]
    omega
  generalize hAs : (st.take na0).reverse = As at *
  have hf : cells + (σ'.2.2.2.2 - σ.2.2.2.2) ≤ R.cells ∧ slots + (σ'.2.2.2.2 - σ.2.2.2.2) ≤ R.slots := ⟨by omega, by omega⟩
  by_cases hs0 : sv0 = 0
  · subst hs0
    have hv0 : virt = false := by rw [hvirt]; rfl
    subst hv0
    have hpar : ∀ sig, parseMethodDescriptor y.desc = some sig → As.length = sig.parameters.length := by
      intro sig hsig
      rw [hsig] at wpar
      simp only [Option.map_some, if_true, Nat.add_zero, Option.some.injEq] at wpar
      rw [hlen, wpar]
    have hstk : st.map (mj_cv G am) = (As.map (mj_cv G am)).reverse ++ (st.drop na0).map (mj_cv G am) := by
      rw [← List.map_reverse, ← List.map_append, ← hsplit]
    have hpre : PreS s H (va_Pc (As.map (mj_cv G am)) (mj_B G X am σ)) (As.map (mj_cv G am)) := ⟨mj_B_blind, fun U hU hW => ⟨rfl, hB U hU hW⟩⟩
    rcases hlink with hl | ⟨host, hl⟩
    · exact mj_run (va_runS (Ts := []) (own := mj_own oc) (cc := cc) (nL := nL) (n := As.length) (index := idx) (bytes := bytes) (maxL := ml) (ret := ret) ⟨hx, hb, hml, hown, fun w h => absurd h List.not_mem_nil⟩ hM
        ⟨⟨rfl, rfl, hroom, hroom2, hpay, List.mem_singleton.mpr rfl, hTB _ wcode rfl _, hTB _ winit rfl _, wcls, hpar, hTB _ hl rfl _⟩, hTB _ (wstat rfl) rfl _⟩ hpre rfl (by rw [List.length_map]) hsz hstk (lv_room hcat) hdg hf) (hQ #[]) hS hfin
    · exact mj_run (va_runSN (Ts := []) (own := mj_own oc) (cc := cc) (nL := nL) (n := As.length) (index := idx) (bytes := bytes) (maxL := ml) (ret := ret) (host := host) ⟨hx, hb, hml, hown, fun w h => absurd h List.not_mem_nil⟩ hM
        ⟨⟨⟨rfl, rfl, hroom, hroom2, hpay, List.mem_singleton.mpr rfl⟩, hTB _ wcode rfl _, hTB _ winit rfl _, wcls, hpar, hTB _ hl rfl _⟩, hTB _ (wstat rfl) rfl _, trivial⟩ hpre rfl (by rw [List.length_map]) hsz hstk (lv_room hcat) hdg hf) (hQ #[]) hS hfin
  · have hv0 : virt = true := by rw [hvirt]; simpa using hs0
    subst hv0
    obtain ⟨wi, wsel, wcl⟩ := winst hs0
    unfold mj_rcv at hrcv
    rw [if_neg hs0] at hrcv
    split at hrcv
    · rename_i c0 As'
      split at hrcv
      · rename_i ci fl hs
        have hci : ci + 1 = sv0 := by simpa using hrcv
        have hci' : sv0 - 1 = ci := by omega
        rw [hci'] at wcl
        obtain ⟨q, hq, hq1⟩ := Option.map_eq_some_iff.mp wcl
        have hlt : c0 < mj_NC := mj_shp_lt (by rw [hs]; show (0 : Nat) ≠ 9; decide)
        have hc := mj_cell_at (σ := σ) (am := am) (G := G) (z := .inr (ci, fl.mapIdx (fun j code => mj_fv G am σ c0 j code))) hlt (by simp [mj_cell, hs])
        have hrecv := va_recv hK hR.1 hq hc
        rw [hq1] at hrecv
        have hpar : ∀ sig, parseMethodDescriptor y.desc = some sig → As'.length = sig.parameters.length := by
          intro sig hsig
          rw [hsig] at wpar
          simp only [Option.map_some, if_neg hs0, Option.some.injEq] at wpar
          simp only [List.length_cons] at hlen
          omega
        have hstk : st.map (mj_cv G am) = (As'.map (mj_cv G am)).reverse ++ Value.ref (mj_adr G am c0) :: (st.drop na0).map (mj_cv G am) := by
          rw [← List.map_reverse]
          have e3 : Value.ref (mj_adr G am c0) :: (st.drop na0).map (mj_cv G am) = (Value.ref c0 :: st.drop na0).map (mj_cv G am) := rfl
          rw [e3, ← List.map_append]
          congr 1
          exact hsplit.trans (by simp)
        have hpre : PreV s H y.cls (mj_adr G am c0) (va_Pc ((Value.ref c0 :: As').map (mj_cv G am)) (mj_B G X am σ)) (As'.map (mj_cv G am)) := ⟨mj_B_blind, hrecv, fun U hU hW => ⟨rfl, hB U hU hW⟩⟩
        rcases hlink with hl | ⟨host, hl⟩
        · exact mj_run (va_runV (Ts := []) (own := mj_own oc) (cc := cc) (nL := nL) (n := As'.length) (index := idx) (bytes := bytes) (maxL := ml) (ret := ret) ⟨hx, hb, hml, hown, fun w h => absurd h List.not_mem_nil⟩ hM
            ⟨⟨rfl, rfl, hroom, hroom2, hpay, List.mem_singleton.mpr rfl, hTB _ wcode rfl _, hTB _ winit rfl _, wcls, hpar, hTB _ hl rfl _⟩, hTB _ wi rfl _, hTB _ wsel rfl _⟩ hpre rfl (by rw [List.length_map]) hsz hstk (lv_room hcat) hdg hf) (hQ #[]) hS hfin
        · exact mj_run (va_runVN (Ts := []) (own := mj_own oc) (cc := cc) (nL := nL) (n := As'.length) (index := idx) (bytes := bytes) (maxL := ml) (ret := ret) (host := host) ⟨hx, hb, hml, hown, fun w h => absurd h List.not_mem_nil⟩ hM
            ⟨⟨⟨rfl, rfl, hroom, hroom2, hpay, List.mem_singleton.mpr rfl⟩, hTB _ wcode rfl _, hTB _ winit rfl _, wcls, hpar, hTB _ hl rfl _⟩, hTB _ wi rfl _, hTB _ wsel rfl _⟩ hpre rfl (by rw [List.length_map]) hsz hstk (lv_room hcat) hdg hf) (hQ #[]) hS hfin
      · cases hrcv
    · cases hrcv
end MJ
