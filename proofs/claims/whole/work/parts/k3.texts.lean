section
variable {l : Launch} {G : mj_G} {X : mj_X} {am : Nat} {σ : mj_St} {j : Nat}
/-- what a reading of a text leaves: all as it was -/
def ct_Q (G : mj_G) (am : Nat) (σ : mj_St) (v : Option Value) (_ : Array Value) (st : State) (oc : Outcome) (t : State) : Prop := oc = .returned v ∧ mj_Rep G am σ t.heap ∧ va_F (mj_A G) st t
def ct_yCod : MethodName := ⟨"java/lang/String", "coder", "()B"⟩
def ct_yLat : MethodName := ⟨"java/lang/String", "isLatin1", "()Z"⟩
theorem ct_q {s : State} {args : Array Value} {H : Heap} {locs : List Loc} {v : Option Value} (hR : mj_Rep G am σ H) (hS : va_S (mj_A G) s.heap H locs) : ∀ t : State, t.heap = H → s.WarmedH t.vm → ct_Q G am σ v args s (.returned v) t := fun t ht _ => ⟨rfl, by rw [ht]; exact hR, by rw [va_F, ht]; exact ⟨hS.1, hS.2.1⟩⟩
theorem ct_coder (hj : j < 15) : Met l ct_yCod [Cond.code ct_yCod prog_11_method_152_code 1 (some .byte)] { frames := 1, cells := 0, slots := 0, locals := 40 } (va_Pc [.ref (G.2.1 (1100 + j))] (mj_B G X am σ)) (ct_Q G am σ (some (.int 0))) 0 0 (mj_A G) := by
  refine Met.ofW (cc := prog_11_method_152_code) (maxL := 1) (ret := some .byte) (ws' := []) (by decide) rfl ?_
  intro p e s m args below meth c s₁ B hml hv
  obtain ⟨rfl, hTB, hK, hE, hbase, hSR, hR⟩ := hv
  have hx := B.exec
  have hb := B.bytes
  have hr := B.returns
  have hown : s.vm.findClass "java/lang/String" = some m.cls := findClass_of_methodNamed B.named
  have hlocks := B.notSynchronized
  have hS : va_S (mj_A G) s.heap s.heap [] := va_S.rf
  obtain ⟨hZ, hV, hq⟩ := hE.2.2.2.2
  obtain ⟨hO, hCo, hVa, hT⟩ := hV.1 j hj
  have hl := lv_entry ([.ref (G.2.1 (1100 + j))]) (n := 1) (Nat.le_of_ble_eq_true rfl)
  rw [lg_entry_eq]
  generalize (lg_sl ([.ref (G.2.1 (1100 + j))]) ++ List.replicate (1 - (lg_sl ([.ref (G.2.1 (1100 + j))])).length) Slot.unset).toArray = ls at hl ⊢
  have hl : lv_has ls 1 [(0, .ref (G.2.1 (1100 + j)))] := hl
  refine va_gets hx hb (own := "java/lang/String") (ref := "java/lang/String") (index := 38) hZ hS hown (hTB _ (mj_mt (by decide +kernel)) rfl _) (fun x q => q) (by decide +kernel) ?_
  refine lv_if_eq hx hb (off := 10) (tgt := 13) (by decide +kernel) (by decide) (fun z => absurd z (by decide)) (fun _ => ?_)
  refine lv_aload_n hx hb (by decide +kernel : decode prog_11_method_152_code 6 = .ok (.aload_n 0, 1)) rfl (lv_at hl 0 rfl) ?_
  refine vk_getf hx hb (own := "java/lang/String") (ref := "java/lang/String") (index := 15) hCo hS hown (hTB _ (mj_mt (by decide +kernel)) rfl _) (fun x q => q) (by decide +kernel) ?_
  refine lv_goto hx hb (off := 4) (tgt := 14) (by decide +kernel) (by decide) ?_
  exact W.zret (ty := .byte) hx hb hr rfl (ct_q hR hS) hS.2.2 (by decide +kernel) hlocks
theorem ct_lat (hj : j < 15) : Met l ct_yLat [Cond.code ct_yLat prog_11_method_154_code 1 (some .boolean)] { frames := 1, cells := 0, slots := 0, locals := 40 } (va_Pc [.ref (G.2.1 (1100 + j))] (mj_B G X am σ)) (ct_Q G am σ (some (.int 1))) 0 0 (mj_A G) := by
  refine Met.ofW (cc := prog_11_method_154_code) (maxL := 1) (ret := some .boolean) (ws' := []) (by decide) rfl ?_
  intro p e s m args below meth c s₁ B hml hv
  obtain ⟨rfl, hTB, hK, hE, hbase, hSR, hR⟩ := hv
  have hx := B.exec
  have hb := B.bytes
  have hr := B.returns
  have hown : s.vm.findClass "java/lang/String" = some m.cls := findClass_of_methodNamed B.named
  have hlocks := B.notSynchronized
  have hS : va_S (mj_A G) s.heap s.heap [] := va_S.rf
  obtain ⟨hZ, hV, hq⟩ := hE.2.2.2.2
  obtain ⟨hO, hCo, hVa, hT⟩ := hV.1 j hj
  have hl := lv_entry ([.ref (G.2.1 (1100 + j))]) (n := 1) (Nat.le_of_ble_eq_true rfl)
  rw [lg_entry_eq]
  generalize (lg_sl ([.ref (G.2.1 (1100 + j))]) ++ List.replicate (1 - (lg_sl ([.ref (G.2.1 (1100 + j))])).length) Slot.unset).toArray = ls at hl ⊢
  have hl : lv_has ls 1 [(0, .ref (G.2.1 (1100 + j)))] := hl
  refine va_gets hx hb (own := "java/lang/String") (ref := "java/lang/String") (index := 38) hZ hS hown (hTB _ (mj_mt (by decide +kernel)) rfl _) (fun x q => q) (by decide +kernel) ?_
  refine lv_if_eq hx hb (off := 14) (tgt := 17) (by decide +kernel) (by decide) (fun z => absurd z (by decide)) (fun _ => ?_)
  refine lv_aload_n hx hb (by decide +kernel : decode prog_11_method_154_code 6 = .ok (.aload_n 0, 1)) rfl (lv_at hl 0 rfl) ?_
  refine vk_getf hx hb (own := "java/lang/String") (ref := "java/lang/String") (index := 15) hCo hS hown (hTB _ (mj_mt (by decide +kernel)) rfl _) (fun x q => q) (by decide +kernel) ?_
  refine lv_if_ne hx hb (off := 7) (tgt := 17) (by decide +kernel) (by decide) (fun z => absurd rfl z) (fun _ => ?_)
  refine lv_iconst hx hb (by decide +kernel : decode prog_11_method_154_code 13 = .ok (.iconst 1, 1)) (v := 1) rfl ?_
  refine lv_goto hx hb (off := 4) (tgt := 18) (by decide +kernel) (by decide) ?_
  exact W.zret (ty := .boolean) hx hb hr rfl (ct_q hR hS) hS.2.2 (by decide +kernel) hlocks
theorem ct_B {s : State} (hTB : mj_TB s) (hK : va_K G.1 mj_classes (mj_tys G) s) (hE : mj_Ext G X s s.heap) (hbase : G.2.2.2 ≤ s.heap.size) (hSR : mj_SR G s) {H : Heap} {locs : List Loc} (hR : mj_Rep G am σ H) (hS : va_S (mj_A G) s.heap H locs) : ∀ U : State, U.heap = H → s.WarmedH U.vm → mj_B G X am σ U := fun U hU hW => by
  refine ⟨mj_TB_warm hW hTB, va_K.moved hW.alike hK, ?_, ?_, mj_SR.warm hW hSR, ?_⟩
  · rw [hU]
    exact mj_Ext.moved hW.alike (hE.kept (fun a h1 h2 => hS.2.1 a h1 h2))
  · rw [hU]
    exact Nat.le_trans hbase hS.1
  · rw [hU]
    exact hR
theorem ct_sLen {e : Nat × String × List Int32} (he : mj_strL[j]? = some e) : mj_sLen.getD j 0 = e.2.2.length := by
  unfold mj_sLen
  rw [List.getD_eq_getElem?_getD, List.getElem?_map, he]
  rfl
theorem ct_sByt {e : Nat × String × List Int32} (he : mj_strL[j]? = some e) : mj_sByt.getD j [] = e.2.2 := by
  unfold mj_sByt
  rw [List.getD_eq_getElem?_getD, List.getElem?_map, he]
  rfl
theorem ct_shr (x : Int32) : x >>> ((0 : Int32) &&& 31) = x := by
  have e : (0 : Int32) &&& 31 = 0 := by decide
  rw [e]
  simp
theorem ct_len {e : Nat × String × List Int32} (he : mj_strL[j]? = some e) : Met l mj_yLen [Cond.code mj_yLen prog_11_method_54_code 1 (some .int)] { frames := 20, cells := 0, slots := 0, locals := 1900 } (va_Pc [.ref (G.2.1 (1100 + j))] (mj_B G X am σ)) (ct_Q G am σ (some (.int (Int32.ofNat e.2.2.length)))) 0 0 (mj_A G) := by
  have hj := mj_str_lt he
  refine Met.ofW (cc := prog_11_method_54_code) (maxL := 1) (ret := some .int) (ws' := []) (by decide) rfl ?_
  intro p e' s m args below meth c s₁ B hml hv
  obtain ⟨rfl, hTB, hK, hE, hbase, hSR, hR⟩ := hv
  have hx := B.exec
  have hb := B.bytes
  have hr := B.returns
  have hown : s.vm.findClass "java/lang/String" = some m.cls := findClass_of_methodNamed B.named
  have hlocks := B.notSynchronized
  have hS : va_S (mj_A G) s.heap s.heap [] := va_S.rf
  obtain ⟨hZ, hV, hq⟩ := id hE.2.2.2.2
  obtain ⟨hO, hCo, hVa, hT⟩ := hV.1 j hj
  have hrc := vk_recv hV hj hS
  have hl := lv_entry ([.ref (G.2.1 (1100 + j))]) (n := 1) (Nat.le_of_ble_eq_true rfl)
  rw [lg_entry_eq]
  generalize (lg_sl ([.ref (G.2.1 (1100 + j))]) ++ List.replicate (1 - (lg_sl ([.ref (G.2.1 (1100 + j))])).length) Slot.unset).toArray = ls at hl ⊢
  have hl : lv_has ls 1 [(0, .ref (G.2.1 (1100 + j)))] := hl
  have hpre : PreV s s.heap ct_yCod.cls (G.2.1 (1100 + j)) (va_Pc [.ref (G.2.1 (1100 + j))] (mj_B G X am σ)) [] := ⟨mj_B_blind, hrc, fun U hU hW => ⟨rfl, ct_B hTB hK hE hbase hSR hR hS U hU hW⟩⟩
  have wc : Cond.code ct_yCod prog_11_method_152_code 1 (some .byte) ∈ lw_tbl := mj_mt (by decide +kernel)
  have hpay : ∀ w ∈ [Cond.code ct_yCod prog_11_method_152_code 1 (some .byte)], ∀ (a' : Array Value) (U : State), s.WarmedH U.vm → w.before a' U = true := by
    intro w hw a' U hW
    rw [List.mem_singleton.mp hw]
    exact mj_TB_warm hW hTB _ wc rfl a'
  refine lv_aload_n hx hb (by decide +kernel : decode prog_11_method_54_code 0 = .ok (.aload_n 0, 1)) rfl (lv_at hl 0 rfl) ?_
  refine vk_getf hx hb (own := "java/lang/String") (ref := "java/lang/String") (index := 9) hVa hS hown (hTB _ (mj_mt (by decide +kernel)) rfl _) (fun x q => q) (by decide +kernel) ?_
  refine va_tlen hx hb hT hS (v := Int32.ofNat e.2.2.length) (by rw [ct_sLen he]) (by decide +kernel) ?_
  refine lv_aload_n hx hb (by decide +kernel : decode prog_11_method_54_code 5 = .ok (.aload_n 0, 1)) rfl (lv_at hl 0 rfl) ?_
  refine mj_run (σ' := σ) (v := some (.int 0)) (Y := fun a => a = am) (va_runV (Ts := []) (own := "java/lang/String") (cc := prog_11_method_54_code) (nL := 1) (n := 0) (index := 335) (bytes := prog_11_method_152_code) (maxL := 1) (ret := some .byte) (As := []) (rest := [.int (Int32.ofNat e.2.2.length)]) ⟨hx, hb, hml, hown, fun w h => absurd h List.not_mem_nil⟩ (ct_coder hj)
    ⟨⟨rfl, rfl, by show 1 + 1 ≤ 20; decide, by show 8 + (1 + 11) + 40 ≤ 1900; decide, hpay, List.mem_singleton.mpr rfl, hTB _ wc rfl _, hTB _ (mj_strW_in (Cond.initialized "java/lang/String") (by simp [mj_strW])) rfl _, ⟨by decide, by decide⟩, fun sig hsig => by
      have hd : (parseMethodDescriptor ct_yCod.desc).map (fun d => d.parameters.length) = some 0 := by decide +kernel
      rw [hsig] at hd
      exact (Option.some.inj hd).symm, hTB _ (mj_mt (by decide +kernel)) rfl _⟩, hTB _ (mj_mt (by decide +kernel)) rfl _, hTB _ (mj_mt (by decide +kernel)) rfl _⟩ hpre rfl rfl hl.1 rfl (lv_room (Nat.le_of_ble_eq_true rfl)) (by show decode prog_11_method_54_code 6 = .ok (.invokevirtual 335, 3); decide +kernel) ⟨Nat.zero_le _, Nat.zero_le _⟩) (fun w st t h => by
      obtain ⟨h1, h2, h3⟩ := h
      cases h1
      exact ⟨rfl, ⟨am, rfl, h2⟩, h3⟩) hS ?_
  rintro am' H1 locs1 rfl hR1 hS1
  refine lv_ishr hx hb (x := Int32.ofNat e.2.2.length) (y := 0) (by decide +kernel) ?_
  rw [ct_shr]
  exact W.iret hx hb hr (ct_q hR1 hS1) hS1.2.2 (by decide +kernel) hlocks
end
