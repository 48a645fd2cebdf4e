section
variable {l : Launch} {G : mj_G} {X : mj_X} {am : Nat} {σ : mj_St} {j : Nat}
theorem ct_byt : ∀ e ∈ mj_strL, ∀ w ∈ e.2.2, ((w &&& 255).toUInt32 % 65536).toInt32 = w ∧ narrow .char (.int w) = .int w := by decide +kernel
theorem ct_lenlt : ∀ e ∈ mj_strL, e.2.2.length < 100 := by decide +kernel
theorem ct_in {e : Nat × String × List Int32} (he : mj_strL[j]? = some e) {i w : Int32} (h0 : ¬ i < 0) (hw : e.2.2[i.toNatClampNeg]? = some w) : i < Int32.ofNat e.2.2.length ∧ vp_in i (mj_sLen.getD j 0) ∧ (fun k => Value.int ((mj_sByt.getD j []).getD k 0)) i.toNatClampNeg = .int w ∧ ((w &&& 255).toUInt32 % 65536).toInt32 = w ∧ narrow .char (.int w) = .int w := by
  have hm := List.mem_of_getElem? he
  have hl := ct_lenlt e hm
  have hlt : i.toNatClampNeg < e.2.2.length := (List.getElem?_eq_some_iff.mp hw).1
  have hc := mj_clamp h0
  refine ⟨?_, ?_, ?_, ct_byt e hm w (List.mem_of_getElem? hw)⟩
  · have : Int32.ofNat e.2.2.length = nI e.2.2.length := rfl
    rw [this, Int32.lt_iff_toInt_lt, nI_toInt (by omega)]
    omega
  · rw [ct_sLen he]
    intro z
    rcases z with z | z
    · exact h0 z
    · omega
  · show Value.int ((mj_sByt.getD j []).getD i.toNatClampNeg 0) = .int w
    rw [ct_sByt he, List.getD_eq_getElem?_getD, hw]
    rfl
theorem ct_l1 {e : Nat × String × List Int32} (he : mj_strL[j]? = some e) {i w : Int32} (h0 : ¬ i < 0) (hw : e.2.2[i.toNatClampNeg]? = some w) : Met l ct_yL1 [Cond.code ct_yL1 prog_12_method_2_code 2 (some .char)] { frames := 6, cells := 0, slots := 0, locals := 400 } (va_Pc [.ref (G.2.1 (1200 + j)), .int i] (mj_B G X am σ)) (ct_Q G am σ (some (.int w))) 0 0 (mj_A G) := by
  have hj := mj_str_lt he
  obtain ⟨hi1, hi2, hi3, hi4, hi5⟩ := ct_in he h0 hw
  refine Met.ofW (cc := prog_12_method_2_code) (maxL := 2) (ret := some .char) (ws' := []) (by decide) rfl ?_
  intro p e' s m args below meth c s₁ B hml hv
  obtain ⟨rfl, hTB, hK, hE, hbase, hSR, hR⟩ := hv
  have hx := B.exec
  have hb := B.bytes
  have hr := B.returns
  have hown : s.vm.findClass "java/lang/StringLatin1" = some m.cls := findClass_of_methodNamed B.named
  have hlocks := B.notSynchronized
  have hS : va_S (mj_A G) s.heap s.heap [] := va_S.rf
  obtain ⟨hZ, hV, hq⟩ := id hE.2.2.2.2
  obtain ⟨hO, hCo, hVa, hT⟩ := hV.1 j hj
  have hl := lv_entry ([.ref (G.2.1 (1200 + j)), .int i]) (n := 2) (Nat.le_of_ble_eq_true rfl)
  rw [lg_entry_eq]
  generalize (lg_sl ([.ref (G.2.1 (1200 + j)), .int i]) ++ List.replicate (2 - (lg_sl ([.ref (G.2.1 (1200 + j)), .int i])).length) Slot.unset).toArray = ls at hl ⊢
  have hl : lv_has ls 2 [(0, .ref (G.2.1 (1200 + j))), (1, .int i)] := hl
  have wc : Cond.code ct_yChk prog_11_method_155_code 2 none ∈ lw_tbl := mj_mt (by decide +kernel)
  refine lv_iload_n hx hb (by decide +kernel : decode prog_12_method_2_code 0 = .ok (.iload_n 1, 1)) rfl (lv_at hl 1 rfl) ?_
  refine lv_aload_n hx hb (by decide +kernel : decode prog_12_method_2_code 1 = .ok (.aload_n 0, 1)) rfl (lv_at hl 0 rfl) ?_
  refine va_tlen hx hb hT hS (v := Int32.ofNat e.2.2.length) (by rw [ct_sLen he]) (by decide +kernel) ?_
  refine mj_run (σ' := σ) (v := none) (Y := fun a => a = am) (va_runS (Ts := []) (own := "java/lang/StringLatin1") (cc := prog_12_method_2_code) (nL := 2) (n := 2) (index := 9) (bytes := prog_11_method_155_code) (maxL := 2) (ret := none) (As := [.int i, .int (Int32.ofNat e.2.2.length)]) (rest := []) ⟨hx, hb, hml, hown, fun w h => absurd h List.not_mem_nil⟩ (ct_chk h0 hi1)
    ⟨⟨rfl, rfl, by show 3 + 1 ≤ 6; decide, by show 8 + (2 + 11) + 200 ≤ 400; decide, ct_pay hTB wc rfl, List.mem_singleton.mpr rfl, hTB _ wc rfl _, hTB _ (mj_strW_in (Cond.initialized "java/lang/String") (by simp [mj_strW])) rfl _, ⟨by decide, by decide⟩, fun sig hsig => by
      have hd : (parseMethodDescriptor ct_yChk.desc).map (fun d => d.parameters.length) = some 2 := by decide +kernel
      rw [hsig] at hd
      exact (Option.some.inj hd).symm, hTB _ (mj_mt (by decide +kernel)) rfl _⟩, hTB _ (mj_mt (by decide +kernel)) rfl _⟩ ⟨mj_B_blind, fun U hU hW => ⟨rfl, ct_B hTB hK hE hbase hSR hR hS U hU hW⟩⟩ rfl rfl hl.1 rfl (lv_room (by decide)) (by show decode prog_12_method_2_code 3 = .ok (.invokestatic 9, 3); decide +kernel) ⟨Nat.zero_le _, Nat.zero_le _⟩) ct_hQ hS ?_
  rintro am' H1 locs1 rfl hR1 hS1
  refine lv_aload_n hx hb (by decide +kernel : decode prog_12_method_2_code 6 = .ok (.aload_n 0, 1)) rfl (lv_at hl 0 rfl) ?_
  refine lv_iload_n hx hb (by decide +kernel : decode prog_12_method_2_code 7 = .ok (.iload_n 1, 1)) rfl (lv_at hl 1 rfl) ?_
  refine va_tb hx hb hT hS1 hi2 hi3 (by decide +kernel) ?_
  refine lv_sipush hx hb (by decide +kernel : decode prog_12_method_2_code 9 = .ok (.sipush 255, 3)) (v := 255) (by decide) ?_
  refine lv_iand hx hb (x := w) (y := 255) (by decide +kernel) ?_
  refine lv_i2c hx hb (x := w &&& 255) (v := w) (by decide +kernel) hi4 ?_
  exact W.zret (ty := .char) hx hb hr hi5 (ct_q hR1 hS1) hS1.2.2 (by decide +kernel) hlocks
theorem ct_chr {e : Nat × String × List Int32} (he : mj_strL[j]? = some e) {i w : Int32} (h0 : ¬ i < 0) (hw : e.2.2[i.toNatClampNeg]? = some w) : Met l mj_yChr [Cond.code mj_yChr prog_11_method_56_code 2 (some .char)] { frames := 20, cells := 0, slots := 0, locals := 1900 } (va_Pc [.ref (G.2.1 (1100 + j)), .int i] (mj_B G X am σ)) (ct_Q G am σ (some (.int w))) 0 0 (mj_A G) := by
  have hj := mj_str_lt he
  obtain ⟨hi1, hi2, hi3, hi4, hi5⟩ := ct_in he h0 hw
  refine Met.ofW (cc := prog_11_method_56_code) (maxL := 2) (ret := some .char) (ws' := []) (by decide) rfl ?_
  intro p e' s m args below meth c s₁ B hml hv
  obtain ⟨rfl, hTB, hK, hE, hbase, hSR, hR⟩ := hv
  have hx := B.exec
  have hb := B.bytes
  have hr := B.returns
  have hown : s.vm.findClass "java/lang/String" = some m.cls := findClass_of_methodNamed B.named
  have hlocks := B.notSynchronized
  have hS : va_S (mj_A G) s.heap s.heap [] := va_S.rf
  obtain ⟨hZ, hV, hq⟩ := id hE.2.2.2.2
  obtain ⟨hO, hCo, hVa, hT⟩ := hV.1 j hj
  have hrc := vk_recv hV hj hS
  have hl := lv_entry ([.ref (G.2.1 (1100 + j)), .int i]) (n := 2) (Nat.le_of_ble_eq_true rfl)
  rw [lg_entry_eq]
  generalize (lg_sl ([.ref (G.2.1 (1100 + j)), .int i]) ++ List.replicate (2 - (lg_sl ([.ref (G.2.1 (1100 + j)), .int i])).length) Slot.unset).toArray = ls at hl ⊢
  have hl : lv_has ls 2 [(0, .ref (G.2.1 (1100 + j))), (1, .int i)] := hl
  have wl : Cond.code ct_yLat prog_11_method_154_code 1 (some .boolean) ∈ lw_tbl := mj_mt (by decide +kernel)
  have wc : Cond.code ct_yL1 prog_12_method_2_code 2 (some .char) ∈ lw_tbl := mj_mt (by decide +kernel)
  refine lv_aload_n hx hb (by decide +kernel : decode prog_11_method_56_code 0 = .ok (.aload_n 0, 1)) rfl (lv_at hl 0 rfl) ?_
  refine mj_run (σ' := σ) (v := some (.int 1)) (Y := fun a => a = am) (va_runV (Ts := []) (own := "java/lang/String") (cc := prog_11_method_56_code) (nL := 2) (n := 0) (index := 492) (bytes := prog_11_method_154_code) (maxL := 1) (ret := some .boolean) (As := []) (rest := []) ⟨hx, hb, hml, hown, fun w h => absurd h List.not_mem_nil⟩ (ct_lat hj)
    ⟨⟨rfl, rfl, by show 1 + 1 ≤ 20; decide, by show 8 + (1 + 11) + 40 ≤ 1900; decide, ct_pay hTB wl rfl, List.mem_singleton.mpr rfl, hTB _ wl rfl _, hTB _ (mj_strW_in (Cond.initialized "java/lang/String") (by simp [mj_strW])) rfl _, ⟨by decide, by decide⟩, fun sig hsig => by
      have hd : (parseMethodDescriptor ct_yLat.desc).map (fun d => d.parameters.length) = some 0 := by decide +kernel
      rw [hsig] at hd
      exact (Option.some.inj hd).symm, hTB _ (mj_mt (by decide +kernel)) rfl _⟩, hTB _ (mj_mt (by decide +kernel)) rfl _, hTB _ (mj_mt (by decide +kernel)) rfl _⟩ ⟨mj_B_blind, hrc, fun U hU hW => ⟨rfl, ct_B hTB hK hE hbase hSR hR hS U hU hW⟩⟩ rfl rfl hl.1 rfl (lv_room (by decide)) (by show decode prog_11_method_56_code 1 = .ok (.invokevirtual 492, 3); decide +kernel) ⟨Nat.zero_le _, Nat.zero_le _⟩) ct_hQ hS ?_
  rintro am1 H1 locs1 rfl hR1 hS1
  refine lv_if_eq hx hb (off := 12) (tgt := 16) (by decide +kernel) (by decide) (fun z => absurd z (by decide)) (fun _ => ?_)
  refine lv_aload_n hx hb (by decide +kernel : decode prog_11_method_56_code 7 = .ok (.aload_n 0, 1)) rfl (lv_at hl 0 rfl) ?_
  refine vk_getf hx hb (own := "java/lang/String") (ref := "java/lang/String") (index := 9) hVa hS1 hown (hTB _ (mj_mt (by decide +kernel)) rfl _) (fun x q => q) (by decide +kernel) ?_
  refine lv_iload_n hx hb (by decide +kernel : decode prog_11_method_56_code 11 = .ok (.iload_n 1, 1)) rfl (lv_at hl 1 rfl) ?_
  refine mj_run (σ' := σ) (v := some (.int w)) (Y := fun a => a = am1) (va_runS (Ts := []) (own := "java/lang/String") (cc := prog_11_method_56_code) (nL := 2) (n := 2) (index := 495) (bytes := prog_12_method_2_code) (maxL := 2) (ret := some .char) (As := [.ref (G.2.1 (1200 + j)), .int i]) (rest := []) ⟨hx, hb, hml, hown, fun w h => absurd h List.not_mem_nil⟩ (ct_l1 he h0 hw)
    ⟨⟨rfl, rfl, by show 6 + 1 ≤ 20; decide, by show 8 + (2 + 11) + 400 ≤ 1900; decide, ct_pay hTB wc rfl, List.mem_singleton.mpr rfl, hTB _ wc rfl _, hTB _ (mj_mt (by decide +kernel)) rfl _, ⟨by decide, by decide⟩, fun sig hsig => by
      have hd : (parseMethodDescriptor ct_yL1.desc).map (fun d => d.parameters.length) = some 2 := by decide +kernel
      rw [hsig] at hd
      exact (Option.some.inj hd).symm, hTB _ (mj_mt (by decide +kernel)) rfl _⟩, hTB _ (mj_mt (by decide +kernel)) rfl _⟩ ⟨mj_B_blind, fun U hU hW => ⟨rfl, ct_B hTB hK hE hbase hSR hR1 hS1 U hU hW⟩⟩ rfl rfl hl.1 rfl (lv_room (by decide)) (by show decode prog_11_method_56_code 12 = .ok (.invokestatic 495, 3); decide +kernel) ⟨Nat.zero_le _, Nat.zero_le _⟩) ct_hQ hS1 ?_
  rintro am' H2 locs2 rfl hR2 hS2
  exact W.zret (ty := .char) hx hb hr hi5 (ct_q hR2 hS2) hS2.2.2 (by decide +kernel) hlocks
/-- the two methods of the texts hold their contracts -/
theorem ct_str : mj_Str l G X := by
  refine ⟨prog_11_method_54_code, prog_11_method_56_code, 1, 2, some .int, some .char, mj_mt (by decide +kernel), mj_mt (by decide +kernel), by decide, by decide, fun j e he am σ => ⟨?_, fun i w h0 hw => ?_⟩⟩
  · exact ct_len he
  · exact ct_chr he h0 hw
end
