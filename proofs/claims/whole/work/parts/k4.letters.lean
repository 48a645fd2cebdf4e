section
variable {l : Launch} {G : mj_G} {X : mj_X} {am : Nat} {σ : mj_St} {j : Nat}
def ct_yPre : MethodName := ⟨"jdk/internal/util/Preconditions", "checkIndex", "(IILjava/util/function/BiFunction;)I"⟩
def ct_yChk : MethodName := ⟨"java/lang/String", "checkIndex", "(II)V"⟩
def ct_yL1 : MethodName := ⟨"java/lang/StringLatin1", "charAt", "([BI)C"⟩
theorem ct_pre {i n : Int32} {fv : Value} (hf : fv = .null ∨ ∃ t, fv = .ref t) (h0 : ¬ i < 0) (hn : i < n) : Met l ct_yPre [Cond.code ct_yPre prog_16_method_11_code 3 (some .int)] { frames := 1, cells := 0, slots := 0, locals := 60 } (va_Pc [.int i, .int n, fv] (mj_B G X am σ)) (ct_Q G am σ (some (.int i))) 0 0 (mj_A G) := by
  rcases hf with rfl | ⟨t, rfl⟩
  all_goals
    refine Met.ofW (cc := prog_16_method_11_code) (maxL := 3) (ret := some .int) (ws' := []) (by decide) rfl ?_
    intro p e s m args below meth c s₁ B hml hv
    obtain ⟨rfl, hTB, hK, hE, hbase, hSR, hR⟩ := hv
    have hx := B.exec
    have hb := B.bytes
    have hr := B.returns
    have hlocks := B.notSynchronized
    have hS : va_S (mj_A G) s.heap s.heap [] := va_S.rf
    rw [lg_entry_eq]
  · have hl := lv_entry ([.int i, .int n, .null]) (n := 3) (Nat.le_of_ble_eq_true rfl)
    generalize (lg_sl ([.int i, .int n, .null]) ++ List.replicate (3 - (lg_sl ([.int i, .int n, .null])).length) Slot.unset).toArray = ls at hl ⊢
    have hl : lv_has ls 3 [(0, .int i), (1, .int n), (2, .null)] := hl
    refine lv_iload_n hx hb (by decide +kernel : decode prog_16_method_11_code 0 = .ok (.iload_n 0, 1)) rfl (lv_at hl 0 rfl) ?_
    refine lv_if_lt hx hb (off := 8) (tgt := 9) (by decide +kernel) (by decide) (fun z => absurd z h0) (fun _ => ?_)
    refine lv_iload_n hx hb (by decide +kernel : decode prog_16_method_11_code 4 = .ok (.iload_n 0, 1)) rfl (lv_at hl 0 rfl) ?_
    refine lv_iload_n hx hb (by decide +kernel : decode prog_16_method_11_code 5 = .ok (.iload_n 1, 1)) rfl (lv_at hl 1 rfl) ?_
    refine lv_icmp_lt hx hb (off := 10) (tgt := 16) (by decide +kernel) (by decide) (fun _ => ?_) (fun z => absurd hn z)
    refine lv_iload_n hx hb (by decide +kernel : decode prog_16_method_11_code 16 = .ok (.iload_n 0, 1)) rfl (lv_at hl 0 rfl) ?_
    exact W.iret hx hb hr (ct_q hR hS) hS.2.2 (by decide +kernel) hlocks
  · have hl := lv_entry ([.int i, .int n, .ref t]) (n := 3) (Nat.le_of_ble_eq_true rfl)
    generalize (lg_sl ([.int i, .int n, .ref t]) ++ List.replicate (3 - (lg_sl ([.int i, .int n, .ref t])).length) Slot.unset).toArray = ls at hl ⊢
    have hl : lv_has ls 3 [(0, .int i), (1, .int n), (2, .ref t)] := hl
    refine lv_iload_n hx hb (by decide +kernel : decode prog_16_method_11_code 0 = .ok (.iload_n 0, 1)) rfl (lv_at hl 0 rfl) ?_
    refine lv_if_lt hx hb (off := 8) (tgt := 9) (by decide +kernel) (by decide) (fun z => absurd z h0) (fun _ => ?_)
    refine lv_iload_n hx hb (by decide +kernel : decode prog_16_method_11_code 4 = .ok (.iload_n 0, 1)) rfl (lv_at hl 0 rfl) ?_
    refine lv_iload_n hx hb (by decide +kernel : decode prog_16_method_11_code 5 = .ok (.iload_n 1, 1)) rfl (lv_at hl 1 rfl) ?_
    refine lv_icmp_lt hx hb (off := 10) (tgt := 16) (by decide +kernel) (by decide) (fun _ => ?_) (fun z => absurd hn z)
    refine lv_iload_n hx hb (by decide +kernel : decode prog_16_method_11_code 16 = .ok (.iload_n 0, 1)) rfl (lv_at hl 0 rfl) ?_
    exact W.iret hx hb hr (ct_q hR hS) hS.2.2 (by decide +kernel) hlocks
theorem ct_pay {s : State} (hTB : mj_TB s) {w0 : Cond} (h : w0 ∈ lw_tbl) (ho : mj_okw w0 = true) : ∀ w ∈ [w0], ∀ (a' : Array Value) (U : State), s.WarmedH U.vm → w.before a' U = true := by
  intro w hw a' U hW
  rw [List.mem_singleton.mp hw]
  exact mj_TB_warm hW hTB _ h ho a'
theorem ct_hQ {v : Option Value} {a : Array Value} : ∀ (w : Option Value) (st t : State), ct_Q G am σ v a st (.returned w) t → w = v ∧ (∃ am', (fun x => x = am) am' ∧ mj_Rep G am' σ t.heap) ∧ va_F (mj_A G) st t := fun w st t h => by
  obtain ⟨h1, h2, h3⟩ := h
  cases h1
  exact ⟨rfl, ⟨am, rfl, h2⟩, h3⟩
theorem ct_chk {i n : Int32} (h0 : ¬ i < 0) (hn : i < n) : Met l ct_yChk [Cond.code ct_yChk prog_11_method_155_code 2 none] { frames := 3, cells := 0, slots := 0, locals := 200 } (va_Pc [.int i, .int n] (mj_B G X am σ)) (ct_Q G am σ none) 0 0 (mj_A G) := by
  refine Met.ofW (cc := prog_11_method_155_code) (maxL := 2) (ret := none) (ws' := []) (by decide) rfl ?_
  intro p e s m args below meth c s₁ B hml hv
  obtain ⟨rfl, hTB, hK, hE, hbase, hSR, hR⟩ := hv
  have hx := B.exec
  have hb := B.bytes
  have hr := B.returns
  have hown : s.vm.findClass "java/lang/String" = some m.cls := findClass_of_methodNamed B.named
  have hlocks := B.notSynchronized
  have hS : va_S (mj_A G) s.heap s.heap [] := va_S.rf
  obtain ⟨hZ, hV, hq⟩ := id hE.2.2.2.2
  have hl := lv_entry ([.int i, .int n]) (n := 2) (Nat.le_of_ble_eq_true rfl)
  rw [lg_entry_eq]
  generalize (lg_sl ([.int i, .int n]) ++ List.replicate (2 - (lg_sl ([.int i, .int n])).length) Slot.unset).toArray = ls at hl ⊢
  have hl : lv_has ls 2 [(0, .int i), (1, .int n)] := hl
  have wc : Cond.code ct_yPre prog_16_method_11_code 3 (some .int) ∈ lw_tbl := mj_mt (by decide +kernel)
  obtain ⟨fv, hfv, hZf⟩ : ∃ fv : Value, (fv = .null ∨ ∃ t, fv = .ref t) ∧ va_Z "jdk/internal/util/Preconditions" "SIOOBE_FORMATTER" "Ljava/util/function/BiFunction;" fv (mj_A G) s s.heap := by
    rcases hq with z | ⟨t, z⟩
    · exact ⟨.null, Or.inl rfl, z⟩
    · exact ⟨.ref t, Or.inr ⟨t, rfl⟩, z⟩
  refine lv_iload_n hx hb (by decide +kernel : decode prog_11_method_155_code 0 = .ok (.iload_n 0, 1)) rfl (lv_at hl 0 rfl) ?_
  refine lv_iload_n hx hb (by decide +kernel : decode prog_11_method_155_code 1 = .ok (.iload_n 1, 1)) rfl (lv_at hl 1 rfl) ?_
  refine va_gets hx hb (own := "java/lang/String") (ref := "jdk/internal/util/Preconditions") (index := 1053) hZf hS hown (hTB _ (mj_mt (by decide +kernel)) rfl _) (fun x q => q) (by decide +kernel) ?_
  refine mj_run (σ' := σ) (v := some (.int i)) (Y := fun a => a = am) (va_runS (Ts := []) (own := "java/lang/String") (cc := prog_11_method_155_code) (nL := 2) (n := 3) (index := 1059) (bytes := prog_16_method_11_code) (maxL := 3) (ret := some .int) (As := [.int i, .int n, fv]) (rest := []) ⟨hx, hb, hml, hown, fun w h => absurd h List.not_mem_nil⟩ (ct_pre hfv h0 hn)
    ⟨⟨rfl, rfl, by show 1 + 1 ≤ 3; decide, by show 8 + (3 + 11) + 60 ≤ 200; decide, ct_pay hTB wc rfl, List.mem_singleton.mpr rfl, hTB _ wc rfl _, hTB _ (mj_mt (by decide +kernel)) rfl _, ⟨by decide, by decide⟩, fun sig hsig => by
      have hd : (parseMethodDescriptor ct_yPre.desc).map (fun d => d.parameters.length) = some 3 := by decide +kernel
      rw [hsig] at hd
      exact (Option.some.inj hd).symm, hTB _ (mj_mt (by decide +kernel)) rfl _⟩, hTB _ (mj_mt (by decide +kernel)) rfl _⟩ ⟨mj_B_blind, fun U hU hW => ⟨rfl, ct_B hTB hK hE hbase hSR hR hS U hU hW⟩⟩ rfl rfl hl.1 rfl (lv_room (by decide)) (by show decode prog_11_method_155_code 5 = .ok (.invokestatic 1059, 3); decide +kernel) ⟨Nat.zero_le _, Nat.zero_le _⟩) ct_hQ hS ?_
  rintro am' H1 locs1 rfl hR1 hS1
  refine lv_pop hx hb (va := .int i) (by decide +kernel) rfl ?_
  exact W.vret hx hb hr (ct_q hR1 hS1) hS1.2.2 (by decide +kernel) hlocks
end
