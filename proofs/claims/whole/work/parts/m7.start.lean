section
set_option maxHeartbeats 8000000 in
set_option maxRecDepth 200000 in
/-- YOUR PART: from the entry, for every script of at most 3072 ints, the law comes to its end with true ('hflags': the launch's flags, for a law that throws: no stack traces) -/
theorem whole_start {p : Program} {e : Env} {s : State} {m : MethodId} {below : List Frame} {meth : Method} {c : Code} (l : Launch) (hflags : l.flags = flags0) {b L : Nat} {xs : Nat → Int32} (hL : L ≤ 3072) (C0 : lw_At p s m meth c b L xs) : W p l e room_1 s m #[Value.ref b] below meth c s.heap [] 0 0 (lw_Z below #[Value.ref b] s) (entryFrame m ([Value.ref b] : List Value).toArray 4) := by
  obtain ⟨hx, hb, hr, hml, hown, hts, hX, hbl, hlocks, hgv⟩ := C0
  have hTB := lw_TB hts
  have hO : (Cond.arrayOver (.array .long)).before #[] s = true := over_moved (Vm.Alike.refl s.vm) (hts _ (mj_mt (by decide +kernel)))
  obtain ⟨D, cI, cZ, cJ, hK⟩ := lw_K0 hts
  have hA0 : ∀ a : Nat, a < s.heap.size → ¬ s.heap.size ≤ a := fun a h => Nat.not_le.mpr h
  have hS : va_S (fun q => s.heap.size ≤ q) s.heap s.heap [] := va_S.rf
  have hP : va_P D mj_classes [] s.heap := fun k q hk => by simp at hk
  have hD : va_D (fun q => s.heap.size ≤ q) [] := ⟨fun i j p q hi => by simp at hi, fun k q hk => by simp at hk⟩
  have hA : ∀ q : Nat, s.heap.size ≤ q → s.heap.size ≤ q := fun q h => h
  have hl := lv_entry ([.ref b]) (n := 4) (Nat.le_of_ble_eq_true rfl)
  rw [lg_entry_eq]
  generalize (lg_sl ([.ref b]) ++ List.replicate (4 - (lg_sl ([.ref b])).length) Slot.unset).toArray = ls at hl ⊢
  have hl : lv_has ls 4 [(0, .ref b)] := hl
  refine va_new (index := 7) (ci := 5) (fs := [.null, .null, .null, .null, .null, .null, .null, .null, .null, .null, .null, .int 0, .int 0, .int 0]) (C := mr5) (T := mT5) (N := 14) (Ts := u_ws mr5 mT5 14) hx hb (hTB.uws (ci := 5) rfl) (fun w q => q) mty5 mtk5 hown (hts (.classLink R_law 7 mr5) (mj_mt (by decide +kernel))) (hts (.instantiable mr5 14) (mj_mt (by decide +kernel))) (hts (.initialized mr5) (mj_mt (by decide +kernel))) hK hP hD hS hA rfl (by decide +kernel) (show 0 + 1 ≤ 600000 by decide) (show 0 + 14 ≤ 7302250 by decide) (by show decode code 0 = .ok (.new 7, 3); decide +kernel) (fun q1 H hP hD hS => ?_)
  have hP : va_P D mj_classes [(q1, .inr (5, [.null, .null, .null, .null, .null, .null, .null, .null, .null, .null, .null, .int 0, .int 0, .int 0]))] H := hP
  have hD : va_D (fun q => s.heap.size ≤ q) [(q1, .inr (5, [.null, .null, .null, .null, .null, .null, .null, .null, .null, .null, .null, .int 0, .int 0, .int 0]))] := hD
  refine W.widen (k := 1) (n := 14) (by decide) (by decide) ?_
  refine lv_dup hx hb (by show decode code 3 = .ok (.dup, 1); decide +kernel) rfl ?_
  have hFc := va_free (wc := [(q1, .inr (5, [.null, .null, .null, .null, .null, .null, .null, .null, .null, .null, .null, .int 0, .int 0, .int 0]))]) hD hS hA [0] rfl
  refine va_callv (va_runI (Ts := []) (own := R_law) (cc := code) (nL := 4) (n := 0) (index := 9) (bytes := prog_1_method_1_code) (maxL := 1) (As := []) (rest := [.ref q1]) ⟨hx, hb, hml, hown, fun w h => absurd h List.not_mem_nil⟩ (cs_KP l D cI cZ cJ q1 H.size) (cs_CI hTB (mj_mt (by decide +kernel)) (mj_mt (by decide +kernel)) (mj_mt (by decide +kernel)) (mj_mt (by decide +kernel)) ⟨rfl, rfl⟩ (by decide) (by decide) (by decide)) ⟨cs_B_blind, fun U hU hW => ⟨rfl, cs_Bof hP hK (hD.weaken (fun _ _ _ _ => trivial)) hTB hO U hU hW⟩⟩ rfl rfl hl.1 rfl (lv_room (Nat.le_of_ble_eq_true rfl)) (by show decode code 4 = .ok (.invokespecial 9, 3); decide +kernel) ⟨(by decide), (by decide)⟩) hS (fun q _ h => hFc q h) hFc (fun u t H1 locs ht hvm _ hB hz1 hk1 hS => ?_)
  obtain ⟨r1, cQ, hP1, hD1, hKQ⟩ := hB
  rw [ht] at hP1
  have hKQ := va_K.moved hvm.symm (hKQ rfl)
  obtain ⟨hP, hD⟩ := va_join (wr := []) (w1 := cs_WKP cI cZ cJ q1 r1 cQ) hP hD [0] [] rfl rfl (by decide) (by decide) hk1 hFc hP1 hD1
  generalize H1 = H at hP hS ⊢
  have hP : va_P D mj_classes (cs_WKP cI cZ cJ q1 r1 cQ) H := hP
  have hD : va_D (fun q => s.heap.size ≤ q) (cs_WKP cI cZ cJ q1 r1 cQ) := hD
  refine W.widen (k := 62) (n := 1687) (by decide) (by decide) ?_
  refine lv_astore_n hx hb (by show decode code 7 = .ok (.astore_n 1, 1); decide +kernel) rfl hl (by decide) rfl (fun ls1 hl1 => ?_)
  have hl1 : lv_has ls1 4 [(1, .ref q1), (0, .ref b)] := hl1
  refine W.eq (g2 := F0 m 8 ls1 []) rfl ?_
  refine va_new (index := 10) (ci := 6) (fs := [.int 0, .int 0, .int 0, .int 0, .null, .null, .null, .null, .null, .null, .null, .null, .null, .null, .null, .null, .null, .null, .null, .null, .null, .null, .null, .null, .null, .null, .int 0, .int 0, .int 0, .int 0, .int 0, .int 0, .int 0, .int 0, .int 0, .int 0, .int 0, .int 0, .int 0, .int 0, .int 0, .int 0, .int 0, .int 0, .null, .null, .int 0, .int 0, .null, .null, .null, .int 0, .int 0, .int 0, .int 0, .int 0, .int 0, .int 0, .null, .int 0, .int 0, .int 0, .int 0, .null]) (C := mr6) (T := mT6) (N := 64) (Ts := u_ws mr6 mT6 64) hx hb (hTB.uws (ci := 6) rfl) (fun w q => q) mty6 mtk6 hown (hts (.classLink R_law 10 mr6) (mj_mt (by decide +kernel))) (hts (.instantiable mr6 64) (mj_mt (by decide +kernel))) (hts (.initialized mr6) (mj_mt (by decide +kernel))) hK hP hD hS hA rfl (by decide +kernel) (show 62 + 1 ≤ 600000 by decide) (show 1687 + 64 ≤ 7302250 by decide) (by show decode code 8 = .ok (.new 10, 3); decide +kernel) (fun q2 H hP hD hS => ?_)
  refine W.widen (k := 63) (n := 1751) (by decide) (by decide) ?_
  refine lv_dup hx hb (by show decode code 11 = .ok (.dup, 1); decide +kernel) rfl ?_
  have hPc := hP.sub (ws' := [(q2, .inr (6, [.int 0, .int 0, .int 0, .int 0, .null, .null, .null, .null, .null, .null, .null, .null, .null, .null, .null, .null, .null, .null, .null, .null, .null, .null, .null, .null, .null, .null, .int 0, .int 0, .int 0, .int 0, .int 0, .int 0, .int 0, .int 0, .int 0, .int 0, .int 0, .int 0, .int 0, .int 0, .int 0, .int 0, .int 0, .int 0, .null, .null, .int 0, .int 0, .null, .null, .null, .int 0, .int 0, .int 0, .int 0, .int 0, .int 0, .int 0, .null, .int 0, .int 0, .int 0, .int 0, .null]))]) [62] rfl
  have hDc := hD.sub (ws' := [(q2, .inr (6, [.int 0, .int 0, .int 0, .int 0, .null, .null, .null, .null, .null, .null, .null, .null, .null, .null, .null, .null, .null, .null, .null, .null, .null, .null, .null, .null, .null, .null, .int 0, .int 0, .int 0, .int 0, .int 0, .int 0, .int 0, .int 0, .int 0, .int 0, .int 0, .int 0, .int 0, .int 0, .int 0, .int 0, .int 0, .int 0, .null, .null, .int 0, .int 0, .null, .null, .null, .int 0, .int 0, .int 0, .int 0, .int 0, .int 0, .int 0, .null, .int 0, .int 0, .int 0, .int 0, .null]))]) [62] (by decide) rfl
  have hFc := va_free (wc := [(q2, .inr (6, [.int 0, .int 0, .int 0, .int 0, .null, .null, .null, .null, .null, .null, .null, .null, .null, .null, .null, .null, .null, .null, .null, .null, .null, .null, .null, .null, .null, .null, .int 0, .int 0, .int 0, .int 0, .int 0, .int 0, .int 0, .int 0, .int 0, .int 0, .int 0, .int 0, .int 0, .int 0, .int 0, .int 0, .int 0, .int 0, .null, .null, .int 0, .int 0, .null, .null, .null, .int 0, .int 0, .int 0, .int 0, .int 0, .int 0, .int 0, .null, .int 0, .int 0, .int 0, .int 0, .null]))]) hD hS hA [62] rfl
  refine va_callv (va_runI (Ts := []) (own := R_law) (cc := code) (nL := 4) (n := 0) (index := 12) (bytes := prog_8_method_1_code) (maxL := 2) (As := []) (rest := [.ref q2]) ⟨hx, hb, hml, hown, fun w h => absurd h List.not_mem_nil⟩ (cs_Model l D cI cZ cJ q2 H.size) (cs_CI hTB (mj_mt (by decide +kernel)) (mj_mt (by decide +kernel)) (mj_mt (by decide +kernel)) (mj_mt (by decide +kernel)) ⟨rfl, rfl⟩ (by decide) (by decide) (by decide)) ⟨cs_B_blind, fun U hU hW => ⟨rfl, cs_Bof hPc hK (hDc.weaken (fun _ _ _ _ => trivial)) hTB hO U hU hW⟩⟩ rfl rfl hl1.1 rfl (lv_room (Nat.le_of_ble_eq_true rfl)) (by show decode code 12 = .ok (.invokespecial 12, 3); decide +kernel) ⟨(by decide), (by decide)⟩) hS (fun q _ h => hFc q h) hFc (fun u t H1 locs ht hvm _ hB hz1 hk1 hS => ?_)
  obtain ⟨r2, cQ2, hP1, hD1, -⟩ := hB
  rw [ht] at hP1
  obtain ⟨hP, hD⟩ := va_join (wr := cs_WKP cI cZ cJ q1 r1 cQ) (w1 := cs_WModel cI cZ cJ q2 r2 cQ2) hP hD [62] (List.range 62) rfl rfl (by decide) (by decide) hk1 hFc hP1 hD1
  generalize H1 = H at hP hS ⊢
  refine W.widen (k := 92) (n := 51793) (by decide) (by decide) ?_
  refine lv_astore_n hx hb (by show decode code 15 = .ok (.astore_n 2, 1); decide +kernel) rfl hl1 (by decide) rfl (fun ls2 hl2 => ?_)
  have hl2 : lv_has ls2 4 [(2, .ref q2), (1, .ref q1), (0, .ref b)] := hl2
  refine lv_iconst (v := 0) hx hb (by show decode code 16 = .ok (.iconst 0, 1); decide +kernel) (by decide) ?_
  refine lv_istore_n hx hb (by show decode code 17 = .ok (.istore_n 3, 1); decide +kernel) rfl hl2 (by decide) rfl (fun ls3 hl3 => ?_)
  have hl3 : lv_has ls3 4 [(3, .int 0), (2, .ref q2), (1, .ref q1), (0, .ref b)] := hl3
  refine W.eq (g2 := F0 m 18 ls3 []) rfl ?_
  obtain ⟨t1, hs1, ht1⟩ := lw_sets (A := fun q => s.heap.size ≤ q) hgv hts hA0
  obtain ⟨t2, hs2, ht2⟩ := lw_takes (A := fun q => s.heap.size ≤ q) hgv hts hA0
  obtain ⟨adK, adV, hV, hev⟩ := lw_texts (A := fun q => s.heap.size ≤ q) hgv hA0
  have hRep := lw_Rep (b := b) (t1 := t1) (t2 := t2) (adK := adK) (adV := adV) hP hD
  have fx : mj_FX (D, lw_adr q1 q2 r1 r2 b t1 t2 adK adV, (fun k => match k with | 0 => cI | 1 => cZ | 2 => cJ | _ => cQ), s.heap.size) (lw_X L xs) 7 code 4 p s m c := ⟨hx, hb, hml, hown, hTB, hK.app hKQ, lw_Ext hL hX hbl hA0 rfl rfl rfl (fun j hj => lw_adrK hj) (fun j => lw_adrV) hs1 ht1 hs2 ht2 (lw_compact hgv hts hA0) (lw_sioobe hgv hts hA0) hV, Nat.le_refl _, lw_SR hts (fun j hj => lw_adrK hj) hev⟩
  exact lw_head fx ct_str lw_XS lw_X0 hL hr hlocks rfl hRep hS ⟨by decide, lv_sub hl3 [3, 2, 1, 0] rfl⟩ (by decide) (by decide)
end
