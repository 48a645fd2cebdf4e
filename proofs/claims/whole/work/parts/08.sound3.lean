theorem mj_uws {ci : Nat} {C : String} {T : u_T} {N : Nat} (h : mj_classes[ci]? = some (C, T, N)) : (∀ w ∈ u_ws C T N, w ∈ lw_tbl) ∧ (∃ ty0 : Nat → FieldType, ∀ k, k < N → parseFieldDescriptor (T k).2.2.1 = some (ty0 k)) ∧ ∀ a, a < N → ∀ b, b < N → a ≠ b → (T a).2.1 ≠ (T b).2.1 := by
  match ci, h with
  | 0, h => cases h; exact ⟨fun w hw => mj_mt (mi0 w hw), ⟨_, mtk0⟩, mn0⟩
  | 1, h => cases h; exact ⟨fun w hw => mj_mt (mi1 w hw), ⟨_, mtk1⟩, mn1⟩
  | 2, h => cases h; exact ⟨fun w hw => mj_mt (mi2 w hw), ⟨_, mtk2⟩, mn2⟩
  | 3, h => cases h; exact ⟨fun w hw => mj_mt (mi3 w hw), ⟨_, mtk3⟩, mn3⟩
  | 4, h => cases h; exact ⟨fun w hw => mj_mt (mi4 w hw), ⟨_, mtk4⟩, mn4⟩
  | 5, h => cases h; exact ⟨fun w hw => mj_mt (mi5 w hw), ⟨_, mtk5⟩, mn5⟩
  | 6, h => cases h; exact ⟨fun w hw => mj_mt (mi6 w hw), ⟨_, mtk6⟩, mn6⟩
  | k + 7, h => cases h
theorem mj_lay_ok {C : String} {T : u_T} {N : Nat} : ∀ w ∈ u_ws C T N, mj_okw w = true := by
  intro w hw
  unfold u_ws at hw
  obtain ⟨k, -, rfl⟩ := List.mem_map.mp hw
  unfold u_lay
  split <;> rfl
theorem mj_TB.uws {U : State} {a : Array Value} {ci : Nat} {C : String} {T : u_T} {N : Nat} (hT : mj_TB U) (h : mj_classes[ci]? = some (C, T, N)) : ∀ w ∈ u_ws C T N, w.before a U = true :=
  fun w hw => hT w ((mj_uws h).1 w hw) (mj_lay_ok w hw) a
section MJ
variable {p : Program} {l : Launch} {e : Env} {R : Room} {s : State} {m : MethodId} {args : Array Value} {below : List Frame} {meth : Method} {c : Code} {Q : State → Prop}
variable {G : mj_G} {X : mj_X} {oc nL F : Nat} {Z : Nat × Nat} {cc : ByteArray}
variable {pc : Nat} {lo st : List Value} {σ : mj_St} {c' : mj_Cf}
theorem mj_getv_spec {a ci k : Nat} {v : Value} (h : mj_getv σ a ci k = some v) : ∃ fl code, mj_shp a = (0, ci, fl) ∧ fl[k]? = some code ∧ ∀ am, mj_cv G am v = mj_fv G am σ a k code := by
  unfold mj_getv at h
  split at h
  · rename_i ci' fl hs
    split at h
    · rename_i hci
      subst hci
      split at h
      · rename_i hk; cases h; exact ⟨fl, 0, hs, hk, fun am => rfl⟩
      · rename_i hk; cases h; exact ⟨fl, 3, hs, hk, fun am => rfl⟩
      · rename_i hk
        split at h
        · rename_i hmk
          cases h
          exact ⟨fl, 1, hs, hk, fun am => by
            show _ = va_rf ((σ.2.2.1 a k).map G.2.1)
            cases hv : σ.2.2.1 a k with
            | none => rfl
            | some w =>
              rw [hv] at hmk
              have hw : w ≠ 999 := by
                have : (w != 999) = true := hmk
                simpa using this
              show Value.ref (mj_adr G am w) = Value.ref (G.2.1 w)
              rw [mj_adr, if_neg hw]⟩
        · cases h
      · rename_i hk; cases h; exact ⟨fl, 2, hs, hk, fun am => rfl⟩
      · rename_i j hk
        split at h
        · rename_i hj
          cases h
          refine ⟨fl, j + 4, hs, hk, fun am => ?_⟩
          show Value.ref (mj_adr G am j) = Value.ref (G.2.1 (j + 4 - 4))
          rw [mj_adr, if_neg (by omega), Nat.add_sub_cancel]
        · cases h
      · cases h
    · cases h
  · cases h
theorem mj_s_get (fx : mj_FX G X oc cc nL p s m c) {idx : Nat} (hdg : decode cc pc = .ok (.getfield idx, 3)) (h : mj_get oc idx pc lo st σ = some (.inl c'))
    (kk : mj_At G nL F Z p l e R s m args below meth c Q c') : mj_At G nL F Z p l e R s m args below meth c Q (pc, lo, st, σ) := by
  obtain ⟨hx, hb, hml, hown, hTB, hK, hE, hbase, hSR⟩ := fx
  unfold mj_get at h
  split at h
  · rename_i a r
    split at h
    · rename_i ci k hf
      split at h
      · rename_i v hv
        cases mj_nx_inv h
        refine mj_pure kk (fun am H locs cells slots ls hR hS hL kw => ?_)
        obtain ⟨fl, code, hs, hk, hcv⟩ := mj_getv_spec (G := G) hv
        obtain ⟨C, T, N, hcl, hkN, hTk, hlink⟩ := mj_fld_spec hf
        have hlt : a < mj_NC := mj_shp_lt (by rw [hs]; show (0 : Nat) ≠ 9; decide)
        have hc := mj_cell_at (σ := σ) (am := am) (G := G) (z := .inr (ci, fl.mapIdx (fun j code => mj_fv G am σ a j code))) hlt (by simp [mj_cell, hs])
        have hv' : (fl.mapIdx (fun j code => mj_fv G am σ a j code))[k]? = some (mj_cv G am v) := by
          rw [List.getElem?_mapIdx, hk, hcv am]
          rfl
        rcases hlink with hl | ⟨host, hl⟩
        · exact va_get (Ts := u_ws C T N) hx hb (hTB.uws hcl) (fun w q => q) hown hK hR.1 a hc hcl k hkN (hTB _ hl rfl _) (fun x q => by rw [← hTk]; exact q) hv' hdg kw
        · exact va_getN (Ts := u_ws C T N) hx hb (hTB.uws hcl) (fun w q => q) hown hK hR.1 a hc hcl k hkN (hTB _ hl rfl _) (fun x q => by rw [← hTk]; exact q) hv' hdg kw
      · cases h
    · cases h
  · cases h
theorem mj_putv_spec {a ci k : Nat} {v : Value} {σ' : mj_St} (h : mj_putv σ a ci k v = some σ') : ∃ fl code, mj_shp a = (0, ci, fl) ∧ fl[k]? = some code ∧ σ'.2.2.2 = σ.2.2.2 ∧ σ'.2.1 = σ.2.1 ∧
    (∀ am, mj_cv G am v = mj_fv G am σ' a k code) ∧ (∀ am j code', j ≠ k → mj_fv G am σ' a j code' = mj_fv G am σ a j code') ∧ (∀ am c', c' ≠ a → mj_cell G am σ' c' = mj_cell G am σ c') ∧
    ((code = 0 ∧ ∃ x, v = .int x) ∨ (code = 3 ∧ (v = .int 0 ∨ v = .int 1)) ∨ (code = 1 ∧ (v = .null ∨ ∃ j, v = .ref j))) := by
  unfold mj_putv at h
  split at h
  · rename_i ci' fl hs
    split at h
    · rename_i hci
      subst hci
      split at h
      · rename_i hk
        split at h
        · rename_i x
          cases h
          refine ⟨fl, 0, hs, hk, rfl, rfl, fun am => ?_, fun am j code' hj => ?_, fun am => mj_setI_o G am σ a k x, Or.inl ⟨rfl, x, rfl⟩⟩
          · simp [mj_cv, mj_fv, mj_setI]
          · unfold mj_fv
            split <;> simp [mj_setI, hj]
        · cases h
      · rename_i hk
        split at h
        · rename_i x
          split at h
          · rename_i hx
            cases h
            refine ⟨fl, 3, hs, hk, rfl, rfl, fun am => ?_, fun am j code' hj => ?_, fun am => mj_setI_o G am σ a k x, Or.inr (Or.inl ⟨rfl, by rcases hx with rfl | rfl <;> simp⟩)⟩
            · simp [mj_cv, mj_fv, mj_setI]
            · unfold mj_fv
              split <;> simp [mj_setI, hj]
          · cases h
        · cases h
      · rename_i hk
        split at h
        · rename_i j
          split at h
          · cases h
          · rename_i hj9
            cases h
            refine ⟨fl, 1, hs, hk, rfl, rfl, fun am => ?_, fun am j code' hj => ?_, fun am => mj_setR_o G am σ a k _, Or.inr (Or.inr ⟨rfl, Or.inr ⟨j, rfl⟩⟩)⟩
            · have hj9' : ¬ j = 999 := hj9
              simp [mj_cv, mj_fv, mj_setR, va_rf, mj_adr, hj9']
            · unfold mj_fv
              split <;> simp [mj_setR, hj]
        · cases h
          refine ⟨fl, 1, hs, hk, rfl, rfl, fun am => ?_, fun am j code' hj => ?_, fun am => mj_setR_o G am σ a k _, Or.inr (Or.inr ⟨rfl, Or.inl rfl⟩)⟩
          · simp [mj_cv, mj_fv, mj_setR, va_rf]
          · unfold mj_fv
            split <;> simp [mj_setR, hj]
        · cases h
      · cases h
    · cases h
  · cases h
theorem mj_s_put (fx : mj_FX G X oc cc nL p s m c) {idx : Nat} (hdg : decode cc pc = .ok (.putfield idx, 3)) (h : mj_put oc idx pc lo st σ = some (.inl c'))
    (kk : mj_At G nL F Z p l e R s m args below meth c Q c') : mj_At G nL F Z p l e R s m args below meth c Q (pc, lo, st, σ) := by
  obtain ⟨hx, hb, hml, hown, hTB, hK, hE, hbase, hSR⟩ := fx
  unfold mj_put at h
  split at h
  · rename_i v a r
    split at h
    · rename_i ci k hf
      split at h
      · rename_i σ' hv
        cases mj_nx_inv h
        obtain ⟨fl, code, hs, hk, hu, hL2, hcv, ho, hoc, hcode⟩ := mj_putv_spec (G := G) hv
        refine mj_chg kk (by rw [hu]) (fun am H locs cells slots ls hR hS hL kw => ?_)
        obtain ⟨C, T, N, hcl, hkN, hTk, hlink⟩ := mj_fld_spec hf
        obtain ⟨C', T', N', hcl', hlen, hcc⟩ := mj_shp_spec hs
        rw [hcl] at hcl'
        cases hcl'
        obtain ⟨-, ⟨ty0, hty⟩, hnm⟩ := mj_uws hcl
        have hlt : a < mj_NC := mj_shp_lt (by rw [hs]; show (0 : Nat) ≠ 9; decide)
        have hc := mj_cell_at (σ := σ) (am := am) (G := G) (z := .inr (ci, fl.mapIdx (fun j code => mj_fv G am σ a j code))) hlt (by simp [mj_cell, hs])
        have hobj := mj_cell_obj G am σ σ' hs hk (fun j code' hj => ho am j code' hj)
        rw [← hcv am] at hobj
        have hmk : mj_mk G am σ' = mj_mk G am σ := by
          unfold mj_mk
          rw [hu, hL2]
        have hset := mj_ws_set G am σ σ' hlt (hoc am) hmk hobj
        rw [← mj_adr_lt (G := G) (am := am) hlt] at hset
        have hcd := hcc k code hk
        have hkl : k < (fl.mapIdx (fun j code => mj_fv G am σ a j code)).length := by
          rw [List.length_mapIdx]
          exact (List.getElem?_eq_some_iff.mp hk).1
        have hfin : (T k).2.2.2 = false ∧ ∃ ty, parseFieldDescriptor (T k).2.2.1 = some ty ∧ narrow ty (mj_cv G am v) = mj_cv G am v ∧ fits ty (mj_cv G am v) = true := by
          rcases hcode with ⟨rfl, x, rfl⟩ | ⟨rfl, hx01⟩ | ⟨rfl, hvr⟩
          · simp only [mj_codeC, Bool.and_eq_true, decide_eq_true_eq, Bool.not_eq_true'] at hcd
            refine ⟨hcd.2, .int, ?_, rfl, rfl⟩
            rw [hcd.1]
            decide +kernel
          · simp only [mj_codeC, Bool.and_eq_true, decide_eq_true_eq, Bool.not_eq_true'] at hcd
            refine ⟨hcd.2, .boolean, ?_, ?_, ?_⟩
            · rw [hcd.1]
              decide +kernel
            · rcases hx01 with rfl | rfl <;> rfl
            · rcases hx01 with rfl | rfl <;> rfl
          · simp only [mj_codeC, Bool.and_eq_true, decide_eq_true_eq, Bool.not_eq_true'] at hcd
            refine ⟨hcd.2, ?_⟩
            rcases hcd.1 with hd | hd
            · refine ⟨.object "KeptPromises$Deal", ?_, ?_, ?_⟩
              · rw [hd]
                decide +kernel
              · rcases hvr with rfl | ⟨j, rfl⟩ <;> rfl
              · rcases hvr with rfl | ⟨j, rfl⟩ <;> rfl
            · refine ⟨.array .long, ?_, ?_, ?_⟩
              · rw [hd]
                decide +kernel
              · rcases hvr with rfl | ⟨j, rfl⟩ <;> rfl
              · rcases hvr with rfl | ⟨j, rfl⟩ <;> rfl
        obtain ⟨hfin, ty, hpd, hnar, hfit⟩ := hfin
        rcases hlink with hl | ⟨host, hl⟩
        · exact va_put (Ts := u_ws C T N) hx hb (hTB.uws hcl) (fun w q => q) ty0 hty hnm hown hK hR.1 hR.2 hS a hc hcl k hkN (hTB _ hl rfl _) (fun x q => by rw [← hTk]; exact q) hfin hpd hnar hfit hkl hdg
            (fun H1 locs1 hP1 hD1 hS1 => kw H1 locs1 ⟨hset ▸ hP1, hset ▸ hD1⟩ hS1)
        · exact va_putN (Ts := u_ws C T N) hx hb (hTB.uws hcl) (fun w q => q) ty0 hty hnm hown hK hR.1 hR.2 hS a hc hcl k hkN (hTB _ hl rfl _) (fun x q => by rw [← hTk]; exact q) hfin hpd hnar hfit hkl hdg
            (fun H1 locs1 hP1 hD1 hS1 => kw H1 locs1 ⟨hset ▸ hP1, hset ▸ hD1⟩ hS1)
      · cases h
    · cases h
  · cases h
theorem mj_s_tsw {dflt lo0 hi0 : Int} {offs : Array Int} {n : Nat} (hx : p.tables.exec = Jvm.exec) (hb : c.code = cc) (hdg : decode cc pc = .ok (.tableswitch dflt lo0 hi0 offs, n)) (h : mj_tsw dflt lo0 hi0 offs pc lo st σ = some (.inl c'))
    (kk : mj_At G nL F Z p l e R s m args below meth c Q c') : mj_At G nL F Z p l e R s m args below meth c Q (pc, lo, st, σ) := by
  unfold mj_tsw at h
  split at h
  · rename_i x r
    split at h
    · rename_i hout
      exact mj_s_jmp h (fun ht k => lv_tableOut hx hb hdg hout ht k) kk
    · rename_i hin
      split at h
      · rename_i off ho
        exact mj_s_jmp h (fun ht k => lv_tableIn hx hb hdg (fun q => hin (Or.inl q)) (fun q => hin (Or.inr q)) ho ht k) kk
      · cases h
  · cases h
theorem mj_s_lsw {dflt : Int} {ps : Array (Int × Int)} {n : Nat} (hx : p.tables.exec = Jvm.exec) (hb : c.code = cc) (hdg : decode cc pc = .ok (.lookupswitch dflt ps, n)) (h : mj_lsw dflt ps pc lo st σ = some (.inl c'))
    (kk : mj_At G nL F Z p l e R s m args below meth c Q c') : mj_At G nL F Z p l e R s m args below meth c Q (pc, lo, st, σ) := by
  unfold mj_lsw at h
  split at h
  · rename_i x r
    split at h
    · rename_i hp
      exact mj_s_jmp h (fun ht k => lv_lookup hx hb hdg hp rfl ht k) kk
    · cases h
  · cases h
theorem mj_sta_w {idx k : Nat} (h : mj_sta oc idx = some k) : oc = 3 ∧ ((idx = 173 ∧ k = 1001) ∨ (idx = 245 ∧ k = 1002)) := by
  unfold mj_sta at h
  split at h
  · rename_i ho
    split at h
    · rename_i hi; cases h; exact ⟨ho, Or.inl ⟨hi, rfl⟩⟩
    · split at h
      · rename_i hi; cases h; exact ⟨ho, Or.inr ⟨hi, rfl⟩⟩
      · cases h
  · cases h
theorem mj_w173 : Cond.fieldLink (mj_own 3) 173 "KeptPromises$Search" "SETS" "[I" ∈ lw_tbl := mj_mt (by decide +kernel)
theorem mj_w245 : Cond.fieldLink (mj_own 3) 245 "KeptPromises$Search" "TAKES" "[I" ∈ lw_tbl := mj_mt (by decide +kernel)
theorem mj_s_sta (fx : mj_FX G X oc cc nL p s m c) {idx k : Nat} (hdg : decode cc pc = .ok (.getstatic idx, 3)) (hst : mj_sta oc idx = some k)
    (kk : mj_At G nL F Z p l e R s m args below meth c Q (pc + 3, lo, .ref k :: st, σ)) : mj_At G nL F Z p l e R s m args below meth c Q (pc, lo, st, σ) := by
  obtain ⟨hx, hb, hml, hown, hTB, hK, hE, hbase, hSR⟩ := fx
  refine mj_pure kk (fun am H locs cells slots ls hR hS hL kw => ?_)
  obtain ⟨rfl, hh⟩ := mj_sta_w hst
  rcases hh with ⟨rfl, rfl⟩ | ⟨rfl, rfl⟩
  · exact va_gets hx hb hE.2.1 hS hown (hTB _ mj_w173 rfl _) (fun x q => q) hdg kw
  · exact va_gets hx hb hE.2.2.1 hS hown (hTB _ mj_w245 rfl _) (fun x q => q) hdg kw
end MJ
