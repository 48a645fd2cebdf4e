theorem mj_wmin : Cond.static Lib.Math.min.name ∈ lw_tbl ∧ Cond.static Lib.Math.max.name ∈ lw_tbl ∧ Cond.initialized "java/lang/Math" ∈ lw_tbl ∧ Cond.native arraycopyName ∈ lw_tbl ∧ Cond.static arraycopyName ∈ lw_tbl ∧ Cond.initialized "java/lang/System" ∈ lw_tbl :=
  ⟨mj_mt (by decide +kernel), mj_mt (by decide +kernel), mj_mt (by decide +kernel), mj_mt (by decide +kernel), mj_mt (by decide +kernel), mj_mt (by decide +kernel)⟩
theorem mj_wminc : Cond.code Lib.Math.min.name Lib.Math.min.code 2 (some .int) ∈ lw_tbl := mj_mt (by decide +kernel)
theorem mj_wmaxc : Cond.code Lib.Math.max.name Lib.Math.max.code 2 (some .int) ∈ lw_tbl := mj_mt (by decide +kernel)
section MJ
variable {p : Program} {l : Launch} {e : Env} {R : Room} {s : State} {m : MethodId} {args : Array Value} {below : List Frame} {meth : Method} {c : Code} {Q : State → Prop}
variable {G : mj_G} {X : mj_X} {oc nL F : Nat} {Z : Nat × Nat} {cc : ByteArray}
variable {pc : Nat} {lo st : List Value} {σ : mj_St} {c' : mj_Cf}
theorem mj_cell_cpyI {am a b t0 n0 t1 n1 sp dp n : Nat} {f0 f1 : List Nat} (h1 : mj_shp b = (1, n1, f1)) : (Sum.inl (G.2.2.1 0, n1, .inl (va_cpy (σ.1 a) (σ.1 b) sp dp n)) : va_E) = mj_cell G am (mj_cpyI σ a b sp dp n) b := by
  simp [mj_cell, h1, mj_cpyI]
theorem mj_cell_cpyL {am a b n1 sp dp n : Nat} {f1 : List Nat} (h1 : mj_shp b = (3, n1, f1)) : (Sum.inl (G.2.2.1 2, n1, .inr (.inl (va_cpy (σ.2.1 a) (σ.2.1 b) sp dp n))) : va_E) = mj_cell G am (mj_cpyL σ a b sp dp n) b := by
  simp [mj_cell, h1, mj_cpyL]
set_option maxRecDepth 100000 in
theorem mj_s_nat (fx : mj_FX G X oc cc nL p s m c) {d : Nat} (hRf : d + 21 ≤ R.frames) (hRl : 64 * (d + 1) + 2000 ≤ R.locals) {idx mid : Nat} (hcal : mj_cal oc idx = some mid) (hm : 1000 ≤ mid) (hdg : decode cc pc = .ok (.invokestatic idx, 3))
    (h : mj_nat mid pc lo st σ = some (.inl c')) (kk : mj_At G nL F Z p l e R s m args below meth c Q c') : mj_At G nL F Z p l e R s m args below meth c Q (pc, lo, st, σ) := by
  obtain ⟨hx, hb, hml, hown, hTB, hK, hE, hbase, hSR⟩ := fx
  obtain ⟨w1, w2, w3, w4, w5, w6⟩ := mj_wmin
  have hlink := mj_cal_nat hcal hm
  have hfr : 1 ≤ R.frames := by omega
  unfold mj_nat at h
  split at h
  · rename_i hmid
    subst hmid
    split at h
    · rename_i y x r
      split at h
      · rename_i hr
        cases mj_nx_inv h
        refine ⟨kk.1, fun am H locs cells slots ls hZ hR hS hL h1 h2 => ?_⟩
        have hcat := mj_cat_map G am r hr
        simp only at h1 h2
        exact va_mmin hx hb (hml.trans hL.2.1.symm) hown (hTB _ hlink rfl _) (hTB _ w1 rfl _) (hTB _ w3 rfl _) (hTB _ mj_wminc rfl _) hfr (by omega) (by omega) (by omega) hdg (kk.2 am H locs cells slots ls hZ hR hS hL h1 h2)
      · cases h
    · cases h
  · split at h
    · rename_i hmid
      subst hmid
      split at h
      · rename_i y x r
        split at h
        · rename_i hr
          cases mj_nx_inv h
          refine ⟨kk.1, fun am H locs cells slots ls hZ hR hS hL h1 h2 => ?_⟩
          have hcat := mj_cat_map G am r hr
          simp only at h1 h2
          exact va_mmax hx hb (hml.trans hL.2.1.symm) hown (hTB _ hlink rfl _) (hTB _ w2 rfl _) (hTB _ w3 rfl _) (hTB _ mj_wmaxc rfl _) hfr (by omega) (by omega) (by omega) hdg (kk.2 am H locs cells slots ls hZ hR hS hL h1 h2)
        · cases h
      · cases h
    · split at h
      · rename_i hmid
        subst hmid
        split at h
        · rename_i n dp b sp a r
          split at h
          · rename_i hr
            obtain ⟨hr, hsp, hdp, hn⟩ := hr
            have hnf : nativeFrameWords "java/lang/System" "arraycopy" 5 + 11 ≤ 40 := by decide +kernel
            split at h
            · rename_i n0 f0 n1 f1 hs0 hs1
              split at h
              · rename_i hb4
                cases mj_nx_inv h
                refine mj_chg kk rfl (fun am H locs cells slots ls hR hS hL k => ?_)
                have hcat := mj_cat_map G am r hr
                have hlt0 : a < mj_NC := mj_shp_lt (by rw [hs0]; show (1 : Nat) ≠ 9; decide)
                have hlt1 : b < mj_NC := mj_shp_lt (by rw [hs1]; show (1 : Nat) ≠ 9; decide)
                have hset := mj_ws_set G am σ (mj_cpyI σ a b sp.toNatClampNeg dp.toNatClampNeg n.toNatClampNeg) hlt1 (fun c0 hc0 => mj_cell_congr G am σ _ _ (by simp [mj_cpyI, hc0]) rfl rfl) rfl (mj_cell_cpyI (t0 := 0) (n0 := 0) (t1 := 0) (f0 := []) hs1)
                rw [← mj_adr_lt (G := G) (am := am) hlt1] at hset
                exact va_copyi hx hb (hml.trans hL.2.1.symm) hown (hTB _ hlink rfl _) (hTB _ w4 rfl _) (hTB _ w5 rfl _) (hTB _ w6 rfl _) hK hR.1 hR.2 hS a b 0 0 (f := σ.1 a) (g := σ.1 b)
                  (mj_cell_at (z := .inl (G.2.2.1 0, n0, .inl (σ.1 a))) hlt0 (by simp [mj_cell, hs0])) (mj_cell_at (z := .inl (G.2.2.1 0, n1, .inl (σ.1 b))) hlt1 (by simp [mj_cell, hs1])) rfl rfl rfl hsp hdp hn hb4.1 hb4.2 (fun i _ => rfl) hfr (by omega) hdg
                  (fun H1 locs1 hP1 hD1 hS1 => k H1 locs1 ⟨hset ▸ hP1, hset ▸ hD1⟩ hS1)
              · cases h
            · rename_i n0 f0 n1 f1 hs0 hs1
              split at h
              · rename_i hb4
                cases mj_nx_inv h
                refine mj_chg kk rfl (fun am H locs cells slots ls hR hS hL k => ?_)
                have hcat := mj_cat_map G am r hr
                have hlt0 : a < mj_NC := mj_shp_lt (by rw [hs0]; show (3 : Nat) ≠ 9; decide)
                have hlt1 : b < mj_NC := mj_shp_lt (by rw [hs1]; show (3 : Nat) ≠ 9; decide)
                have hmk : mj_mk G am (mj_cpyL σ a b sp.toNatClampNeg dp.toNatClampNeg n.toNatClampNeg) = mj_mk G am σ := by
                  unfold mj_mk
                  have : (mj_cpyL σ a b sp.toNatClampNeg dp.toNatClampNeg n.toNatClampNeg).2.1 999 = σ.2.1 999 := by
                    simp only [mj_cpyL]
                    exact if_neg (Nat.ne_of_gt (Nat.lt_trans hlt1 (show mj_NC < 999 by decide)))
                  rw [this]
                  rfl
                have hset := mj_ws_set G am σ (mj_cpyL σ a b sp.toNatClampNeg dp.toNatClampNeg n.toNatClampNeg) hlt1 (fun c0 hc0 => mj_cell_congr G am σ _ _ rfl (by simp [mj_cpyL, hc0]) rfl) hmk (mj_cell_cpyL hs1)
                rw [← mj_adr_lt (G := G) (am := am) hlt1] at hset
                exact va_copyl hx hb (hml.trans hL.2.1.symm) hown (hTB _ hlink rfl _) (hTB _ w4 rfl _) (hTB _ w5 rfl _) (hTB _ w6 rfl _) hK hR.1 hR.2 hS a b 2 2 (f := σ.2.1 a) (g := σ.2.1 b)
                  (mj_cell_at (z := .inl (G.2.2.1 2, n0, .inr (.inl (σ.2.1 a)))) hlt0 (by simp [mj_cell, hs0])) (mj_cell_at (z := .inl (G.2.2.1 2, n1, .inr (.inl (σ.2.1 b)))) hlt1 (by simp [mj_cell, hs1])) rfl rfl rfl hsp hdp hn hb4.1 hb4.2 (fun i _ => rfl) hfr (by omega) hdg
                  (fun H1 locs1 hP1 hD1 hS1 => k H1 locs1 ⟨hset ▸ hP1, hset ▸ hD1⟩ hS1)
              · cases h
            · cases h
          · cases h
        · cases h
      · cases h
theorem mj_strW_in : ∀ w ∈ mj_strW, w ∈ lw_tbl := by
  intro w hw
  exact mj_mt ((by decide +kernel : ∀ w ∈ mj_strW, w ∈ tables_1) w hw)
theorem mj_str_lt {j : Nat} {e : Nat × String × List Int32} (h : mj_strL[j]? = some e) : j < 15 := (List.getElem?_eq_some_iff.mp h).1
set_option maxRecDepth 100000 in
theorem mj_s_txt (fx : mj_FX G X oc cc nL p s m c) (hstr : mj_Str l G X) {d : Nat} (hRf : d + 21 ≤ R.frames) (hRl : 64 * (d + 1) + 2000 ≤ R.locals) {idx mid : Nat} (hcal : mj_cal oc idx = some mid) (hm : 1000 ≤ mid) (hdg : decode cc pc = .ok (.invokevirtual idx, 3))
    (h : mj_txt mid pc lo st σ = some (.inl c')) (kk : mj_At G nL F Z p l e R s m args below meth c Q c') : mj_At G nL F Z p l e R s m args below meth c Q (pc, lo, st, σ) := by
  obtain ⟨hx, hb, hml, hown, hTB, hK, hE, hbase, hSR⟩ := fx
  obtain ⟨cl, ch, nl, nh, rl, rh, wl, wh, bl, bh, hstr⟩ := hstr
  have hlink := mj_cal_nat hcal hm
  have w1 := hTB _ (mj_strW_in (Cond.instanceMethod mj_yLen) (by simp [mj_strW])) rfl args
  have w2 := hTB _ (mj_strW_in (Cond.selects mj_yLen.cls mj_yLen mj_yLen) (by simp [mj_strW])) rfl args
  have w3 := hTB _ (mj_strW_in (Cond.instanceMethod mj_yChr) (by simp [mj_strW])) rfl args
  have w4 := hTB _ (mj_strW_in (Cond.selects mj_yChr.cls mj_yChr mj_yChr) (by simp [mj_strW])) rfl args
  have w5 := hTB _ (mj_strW_in (Cond.initialized "java/lang/String") (by simp [mj_strW])) rfl args
  have hBB : ∀ (am : Nat) (H : Heap) (locs : List Loc), mj_Rep G am σ H → va_S (mj_A G) s.heap H locs → ∀ U : State, U.heap = H → s.WarmedH U.vm → mj_B G X am σ U := fun am H locs hR hS U hU hW => by
    refine ⟨mj_TB_warm hW hTB, va_K.moved hW.alike hK, ?_, ?_, mj_SR.warm hW hSR, ?_⟩
    · rw [hU]
      exact mj_Ext.moved hW.alike (hE.kept (fun a h1 h2 => hS.2.1 a h1 h2))
    · rw [hU]
      exact Nat.le_trans hbase hS.1
    · rw [hU]
      exact hR
  have hrecv : ∀ (H : Heap) (locs : List Loc) (j : Nat), j < 15 → va_S (mj_A G) s.heap H locs → ∃ cell : Cell, H[G.2.1 (1100 + j)]? = some cell ∧ cell.vm.isStatics = false ∧ s.vm.findClass "java/lang/String" = some cell.cls := fun H locs j hj hS => by
    obtain ⟨cell, q1, q2, q3, -⟩ := va_O.kept (H1 := H) (hE.2.2.2.1 j hj) (fun a h1 h2 => hS.2.1 a h1 h2)
    exact ⟨cell, q1, q2, q3⟩
  have hQ : ∀ (am : Nat) (v : Value) (a' : Array Value) (w : Option Value) (st t : State), (fun (_ : Array Value) (st : State) (oc : Outcome) (t : State) => oc = Outcome.returned (some v) ∧ mj_Rep G am σ t.heap ∧ va_F (mj_A G) st t) a' st (.returned w) t → w = some v ∧ (∃ am', am' = am ∧ mj_Rep G am' σ t.heap) ∧ va_F (mj_A G) st t := by
    intro am v a' w st t h
    obtain ⟨h1, h2, h3⟩ := h
    cases h1
    exact ⟨rfl, ⟨am, rfl, h2⟩, h3⟩
  unfold mj_txt at h
  split at h
  · rename_i hmid
    subst hmid
    split at h
    · rename_i a r
      split at h
      · rename_i hc4
        obtain ⟨ha, hr⟩ := hc4
        split at h
        · rename_i en hen
          cases mj_nx_inv h
          refine ⟨kk.1, fun am H locs cells slots ls hZ hR hS hL h1 h2 => ?_⟩
          have hcat := mj_cat_map G am r hr
          have hea : 1100 + (a - 1100) = a := Nat.add_sub_of_le ha
          have hMM := (hstr _ _ hen am σ).1
          have hrc := hrecv H locs _ (mj_str_lt hen) hS
          rw [hea] at hMM hrc
          have had : mj_adr G am a = G.2.1 a := mj_adr_ge (Nat.le_trans (by decide) ha)
          have hpre : PreV s H mj_yLen.cls (G.2.1 a) (va_Pc [.ref (G.2.1 a)] (mj_B G X am σ)) [] := ⟨mj_B_blind, hrc, fun U hU hW => ⟨rfl, hBB am H locs hR hS U hU hW⟩⟩
          have hpay : ∀ w ∈ [Cond.code mj_yLen cl nl rl], ∀ (a' : Array Value) (U : State), s.WarmedH U.vm → w.before a' U = true := by
            intro w hw a' U hW
            rw [List.mem_singleton.mp hw]
            exact mj_TB_warm hW hTB _ wl rfl a'
          simp only at h1 h2
          refine mj_run (σ' := σ) (v := some (.int (Int32.ofNat en.2.2.length))) (va_runV (Ts := []) (own := mj_own oc) (cc := cc) (nL := nL) (n := 0) (index := idx) (bytes := cl) (maxL := nl) (ret := rl) ⟨hx, hb, hml, hown, fun w h => absurd h List.not_mem_nil⟩ hMM
            ⟨⟨rfl, rfl, by show 20 + 1 ≤ R.frames; omega, by show 8 + (nl + 11) + 1900 ≤ R.locals; omega, hpay, List.mem_singleton.mpr rfl, hTB _ wl rfl _, w5, ⟨by decide, by decide⟩, fun sig hsig => by
              have hd : (parseMethodDescriptor mj_yLen.desc).map (fun d => d.parameters.length) = some 0 := by decide +kernel
              rw [hsig] at hd
              exact (Option.some.inj hd).symm, hTB _ hlink rfl _⟩, w1, w2⟩ hpre rfl rfl hL.2.1 (by show Value.ref (mj_adr G am a) :: r.map (mj_cv G am) = [] ++ Value.ref (G.2.1 a) :: r.map (mj_cv G am); rw [had]; rfl) (lv_room hcat) hdg ⟨by omega, by omega⟩) (hQ am _ #[]) hS ?_
          rintro am' H1 locs1 rfl hR1 hS1
          exact kk.2 am' H1 locs1 cells slots ls hZ hR1 hS1 hL h1 h2
        · cases h
      · cases h
    · cases h
  · split at h
    · rename_i hmid
      subst hmid
      split at h
      · rename_i i a r
        split at h
        · rename_i hc4
          obtain ⟨ha, hr, hi⟩ := hc4
          split at h
          · rename_i en hen
            split at h
            · rename_i w hw
              cases mj_nx_inv h
              refine ⟨kk.1, fun am H locs cells slots ls hZ hR hS hL h1 h2 => ?_⟩
              have hcat := mj_cat_map G am r hr
              have hea : 1100 + (a - 1100) = a := Nat.add_sub_of_le ha
              have hMM := (hstr _ _ hen am σ).2 i w hi hw
              have hrc := hrecv H locs _ (mj_str_lt hen) hS
              rw [hea] at hMM hrc
              have had : mj_adr G am a = G.2.1 a := mj_adr_ge (Nat.le_trans (by decide) ha)
              have hpre : PreV s H mj_yChr.cls (G.2.1 a) (va_Pc [.ref (G.2.1 a), .int i] (mj_B G X am σ)) [.int i] := ⟨mj_B_blind, hrc, fun U hU hW => ⟨rfl, hBB am H locs hR hS U hU hW⟩⟩
              have hpay : ∀ w ∈ [Cond.code mj_yChr ch nh rh], ∀ (a' : Array Value) (U : State), s.WarmedH U.vm → w.before a' U = true := by
                intro w hw a' U hW
                rw [List.mem_singleton.mp hw]
                exact mj_TB_warm hW hTB _ wh rfl a'
              simp only at h1 h2
              refine mj_run (σ' := σ) (v := some (.int w)) (va_runV (Ts := []) (own := mj_own oc) (cc := cc) (nL := nL) (n := 1) (index := idx) (bytes := ch) (maxL := nh) (ret := rh) ⟨hx, hb, hml, hown, fun w h => absurd h List.not_mem_nil⟩ hMM
                ⟨⟨rfl, rfl, by show 20 + 1 ≤ R.frames; omega, by show 8 + (nh + 11) + 1900 ≤ R.locals; omega, hpay, List.mem_singleton.mpr rfl, hTB _ wh rfl _, w5, ⟨by decide, by decide⟩, fun sig hsig => by
                  have hd : (parseMethodDescriptor mj_yChr.desc).map (fun d => d.parameters.length) = some 1 := by decide +kernel
                  rw [hsig] at hd
                  exact (Option.some.inj hd).symm, hTB _ hlink rfl _⟩, w3, w4⟩ hpre rfl rfl hL.2.1 (by show Value.int i :: Value.ref (mj_adr G am a) :: r.map (mj_cv G am) = [Value.int i] ++ Value.ref (G.2.1 a) :: r.map (mj_cv G am); rw [had]; rfl) (lv_room hcat) hdg ⟨by omega, by omega⟩) (hQ am _ #[]) hS ?_
              rintro am' H1 locs1 rfl hR1 hS1
              exact kk.2 am' H1 locs1 cells slots ls hZ hR1 hS1 hL h1 h2
            · cases h
          · cases h
        · cases h
      · cases h
    · cases h
end MJ
