theorem mj_adr_lt {G : mj_G} {am a : Nat} (h : a < mj_NC) : mj_adr G am a = G.2.1 a := if_neg (by unfold mj_NC at h; omega)
theorem mj_adr_ge {G : mj_G} {am a : Nat} (h : 1000 ≤ a) : mj_adr G am a = G.2.1 a := if_neg (by omega)
section MJ
variable {p : Program} {l : Launch} {e : Env} {R : Room} {s : State} {m : MethodId} {args : Array Value} {below : List Frame} {meth : Method} {c : Code} {Q : State → Prop}
variable {G : mj_G} {X : mj_X} {oc nL F : Nat} {Z : Nat × Nat} {cc : ByteArray}
variable {pc : Nat} {lo st : List Value} {σ : mj_St} {c' : mj_Cf}
theorem mj_cell_at {am a : Nat} {z : va_E} (hlt : a < mj_NC) (hz : mj_cell G am σ a = z) : (mj_ws G am σ)[a]? = some (mj_adr G am a, z) := by
  rw [mj_ws_get G am σ hlt, mj_adr_lt hlt, hz]
/-- a step that changes the state alone -/
theorem mj_chg {pc' : Nat} {st' : List Value} {σ' : mj_St} (k : mj_At G nL F Z p l e R s m args below meth c Q (pc', lo, st', σ')) (hu : σ'.2.2.2.2 = σ.2.2.2.2)
    (h : ∀ (am : Nat) (H : Heap) (locs : List Loc) (cells slots : Nat) (ls : Array Slot), mj_Rep G am σ H → va_S (mj_A G) s.heap H locs → mj_LV G am nL ls lo →
      (∀ (H1 : Heap) (locs1 : List Loc), mj_Rep G am σ' H1 → va_S (mj_A G) s.heap H1 locs1 → W p l e R s m args below meth c H1 locs1 cells slots Q (F0 m pc' ls (st'.map (mj_cv G am)))) → W p l e R s m args below meth c H locs cells slots Q (F0 m pc ls (st.map (mj_cv G am)))) :
    mj_At G nL F Z p l e R s m args below meth c Q (pc, lo, st, σ) := by
  obtain ⟨k1, k2⟩ := k
  simp only [hu] at k1 k2
  exact ⟨k1, fun am H locs cells slots ls hZ hR hS hL h1 h2 => h am H locs cells slots ls hR hS hL (fun H1 locs1 hR1 hS1 => k2 am H1 locs1 cells slots ls hZ hR1 hS1 hL h1 h2)⟩
theorem mj_s_ald (fx : mj_FX G X oc cc nL p s m c) (hdg : decode cc pc = .ok (.iaload, 1)) (h : mj_ald X pc lo st σ = some (.inl c'))
    (kk : mj_At G nL F Z p l e R s m args below meth c Q c') : mj_At G nL F Z p l e R s m args below meth c Q (pc, lo, st, σ) := by
  obtain ⟨hx, hb, hml, hown, hTB, hK, hE, hbase, hSR⟩ := fx
  unfold mj_ald at h
  split at h
  · rename_i i a r
    split at h
    · rename_i n f hrow
      split at h
      · cases h
      · rename_i hin
        cases mj_nx_inv h
        refine mj_pure kk (fun am H locs cells slots ls hR hS hL k => ?_)
        unfold mj_rowI at hrow
        split at hrow
        · rename_i ha
          have hT := hE.1 (a - 1000) n f hrow
          have ea : 1000 + (a - 1000) = a := Nat.add_sub_of_le ha
          rw [ea] at hT
          show W p l e R s m args below meth c H locs cells slots Q (F0 m pc ls (.int i :: .ref (mj_adr G am a) :: r.map (mj_cv G am)))
          rw [mj_adr_ge ha]
          exact va_ti hx hb hT hS hin rfl hdg k
        · split at hrow
          · rename_i n' fl hs
            cases hrow
            have hlt : a < mj_NC := mj_shp_lt (by rw [hs]; show (1 : Nat) ≠ 9; decide)
            exact va_iald hx hb hK hR.1 a 0 (mj_cell_at (z := .inl (G.2.2.1 0, n, .inl (σ.1 a))) hlt (by simp [mj_cell, hs])) rfl hin hdg k
          · cases hrow
    · cases h
  · cases h
theorem mj_s_bld (fx : mj_FX G X oc cc nL p s m c) (hdg : decode cc pc = .ok (.baload, 1)) (h : mj_bld pc lo st σ = some (.inl c'))
    (kk : mj_At G nL F Z p l e R s m args below meth c Q c') : mj_At G nL F Z p l e R s m args below meth c Q (pc, lo, st, σ) := by
  obtain ⟨hx, hb, hml, hown, hTB, hK, hE, hbase, hSR⟩ := fx
  unfold mj_bld at h
  split at h
  · rename_i i a r
    split at h
    · rename_i n fl hs
      split at h
      · cases h
      · rename_i hin
        cases mj_nx_inv h
        refine mj_pure kk (fun am H locs cells slots ls hR hS hL k => ?_)
        have hlt : a < mj_NC := mj_shp_lt (by rw [hs]; show (2 : Nat) ≠ 9; decide)
        exact va_zald hx hb hK hR.1 a 1 (mj_cell_at (z := .inl (G.2.2.1 1, n, .inl (σ.1 a))) hlt (by simp [mj_cell, hs])) rfl hin hdg k
    · cases h
  · cases h
theorem mj_s_qld (fx : mj_FX G X oc cc nL p s m c) (hdg : decode cc pc = .ok (.aaload, 1)) (h : mj_qld pc lo st σ = some (.inl c'))
    (kk : mj_At G nL F Z p l e R s m args below meth c Q c') : mj_At G nL F Z p l e R s m args below meth c Q (pc, lo, st, σ) := by
  obtain ⟨hx, hb, hml, hown, hTB, hK, hE, hbase, hSR⟩ := fx
  unfold mj_qld at h
  split at h
  · rename_i i a r
    split at h
    · rename_i n fl hs
      split at h
      · cases h
      · rename_i hin
        split at h
        · rename_i k0 hk0
          split at h
          · rename_i hk9
            cases mj_nx_inv h
            refine mj_pure kk (fun am H locs cells slots ls hR hS hL k => ?_)
            have hlt : a < mj_NC := mj_shp_lt (by rw [hs]; show (4 : Nat) ≠ 9; decide)
            have hi : i.toNatClampNeg < n := Nat.not_le.mp fun q => hin (Or.inr q)
            have hc := mj_cell_at (am := am) (z := .inl (G.2.2.1 3, n, .inr (.inr (.inr (.inr (fun j => (fl[j]?).map G.2.1)))))) hlt (show mj_cell G am σ a = _ by simp [mj_cell, hs])
            have ev : mj_cv G am (.ref k0) = va_rf ((fl[i.toNatClampNeg]?).map G.2.1) := by
              rw [hk0]
              show Value.ref (mj_adr G am k0) = Value.ref (G.2.1 k0)
              rw [mj_adr, if_neg (by omega)]
            refine W.aald (v := mj_cv G am (.ref k0)) (ty := .array .long) hx hb (hR.1 a _ hc) ((hK.2 3 _ rfl).1 n (fun j => va_rf ((fl[j]?).map G.2.1))) rfl (fun q => by cases q) (by show ¬ (i < 0 ∨ (arrV _ _ _).slots.size ≤ _); rw [arrV_size]; exact hin) (by show (arrV _ _ _).slots[_]? = _; rw [arrV_read _ _ hi, ev]) rfl rfl hdg k
          · cases h
        · cases h
    · cases h
  · cases h
theorem mj_s_lld (fx : mj_FX G X oc cc nL p s m c) (hdg : decode cc pc = .ok (.laload, 1)) (h : mj_lld pc lo st σ = some (.inl c'))
    (kk : mj_At G nL F Z p l e R s m args below meth c Q c') : mj_At G nL F Z p l e R s m args below meth c Q (pc, lo, st, σ) := by
  obtain ⟨hx, hb, hml, hown, hTB, hK, hE, hbase, hSR⟩ := fx
  unfold mj_lld at h
  split at h
  · rename_i i a r
    split at h
    · rename_i n hlen
      split at h
      · cases h
      · rename_i hin
        cases mj_nx_inv h
        refine mj_pure kk (fun am H locs cells slots ls hR hS hL k => ?_)
        unfold mj_lenL at hlen
        split at hlen
        · rename_i ha
          cases hlen
          subst ha
          have hw := mj_ws_mk G am σ
          unfold mj_mk at hw
          exact va_lald hx hb hK hR.1 mj_NC 2 hw rfl hin hdg k
        · split at hlen
          · rename_i n' fl hs
            cases hlen
            have hlt : a < mj_NC := mj_shp_lt (by rw [hs]; show (3 : Nat) ≠ 9; decide)
            exact va_lald hx hb hK hR.1 a 2 (mj_cell_at (z := .inl (G.2.2.1 2, n, .inr (.inl (σ.2.1 a)))) hlt (by simp [mj_cell, hs])) rfl hin hdg k
          · cases hlen
    · cases h
  · cases h
theorem mj_s_ast (fx : mj_FX G X oc cc nL p s m c) (hdg : decode cc pc = .ok (.iastore, 1)) (h : mj_ast pc lo st σ = some (.inl c'))
    (kk : mj_At G nL F Z p l e R s m args below meth c Q c') : mj_At G nL F Z p l e R s m args below meth c Q (pc, lo, st, σ) := by
  obtain ⟨hx, hb, hml, hown, hTB, hK, hE, hbase, hSR⟩ := fx
  unfold mj_ast at h
  split at h
  · rename_i x i a r
    split at h
    · rename_i n fl hs
      split at h
      · cases h
      · rename_i hin
        cases mj_nx_inv h
        refine mj_chg kk rfl (fun am H locs cells slots ls hR hS hL k => ?_)
        have hlt : a < mj_NC := mj_shp_lt (by rw [hs]; show (1 : Nat) ≠ 9; decide)
        have hset := mj_ws_set G am σ (mj_setI σ a i.toNatClampNeg x) hlt (mj_setI_o G am σ a _ x) rfl (mj_cell_arrI G am σ hs (Or.inl rfl) i.toNatClampNeg x)
        rw [← mj_adr_lt (G := G) (am := am) hlt] at hset
        exact va_iast hx hb hK hR.1 hR.2 hS a 0 (mj_cell_at (z := .inl (G.2.2.1 0, n, .inl (σ.1 a))) hlt (by simp [mj_cell, hs])) rfl hin hdg
          (fun H1 locs1 hP1 hD1 hS1 => k H1 locs1 ⟨hset ▸ hP1, hset ▸ hD1⟩ hS1)
    · cases h
  · cases h
theorem mj_s_bst (fx : mj_FX G X oc cc nL p s m c) (hdg : decode cc pc = .ok (.bastore, 1)) (h : mj_bst pc lo st σ = some (.inl c'))
    (kk : mj_At G nL F Z p l e R s m args below meth c Q c') : mj_At G nL F Z p l e R s m args below meth c Q (pc, lo, st, σ) := by
  obtain ⟨hx, hb, hml, hown, hTB, hK, hE, hbase, hSR⟩ := fx
  unfold mj_bst at h
  split at h
  · rename_i x i a r
    split at h
    · rename_i n fl hs
      split at h
      · cases h
      · rename_i hin
        split at h
        · rename_i hx01
          cases mj_nx_inv h
          refine mj_chg kk rfl (fun am H locs cells slots ls hR hS hL k => ?_)
          have hlt : a < mj_NC := mj_shp_lt (by rw [hs]; show (2 : Nat) ≠ 9; decide)
          have hset := mj_ws_set G am σ (mj_setI σ a i.toNatClampNeg x) hlt (mj_setI_o G am σ a _ x) rfl (mj_cell_arrI G am σ hs (Or.inr rfl) i.toNatClampNeg x)
          rw [← mj_adr_lt (G := G) (am := am) hlt] at hset
          have hnar : vp_nar .boolean x = x := by rcases hx01 with rfl | rfl <;> decide
          exact va_zast hx hb hK hR.1 hR.2 hS a 1 (mj_cell_at (z := .inl (G.2.2.1 1, n, .inl (σ.1 a))) hlt (by simp [mj_cell, hs])) rfl hin hdg
            (fun H1 locs1 hP1 hD1 hS1 => by rw [hnar] at hP1 hD1; exact k H1 locs1 ⟨hset ▸ hP1, hset ▸ hD1⟩ hS1)
        · cases h
    · cases h
  · cases h
theorem mj_s_lst (fx : mj_FX G X oc cc nL p s m c) (hdg : decode cc pc = .ok (.lastore, 1)) (h : mj_lst pc lo st σ = some (.inl c'))
    (kk : mj_At G nL F Z p l e R s m args below meth c Q c') : mj_At G nL F Z p l e R s m args below meth c Q (pc, lo, st, σ) := by
  obtain ⟨hx, hb, hml, hown, hTB, hK, hE, hbase, hSR⟩ := fx
  unfold mj_lst at h
  split at h
  · rename_i x i a r
    split at h
    · rename_i n hlen
      split at h
      · cases h
      · rename_i hin
        cases mj_nx_inv h
        refine mj_chg kk rfl (fun am H locs cells slots ls hR hS hL k => ?_)
        unfold mj_lenL at hlen
        split at hlen
        · rename_i ha
          cases hlen
          subst ha
          have hw := mj_ws_mk G am σ
          unfold mj_mk at hw
          have hset := mj_ws_setM G am σ (mj_setL σ 999 i.toNatClampNeg x) (fun c' => by
            by_cases hc : c' = 999
            · subst hc
              unfold mj_cell
              rw [show mj_shp 999 = (9, 0, []) from by decide +kernel]
              rfl
            · exact mj_setL_o G am σ 999 _ x c' hc)
          have e : mj_mk G am (mj_setL σ 999 i.toNatClampNeg x) = (am, .inl (G.2.2.1 2, σ.2.2.2.1, .inr (.inl (vp_updL (σ.2.1 999) i.toNatClampNeg x)))) := by
            unfold mj_mk
            have : (mj_setL σ 999 i.toNatClampNeg x).2.1 999 = vp_updL (σ.2.1 999) i.toNatClampNeg x := by
              funext j
              simp [vp_updL, mj_setL]
            rw [this]
            rfl
          rw [e] at hset
          exact va_last hx hb hK hR.1 hR.2 hS mj_NC 2 hw rfl hin hdg
            (fun H1 locs1 hP1 hD1 hS1 => k H1 locs1 ⟨hset ▸ hP1, hset ▸ hD1⟩ hS1)
        · split at hlen
          · rename_i n' fl hs
            cases hlen
            have hlt : a < mj_NC := mj_shp_lt (by rw [hs]; show (3 : Nat) ≠ 9; decide)
            have hmk : mj_mk G am (mj_setL σ a i.toNatClampNeg x) = mj_mk G am σ := by
              unfold mj_mk
              rw [mj_setL_ne σ _ x (show (999 : Nat) ≠ a by unfold mj_NC at hlt; omega)]
              rfl
            have hset := mj_ws_set G am σ (mj_setL σ a i.toNatClampNeg x) hlt (mj_setL_o G am σ a _ x) hmk (mj_cell_arrL G am σ hs i.toNatClampNeg x)
            rw [← mj_adr_lt (G := G) (am := am) hlt] at hset
            exact va_last hx hb hK hR.1 hR.2 hS a 2 (mj_cell_at (z := .inl (G.2.2.1 2, n, .inr (.inl (σ.2.1 a)))) hlt (by simp [mj_cell, hs])) rfl hin hdg
              (fun H1 locs1 hP1 hD1 hS1 => k H1 locs1 ⟨hset ▸ hP1, hset ▸ hD1⟩ hS1)
          · cases hlen
    · cases h
  · cases h
theorem mj_s_len (fx : mj_FX G X oc cc nL p s m c) (hdg : decode cc pc = .ok (.arraylength, 1)) (h : mj_len X pc lo st σ = some (.inl c'))
    (kk : mj_At G nL F Z p l e R s m args below meth c Q c') : mj_At G nL F Z p l e R s m args below meth c Q (pc, lo, st, σ) := by
  obtain ⟨hx, hb, hml, hown, hTB, hK, hE, hbase, hSR⟩ := fx
  unfold mj_len at h
  split at h
  · rename_i a r
    split at h
    · rename_i ha
      subst ha
      cases mj_nx_inv h
      refine mj_pure kk (fun am H locs cells slots ls hR hS hL k => ?_)
      have hw := mj_ws_mk G am σ
      unfold mj_mk at hw
      exact va_alen hx hb hK hR.1 mj_NC 2 hw rfl rfl hdg k
    · split at h
      · rename_i ha9 ha
        split at h
        · rename_i n f hXr
          cases mj_nx_inv h
          refine mj_pure kk (fun am H locs cells slots ls hR hS hL k => ?_)
          have hT := hE.1 (a - 1000) n f hXr
          have ea : 1000 + (a - 1000) = a := Nat.add_sub_of_le ha
          rw [ea] at hT
          show W p l e R s m args below meth c H locs cells slots Q (F0 m pc ls (.ref (mj_adr G am a) :: r.map (mj_cv G am)))
          rw [mj_adr_ge ha]
          exact va_tlen hx hb hT hS rfl hdg k
        · cases h
      · rename_i ha9 ha
        split at h
        · cases h
        · cases h
        · rename_i t n fl h0 h9 hs
          cases mj_nx_inv h
          refine mj_pure kk (fun am H locs cells slots ls hR hS hL k => ?_)
          have ht0 : t ≠ 0 := by intro q; subst q; first | exact h0 rfl | exact h0 _ _ rfl
          have ht9 : t ≠ 9 := by intro q; subst q; first | exact h9 rfl | exact h9 _ _ rfl
          have hlt : a < mj_NC := mj_shp_lt (by rw [hs]; exact ht9)
          by_cases e1 : t = 1
          · subst e1
            exact va_alen hx hb hK hR.1 a 0 (mj_cell_at (z := .inl (G.2.2.1 0, n, .inl (σ.1 a))) hlt (by simp [mj_cell, hs])) rfl rfl hdg k
          · by_cases e2 : t = 2
            · subst e2
              exact va_alen hx hb hK hR.1 a 1 (mj_cell_at (z := .inl (G.2.2.1 1, n, .inl (σ.1 a))) hlt (by simp [mj_cell, hs])) rfl rfl hdg k
            · by_cases e3 : t = 3
              · subst e3
                exact va_alen hx hb hK hR.1 a 2 (mj_cell_at (z := .inl (G.2.2.1 2, n, .inr (.inl (σ.2.1 a)))) hlt (by simp [mj_cell, hs])) rfl rfl hdg k
              · exact va_alen hx hb hK hR.1 a 3 (mj_cell_at (z := .inl (G.2.2.1 3, n, .inr (.inr (.inr (.inr (fun j => (fl[j]?).map G.2.1)))))) hlt (by
                  unfold mj_cell
                  rw [hs]
                  split
                  · rename_i q; cases q; exact absurd rfl ht0
                  · rename_i q; cases q; exact absurd rfl e1
                  · rename_i q; cases q; exact absurd rfl e2
                  · rename_i q; cases q; exact absurd rfl e3
                  · rename_i q; cases q; rfl)) rfl rfl hdg k
  · cases h
end MJ
