theorem mj_wmin : Cond.static Lib.Math.min.name ∈ lw_tbl ∧ Cond.static Lib.Math.max.name ∈ lw_tbl ∧ Cond.initialized "java/lang/Math" ∈ lw_tbl ∧ Cond.native arraycopyName ∈ lw_tbl ∧ Cond.static arraycopyName ∈ lw_tbl ∧ Cond.initialized "java/lang/System" ∈ lw_tbl :=
  ⟨mj_mt (by decide +kernel), mj_mt (by decide +kernel), mj_mt (by decide +kernel), mj_mt (by decide +kernel), mj_mt (by decide +kernel), mj_mt (by decide +kernel)⟩
theorem mj_wminc : Cond.code Lib.Math.min.name Lib.Math.min.code 2 (some .int) ∈ lw_tbl := mj_mt (by decide +kernel)
theorem mj_wmaxc : Cond.code Lib.Math.max.name Lib.Math.max.code 2 (some .int) ∈ lw_tbl := mj_mt (by decide +kernel)
section MJ
variable {p : Program} {l : Launch} {e : Env} {R : Room} {s : State} {m : MethodId} {args : Array Value} {below : List Frame} {meth : Method} {c : Code} {Q : State → Prop}
variable {G : mj_G} {X : mj_X} {oc nL F : Nat} {cc : ByteArray}
variable {pc : Nat} {lo st : List Value} {σ : mj_St} {c' : mj_Cf}
theorem mj_cell_cpyI {am a b t0 n0 t1 n1 sp dp n : Nat} {f0 f1 : List Nat} (h1 : mj_shp b = (1, n1, f1)) : (Sum.inl (G.2.2.1 0, n1, .inl (va_cpy (σ.1 a) (σ.1 b) sp dp n)) : va_E) = mj_cell G am (mj_cpyI σ a b sp dp n) b := by
  simp [mj_cell, h1, mj_cpyI]
theorem mj_cell_cpyL {am a b n1 sp dp n : Nat} {f1 : List Nat} (h1 : mj_shp b = (3, n1, f1)) : (Sum.inl (G.2.2.1 2, n1, .inr (.inl (va_cpy (σ.2.1 a) (σ.2.1 b) sp dp n))) : va_E) = mj_cell G am (mj_cpyL σ a b sp dp n) b := by
  simp [mj_cell, h1, mj_cpyL]
theorem mj_s_nat (fx : mj_FX G X oc cc nL p s m c) {d : Nat} (hRf : R.frames = d + 1) (hRl : R.locals = 64 * (d + 1)) {idx mid : Nat} (hcal : mj_cal oc idx = some mid) (hm : 1000 ≤ mid) (hdg : decode cc pc = .ok (.invokestatic idx, 3))
    (h : mj_nat mid pc lo st σ = some (.inl c')) (kk : mj_At G nL F p l e R s m args below meth c Q c') : mj_At G nL F p l e R s m args below meth c Q (pc, lo, st, σ) := by
  obtain ⟨hx, hb, hml, hown, hTB, hK, hE, hbase⟩ := fx
  obtain ⟨w1, w2, w3, w4, w5, w6⟩ := mj_wmin
  have hlink := mj_cal_nat hcal hm
  have hfr : 1 ≤ R.frames := by omega
  unfold mj_nat at h
  split at h
  · rename_i hmid
    subst hmid
    split at h
    · rename_i y x r
      split at h
      · rename_i hr
        cases mj_nx_inv h
        refine ⟨kk.1, fun am H locs cells slots ls hR hS hL h1 h2 => ?_⟩
        have hcat := mj_cat_map G am r hr
        simp only at h1 h2
        exact va_mmin hx hb (hml.trans hL.2.1.symm) hown (hTB _ hlink rfl _) (hTB _ w1 rfl _) (hTB _ w3 rfl _) (hTB _ mj_wminc rfl _) hfr (by omega) (by omega) (by omega) hdg (kk.2 am H locs cells slots ls hR hS hL h1 h2)
      · cases h
    · cases h
  · split at h
    · rename_i hmid
      subst hmid
      split at h
      · rename_i y x r
        split at h
        · rename_i hr
          cases mj_nx_inv h
          refine ⟨kk.1, fun am H locs cells slots ls hR hS hL h1 h2 => ?_⟩
          have hcat := mj_cat_map G am r hr
          simp only at h1 h2
          exact va_mmax hx hb (hml.trans hL.2.1.symm) hown (hTB _ hlink rfl _) (hTB _ w2 rfl _) (hTB _ w3 rfl _) (hTB _ mj_wmaxc rfl _) hfr (by omega) (by omega) (by omega) hdg (kk.2 am H locs cells slots ls hR hS hL h1 h2)
        · cases h
      · cases h
    · split at h
      · rename_i hmid
        subst hmid
        split at h
        · rename_i n dp b sp a r
          split at h
          · rename_i hr
            obtain ⟨hr, hsp, hdp, hn⟩ := hr
            have hnf : nativeFrameWords "java/lang/System" "arraycopy" 5 + 11 ≤ 40 := by decide +kernel
            split at h
            · rename_i n0 f0 n1 f1 hs0 hs1
              split at h
              · rename_i hb4
                cases mj_nx_inv h
                refine mj_chg kk rfl (fun am H locs cells slots ls hR hS hL k => ?_)
                have hcat := mj_cat_map G am r hr
                have hlt0 : a < mj_NC := mj_shp_lt (by rw [hs0]; show (1 : Nat) ≠ 9; decide)
                have hlt1 : b < mj_NC := mj_shp_lt (by rw [hs1]; show (1 : Nat) ≠ 9; decide)
                have hset := mj_ws_set G am σ (mj_cpyI σ a b sp.toNatClampNeg dp.toNatClampNeg n.toNatClampNeg) hlt1 (fun c0 hc0 => mj_cell_congr G am σ _ _ (by simp [mj_cpyI, hc0]) rfl rfl) rfl (mj_cell_cpyI (t0 := 0) (n0 := 0) (t1 := 0) (f0 := []) hs1)
                rw [← mj_adr_lt (G := G) (am := am) hlt1] at hset
                exact va_copyi hx hb (hml.trans hL.2.1.symm) hown (hTB _ hlink rfl _) (hTB _ w4 rfl _) (hTB _ w5 rfl _) (hTB _ w6 rfl _) hK hR.1 hR.2 hS a b 0 0 (f := σ.1 a) (g := σ.1 b)
                  (mj_cell_at (z := .inl (G.2.2.1 0, n0, .inl (σ.1 a))) hlt0 (by simp [mj_cell, hs0])) (mj_cell_at (z := .inl (G.2.2.1 0, n1, .inl (σ.1 b))) hlt1 (by simp [mj_cell, hs1])) rfl rfl rfl hsp hdp hn hb4.1 hb4.2 (fun i _ => rfl) hfr (by omega) hdg
                  (fun H1 locs1 hP1 hD1 hS1 => k H1 locs1 ⟨hset ▸ hP1, hset ▸ hD1⟩ hS1)
              · cases h
            · rename_i n0 f0 n1 f1 hs0 hs1
              split at h
              · rename_i hb4
                cases mj_nx_inv h
                refine mj_chg kk rfl (fun am H locs cells slots ls hR hS hL k => ?_)
                have hcat := mj_cat_map G am r hr
                have hlt0 : a < mj_NC := mj_shp_lt (by rw [hs0]; show (3 : Nat) ≠ 9; decide)
                have hlt1 : b < mj_NC := mj_shp_lt (by rw [hs1]; show (3 : Nat) ≠ 9; decide)
                have hmk : mj_mk G am (mj_cpyL σ a b sp.toNatClampNeg dp.toNatClampNeg n.toNatClampNeg) = mj_mk G am σ := by
                  unfold mj_mk
                  have : (mj_cpyL σ a b sp.toNatClampNeg dp.toNatClampNeg n.toNatClampNeg).2.1 999 = σ.2.1 999 := by
                    simp only [mj_cpyL]
                    exact if_neg (Nat.ne_of_gt (Nat.lt_trans hlt1 (show mj_NC < 999 by decide)))
                  rw [this]
                  rfl
                have hset := mj_ws_set G am σ (mj_cpyL σ a b sp.toNatClampNeg dp.toNatClampNeg n.toNatClampNeg) hlt1 (fun c0 hc0 => mj_cell_congr G am σ _ _ rfl (by simp [mj_cpyL, hc0]) rfl) hmk (mj_cell_cpyL hs1)
                rw [← mj_adr_lt (G := G) (am := am) hlt1] at hset
                exact va_copyl hx hb (hml.trans hL.2.1.symm) hown (hTB _ hlink rfl _) (hTB _ w4 rfl _) (hTB _ w5 rfl _) (hTB _ w6 rfl _) hK hR.1 hR.2 hS a b 2 2 (f := σ.2.1 a) (g := σ.2.1 b)
                  (mj_cell_at (z := .inl (G.2.2.1 2, n0, .inr (.inl (σ.2.1 a)))) hlt0 (by simp [mj_cell, hs0])) (mj_cell_at (z := .inl (G.2.2.1 2, n1, .inr (.inl (σ.2.1 b)))) hlt1 (by simp [mj_cell, hs1])) rfl rfl rfl hsp hdp hn hb4.1 hb4.2 (fun i _ => rfl) hfr (by omega) hdg
                  (fun H1 locs1 hP1 hD1 hS1 => k H1 locs1 ⟨hset ▸ hP1, hset ▸ hD1⟩ hS1)
              · cases h
            · cases h
          · cases h
        · cases h
      · cases h
end MJ
