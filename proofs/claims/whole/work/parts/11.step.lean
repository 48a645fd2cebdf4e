theorem mj_inv_cal {oc idx mid na sv : Nat} (h : mj_inv oc idx = some (mid, na, sv)) : mj_cal oc idx = some mid := by
  unfold mj_inv at h
  split at h
  · rename_i mid' hcl
    split at h
    · cases h; exact hcl
    · split at h
      · cases h; exact hcl
      · cases h
  · cases h
section MJ
variable {p : Program} {l : Launch} {e : Env} {R : Room} {s : State} {m : MethodId} {args : Array Value} {below : List Frame} {meth : Method} {c : Code} {Q : State → Prop}
variable {G : mj_G} {X : mj_X} {oc nL F : Nat} {cc : ByteArray}
variable {pc : Nat} {lo st : List Value} {σ : mj_St} {c' : mj_Cf}
theorem mj_cmp_t {o : ClassFile.Cond} {x y : Int32} {b : Bool} (h : mj_cmp o x y = b) : match o with
    | .eq => (b = true → x = y) ∧ (b = false → ¬ x = y)
    | .ne => (b = true → ¬ x = y) ∧ (b = false → ¬ ¬ x = y)
    | .lt => (b = true → x < y) ∧ (b = false → ¬ x < y)
    | .ge => (b = true → y ≤ x) ∧ (b = false → ¬ y ≤ x)
    | .gt => (b = true → y < x) ∧ (b = false → ¬ y < x)
    | .le => (b = true → x ≤ y) ∧ (b = false → ¬ x ≤ y) := by
  subst h
  cases o <;> simp [mj_cmp]
theorem mj_step_sound (fx : mj_FX G X oc cc nL p s m c) {d : Nat} (hRf : R.frames = d + 1) (hRl : R.locals = 64 * (d + 1)) {call : mj_Call} (hcall : ∀ mid as σ v σ', call mid as σ = some (v, σ') → mj_MetOk l G X d mid as σ v σ')
    {ret : Option FieldType} (h : mj_step X call oc ret cc (pc, lo, st, σ) = some (.inl c')) (kk : mj_At G nL F p l e R s m args below meth c Q c') : mj_At G nL F p l e R s m args below meth c Q (pc, lo, st, σ) := by
  have fx0 := fx
  obtain ⟨hx, hb, hml, hown, hTB, hK, hE, hbase⟩ := fx
  unfold mj_step at h
  split at h
  · rename_i i n hdg
    simp only at hdg h
    unfold mj_ex at h
    split at h
    · exact mj_s_ldI (i := 0) h (fun hl k => lv_iload hx hb hdg hl k) kk
    · exact mj_s_ldI (i := 0) h (fun hl k => lv_iload_n hx hb hdg rfl hl k) kk
    · exact mj_s_ldL (i := 0) h (fun hl k => lv_lload hx hb hdg hl k) kk
    · exact mj_s_ldL (i := 0) h (fun hl k => lv_lload_n hx hb hdg rfl hl k) kk
    · exact mj_s_ldA (i := 0) h (fun hl k => lv_aload hx hb hdg hl k) kk
    · exact mj_s_ldA (i := 0) h (fun hl k => lv_aload_n hx hb hdg rfl hl k) kk
    · exact mj_s_stI h (fun h1 h2 k => lv_istore hx hb hdg h1 h2 rfl k) kk
    · exact mj_s_stI h (fun h1 h2 k => lv_istore_n hx hb hdg rfl h1 h2 rfl k) kk
    · exact mj_s_stL h (fun h1 h2 k => lv_lstore hx hb hdg h1 h2 rfl k) kk
    · exact mj_s_stL h (fun h1 h2 k => lv_lstore_n hx hb hdg rfl h1 h2 rfl k) kk
    · exact mj_s_stA h (fun h1 h2 k => lv_astore hx hb hdg h1 h2 rfl k) kk
    · exact mj_s_stA h (fun h1 h2 k => lv_astore_n hx hb hdg rfl h1 h2 rfl k) kk
    · exact mj_s_inc h hb hx hdg rfl kk
    · cases mj_nx_inv h; exact mj_pure kk (fun am H locs cells slots ls _ _ _ k => lv_iconst hx hb hdg rfl k)
    · cases mj_nx_inv h; exact mj_pure kk (fun am H locs cells slots ls _ _ _ k => lv_bipush hx hb hdg rfl k)
    · cases mj_nx_inv h; exact mj_pure kk (fun am H locs cells slots ls _ _ _ k => lv_sipush hx hb hdg rfl k)
    · cases mj_nx_inv h; exact mj_pure kk (fun am H locs cells slots ls _ _ _ k => lv_lconst hx hb hdg rfl k)
    · exact mj_s_b2 h (fun k => lv_iadd hx hb hdg k) kk
    · exact mj_s_b2 h (fun k => lv_isub hx hb hdg k) kk
    · exact mj_s_b2 h (fun k => lv_imul hx hb hdg k) kk
    · exact mj_s_b2 h (fun k => lv_iand hx hb hdg k) kk
    · exact mj_s_b2 h (fun k => lv_ior hx hb hdg k) kk
    · exact mj_s_b2 h (fun k => lv_ixor hx hb hdg k) kk
    · exact mj_s_b2 h (fun k => lv_ishl hx hb hdg k) kk
    · exact mj_s_b2 h (fun k => lv_ishr hx hb hdg k) kk
    · exact mj_s_b2 h (fun k => lv_iushr hx hb hdg rfl k) kk
    · exact mj_s_dv h (fun h1 k => lv_idiv hx hb hdg h1 k) kk
    · exact mj_s_dv h (fun h1 k => lv_irem hx hb hdg h1 k) kk
    · exact mj_s_u1 h (fun k => lv_ineg hx hb hdg k) kk
    · exact mj_s_u1 h (fun k => lv_i2b hx hb hdg rfl k) kk
    · exact mj_s_u1 h (fun k => lv_i2s hx hb hdg rfl k) kk
    · exact mj_s_bl h (fun k => lv_ladd hx hb hdg k) kk
    · exact mj_s_bl h (fun k => lv_land hx hb hdg k) kk
    · exact mj_s_bl h (fun k => lv_lor hx hb hdg k) kk
    · split at h
      · cases mj_nx_inv h; exact mj_pure kk (fun am H locs cells slots ls _ _ _ k => lv_lshl hx hb hdg rfl k)
      · cases h
    · split at h
      · cases mj_nx_inv h; exact mj_pure kk (fun am H locs cells slots ls _ _ _ k => W.lcmp hx hb hdg k)
      · cases h
    · split at h
      · cases mj_nx_inv h; exact mj_pure kk (fun am H locs cells slots ls _ _ _ k => lv_i2l hx hb hdg rfl k)
      · cases h
    · split at h
      · cases mj_nx_inv h; exact mj_pure kk (fun am H locs cells slots ls _ _ _ k => lv_l2i hx hb hdg rfl k)
      · cases h
    · split at h
      · split at h
        · rename_i hc1
          cases mj_nx_inv h; exact mj_pure kk (fun am H locs cells slots ls _ _ _ k => lv_dup hx hb hdg (by rw [mj_cv_cat]; exact hc1) k)
        · cases h
      · cases h
    · split at h
      · split at h
        · rename_i hc1
          cases mj_nx_inv h; exact mj_pure kk (fun am H locs cells slots ls _ _ _ k => lv_dup2_11 hx hb hdg (by rw [mj_cv_cat]; exact hc1.1) (by rw [mj_cv_cat]; exact hc1.2) k)
        · cases h
      · cases h
    · split at h
      · split at h
        · rename_i hc1
          cases mj_nx_inv h; exact mj_pure kk (fun am H locs cells slots ls _ _ _ k => lv_pop hx hb hdg (by rw [mj_cv_cat]; exact hc1) k)
        · cases h
      · cases h
    · exact mj_s_jmp h (fun ht k => lv_goto hx hb hdg ht k) kk
    · rename_i o off
      split at h
      · rename_i x r
        unfold mj_br at h
        split at h
        · rename_i h0
          have ht := (Int.toNat_of_nonneg h0).symm
          split at h
          · rename_i hb1
            cases mj_nx_inv h
            have hq := mj_cmp_t hb1
            refine mj_pure kk (fun am H locs cells slots ls _ _ _ k => ?_)
            cases o
            · exact lv_if_eq hx hb hdg ht (fun _ => k) (fun q => absurd (hq.1 rfl) q)
            · exact lv_if_ne hx hb hdg ht (fun _ => k) (fun q => absurd q (hq.1 rfl))
            · exact lv_if_lt hx hb hdg ht (fun _ => k) (fun q => absurd (hq.1 rfl) q)
            · exact lv_if_ge hx hb hdg ht (fun _ => k) (fun q => absurd (hq.1 rfl) q)
            · exact lv_if_gt hx hb hdg ht (fun _ => k) (fun q => absurd (hq.1 rfl) q)
            · exact lv_if_le hx hb hdg ht (fun _ => k) (fun q => absurd (hq.1 rfl) q)
          · rename_i hb1
            have hb2 := Bool.eq_false_iff.mpr hb1
            cases mj_nx_inv h
            have hq := mj_cmp_t hb2
            refine mj_pure kk (fun am H locs cells slots ls _ _ _ k => ?_)
            cases o
            · exact lv_if_eq hx hb hdg ht (fun q => absurd q (hq.2 rfl)) (fun _ => k)
            · exact lv_if_ne hx hb hdg ht (fun q => absurd q (hq.2 rfl)) (fun _ => k)
            · exact lv_if_lt hx hb hdg ht (fun q => absurd q (hq.2 rfl)) (fun _ => k)
            · exact lv_if_ge hx hb hdg ht (fun q => absurd q (hq.2 rfl)) (fun _ => k)
            · exact lv_if_gt hx hb hdg ht (fun q => absurd q (hq.2 rfl)) (fun _ => k)
            · exact lv_if_le hx hb hdg ht (fun q => absurd q (hq.2 rfl)) (fun _ => k)
        · cases h
      · cases h
    · rename_i o off
      split at h
      · rename_i y x r
        unfold mj_br at h
        split at h
        · rename_i h0
          have ht := (Int.toNat_of_nonneg h0).symm
          split at h
          · rename_i hb1
            cases mj_nx_inv h
            have hq := mj_cmp_t hb1
            refine mj_pure kk (fun am H locs cells slots ls _ _ _ k => ?_)
            cases o
            · exact lv_icmp_eq hx hb hdg ht (fun _ => k) (fun q => absurd (hq.1 rfl) q)
            · exact lv_icmp_ne hx hb hdg ht (fun _ => k) (fun q => absurd q (hq.1 rfl))
            · exact lv_icmp_lt hx hb hdg ht (fun _ => k) (fun q => absurd (hq.1 rfl) q)
            · exact lv_icmp_ge hx hb hdg ht (fun _ => k) (fun q => absurd (hq.1 rfl) q)
            · exact lv_icmp_gt hx hb hdg ht (fun _ => k) (fun q => absurd (hq.1 rfl) q)
            · exact lv_icmp_le hx hb hdg ht (fun _ => k) (fun q => absurd (hq.1 rfl) q)
          · rename_i hb1
            have hb2 := Bool.eq_false_iff.mpr hb1
            cases mj_nx_inv h
            have hq := mj_cmp_t hb2
            refine mj_pure kk (fun am H locs cells slots ls _ _ _ k => ?_)
            cases o
            · exact lv_icmp_eq hx hb hdg ht (fun q => absurd q (hq.2 rfl)) (fun _ => k)
            · exact lv_icmp_ne hx hb hdg ht (fun q => absurd q (hq.2 rfl)) (fun _ => k)
            · exact lv_icmp_lt hx hb hdg ht (fun q => absurd q (hq.2 rfl)) (fun _ => k)
            · exact lv_icmp_ge hx hb hdg ht (fun q => absurd q (hq.2 rfl)) (fun _ => k)
            · exact lv_icmp_gt hx hb hdg ht (fun q => absurd q (hq.2 rfl)) (fun _ => k)
            · exact lv_icmp_le hx hb hdg ht (fun q => absurd q (hq.2 rfl)) (fun _ => k)
        · cases h
      · cases h
    · split at h
      · cases mj_nx_inv h
        exact mj_pure kk (fun am H locs cells slots ls _ _ _ k => lv_ifnull hx hb hdg k)
      · exact mj_s_jmp h (fun ht k => lv_ifnullN hx hb hdg ht k) kk
      · cases h
    · exact mj_s_tsw hx hb hdg h kk
    · exact mj_s_lsw hx hb hdg h kk
    · exact mj_s_ald fx0 hdg h kk
    · exact mj_s_bld fx0 hdg h kk
    · exact mj_s_lld fx0 hdg h kk
    · exact mj_s_qld fx0 hdg h kk
    · exact mj_s_ast fx0 hdg h kk
    · exact mj_s_bst fx0 hdg h kk
    · exact mj_s_lst fx0 hdg h kk
    · exact mj_s_len fx0 hdg h kk
    · exact mj_s_get fx0 hdg h kk
    · exact mj_s_put fx0 hdg h kk
    · split at h
      · rename_i k hk
        cases mj_nx_inv h
        exact mj_s_sta fx0 hdg hk kk
      · cases h
    · unfold mj_ivk at h
      split at h
      · rename_i mid na sv hinv
        split at h
        · split at h
          · rename_i q; cases q
          · cases h
        · rename_i hm
          split at h
          · rename_i hcond
            split at h
            · rename_i v σ' hc0
              cases mj_nx_inv h
              exact mj_s_ivk (virt := true) fx0 hRf hRl hcall hinv hm hdg hcond hc0 kk
            · cases h
          · cases h
      · cases h
    · unfold mj_ivk at h
      split at h
      · rename_i mid na sv hinv
        split at h
        · rename_i hm
          split at h
          · exact mj_s_nat fx0 hRf hRl (mj_inv_cal hinv) hm hdg h kk
          · cases h
        · rename_i hm
          split at h
          · rename_i hcond
            split at h
            · rename_i v σ' hc0
              cases mj_nx_inv h
              exact mj_s_ivk (virt := false) fx0 hRf hRl hcall hinv hm hdg hcond hc0 kk
            · cases h
          · cases h
      · cases h
    · split at h
      · split at h <;> cases h
      · cases h
    · split at h
      · split at h <;> cases h
      · cases h
    · split at h
      · split at h <;> cases h
      · cases h
    · cases h
  · cases h
end MJ
