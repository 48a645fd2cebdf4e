theorem mj_con_ok : mj_conL.all (fun e => decide (tables_1[e.2.2.2]? = some (Cond.constant (mj_own e.1) e.2.1 e.2.2.1))) = true := by decide +kernel
theorem mj_con_w {oc idx : Nat} {v : Int32} (h : mj_con oc idx = some v) : Cond.constant (mj_own oc) idx v ∈ lw_tbl := by
  unfold mj_con at h
  obtain ⟨e, he, h2⟩ := Option.map_eq_some_iff.mp h
  have hme := List.mem_of_find?_eq_some he
  have hp := List.find?_some he
  have hc := of_decide_eq_true (List.all_eq_true.mp mj_con_ok e hme)
  obtain ⟨a, b, w, pos⟩ := e
  simp only [Bool.and_eq_true, beq_iff_eq] at hp
  cases h2
  obtain ⟨rfl, rfl⟩ := hp
  exact mj_mt (List.mem_of_getElem? hc)
theorem mj_w18 : Cond.constantLong (mj_own 7) 18 4294967295 ∈ lw_tbl := mj_mt (by decide +kernel)
theorem mj_lds_w {oc idx j : Nat} (h : mj_lds oc idx = some j) : oc = 2 ∧ ∃ e, mj_strL[j]? = some e ∧ idx = e.1 := by
  unfold mj_lds at h
  split at h
  · rename_i ho
    refine ⟨ho, ?_⟩
    obtain ⟨hj, h2, -⟩ := List.findIdx?_eq_some_iff_getElem.mp h
    exact ⟨mj_strL[j], List.getElem?_eq_getElem hj, (by simpa using h2 : mj_strL[j].1 = idx).symm⟩
  · cases h
theorem mj_code2 : ∀ k, k < mj_NC → k ≠ 46 → ∀ code ∈ (mj_shp k).2.2, code ≠ 2 ∨ (mj_shp k).1 ≠ 0 := by decide +kernel
theorem mj_cell_am {G : mj_G} {am am' : Nat} {σ : mj_St} {k : Nat} (hk : k < mj_NC) (h : k ≠ 46) : mj_cell G am σ k = mj_cell G am' σ k := by
  unfold mj_cell
  split
  · rename_i ci fl hs
    congr 2
    apply List.ext_getElem?
    intro j
    rw [List.getElem?_mapIdx, List.getElem?_mapIdx]
    cases hj : fl[j]? with
    | none => rfl
    | some code =>
      have hc := mj_code2 k hk h code (by rw [hs]; exact List.mem_of_getElem? hj)
      rw [hs] at hc
      have hc2 : code ≠ 2 := hc.resolve_right (fun q => q rfl)
      simp only [Option.map_some]
      congr 1
      unfold mj_fv
      split <;> first | rfl | exact absurd rfl hc2
  all_goals rfl
theorem mj_pick {D : va_G} {cl : List vw_C} {A : Nat → Prop} {ws ws' : va_W} {H : Heap} (f : Nat → Nat) (h : ∀ k e, ws'[k]? = some e → ws[f k]? = some e) (hf : ∀ i j, f i = f j → i = j) (hP : va_P D cl ws H) (hD : va_D A ws) : va_P D cl ws' H ∧ va_D A ws' :=
  ⟨fun k e he => hP (f k) e (h k e he), fun i j p q hi hj hpq => hf i j (hD.1 _ _ p q (h i p hi) (h j q hj) hpq), fun k e he => hD.2 (f k) e (h k e he)⟩
theorem mj_arrJ {D : va_G} {cl : List vw_C} {tys : List (ClassId × FieldType)} {s : State} {cA cB : ClassId} (i j : Nat) (hi : tys[i]? = some (cA, .long)) (hj : tys[j]? = some (cB, .long)) (hK : va_K D cl tys s) : cA = cB := by
  have h1 := (hK.2 i _ hi).2
  have h2 := (hK.2 j _ hj).2
  exact Option.some.inj (h1.symm.trans h2)
def mj_l46 : List Nat := [1, 0, 0, 0, 3, 0, 0, 0, 0, 0, 0, 51, 52, 53, 54, 55, 56, 57, 58, 2]
theorem mj_shp46 : mj_shp 46 = (0, 3, mj_l46) := by decide +kernel
def mj_f46 (G : mj_G) (am : Nat) (σ : mj_St) : List Value := mj_l46.mapIdx (fun j code => mj_fv G am σ 46 j code)
theorem mj_cell46 {G : mj_G} {am : Nat} {σ : mj_St} : mj_cell G am σ 46 = .inr (3, mj_f46 G am σ) := by
  simp only [mj_cell, mj_shp46]
  rfl
theorem mj_f46_len {G : mj_G} {am : Nat} {σ : mj_St} : (mj_f46 G am σ).length = 20 := by
  unfold mj_f46
  rw [List.length_mapIdx]
  rfl
theorem mj_l46_2 : ∀ j, j < 20 → ∀ code ∈ mj_l46[j]?, code = 2 → j = 19 := by decide +kernel
theorem mj_f46_set {G : mj_G} {am q N : Nat} {σ : mj_St} : (mj_f46 G am σ).set 19 (.ref q) = mj_f46 G q (mj_newMk σ N) := by
  apply List.ext_getElem?
  intro j
  rw [List.getElem?_set]
  by_cases hj : 19 = j
  · subst hj
    rw [if_pos rfl, mj_f46_len, if_pos (by decide)]
    unfold mj_f46
    rw [List.getElem?_mapIdx, show mj_l46[19]? = some 2 from by decide +kernel]
    rfl
  · rw [if_neg hj]
    unfold mj_f46
    rw [List.getElem?_mapIdx, List.getElem?_mapIdx]
    cases h : mj_l46[j]? with
    | none => rfl
    | some code =>
      have hlt : j < 20 := (List.getElem?_eq_some_iff.mp h).1
      have hc : code ≠ 2 := fun z => hj (mj_l46_2 j hlt code h z).symm
      simp only [Option.map_some]
      congr 1
      unfold mj_fv
      split <;> first | rfl | exact absurd rfl hc
/-- what the world holds once the marks are made anew -/
theorem mj_ws_newMk {G : mj_G} {am q N : Nat} {σ : mj_St} {H : Heap} (hP : va_P G.1 mj_classes ((mj_ws G am σ ++ [(q, Sum.inl (G.2.2.1 2, N, Sum.inr (Sum.inl (fun _ => 0))))]).set 46 (mj_adr G am 46, Sum.inr (3, (mj_f46 G am σ).set 19 (.ref q)))) H)
    (hD : va_D (mj_A G) ((mj_ws G am σ ++ [(q, Sum.inl (G.2.2.1 2, N, Sum.inr (Sum.inl (fun _ => 0))))]).set 46 (mj_adr G am 46, Sum.inr (3, (mj_f46 G am σ).set 19 (.ref q))))) : mj_Rep G q (mj_newMk σ N) H := by
  refine mj_pick (fun k => if k = mj_NC then mj_NC + 1 else if k = mj_NC + 1 then mj_NC else k) (fun k e he => ?_) (fun i j hij => ?_) hP hD
  · have hkl : k < mj_NC + 1 := by rw [← mj_ws_len G q (mj_newMk σ N)]; exact (List.getElem?_eq_some_iff.mp he).1
    by_cases hk : k = mj_NC
    · subst hk
      rw [if_pos rfl, List.getElem?_set_ne (by decide), List.getElem?_append_right (by rw [mj_ws_len]; exact Nat.le_refl _), mj_ws_len, Nat.sub_self]
      rw [mj_ws_mk] at he
      rw [← he]
      rfl
    · rw [if_neg hk, if_neg (by omega)]
      have hk2 : k < mj_NC := by omega
      rw [mj_ws_get G q _ hk2] at he
      rw [← he]
      by_cases h46 : k = 46
      · subst h46
        rw [List.getElem?_set_self (by rw [List.length_append, mj_ws_len]; exact Nat.lt_of_lt_of_le (by decide : 46 < mj_NC + 1) (Nat.le_add_right _ _)), mj_adr_lt (by decide), mj_f46_set (N := N), mj_cell46]
      · have h999 : k ≠ 999 := by unfold mj_NC at hk2; omega
        rw [List.getElem?_set_ne (fun z => h46 z.symm), List.getElem?_append_left (by rw [mj_ws_len]; omega), mj_ws_get G am σ hk2, mj_cell_am (am := am) (am' := q) hk2 h46, mj_cell_congr G q σ (mj_newMk σ N) k rfl (by funext i; simp [mj_newMk, h999]) rfl]
  · split at hij <;> split at hij <;> (try split at hij) <;> (try split at hij) <;> omega
theorem mj_wJ : Cond.arrayClass .long ∈ lw_tbl := mj_mt (by decide +kernel)
theorem mj_inv_cal {oc idx mid na sv : Nat} (h : mj_inv oc idx = some (mid, na, sv)) : mj_cal oc idx = some mid := by
  unfold mj_inv at h
  split at h
  · rename_i mid' hcl
    split at h
    · cases h; exact hcl
    · split at h
      · cases h; exact hcl
      · cases h
  · cases h
section MJ
variable {p : Program} {l : Launch} {e : Env} {R : Room} {s : State} {m : MethodId} {args : Array Value} {below : List Frame} {meth : Method} {c : Code} {Q : State → Prop}
variable {G : mj_G} {X : mj_X} {oc nL F : Nat} {Z : Nat × Nat} {cc : ByteArray}
variable {pc : Nat} {lo st : List Value} {σ : mj_St} {c' : mj_Cf}
theorem mj_cmp_t {o : ClassFile.Cond} {x y : Int32} {b : Bool} (h : mj_cmp o x y = b) : match o with
    | .eq => (b = true → x = y) ∧ (b = false → ¬ x = y)
    | .ne => (b = true → ¬ x = y) ∧ (b = false → ¬ ¬ x = y)
    | .lt => (b = true → x < y) ∧ (b = false → ¬ x < y)
    | .ge => (b = true → y ≤ x) ∧ (b = false → ¬ y ≤ x)
    | .gt => (b = true → y < x) ∧ (b = false → ¬ y < x)
    | .le => (b = true → x ≤ y) ∧ (b = false → ¬ x ≤ y) := by
  subst h
  cases o <;> simp [mj_cmp]
set_option maxRecDepth 100000 in
theorem mj_s_mkn (fx : mj_FX G X oc cc nL p s m c) (hdg : decode cc pc = .ok (.newarray .long, 2)) (h : mj_mkn oc cc pc lo st σ = some (.inl c'))
    (kk : mj_At G nL F Z p l e R s m args below meth c Q c') : mj_At G nL F Z p l e R s m args below meth c Q (pc, lo, st, σ) := by
  obtain ⟨hx, hb, hml, hown, hTB, hK, hE, hbase, hSR⟩ := fx
  unfold mj_mkn at h
  split at h
  · rename_i n c0 r
    split at h
    · rename_i idx hdg2
      split at h
      · rename_i hcond
        obtain ⟨hf, hc46, hn, hN, hlo, hr⟩ := hcond
        subst hc46
        cases mj_nx_inv h
        have hF := kk.1
        have hu : (mj_newMk σ n.toNatClampNeg).2.2.2.2 = σ.2.2.2.2 + (n.toNatClampNeg + 1) := rfl
        simp only [hu] at hF
        refine ⟨by simp only; omega, fun am H locs cells slots ls hZ hR hS hL h1 h2 => ?_⟩
        simp only at h1 h2
        generalize hNN : n.toNatClampNeg = N0 at *
        have hA : ∀ q : Nat, s.heap.size ≤ q → mj_A G q := fun q hq => Nat.le_trans hbase hq
        have hby : N0 * componentBytes .long ≤ 536870912 := Nat.le_trans (Nat.mul_le_mul_right _ hN) (by decide)
        refine va_newa (atype := .long) (ty := .long) (N' := N0) (a0 := (N0, .inr (.inl (fun _ => 0)))) hx hb (hTB _ mj_wJ rfl _) rfl hK hR.1 hR.2 hS hA (fun cA => (show vp_cell cA (N0, .inr (.inl (fun _ => 0))) = arrV cA N0 (fun _ => Value.long 0) from rfl)) hn hNN hby (by omega) (by omega) hdg (fun q cA H1 hK1 hP1 hD1 hS1 => ?_)
        have hcA : cA = G.2.2.1 2 := mj_arrJ 4 2 rfl rfl hK1
        subst hcA
        obtain ⟨C, T, N, hcl, hkN, hTk, hlink⟩ := mj_fld_spec hf
        obtain ⟨-, ⟨ty0, hty⟩, hnm⟩ := mj_uws hcl
        have hcl3 : (C, T, N) = (mr3, mT3, 20) := Option.some.inj (hcl.symm.trans rfl)
        obtain ⟨rfl, hTN⟩ := Prod.mk.inj hcl3
        obtain ⟨rfl, rfl⟩ := Prod.mk.inj hTN
        have hlt : (46 : Nat) < mj_NC := by decide
        have hcell := mj_cell_at (σ := σ) (am := am) (G := G) (a := 46) hlt mj_cell46
        have hc1 : (mj_ws G am σ ++ [(q, Sum.inl (G.2.2.1 2, N0, Sum.inr (Sum.inl (fun _ => 0))))])[46]? = some (mj_adr G am 46, Sum.inr (3, mj_f46 G am σ)) := by
          rw [List.getElem?_append_left (by rw [mj_ws_len]; decide)]
          exact hcell
        have hfin : (mT3 19).2.2.2 = false := rfl
        have hpd : parseFieldDescriptor (mT3 19).2.2.1 = some (.array .long) := by decide +kernel
        have key : ∀ (H2 : Heap) (locs2 : List Loc), va_P G.1 mj_classes ((mj_ws G am σ ++ [(q, Sum.inl (G.2.2.1 2, N0, Sum.inr (Sum.inl (fun _ => 0))))]).set 46 (mj_adr G am 46, Sum.inr (3, (mj_f46 G am σ).set 19 (.ref q)))) H2 →
            va_D (mj_A G) ((mj_ws G am σ ++ [(q, Sum.inl (G.2.2.1 2, N0, Sum.inr (Sum.inl (fun _ => 0))))]).set 46 (mj_adr G am 46, Sum.inr (3, (mj_f46 G am σ).set 19 (.ref q)))) →
            va_S (mj_A G) s.heap H2 locs2 → W p l e R s m args below meth c H2 locs2 (cells + 1) (slots + N0) Q (F0 m (pc + 2 + 3) ls (r.map (mj_cv G am))) := by
          intro H2 locs2 hP2 hD2 hS2
          have k2 := kk.2 q H2 locs2 (cells + 1) (slots + N0) ls ⟨(by have hz1 : Z.1 ≤ σ.2.2.2.2 := hZ.1; simp only [hu]; omega), fun z => (by have hz1 : Z.1 ≤ σ.2.2.2.2 := hZ.1; simp only [hu] at z; omega)⟩ (mj_ws_newMk hP2 hD2) hS2 (mj_noMk_LV hlo hL) (by simp only [hu]; omega) (by simp only [hu]; omega)
          simp only at k2
          rw [mj_noMk_map (G := G) (am := q) (am' := am) hr] at k2
          exact k2
        have hkl : (19 : Nat) < (mj_f46 G am σ).length := by rw [mj_f46_len]; decide
        rcases hlink with hl | ⟨host, hl⟩
        · exact va_put (Ts := u_ws mr3 mT3 20) (v := .ref q) hx hb (hTB.uws hcl) (fun w q => q) ty0 hty hnm hown hK hP1 hD1 hS1 46 hc1 hcl 19 hkN (hTB _ hl rfl _) (fun x q => by rw [← hTk]; exact q) hfin hpd rfl rfl hkl hdg2 key
        · exact va_putN (Ts := u_ws mr3 mT3 20) (v := .ref q) hx hb (hTB.uws hcl) (fun w q => q) ty0 hty hnm hown hK hP1 hD1 hS1 46 hc1 hcl 19 hkN (hTB _ hl rfl _) (fun x q => by rw [← hTk]; exact q) hfin hpd rfl rfl hkl hdg2 key
      · cases h
    · cases h
  · cases h
theorem mj_step_sound (fx : mj_FX G X oc cc nL p s m c) {d : Nat} (hRf : d + 21 ≤ R.frames) (hRl : 64 * (d + 1) + 2000 ≤ R.locals) {call : mj_Call} (hstr : mj_Str l G X) (hcall : ∀ mid as σ v σ', call mid as σ = some (v, σ') → mj_MetOk l G X d mid as σ v σ')
    {ret : Option FieldType} (h : mj_step X call oc ret cc (pc, lo, st, σ) = some (.inl c')) (kk : mj_At G nL F Z p l e R s m args below meth c Q c') : mj_At G nL F Z p l e R s m args below meth c Q (pc, lo, st, σ) := by
  have fx0 := fx
  obtain ⟨hx, hb, hml, hown, hTB, hK, hE, hbase, hSR⟩ := fx
  unfold mj_step at h
  split at h
  · rename_i hdg
    exact mj_s_mkn fx0 hdg h kk
  · rename_i i n hne hdg
    clear hne
    simp only at hdg h
    unfold mj_ex at h
    split at h
    · exact mj_s_ldI (i := 0) h (fun hl k => lv_iload hx hb hdg hl k) kk
    · exact mj_s_ldI (i := 0) h (fun hl k => lv_iload_n hx hb hdg rfl hl k) kk
    · exact mj_s_ldL (i := 0) h (fun hl k => lv_lload hx hb hdg hl k) kk
    · exact mj_s_ldL (i := 0) h (fun hl k => lv_lload_n hx hb hdg rfl hl k) kk
    · exact mj_s_ldA (i := 0) h (fun hl k => lv_aload hx hb hdg hl k) kk
    · exact mj_s_ldA (i := 0) h (fun hl k => lv_aload_n hx hb hdg rfl hl k) kk
    · exact mj_s_stI h (fun h1 h2 k => lv_istore hx hb hdg h1 h2 rfl k) kk
    · exact mj_s_stI h (fun h1 h2 k => lv_istore_n hx hb hdg rfl h1 h2 rfl k) kk
    · exact mj_s_stL h (fun h1 h2 k => lv_lstore hx hb hdg h1 h2 rfl k) kk
    · exact mj_s_stL h (fun h1 h2 k => lv_lstore_n hx hb hdg rfl h1 h2 rfl k) kk
    · exact mj_s_stA h (fun h1 h2 k => lv_astore hx hb hdg h1 h2 rfl k) kk
    · exact mj_s_stA h (fun h1 h2 k => lv_astore_n hx hb hdg rfl h1 h2 rfl k) kk
    · exact mj_s_inc h hb hx hdg rfl kk
    · cases mj_nx_inv h; exact mj_pure kk (fun am H locs cells slots ls _ _ _ k => lv_iconst hx hb hdg rfl k)
    · cases mj_nx_inv h; exact mj_pure kk (fun am H locs cells slots ls _ _ _ k => lv_bipush hx hb hdg rfl k)
    · cases mj_nx_inv h; exact mj_pure kk (fun am H locs cells slots ls _ _ _ k => lv_sipush hx hb hdg rfl k)
    · cases mj_nx_inv h; exact mj_pure kk (fun am H locs cells slots ls _ _ _ k => lv_lconst hx hb hdg rfl k)
    · exact mj_s_b2 h (fun k => lv_iadd hx hb hdg k) kk
    · exact mj_s_b2 h (fun k => lv_isub hx hb hdg k) kk
    · exact mj_s_b2 h (fun k => lv_imul hx hb hdg k) kk
    · exact mj_s_b2 h (fun k => lv_iand hx hb hdg k) kk
    · exact mj_s_b2 h (fun k => lv_ior hx hb hdg k) kk
    · exact mj_s_b2 h (fun k => lv_ixor hx hb hdg k) kk
    · exact mj_s_b2 h (fun k => lv_ishl hx hb hdg k) kk
    · exact mj_s_b2 h (fun k => lv_ishr hx hb hdg k) kk
    · exact mj_s_b2 h (fun k => lv_iushr hx hb hdg rfl k) kk
    · exact mj_s_dv h (fun h1 k => lv_idiv hx hb hdg h1 k) kk
    · exact mj_s_dv h (fun h1 k => lv_irem hx hb hdg h1 k) kk
    · exact mj_s_u1 h (fun k => lv_ineg hx hb hdg k) kk
    · exact mj_s_u1 h (fun k => lv_i2b hx hb hdg rfl k) kk
    · exact mj_s_u1 h (fun k => lv_i2s hx hb hdg rfl k) kk
    · exact mj_s_bl h (fun k => lv_ladd hx hb hdg k) kk
    · exact mj_s_bl h (fun k => lv_land hx hb hdg k) kk
    · exact mj_s_bl h (fun k => lv_lor hx hb hdg k) kk
    · split at h
      · cases mj_nx_inv h; exact mj_pure kk (fun am H locs cells slots ls _ _ _ k => lv_lshl hx hb hdg rfl k)
      · cases h
    · split at h
      · cases mj_nx_inv h; exact mj_pure kk (fun am H locs cells slots ls _ _ _ k => W.lcmp hx hb hdg k)
      · cases h
    · split at h
      · cases mj_nx_inv h; exact mj_pure kk (fun am H locs cells slots ls _ _ _ k => lv_i2l hx hb hdg rfl k)
      · cases h
    · split at h
      · cases mj_nx_inv h; exact mj_pure kk (fun am H locs cells slots ls _ _ _ k => lv_l2i hx hb hdg rfl k)
      · cases h
    · split at h
      · split at h
        · rename_i hc1
          cases mj_nx_inv h; exact mj_pure kk (fun am H locs cells slots ls _ _ _ k => lv_dup hx hb hdg (by rw [mj_cv_cat]; exact hc1) k)
        · cases h
      · cases h
    · split at h
      · split at h
        · rename_i hc1
          cases mj_nx_inv h; exact mj_pure kk (fun am H locs cells slots ls _ _ _ k => lv_dup2_11 hx hb hdg (by rw [mj_cv_cat]; exact hc1.1) (by rw [mj_cv_cat]; exact hc1.2) k)
        · cases h
      · cases h
    · split at h
      · split at h
        · rename_i hc1
          cases mj_nx_inv h; exact mj_pure kk (fun am H locs cells slots ls _ _ _ k => lv_pop hx hb hdg (by rw [mj_cv_cat]; exact hc1) k)
        · cases h
      · cases h
    · exact mj_s_jmp h (fun ht k => lv_goto hx hb hdg ht k) kk
    · rename_i o off
      split at h
      · rename_i x r
        unfold mj_br at h
        split at h
        · rename_i h0
          have ht := (Int.toNat_of_nonneg h0).symm
          split at h
          · rename_i hb1
            cases mj_nx_inv h
            have hq := mj_cmp_t hb1
            refine mj_pure kk (fun am H locs cells slots ls _ _ _ k => ?_)
            cases o
            · exact lv_if_eq hx hb hdg ht (fun _ => k) (fun q => absurd (hq.1 rfl) q)
            · exact lv_if_ne hx hb hdg ht (fun _ => k) (fun q => absurd q (hq.1 rfl))
            · exact lv_if_lt hx hb hdg ht (fun _ => k) (fun q => absurd (hq.1 rfl) q)
            · exact lv_if_ge hx hb hdg ht (fun _ => k) (fun q => absurd (hq.1 rfl) q)
            · exact lv_if_gt hx hb hdg ht (fun _ => k) (fun q => absurd (hq.1 rfl) q)
            · exact lv_if_le hx hb hdg ht (fun _ => k) (fun q => absurd (hq.1 rfl) q)
          · rename_i hb1
            have hb2 := Bool.eq_false_iff.mpr hb1
            cases mj_nx_inv h
            have hq := mj_cmp_t hb2
            refine mj_pure kk (fun am H locs cells slots ls _ _ _ k => ?_)
            cases o
            · exact lv_if_eq hx hb hdg ht (fun q => absurd q (hq.2 rfl)) (fun _ => k)
            · exact lv_if_ne hx hb hdg ht (fun q => absurd q (hq.2 rfl)) (fun _ => k)
            · exact lv_if_lt hx hb hdg ht (fun q => absurd q (hq.2 rfl)) (fun _ => k)
            · exact lv_if_ge hx hb hdg ht (fun q => absurd q (hq.2 rfl)) (fun _ => k)
            · exact lv_if_gt hx hb hdg ht (fun q => absurd q (hq.2 rfl)) (fun _ => k)
            · exact lv_if_le hx hb hdg ht (fun q => absurd q (hq.2 rfl)) (fun _ => k)
        · cases h
      · cases h
    · rename_i o off
      split at h
      · rename_i y x r
        unfold mj_br at h
        split at h
        · rename_i h0
          have ht := (Int.toNat_of_nonneg h0).symm
          split at h
          · rename_i hb1
            cases mj_nx_inv h
            have hq := mj_cmp_t hb1
            refine mj_pure kk (fun am H locs cells slots ls _ _ _ k => ?_)
            cases o
            · exact lv_icmp_eq hx hb hdg ht (fun _ => k) (fun q => absurd (hq.1 rfl) q)
            · exact lv_icmp_ne hx hb hdg ht (fun _ => k) (fun q => absurd q (hq.1 rfl))
            · exact lv_icmp_lt hx hb hdg ht (fun _ => k) (fun q => absurd (hq.1 rfl) q)
            · exact lv_icmp_ge hx hb hdg ht (fun _ => k) (fun q => absurd (hq.1 rfl) q)
            · exact lv_icmp_gt hx hb hdg ht (fun _ => k) (fun q => absurd (hq.1 rfl) q)
            · exact lv_icmp_le hx hb hdg ht (fun _ => k) (fun q => absurd (hq.1 rfl) q)
          · rename_i hb1
            have hb2 := Bool.eq_false_iff.mpr hb1
            cases mj_nx_inv h
            have hq := mj_cmp_t hb2
            refine mj_pure kk (fun am H locs cells slots ls _ _ _ k => ?_)
            cases o
            · exact lv_icmp_eq hx hb hdg ht (fun q => absurd q (hq.2 rfl)) (fun _ => k)
            · exact lv_icmp_ne hx hb hdg ht (fun q => absurd q (hq.2 rfl)) (fun _ => k)
            · exact lv_icmp_lt hx hb hdg ht (fun q => absurd q (hq.2 rfl)) (fun _ => k)
            · exact lv_icmp_ge hx hb hdg ht (fun q => absurd q (hq.2 rfl)) (fun _ => k)
            · exact lv_icmp_gt hx hb hdg ht (fun q => absurd q (hq.2 rfl)) (fun _ => k)
            · exact lv_icmp_le hx hb hdg ht (fun q => absurd q (hq.2 rfl)) (fun _ => k)
        · cases h
      · cases h
    · split at h
      · cases mj_nx_inv h
        exact mj_pure kk (fun am H locs cells slots ls _ _ _ k => lv_ifnull hx hb hdg k)
      · exact mj_s_jmp h (fun ht k => lv_ifnullN hx hb hdg ht k) kk
      · cases h
    · exact mj_s_tsw hx hb hdg h kk
    · exact mj_s_lsw hx hb hdg h kk
    · exact mj_s_ald fx0 hdg h kk
    · exact mj_s_bld fx0 hdg h kk
    · exact mj_s_lld fx0 hdg h kk
    · exact mj_s_qld fx0 hdg h kk
    · exact mj_s_ast fx0 hdg h kk
    · exact mj_s_bst fx0 hdg h kk
    · exact mj_s_lst fx0 hdg h kk
    · exact mj_s_len fx0 hdg h kk
    · exact mj_s_get fx0 hdg h kk
    · exact mj_s_put fx0 hdg h kk
    · split at h
      · rename_i k hk
        cases mj_nx_inv h
        exact mj_s_sta fx0 hdg hk kk
      · cases h
    · unfold mj_ivk at h
      split at h
      · rename_i mid na sv hinv
        split at h
        · rename_i hm
          split at h
          · rename_i q; cases q
          · exact mj_s_txt fx0 hstr hRf hRl (mj_inv_cal hinv) hm hdg h kk
        · rename_i hm
          split at h
          · rename_i hcond
            split at h
            · rename_i v σ' hc0
              split at h
              case isFalse => cases h
              rename_i hmk
              cases mj_nx_inv h
              exact mj_s_ivk (virt := true) fx0 hRf hRl hcall hinv hm hdg hcond hc0 hmk kk
            · cases h
          · cases h
      · cases h
    · unfold mj_ivk at h
      split at h
      · rename_i mid na sv hinv
        split at h
        · rename_i hm
          split at h
          · exact mj_s_nat fx0 hRf hRl (mj_inv_cal hinv) hm hdg h kk
          · rename_i q
            exact absurd rfl q
        · rename_i hm
          split at h
          · rename_i hcond
            split at h
            · rename_i v σ' hc0
              split at h
              case isFalse => cases h
              rename_i hmk
              cases mj_nx_inv h
              exact mj_s_ivk (virt := false) fx0 hRf hRl hcall hinv hm hdg hcond hc0 hmk kk
            · cases h
          · cases h
      · cases h
    · split at h
      · rename_i v hv
        cases mj_nx_inv h
        exact mj_pure kk (fun am H locs cells slots ls _ _ _ k => lv_ldc hx hb hown (hTB _ (mj_con_w hv) rfl _) hdg k)
      · split at h
        · rename_i j hj
          cases mj_nx_inv h
          refine mj_pure kk (fun am H locs cells slots ls _ _ _ k => ?_)
          obtain ⟨rfl, en, he, rfl⟩ := mj_lds_w hj
          have had : mj_adr G am (1100 + j) = G.2.1 (1100 + j) := mj_adr_ge (Nat.le_trans (by decide) (Nat.le_add_right 1100 j))
          have k2 : W p l e R s m args below meth c H locs cells slots Q (F0 m (pc + 2) ls (.ref (mj_adr G am (1100 + j)) :: st.map (mj_cv G am))) := k
          rw [had] at k2
          exact va_ldcS hx hb hown (hSR j en he) hdg k2
        · cases h
    · split at h
      · rename_i v hv
        cases mj_nx_inv h
        exact mj_pure kk (fun am H locs cells slots ls _ _ _ k => lv_ldcw hx hb hown (hTB _ (mj_con_w hv) rfl _) hdg k)
      · cases h
    · split at h
      · rename_i hc2
        obtain ⟨rfl, rfl⟩ := hc2
        cases mj_nx_inv h
        exact mj_pure kk (fun am H locs cells slots ls _ _ _ k => lv_ldc2 hx hb hown (hTB _ mj_w18 rfl _) hdg k)
      · cases h
    · split at h
      · split at h <;> cases h
      · cases h
    · split at h
      · split at h <;> cases h
      · cases h
    · split at h
      · split at h <;> cases h
      · cases h
    · cases h
  · cases h
end MJ
