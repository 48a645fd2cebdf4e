/-! the world of the two systems: its cells, numbered; what each is -/
-- 0 kp
-- 1 content
-- 2 sizes
-- 3 cells
-- 4 row0
-- 5 row1
-- 6 row2
-- 7 row3
-- 8 row4
-- 9 row5
-- 10 row6
-- 11 row7
-- 12 refusals
-- 13 trail
-- 14 deal
-- 15 deal.kind
-- 16 deal.from
-- 17 deal.till
-- 18 deal.thing
-- 19 deal.after
-- 20 deal.fork
-- 21 deal.how
-- 22 deal.owing
-- 23 deal.whom
-- 24 deal.length
-- 25 deal.left
-- 26 deal.span
-- 27 deal.handsIn
-- 28 deal.knownFrom
-- 29 kept
-- 30 kept.kind
-- 31 kept.from
-- 32 kept.till
-- 33 kept.thing
-- 34 kept.after
-- 35 kept.fork
-- 36 kept.how
-- 37 kept.owing
-- 38 kept.whom
-- 39 kept.length
-- 40 kept.left
-- 41 kept.span
-- 42 kept.handsIn
-- 43 kept.knownFrom
-- 44 reader
-- 45 letters0
-- 46 search
-- 47 search.number
-- 48 search.afterPlace
-- 49 search.order
-- 50 search.deadline
-- 51 search.standings
-- 52 search.leftAhead
-- 53 search.leftAfter
-- 54 search.roomBefore
-- 55 breaking
-- 56 breaking.number
-- 57 breaking.price
-- 58 breaking.fails
-- 59 telling
-- 60 telling.lefts
-- 61 model
-- 62 m.refused
-- 63 m.hands
-- 64 m.knownFrom
-- 65 m.kind
-- 66 m.from
-- 67 m.to
-- 68 m.thing
-- 69 m.after
-- 70 m.fork
-- 71 m.way
-- 72 m.owed
-- 73 m.whom
-- 74 m.length
-- 75 m.span
-- 76 m.left
-- 77 m.gone
-- 78 m.held
-- 79 m.sort
-- 80 m.size
-- 81 m.shown
-- 82 m.cells
-- 83 m.carried
-- 84 m.power
-- 85 m.figure
-- 86 m.mark
-- 87 m.markOf
-- 88 m.worth
-- 89 m.trace
-- 90 m.kept
/-- what a cell is: (0, class, its fields' codes), (1, n, _) a row of n ints, (2, n, _) of booleans, (3, n, _) of longs, (4, n, cells) of references. A field's code: 0 int, 3 boolean, 1 a reference that changes, 2 the marks, k + 4 the cell k -/
def mj_shpT : List (Nat × Nat × List Nat) := [(0, 5, [5, 6, 7, 16, 17, 18, 33, 48, 50, 59, 63, 3, 0, 0]), (1, 8, []), (1, 8, []), (4, 8, [4, 5, 6, 7, 8, 9, 10, 11]), (3, 60, []), (3, 60, []), (3, 60, []), (3, 60, []), (3, 60, []), (3, 60, []), (3, 60, []), (3, 60, []), (1, 8, []), (1, 20, []), (0, 1, [19, 20, 21, 22, 23, 24, 25, 26, 27, 28, 29, 30, 31, 32, 0, 0, 0, 0, 0]), (1, 9, []), (1, 9, []), (1, 9, []), (1, 9, []), (1, 9, []), (1, 9, []), (1, 9, []), (1, 9, []), (1, 9, []), (1, 9, []), (1, 9, []), (1, 9, []), (1, 12, []), (1, 3, []), (0, 1, [34, 35, 36, 37, 38, 39, 40, 41, 42, 43, 44, 45, 46, 47, 0, 0, 0, 0, 0]), (1, 9, []), (1, 9, []), (1, 9, []), (1, 9, []), (1, 9, []), (1, 9, []), (1, 9, []), (1, 9, []), (1, 9, []), (1, 9, []), (1, 9, []), (1, 9, []), (1, 12, []), (1, 3, []), (0, 2, [1, 0, 0, 0, 0, 0, 0, 0, 0, 0, 0, 0, 0, 0]), (3, 0, []), (0, 3, [1, 0, 0, 0, 3, 0, 0, 0, 0, 0, 0, 51, 52, 53, 54, 55, 56, 57, 58, 2]), (1, 6, []), (1, 6, []), (1, 6, []), (1, 6, []), (1, 96, []), (1, 72, []), (1, 72, []), (1, 13, []), (0, 0, [60, 61, 62, 0]), (1, 9, []), (1, 9, []), (2, 512, []), (0, 4, [64, 0, 0]), (1, 9, []), (0, 6, [0, 0, 0, 0, 66, 67, 68, 69, 70, 71, 72, 73, 74, 75, 76, 77, 78, 79, 80, 81, 82, 83, 84, 85, 86, 87, 0, 0, 0, 0, 0, 0, 0, 0, 0, 0, 0, 0, 0, 0, 0, 0, 0, 0, 88, 89, 0, 0, 90, 91, 92, 0, 0, 0, 0, 3, 0, 0, 93, 0, 0, 0, 0, 94]), (1, 8, []), (1, 12, []), (1, 3, []), (1, 9, []), (1, 9, []), (1, 9, []), (1, 9, []), (1, 9, []), (1, 9, []), (1, 9, []), (1, 9, []), (1, 9, []), (1, 9, []), (1, 9, []), (1, 9, []), (1, 9, []), (1, 8, []), (1, 8, []), (1, 8, []), (1, 8, []), (3, 480, []), (3, 60, []), (1, 9, []), (1, 9, []), (1, 16384, []), (1, 16384, []), (1, 16384, []), (1, 20, []), (1, 140, [])]
def mj_NC : Nat := 91
def mj_shp (c : Nat) : Nat × Nat × List Nat := mj_shpT.getD c (9, 0, [])
/-- the state: ints, longs, the references that change, the marks' length, the room used -/
abbrev mj_St : Type := (Nat → Nat → Int32) × (Nat → Nat → Int64) × (Nat → Nat → Option Nat) × Nat × Nat
/-- the launch's side: classes and slots, the cells' addresses, the array classes, where the world's cells begin -/
abbrev mj_G : Type := va_G × (Nat → Nat) × (Nat → ClassId) × Nat
def mj_A (G : mj_G) : Nat → Prop := fun q => G.2.2.2 ≤ q
def mj_adr (G : mj_G) (am k : Nat) : Nat := if k = 999 then am else G.2.1 k
def mj_cv (G : mj_G) (am : Nat) : Value → Value := fun v => match v with
  | .ref k => .ref (mj_adr G am k)
  | v => v
def mj_fv (G : mj_G) (am : Nat) (σ : mj_St) (c j code : Nat) : Value := match code with
  | 0 => .int (σ.1 c j)
  | 3 => .int (σ.1 c j)
  | 1 => va_rf ((σ.2.2.1 c j).map G.2.1)
  | 2 => .ref am
  | k => .ref (G.2.1 (k - 4))
def mj_cell (G : mj_G) (am : Nat) (σ : mj_St) (c : Nat) : va_E := match mj_shp c with
  | (0, ci, fl) => .inr (ci, fl.mapIdx (fun j code => mj_fv G am σ c j code))
  | (1, n, _) => .inl (G.2.2.1 0, n, .inl (σ.1 c))
  | (2, n, _) => .inl (G.2.2.1 1, n, .inl (σ.1 c))
  | (3, n, _) => .inl (G.2.2.1 2, n, .inr (.inl (σ.2.1 c)))
  | (_, n, fl) => .inl (G.2.2.1 3, n, .inr (.inr (.inr (.inr (fun j => (fl[j]?).map G.2.1)))))
def mj_mk (G : mj_G) (am : Nat) (σ : mj_St) : Nat × va_E := (am, .inl (G.2.2.1 2, σ.2.2.2.1, .inr (.inl (σ.2.1 999))))
def mj_ws (G : mj_G) (am : Nat) (σ : mj_St) : va_W := (List.range mj_NC).map (fun c => (G.2.1 c, mj_cell G am σ c)) ++ [mj_mk G am σ]
theorem mj_ws_len (G : mj_G) (am : Nat) (σ : mj_St) : (mj_ws G am σ).length = mj_NC + 1 := by simp [mj_ws]
theorem mj_ws_get (G : mj_G) (am : Nat) (σ : mj_St) {c : Nat} (h : c < mj_NC) : (mj_ws G am σ)[c]? = some (G.2.1 c, mj_cell G am σ c) := by
  unfold mj_ws
  rw [List.getElem?_append_left (by simpa using h), List.getElem?_map, List.getElem?_range h]
  rfl
theorem mj_ws_mk (G : mj_G) (am : Nat) (σ : mj_St) : (mj_ws G am σ)[mj_NC]? = some (mj_mk G am σ) := by
  unfold mj_ws
  rw [List.getElem?_append_right (by simp)]
  simp
theorem mj_ws_set (G : mj_G) (am : Nat) (σ σ' : mj_St) {c : Nat} (h : c < mj_NC) (ho : ∀ c', c' ≠ c → mj_cell G am σ' c' = mj_cell G am σ c') (hm : mj_mk G am σ' = mj_mk G am σ) {e : va_E} (he : e = mj_cell G am σ' c) :
    (mj_ws G am σ).set c (G.2.1 c, e) = mj_ws G am σ' := by
  subst he
  apply List.ext_getElem?
  intro k
  rw [List.getElem?_set]
  by_cases hk : c = k
  · subst hk
    rw [if_pos rfl, mj_ws_len, if_pos (by omega), mj_ws_get G am σ' h]
  · rw [if_neg hk]
    by_cases h1 : k < mj_NC
    · rw [mj_ws_get G am σ h1, mj_ws_get G am σ' h1, ho k (fun q => hk q.symm)]
    · by_cases h2 : k = mj_NC
      · subst h2
        rw [mj_ws_mk, mj_ws_mk, hm]
      · rw [List.getElem?_eq_none (by rw [mj_ws_len]; omega), List.getElem?_eq_none (by rw [mj_ws_len]; omega)]
theorem mj_ws_setM (G : mj_G) (am : Nat) (σ σ' : mj_St) (ho : ∀ c', mj_cell G am σ' c' = mj_cell G am σ c') :
    (mj_ws G am σ).set mj_NC (mj_mk G am σ') = mj_ws G am σ' := by
  apply List.ext_getElem?
  intro k
  rw [List.getElem?_set]
  by_cases hk : mj_NC = k
  · subst hk
    rw [if_pos rfl, mj_ws_len, if_pos (by omega), mj_ws_mk]
  · rw [if_neg hk]
    by_cases h1 : k < mj_NC
    · rw [mj_ws_get G am σ h1, mj_ws_get G am σ' h1, ho k]
    · rw [List.getElem?_eq_none (by rw [mj_ws_len]; omega), List.getElem?_eq_none (by rw [mj_ws_len]; omega)]
def mj_setI (σ : mj_St) (c i : Nat) (v : Int32) : mj_St := (fun c' i' => if c' = c ∧ i' = i then v else σ.1 c' i', σ.2)
def mj_setL (σ : mj_St) (c i : Nat) (v : Int64) : mj_St := (σ.1, fun c' i' => if c' = c ∧ i' = i then v else σ.2.1 c' i', σ.2.2)
def mj_setR (σ : mj_St) (c i : Nat) (v : Option Nat) : mj_St := (σ.1, σ.2.1, fun c' i' => if c' = c ∧ i' = i then v else σ.2.2.1 c' i', σ.2.2.2)
theorem mj_setI_ne (σ : mj_St) {c c' : Nat} (i : Nat) (v : Int32) (h : c' ≠ c) : (mj_setI σ c i v).1 c' = σ.1 c' := by
  funext j
  simp [mj_setI, h]
theorem mj_setL_ne (σ : mj_St) {c c' : Nat} (i : Nat) (v : Int64) (h : c' ≠ c) : (mj_setL σ c i v).2.1 c' = σ.2.1 c' := by
  funext j
  simp [mj_setL, h]
theorem mj_setR_ne (σ : mj_St) {c c' : Nat} (i : Nat) (v : Option Nat) (h : c' ≠ c) : (mj_setR σ c i v).2.2.1 c' = σ.2.2.1 c' := by
  funext j
  simp [mj_setR, h]
theorem mj_cell_congr (G : mj_G) (am : Nat) (σ σ' : mj_St) (c : Nat) (h1 : σ'.1 c = σ.1 c) (h2 : σ'.2.1 c = σ.2.1 c) (h3 : σ'.2.2.1 c = σ.2.2.1 c) : mj_cell G am σ' c = mj_cell G am σ c := by
  unfold mj_cell mj_fv
  rw [h1, h2, h3]
theorem mj_setI_o (G : mj_G) (am : Nat) (σ : mj_St) (c i : Nat) (v : Int32) : ∀ c', c' ≠ c → mj_cell G am (mj_setI σ c i v) c' = mj_cell G am σ c' :=
  fun _ h => mj_cell_congr G am σ _ _ (mj_setI_ne σ i v h) rfl rfl
theorem mj_setL_o (G : mj_G) (am : Nat) (σ : mj_St) (c i : Nat) (v : Int64) : ∀ c', c' ≠ c → mj_cell G am (mj_setL σ c i v) c' = mj_cell G am σ c' :=
  fun _ h => mj_cell_congr G am σ _ _ rfl (mj_setL_ne σ i v h) rfl
theorem mj_setR_o (G : mj_G) (am : Nat) (σ : mj_St) (c i : Nat) (v : Option Nat) : ∀ c', c' ≠ c → mj_cell G am (mj_setR σ c i v) c' = mj_cell G am σ c' :=
  fun _ h => mj_cell_congr G am σ _ _ rfl rfl (mj_setR_ne σ i v h)
/-- a row of ints or booleans, one place set -/
theorem mj_cell_arrI (G : mj_G) (am : Nat) (σ : mj_St) {c t n : Nat} {fl : List Nat} (hs : mj_shp c = (t, n, fl)) (ht : t = 1 ∨ t = 2) (i : Nat) (v : Int32) :
    (Sum.inl (G.2.2.1 (t - 1), n, .inl (upd (σ.1 c) i v)) : va_E) = mj_cell G am (mj_setI σ c i v) c := by
  have e : upd (σ.1 c) i v = (mj_setI σ c i v).1 c := by
    funext j
    simp [upd, mj_setI]
  rw [e]
  rcases ht with rfl | rfl <;> simp [mj_cell, hs]
theorem mj_cell_arrL (G : mj_G) (am : Nat) (σ : mj_St) {c n : Nat} {fl : List Nat} (hs : mj_shp c = (3, n, fl)) (i : Nat) (v : Int64) :
    (Sum.inl (G.2.2.1 2, n, .inr (.inl (vp_updL (σ.2.1 c) i v))) : va_E) = mj_cell G am (mj_setL σ c i v) c := by
  have e : vp_updL (σ.2.1 c) i v = (mj_setL σ c i v).2.1 c := by
    funext j
    simp [vp_updL, mj_setL]
  rw [e]
  simp [mj_cell, hs]
/-- an object, one field set -/
theorem mj_cell_obj (G : mj_G) (am : Nat) (σ σ' : mj_St) {c ci k code : Nat} {fl : List Nat} (hs : mj_shp c = (0, ci, fl)) (hk : fl[k]? = some code)
    (ho : ∀ j code', j ≠ k → mj_fv G am σ' c j code' = mj_fv G am σ c j code') :
    (Sum.inr (ci, (fl.mapIdx (fun j code => mj_fv G am σ c j code)).set k (mj_fv G am σ' c k code)) : va_E) = mj_cell G am σ' c := by
  simp only [mj_cell, hs]
  congr 2
  apply List.ext_getElem?
  intro j
  rw [List.getElem?_set]
  by_cases hj : k = j
  · subst hj
    obtain ⟨hl, he⟩ := List.getElem?_eq_some_iff.mp hk
    simp [hl, List.getElem?_mapIdx, he]
  · simp only [if_neg hj, List.getElem?_mapIdx]
    cases fl[j]? with
    | none => rfl
    | some x => simp [ho j x (fun q => hj q.symm)]
theorem mj_shp_lt {c : Nat} (h : (mj_shp c).1 ≠ 9) : c < mj_NC := by
  by_cases hc : c < mj_NC
  · exact hc
  · exfalso
    apply h
    have : mj_shpT.length = mj_NC := by decide +kernel
    simp only [mj_shp, List.getD_eq_getElem?_getD]
    rw [List.getElem?_eq_none (by omega)]
    rfl
/-- the fields' codes are what the classes say -/
def mj_codeC (T : u_T) (k code : Nat) : Bool := match code with
  | 0 => decide ((T k).2.2.1 = "I") && !(T k).2.2.2
  | 3 => decide ((T k).2.2.1 = "Z") && !(T k).2.2.2
  | 1 => decide ((T k).2.2.1 = "LKeptPromises$Deal;" ∨ (T k).2.2.1 = "[J") && !(T k).2.2.2
  | 2 => decide ((T k).2.2.1 = "[J") && !(T k).2.2.2
  | _ => true
def mj_shpC (e : Nat × Nat × List Nat) : Bool := match e with
  | (0, ci, fl) => match mj_classes[ci]? with
    | some (_, T, N) => decide (fl.length = N) && (List.range N).all (fun k => mj_codeC T k (fl.getD k 9))
    | none => false
  | _ => true
theorem mj_shp_ok : mj_shpT.all mj_shpC = true := by decide +kernel
theorem mj_shp_spec {c ci : Nat} {fl : List Nat} (h : mj_shp c = (0, ci, fl)) : ∃ C T N, mj_classes[ci]? = some (C, T, N) ∧ fl.length = N ∧ ∀ k code, fl[k]? = some code → mj_codeC T k code = true := by
  have hm : (0, ci, fl) ∈ mj_shpT := by
    have hlt : c < mj_NC := mj_shp_lt (by rw [h]; show (0 : Nat) ≠ 9; decide)
    have hl : mj_shpT.length = mj_NC := by decide +kernel
    rw [← h]
    unfold mj_shp
    rw [List.getD_eq_getElem?_getD, List.getElem?_eq_getElem (by omega)]
    exact List.getElem_mem _
  have hc := List.all_eq_true.mp mj_shp_ok _ hm
  simp only [mj_shpC] at hc
  split at hc
  case h_2 => cases hc
  case h_1 C T N hcl =>
    simp only [Bool.and_eq_true, decide_eq_true_eq] at hc
    refine ⟨C, T, N, hcl, hc.1, fun k code hk => ?_⟩
    have hk' : k < N := by rw [← hc.1]; exact (List.getElem?_eq_some_iff.mp hk).1
    have := List.all_eq_true.mp hc.2 k (List.mem_range.mpr hk')
    rw [List.getD_eq_getElem?_getD, hk] at this
    exact this
-- the locals
def mj_lvl (G : mj_G) (am : Nat) (l : List Value) : List (Nat × Value) := (List.range l.length).filterMap (fun i => match l[i]? with
  | some (Value.retAddr _) => none
  | some v => some (i, mj_cv G am v)
  | none => none)
theorem mj_lvl_mem {G : mj_G} {am : Nat} {l : List Value} {q : Nat × Value} : q ∈ mj_lvl G am l ↔ ∃ v, l[q.1]? = some v ∧ (∀ x, v ≠ .retAddr x) ∧ q.2 = mj_cv G am v := by
  unfold mj_lvl
  rw [List.mem_filterMap]
  constructor
  · rintro ⟨i, -, h⟩
    split at h
    · cases h
    · rename_i v hne hv
      cases h
      exact ⟨v, hv, fun x e => hne x e, rfl⟩
    · cases h
  · rintro ⟨v, hv, hne, hq⟩
    refine ⟨q.1, List.mem_range.mpr (List.getElem?_eq_some_iff.mp hv).1, ?_⟩
    rw [hv]
    cases v
    case retAddr x => exact absurd rfl (hne x)
    all_goals (simp only; rw [← hq])
def mj_LV (G : mj_G) (am nL : Nat) (ls : Array Slot) (l : List Value) : Prop := l.length ≤ nL ∧ lv_has ls nL (mj_lvl G am l)
theorem mj_LV.at {G : mj_G} {am nL : Nat} {ls : Array Slot} {l : List Value} (h : mj_LV G am nL ls l) {i : Nat} {v : Value} (hv : l[i]? = some v) (hne : ∀ x, v ≠ .retAddr x) : ls[i]? = some (.val (mj_cv G am v)) :=
  h.2.2.2 (i, mj_cv G am v) (mj_lvl_mem.mpr ⟨v, hv, hne, rfl⟩)
theorem mj_cv_cat (G : mj_G) (am : Nat) (v : Value) : (mj_cv G am v).category = v.category := by cases v <;> rfl
def mj_junk : Value := .retAddr 0
def mj_kill (l : List Value) (i : Nat) : List Value := match i with
  | 0 => l
  | j + 1 => match l[j]? with
    | some (.long _) => l.set j mj_junk
    | some (.double _) => l.set j mj_junk
    | _ => l
theorem mj_kill_len (l : List Value) (i : Nat) : (mj_kill l i).length = l.length := by
  unfold mj_kill
  split
  · rfl
  · split <;> simp
theorem mj_kill_get {l : List Value} {i j : Nat} {v : Value} (h : (mj_kill l i)[j]? = some v) (hne : ∀ x, v ≠ .retAddr x) : l[j]? = some v ∧ (j + 1 = i → v.category ≠ 2) := by
  unfold mj_kill at h
  split at h
  · exact ⟨h, fun q => by omega⟩
  · rename_i k
    split at h
    · rw [List.getElem?_set] at h
      split at h
      · split at h
        · cases h; exact absurd rfl (hne 0)
        · cases h
      · exact ⟨h, fun q => by omega⟩
    · rw [List.getElem?_set] at h
      split at h
      · split at h
        · cases h; exact absurd rfl (hne 0)
        · cases h
      · exact ⟨h, fun q => by omega⟩
    · rename_i h1 h2
      refine ⟨h, fun q => ?_⟩
      have e : j = k := by omega
      subst e
      cases v
      case long x => exact absurd h (h1 x)
      case double x => exact absurd h (h2 x)
      all_goals (intro hcat; cases hcat)
def mj_lset (l : List Value) (i : Nat) (v : Value) : List Value := (mj_kill l i).set i v
def mj_lset2 (l : List Value) (i : Nat) (v : Value) : List Value := ((mj_kill l i).set (i + 1) mj_junk).set i v
theorem mj_lset_mem {G : mj_G} {am i : Nat} {l : List Value} {v : Value} : ∀ q ∈ mj_lvl G am (mj_lset l i v), q ∈ (i, mj_cv G am v) :: (mj_lvl G am l).filter (fun q => !(q.1 == i) && !(q.1 + 1 == i && q.2.category == 2)) := by
  intro q hq
  obtain ⟨w, hw, hne, he⟩ := mj_lvl_mem.mp hq
  unfold mj_lset at hw
  rw [List.getElem?_set] at hw
  split at hw
  · rename_i hi
    split at hw
    · cases hw
      refine List.mem_cons.mpr (Or.inl ?_)
      exact Prod.ext hi.symm he
    · cases hw
  · rename_i hi
    obtain ⟨h1, h2⟩ := mj_kill_get hw hne
    refine List.mem_cons.mpr (Or.inr (List.mem_filter.mpr ⟨mj_lvl_mem.mpr ⟨w, h1, hne, he⟩, ?_⟩))
    simp only [Bool.and_eq_true, Bool.not_eq_true', beq_eq_false_iff_ne, ne_eq, Bool.and_eq_false_iff]
    refine ⟨fun z => hi z.symm, ?_⟩
    by_cases hc : q.1 + 1 = i
    · right
      rw [he, mj_cv_cat]
      exact h2 hc
    · left
      exact hc
theorem mj_lset2_mem {G : mj_G} {am i : Nat} {l : List Value} {v : Value} : ∀ q ∈ mj_lvl G am (mj_lset2 l i v), q ∈ (i, mj_cv G am v) :: (mj_lvl G am l).filter (fun q => !(q.1 == i) && (!(q.1 == i + 1) && !(q.1 + 1 == i && q.2.category == 2))) := by
  intro q hq
  obtain ⟨w, hw, hne, he⟩ := mj_lvl_mem.mp hq
  unfold mj_lset2 at hw
  rw [List.getElem?_set] at hw
  split at hw
  · rename_i hi
    split at hw
    · cases hw
      refine List.mem_cons.mpr (Or.inl ?_)
      exact Prod.ext hi.symm he
    · cases hw
  · rename_i hi
    rw [List.getElem?_set] at hw
    split at hw
    · split at hw
      · cases hw; exact absurd rfl (hne 0)
      · cases hw
    · rename_i hi2
      obtain ⟨h1, h2⟩ := mj_kill_get hw hne
      refine List.mem_cons.mpr (Or.inr (List.mem_filter.mpr ⟨mj_lvl_mem.mpr ⟨w, h1, hne, he⟩, ?_⟩))
      simp only [Bool.and_eq_true, Bool.not_eq_true', beq_eq_false_iff_ne, ne_eq, Bool.and_eq_false_iff]
      refine ⟨fun z => hi z.symm, fun z => hi2 z.symm, ?_⟩
      by_cases hc : q.1 + 1 = i
      · right
        rw [he, mj_cv_cat]
        exact h2 hc
      · left
        exact hc
theorem mj_LV.of {G : mj_G} {am nL i : Nat} {ls' : Array Slot} {l : List Value} {v : Value} {lv' : List (Nat × Value)} (hl : l.length ≤ nL) (h : lv_has ls' nL lv') (hm : ∀ q ∈ mj_lvl G am (mj_lset l i v), q ∈ lv') : mj_LV G am nL ls' (mj_lset l i v) :=
  ⟨by simp [mj_lset, mj_kill_len, hl], h.1, h.2.1, fun q hq => h.2.2 q (hm q hq)⟩
theorem mj_LV.of2 {G : mj_G} {am nL i : Nat} {ls' : Array Slot} {l : List Value} {v : Value} {lv' : List (Nat × Value)} (hl : l.length ≤ nL) (h : lv_has ls' nL lv') (hm : ∀ q ∈ mj_lvl G am (mj_lset2 l i v), q ∈ lv') : mj_LV G am nL ls' (mj_lset2 l i v) :=
  ⟨by simp [mj_lset2, mj_kill_len, hl], h.1, h.2.1, fun q hq => h.2.2 q (hm q hq)⟩
